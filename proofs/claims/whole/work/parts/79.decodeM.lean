theorem d_M_init_0 : decode c_M_init 0 = .ok (.aload_n 0, 1) := by decide +kernel
theorem d_M_init_1 : decode c_M_init 1 = .ok (.invokespecial 1, 3) := by decide +kernel
theorem d_M_init_4 : decode c_M_init 4 = .ok (.aload_n 0, 1) := by decide +kernel
theorem d_M_init_5 : decode c_M_init 5 = .ok (.bipush 32, 2) := by decide +kernel
theorem d_M_init_7 : decode c_M_init 7 = .ok (.newarray .int, 2) := by decide +kernel
theorem d_M_init_9 : decode c_M_init 9 = .ok (.putfield 7, 3) := by decide +kernel
theorem d_M_init_12 : decode c_M_init 12 = .ok (.aload_n 0, 1) := by decide +kernel
theorem d_M_init_13 : decode c_M_init 13 = .ok (.iconst (-1), 1) := by decide +kernel
theorem d_M_init_14 : decode c_M_init 14 = .ok (.putfield 13, 3) := by decide +kernel
theorem d_M_init_17 : decode c_M_init 17 = .ok (.aload_n 0, 1) := by decide +kernel
theorem d_M_init_18 : decode c_M_init 18 = .ok (.bipush 41, 2) := by decide +kernel
theorem d_M_init_20 : decode c_M_init 20 = .ok (.newarray .int, 2) := by decide +kernel
theorem d_M_init_22 : decode c_M_init 22 = .ok (.putfield 17, 3) := by decide +kernel
theorem d_M_init_25 : decode c_M_init 25 = .ok (.aload_n 0, 1) := by decide +kernel
theorem d_M_init_26 : decode c_M_init 26 = .ok (.iconst 3, 1) := by decide +kernel
theorem d_M_init_27 : decode c_M_init 27 = .ok (.newarray .int, 2) := by decide +kernel
theorem d_M_init_29 : decode c_M_init 29 = .ok (.putfield 20, 3) := by decide +kernel
theorem d_M_init_32 : decode c_M_init 32 = .ok (.aload_n 0, 1) := by decide +kernel
theorem d_M_init_33 : decode c_M_init 33 = .ok (.sipush 1014, 3) := by decide +kernel
theorem d_M_init_36 : decode c_M_init 36 = .ok (.newarray .int, 2) := by decide +kernel
theorem d_M_init_38 : decode c_M_init 38 = .ok (.putfield 23, 3) := by decide +kernel
theorem d_M_init_41 : decode c_M_init 41 = .ok (.aload_n 0, 1) := by decide +kernel
theorem d_M_init_42 : decode c_M_init 42 = .ok (.sipush 1014, 3) := by decide +kernel
theorem d_M_init_45 : decode c_M_init 45 = .ok (.newarray .int, 2) := by decide +kernel
theorem d_M_init_47 : decode c_M_init 47 = .ok (.putfield 26, 3) := by decide +kernel
theorem d_M_init_50 : decode c_M_init 50 = .ok (.aload_n 0, 1) := by decide +kernel
theorem d_M_init_51 : decode c_M_init 51 = .ok (.bipush 40, 2) := by decide +kernel
theorem d_M_init_53 : decode c_M_init 53 = .ok (.newarray .int, 2) := by decide +kernel
theorem d_M_init_55 : decode c_M_init 55 = .ok (.putfield 29, 3) := by decide +kernel
theorem d_M_init_58 : decode c_M_init 58 = .ok (.aload_n 0, 1) := by decide +kernel
theorem d_M_init_59 : decode c_M_init 59 = .ok (.bipush 40, 2) := by decide +kernel
theorem d_M_init_61 : decode c_M_init 61 = .ok (.newarray .int, 2) := by decide +kernel
theorem d_M_init_63 : decode c_M_init 63 = .ok (.putfield 32, 3) := by decide +kernel
theorem d_M_init_66 : decode c_M_init 66 = .ok (.aload_n 0, 1) := by decide +kernel
theorem d_M_init_67 : decode c_M_init 67 = .ok (.sipush 962, 3) := by decide +kernel
theorem d_M_init_70 : decode c_M_init 70 = .ok (.newarray .int, 2) := by decide +kernel
theorem d_M_init_72 : decode c_M_init 72 = .ok (.putfield 35, 3) := by decide +kernel
theorem d_M_init_75 : decode c_M_init 75 = .ok (.aload_n 0, 1) := by decide +kernel
theorem d_M_init_76 : decode c_M_init 76 = .ok (.bipush 26, 2) := by decide +kernel
theorem d_M_init_78 : decode c_M_init 78 = .ok (.newarray .int, 2) := by decide +kernel
theorem d_M_init_80 : decode c_M_init 80 = .ok (.putfield 38, 3) := by decide +kernel
theorem d_M_init_83 : decode c_M_init 83 = .ok (.aload_n 0, 1) := by decide +kernel
theorem d_M_init_84 : decode c_M_init 84 = .ok (.bipush 10, 2) := by decide +kernel
theorem d_M_init_86 : decode c_M_init 86 = .ok (.newarray .int, 2) := by decide +kernel
theorem d_M_init_88 : decode c_M_init 88 = .ok (.putfield 41, 3) := by decide +kernel
theorem d_M_init_91 : decode c_M_init 91 = .ok (.aload_n 0, 1) := by decide +kernel
theorem d_M_init_92 : decode c_M_init 92 = .ok (.bipush 10, 2) := by decide +kernel
theorem d_M_init_94 : decode c_M_init 94 = .ok (.newarray .boolean, 2) := by decide +kernel
theorem d_M_init_96 : decode c_M_init 96 = .ok (.putfield 44, 3) := by decide +kernel
theorem d_M_init_99 : decode c_M_init 99 = .ok (.aload_n 0, 1) := by decide +kernel
theorem d_M_init_100 : decode c_M_init 100 = .ok (.bipush 10, 2) := by decide +kernel
theorem d_M_init_102 : decode c_M_init 102 = .ok (.newarray .boolean, 2) := by decide +kernel
theorem d_M_init_104 : decode c_M_init 104 = .ok (.putfield 48, 3) := by decide +kernel
theorem d_M_init_107 : decode c_M_init 107 = .ok (.aload_n 0, 1) := by decide +kernel
theorem d_M_init_108 : decode c_M_init 108 = .ok (.bipush 10, 2) := by decide +kernel
theorem d_M_init_110 : decode c_M_init 110 = .ok (.newarray .int, 2) := by decide +kernel
theorem d_M_init_112 : decode c_M_init 112 = .ok (.putfield 51, 3) := by decide +kernel
theorem d_M_init_115 : decode c_M_init 115 = .ok (.aload_n 0, 1) := by decide +kernel
theorem d_M_init_116 : decode c_M_init 116 = .ok (.bipush 10, 2) := by decide +kernel
theorem d_M_init_118 : decode c_M_init 118 = .ok (.newarray .boolean, 2) := by decide +kernel
theorem d_M_init_120 : decode c_M_init 120 = .ok (.putfield 54, 3) := by decide +kernel
theorem d_M_init_123 : decode c_M_init 123 = .ok (.return_, 1) := by decide +kernel
theorem d_M_type_0 : decode c_M_type 0 = .ok (.aload_n 0, 1) := by decide +kernel
theorem d_M_type_1 : decode c_M_type 1 = .ok (.iload_n 1, 1) := by decide +kernel
theorem d_M_type_2 : decode c_M_type 2 = .ok (.invokevirtual 64, 3) := by decide +kernel
theorem d_M_type_5 : decode c_M_type 5 = .ok (.ifCond .ne 5, 3) := by decide +kernel
theorem d_M_type_8 : decode c_M_type 8 = .ok (.iconst (-1), 1) := by decide +kernel
theorem d_M_type_9 : decode c_M_type 9 = .ok (.ireturn, 1) := by decide +kernel
theorem d_M_type_10 : decode c_M_type 10 = .ok (.aload_n 0, 1) := by decide +kernel
theorem d_M_type_11 : decode c_M_type 11 = .ok (.getfield 67, 3) := by decide +kernel
theorem d_M_type_14 : decode c_M_type 14 = .ok (.bipush 32, 2) := by decide +kernel
theorem d_M_type_16 : decode c_M_type 16 = .ok (.if_icmp .ne 6, 3) := by decide +kernel
theorem d_M_type_19 : decode c_M_type 19 = .ok (.bipush (-2), 2) := by decide +kernel
theorem d_M_type_21 : decode c_M_type 21 = .ok (.ireturn, 1) := by decide +kernel
theorem d_M_type_22 : decode c_M_type 22 = .ok (.aload_n 0, 1) := by decide +kernel
theorem d_M_type_23 : decode c_M_type 23 = .ok (.getfield 7, 3) := by decide +kernel
theorem d_M_type_26 : decode c_M_type 26 = .ok (.aload_n 0, 1) := by decide +kernel
theorem d_M_type_27 : decode c_M_type 27 = .ok (.getfield 67, 3) := by decide +kernel
theorem d_M_type_30 : decode c_M_type 30 = .ok (.iload_n 1, 1) := by decide +kernel
theorem d_M_type_31 : decode c_M_type 31 = .ok (.iastore, 1) := by decide +kernel
theorem d_M_type_32 : decode c_M_type 32 = .ok (.aload_n 0, 1) := by decide +kernel
theorem d_M_type_33 : decode c_M_type 33 = .ok (.dup, 1) := by decide +kernel
theorem d_M_type_34 : decode c_M_type 34 = .ok (.getfield 67, 3) := by decide +kernel
theorem d_M_type_37 : decode c_M_type 37 = .ok (.iconst 1, 1) := by decide +kernel
theorem d_M_type_38 : decode c_M_type 38 = .ok (.iadd, 1) := by decide +kernel
theorem d_M_type_39 : decode c_M_type 39 = .ok (.putfield 67, 3) := by decide +kernel
theorem d_M_type_42 : decode c_M_type 42 = .ok (.aload_n 0, 1) := by decide +kernel
theorem d_M_type_43 : decode c_M_type 43 = .ok (.getfield 67, 3) := by decide +kernel
theorem d_M_type_46 : decode c_M_type 46 = .ok (.ireturn, 1) := by decide +kernel
theorem d_M_known_0 : decode c_M_known 0 = .ok (.aload_n 0, 1) := by decide +kernel
theorem d_M_known_1 : decode c_M_known 1 = .ok (.iload_n 1, 1) := by decide +kernel
theorem d_M_known_2 : decode c_M_known 2 = .ok (.invokevirtual 57, 3) := by decide +kernel
theorem d_M_known_5 : decode c_M_known 5 = .ok (.ifCond .ne 65, 3) := by decide +kernel
theorem d_M_known_8 : decode c_M_known 8 = .ok (.aload_n 0, 1) := by decide +kernel
theorem d_M_known_9 : decode c_M_known 9 = .ok (.iload_n 1, 1) := by decide +kernel
theorem d_M_known_10 : decode c_M_known 10 = .ok (.invokevirtual 61, 3) := by decide +kernel
theorem d_M_known_13 : decode c_M_known 13 = .ok (.ifCond .ne 57, 3) := by decide +kernel
theorem d_M_known_16 : decode c_M_known 16 = .ok (.iload_n 1, 1) := by decide +kernel
theorem d_M_known_17 : decode c_M_known 17 = .ok (.bipush 120, 2) := by decide +kernel
theorem d_M_known_19 : decode c_M_known 19 = .ok (.if_icmp .eq 51, 3) := by decide +kernel
theorem d_M_known_22 : decode c_M_known 22 = .ok (.iload_n 1, 1) := by decide +kernel
theorem d_M_known_23 : decode c_M_known 23 = .ok (.bipush 100, 2) := by decide +kernel
theorem d_M_known_25 : decode c_M_known 25 = .ok (.if_icmp .eq 45, 3) := by decide +kernel
theorem d_M_known_28 : decode c_M_known 28 = .ok (.iload_n 1, 1) := by decide +kernel
theorem d_M_known_29 : decode c_M_known 29 = .ok (.bipush 115, 2) := by decide +kernel
theorem d_M_known_31 : decode c_M_known 31 = .ok (.if_icmp .eq 39, 3) := by decide +kernel
theorem d_M_known_34 : decode c_M_known 34 = .ok (.iload_n 1, 1) := by decide +kernel
theorem d_M_known_35 : decode c_M_known 35 = .ok (.bipush 37, 2) := by decide +kernel
theorem d_M_known_37 : decode c_M_known 37 = .ok (.if_icmp .eq 33, 3) := by decide +kernel
theorem d_M_known_40 : decode c_M_known 40 = .ok (.iload_n 1, 1) := by decide +kernel
theorem d_M_known_41 : decode c_M_known 41 = .ok (.bipush 94, 2) := by decide +kernel
theorem d_M_known_43 : decode c_M_known 43 = .ok (.if_icmp .eq 27, 3) := by decide +kernel
theorem d_M_known_46 : decode c_M_known 46 = .ok (.iload_n 1, 1) := by decide +kernel
theorem d_M_known_47 : decode c_M_known 47 = .ok (.bipush 58, 2) := by decide +kernel
theorem d_M_known_49 : decode c_M_known 49 = .ok (.if_icmp .eq 21, 3) := by decide +kernel
theorem d_M_known_52 : decode c_M_known 52 = .ok (.iload_n 1, 1) := by decide +kernel
theorem d_M_known_53 : decode c_M_known 53 = .ok (.bipush 40, 2) := by decide +kernel
theorem d_M_known_55 : decode c_M_known 55 = .ok (.if_icmp .lt 9, 3) := by decide +kernel
theorem d_M_known_58 : decode c_M_known 58 = .ok (.iload_n 1, 1) := by decide +kernel
theorem d_M_known_59 : decode c_M_known 59 = .ok (.bipush 45, 2) := by decide +kernel
theorem d_M_known_61 : decode c_M_known 61 = .ok (.if_icmp .le 9, 3) := by decide +kernel
theorem d_M_known_64 : decode c_M_known 64 = .ok (.iload_n 1, 1) := by decide +kernel
theorem d_M_known_65 : decode c_M_known 65 = .ok (.bipush 47, 2) := by decide +kernel
theorem d_M_known_67 : decode c_M_known 67 = .ok (.if_icmp .ne 7, 3) := by decide +kernel
theorem d_M_known_70 : decode c_M_known 70 = .ok (.iconst 1, 1) := by decide +kernel
theorem d_M_known_71 : decode c_M_known 71 = .ok (.goto 4, 3) := by decide +kernel
theorem d_M_known_74 : decode c_M_known 74 = .ok (.iconst 0, 1) := by decide +kernel
theorem d_M_known_75 : decode c_M_known 75 = .ok (.ireturn, 1) := by decide +kernel
theorem d_M_digit_0 : decode c_M_digit 0 = .ok (.iload_n 1, 1) := by decide +kernel
theorem d_M_digit_1 : decode c_M_digit 1 = .ok (.bipush 48, 2) := by decide +kernel
theorem d_M_digit_3 : decode c_M_digit 3 = .ok (.if_icmp .lt 13, 3) := by decide +kernel
theorem d_M_digit_6 : decode c_M_digit 6 = .ok (.iload_n 1, 1) := by decide +kernel
theorem d_M_digit_7 : decode c_M_digit 7 = .ok (.bipush 57, 2) := by decide +kernel
theorem d_M_digit_9 : decode c_M_digit 9 = .ok (.if_icmp .gt 7, 3) := by decide +kernel
theorem d_M_digit_12 : decode c_M_digit 12 = .ok (.iconst 1, 1) := by decide +kernel
theorem d_M_digit_13 : decode c_M_digit 13 = .ok (.goto 4, 3) := by decide +kernel
theorem d_M_digit_16 : decode c_M_digit 16 = .ok (.iconst 0, 1) := by decide +kernel
theorem d_M_digit_17 : decode c_M_digit 17 = .ok (.ireturn, 1) := by decide +kernel
theorem d_M_name_0 : decode c_M_name 0 = .ok (.iload_n 1, 1) := by decide +kernel
theorem d_M_name_1 : decode c_M_name 1 = .ok (.bipush 97, 2) := by decide +kernel
theorem d_M_name_3 : decode c_M_name 3 = .ok (.if_icmp .lt 13, 3) := by decide +kernel
theorem d_M_name_6 : decode c_M_name 6 = .ok (.iload_n 1, 1) := by decide +kernel
theorem d_M_name_7 : decode c_M_name 7 = .ok (.bipush 99, 2) := by decide +kernel
theorem d_M_name_9 : decode c_M_name 9 = .ok (.if_icmp .gt 7, 3) := by decide +kernel
theorem d_M_name_12 : decode c_M_name 12 = .ok (.iconst 1, 1) := by decide +kernel
theorem d_M_name_13 : decode c_M_name 13 = .ok (.goto 4, 3) := by decide +kernel
theorem d_M_name_16 : decode c_M_name 16 = .ok (.iconst 0, 1) := by decide +kernel
theorem d_M_name_17 : decode c_M_name 17 = .ok (.ireturn, 1) := by decide +kernel
theorem d_M_types_0 : decode c_M_types 0 = .ok (.bipush 56, 2) := by decide +kernel
theorem d_M_types_2 : decode c_M_types 2 = .ok (.istore_n 3, 1) := by decide +kernel
theorem d_M_types_3 : decode c_M_types 3 = .ok (.iload_n 3, 1) := by decide +kernel
theorem d_M_types_4 : decode c_M_types 4 = .ok (.ifCond .lt 44, 3) := by decide +kernel
theorem d_M_types_7 : decode c_M_types 7 = .ok (.lload_n 1, 1) := by decide +kernel
theorem d_M_types_8 : decode c_M_types 8 = .ok (.iload_n 3, 1) := by decide +kernel
theorem d_M_types_9 : decode c_M_types 9 = .ok (.lushr, 1) := by decide +kernel
theorem d_M_types_10 : decode c_M_types 10 = .ok (.l2i, 1) := by decide +kernel
theorem d_M_types_11 : decode c_M_types 11 = .ok (.sipush 255, 3) := by decide +kernel
theorem d_M_types_14 : decode c_M_types 14 = .ok (.iand, 1) := by decide +kernel
theorem d_M_types_15 : decode c_M_types 15 = .ok (.istore 4, 2) := by decide +kernel
theorem d_M_types_17 : decode c_M_types 17 = .ok (.iload 4, 2) := by decide +kernel
theorem d_M_types_19 : decode c_M_types 19 = .ok (.ifCond .ne 7, 3) := by decide +kernel
theorem d_M_types_22 : decode c_M_types 22 = .ok (.iconst 0, 1) := by decide +kernel
theorem d_M_types_23 : decode c_M_types 23 = .ok (.goto 9, 3) := by decide +kernel
theorem d_M_types_26 : decode c_M_types 26 = .ok (.aload_n 0, 1) := by decide +kernel
theorem d_M_types_27 : decode c_M_types 27 = .ok (.iload 4, 2) := by decide +kernel
theorem d_M_types_29 : decode c_M_types 29 = .ok (.invokevirtual 70, 3) := by decide +kernel
theorem d_M_types_32 : decode c_M_types 32 = .ok (.istore 5, 2) := by decide +kernel
theorem d_M_types_34 : decode c_M_types 34 = .ok (.iload 5, 2) := by decide +kernel
theorem d_M_types_36 : decode c_M_types 36 = .ok (.ifCond .ge 6, 3) := by decide +kernel
theorem d_M_types_39 : decode c_M_types 39 = .ok (.iload 5, 2) := by decide +kernel
theorem d_M_types_41 : decode c_M_types 41 = .ok (.ireturn, 1) := by decide +kernel
theorem d_M_types_42 : decode c_M_types 42 = .ok (.iinc 3 (-8), 3) := by decide +kernel
theorem d_M_types_45 : decode c_M_types 45 = .ok (.goto (-42), 3) := by decide +kernel
theorem d_M_types_48 : decode c_M_types 48 = .ok (.aload_n 0, 1) := by decide +kernel
theorem d_M_types_49 : decode c_M_types 49 = .ok (.getfield 67, 3) := by decide +kernel
theorem d_M_types_52 : decode c_M_types 52 = .ok (.ireturn, 1) := by decide +kernel
theorem d_M_back_0 : decode c_M_back 0 = .ok (.aload_n 0, 1) := by decide +kernel
theorem d_M_back_1 : decode c_M_back 1 = .ok (.getfield 67, 3) := by decide +kernel
theorem d_M_back_4 : decode c_M_back 4 = .ok (.ifCond .ne 5, 3) := by decide +kernel
theorem d_M_back_7 : decode c_M_back 7 = .ok (.iconst (-1), 1) := by decide +kernel
theorem d_M_back_8 : decode c_M_back 8 = .ok (.ireturn, 1) := by decide +kernel
theorem d_M_back_9 : decode c_M_back 9 = .ok (.aload_n 0, 1) := by decide +kernel
theorem d_M_back_10 : decode c_M_back 10 = .ok (.dup, 1) := by decide +kernel
theorem d_M_back_11 : decode c_M_back 11 = .ok (.getfield 67, 3) := by decide +kernel
theorem d_M_back_14 : decode c_M_back 14 = .ok (.iconst 1, 1) := by decide +kernel
theorem d_M_back_15 : decode c_M_back 15 = .ok (.isub, 1) := by decide +kernel
theorem d_M_back_16 : decode c_M_back 16 = .ok (.putfield 67, 3) := by decide +kernel
theorem d_M_back_19 : decode c_M_back 19 = .ok (.aload_n 0, 1) := by decide +kernel
theorem d_M_back_20 : decode c_M_back 20 = .ok (.getfield 67, 3) := by decide +kernel
theorem d_M_back_23 : decode c_M_back 23 = .ok (.ireturn, 1) := by decide +kernel
theorem d_M_enter_0 : decode c_M_enter 0 = .ok (.bipush (-2), 2) := by decide +kernel
theorem d_M_enter_2 : decode c_M_enter 2 = .ok (.istore_n 1, 1) := by decide +kernel
theorem d_M_enter_3 : decode c_M_enter 3 = .ok (.aload_n 0, 1) := by decide +kernel
theorem d_M_enter_4 : decode c_M_enter 4 = .ok (.getfield 167, 3) := by decide +kernel
theorem d_M_enter_7 : decode c_M_enter 7 = .ok (.bipush 40, 2) := by decide +kernel
theorem d_M_enter_9 : decode c_M_enter 9 = .ok (.if_icmp .ge 8, 3) := by decide +kernel
theorem d_M_enter_12 : decode c_M_enter 12 = .ok (.aload_n 0, 1) := by decide +kernel
theorem d_M_enter_13 : decode c_M_enter 13 = .ok (.invokevirtual 189, 3) := by decide +kernel
theorem d_M_enter_16 : decode c_M_enter 16 = .ok (.istore_n 1, 1) := by decide +kernel
theorem d_M_enter_17 : decode c_M_enter 17 = .ok (.aload_n 0, 1) := by decide +kernel
theorem d_M_enter_18 : decode c_M_enter 18 = .ok (.iconst 0, 1) := by decide +kernel
theorem d_M_enter_19 : decode c_M_enter 19 = .ok (.putfield 67, 3) := by decide +kernel
theorem d_M_enter_22 : decode c_M_enter 22 = .ok (.iload_n 1, 1) := by decide +kernel
theorem d_M_enter_23 : decode c_M_enter 23 = .ok (.ireturn, 1) := by decide +kernel
theorem d_M_work_0 : decode c_M_work 0 = .ok (.aload_n 0, 1) := by decide +kernel
theorem d_M_work_1 : decode c_M_work 1 = .ok (.invokevirtual 192, 3) := by decide +kernel
theorem d_M_work_4 : decode c_M_work 4 = .ok (.istore_n 1, 1) := by decide +kernel
theorem d_M_work_5 : decode c_M_work 5 = .ok (.iload_n 1, 1) := by decide +kernel
theorem d_M_work_6 : decode c_M_work 6 = .ok (.ifCond .lt 11, 3) := by decide +kernel
theorem d_M_work_9 : decode c_M_work 9 = .ok (.aload_n 0, 1) := by decide +kernel
theorem d_M_work_10 : decode c_M_work 10 = .ok (.iload_n 1, 1) := by decide +kernel
theorem d_M_work_11 : decode c_M_work 11 = .ok (.putfield 13, 3) := by decide +kernel
theorem d_M_work_14 : decode c_M_work 14 = .ok (.bipush (-3), 2) := by decide +kernel
theorem d_M_work_16 : decode c_M_work 16 = .ok (.ireturn, 1) := by decide +kernel
theorem d_M_work_17 : decode c_M_work 17 = .ok (.aload_n 0, 1) := by decide +kernel
theorem d_M_work_18 : decode c_M_work 18 = .ok (.iconst 0, 1) := by decide +kernel
theorem d_M_work_19 : decode c_M_work 19 = .ok (.putfield 119, 3) := by decide +kernel
theorem d_M_work_22 : decode c_M_work 22 = .ok (.aload_n 0, 1) := by decide +kernel
theorem d_M_work_23 : decode c_M_work 23 = .ok (.iconst 0, 1) := by decide +kernel
theorem d_M_work_24 : decode c_M_work 24 = .ok (.putfield 85, 3) := by decide +kernel
theorem d_M_work_27 : decode c_M_work 27 = .ok (.aload_n 0, 1) := by decide +kernel
theorem d_M_work_28 : decode c_M_work 28 = .ok (.iconst 1, 1) := by decide +kernel
theorem d_M_work_29 : decode c_M_work 29 = .ok (.invokevirtual 177, 3) := by decide +kernel
theorem d_M_work_32 : decode c_M_work 32 = .ok (.aload_n 0, 1) := by decide +kernel
theorem d_M_work_33 : decode c_M_work 33 = .ok (.getfield 67, 3) := by decide +kernel
theorem d_M_work_36 : decode c_M_work 36 = .ok (.iconst 1, 1) := by decide +kernel
theorem d_M_work_37 : decode c_M_work 37 = .ok (.if_icmp .le 18, 3) := by decide +kernel
theorem d_M_work_40 : decode c_M_work 40 = .ok (.aload_n 0, 1) := by decide +kernel
theorem d_M_work_41 : decode c_M_work 41 = .ok (.getfield 7, 3) := by decide +kernel
theorem d_M_work_44 : decode c_M_work 44 = .ok (.iconst 1, 1) := by decide +kernel
theorem d_M_work_45 : decode c_M_work 45 = .ok (.iaload, 1) := by decide +kernel
theorem d_M_work_46 : decode c_M_work 46 = .ok (.bipush 58, 2) := by decide +kernel
theorem d_M_work_48 : decode c_M_work 48 = .ok (.if_icmp .ne 7, 3) := by decide +kernel
theorem d_M_work_51 : decode c_M_work 51 = .ok (.iconst 1, 1) := by decide +kernel
theorem d_M_work_52 : decode c_M_work 52 = .ok (.goto 4, 3) := by decide +kernel
theorem d_M_work_55 : decode c_M_work 55 = .ok (.iconst 0, 1) := by decide +kernel
theorem d_M_work_56 : decode c_M_work 56 = .ok (.istore_n 2, 1) := by decide +kernel
theorem d_M_work_57 : decode c_M_work 57 = .ok (.iload_n 2, 1) := by decide +kernel
theorem d_M_work_58 : decode c_M_work 58 = .ok (.ifCond .eq 7, 3) := by decide +kernel
theorem d_M_work_61 : decode c_M_work 61 = .ok (.iconst 2, 1) := by decide +kernel
theorem d_M_work_62 : decode c_M_work 62 = .ok (.goto 4, 3) := by decide +kernel
theorem d_M_work_65 : decode c_M_work 65 = .ok (.iconst 0, 1) := by decide +kernel
theorem d_M_work_66 : decode c_M_work 66 = .ok (.istore_n 3, 1) := by decide +kernel
theorem d_M_work_67 : decode c_M_work 67 = .ok (.iconst 0, 1) := by decide +kernel
theorem d_M_work_68 : decode c_M_work 68 = .ok (.istore 4, 2) := by decide +kernel
theorem d_M_work_70 : decode c_M_work 70 = .ok (.iload 4, 2) := by decide +kernel
theorem d_M_work_72 : decode c_M_work 72 = .ok (.bipush 33, 2) := by decide +kernel
theorem d_M_work_74 : decode c_M_work 74 = .ok (.if_icmp .ge 30, 3) := by decide +kernel
theorem d_M_work_77 : decode c_M_work 77 = .ok (.iload_n 3, 1) := by decide +kernel
theorem d_M_work_78 : decode c_M_work 78 = .ok (.aload_n 0, 1) := by decide +kernel
theorem d_M_work_79 : decode c_M_work 79 = .ok (.getfield 67, 3) := by decide +kernel
theorem d_M_work_82 : decode c_M_work 82 = .ok (.if_icmp .ge 22, 3) := by decide +kernel
theorem d_M_work_85 : decode c_M_work 85 = .ok (.aload_n 0, 1) := by decide +kernel
theorem d_M_work_86 : decode c_M_work 86 = .ok (.getfield 119, 3) := by decide +kernel
theorem d_M_work_89 : decode c_M_work 89 = .ok (.ifCond .ne 15, 3) := by decide +kernel
theorem d_M_work_92 : decode c_M_work 92 = .ok (.aload_n 0, 1) := by decide +kernel
theorem d_M_work_93 : decode c_M_work 93 = .ok (.iload_n 3, 1) := by decide +kernel
theorem d_M_work_94 : decode c_M_work 94 = .ok (.invokevirtual 195, 3) := by decide +kernel
theorem d_M_work_97 : decode c_M_work 97 = .ok (.istore_n 3, 1) := by decide +kernel
theorem d_M_work_98 : decode c_M_work 98 = .ok (.iinc 4 1, 3) := by decide +kernel
theorem d_M_work_101 : decode c_M_work 101 = .ok (.goto (-31), 3) := by decide +kernel
theorem d_M_work_104 : decode c_M_work 104 = .ok (.aload_n 0, 1) := by decide +kernel
theorem d_M_work_105 : decode c_M_work 105 = .ok (.invokevirtual 152, 3) := by decide +kernel
theorem d_M_work_108 : decode c_M_work 108 = .ok (.aload_n 0, 1) := by decide +kernel
theorem d_M_work_109 : decode c_M_work 109 = .ok (.getfield 119, 3) := by decide +kernel
theorem d_M_work_112 : decode c_M_work 112 = .ok (.ifCond .eq 8, 3) := by decide +kernel
theorem d_M_work_115 : decode c_M_work 115 = .ok (.aload_n 0, 1) := by decide +kernel
theorem d_M_work_116 : decode c_M_work 116 = .ok (.getfield 119, 3) := by decide +kernel
theorem d_M_work_119 : decode c_M_work 119 = .ok (.ireturn, 1) := by decide +kernel
theorem d_M_work_120 : decode c_M_work 120 = .ok (.aload_n 0, 1) := by decide +kernel
theorem d_M_work_121 : decode c_M_work 121 = .ok (.invokevirtual 198, 3) := by decide +kernel
theorem d_M_work_124 : decode c_M_work 124 = .ok (.iconst 1, 1) := by decide +kernel
theorem d_M_work_125 : decode c_M_work 125 = .ok (.iadd, 1) := by decide +kernel
theorem d_M_work_126 : decode c_M_work 126 = .ok (.istore 4, 2) := by decide +kernel
theorem d_M_work_128 : decode c_M_work 128 = .ok (.aload_n 0, 1) := by decide +kernel
theorem d_M_work_129 : decode c_M_work 129 = .ok (.dup, 1) := by decide +kernel
theorem d_M_work_130 : decode c_M_work 130 = .ok (.getfield 167, 3) := by decide +kernel
theorem d_M_work_133 : decode c_M_work 133 = .ok (.iconst 1, 1) := by decide +kernel
theorem d_M_work_134 : decode c_M_work 134 = .ok (.iadd, 1) := by decide +kernel
theorem d_M_work_135 : decode c_M_work 135 = .ok (.putfield 167, 3) := by decide +kernel
theorem d_M_work_138 : decode c_M_work 138 = .ok (.aload_n 0, 1) := by decide +kernel
theorem d_M_work_139 : decode c_M_work 139 = .ok (.bipush 44, 2) := by decide +kernel
theorem d_M_work_141 : decode c_M_work 141 = .ok (.aload_n 0, 1) := by decide +kernel
theorem d_M_work_142 : decode c_M_work 142 = .ok (.getfield 167, 3) := by decide +kernel
theorem d_M_work_145 : decode c_M_work 145 = .ok (.invokevirtual 137, 3) := by decide +kernel
theorem d_M_work_148 : decode c_M_work 148 = .ok (.aload_n 0, 1) := by decide +kernel
theorem d_M_work_149 : decode c_M_work 149 = .ok (.getfield 17, 3) := by decide +kernel
theorem d_M_work_152 : decode c_M_work 152 = .ok (.aload_n 0, 1) := by decide +kernel
theorem d_M_work_153 : decode c_M_work 153 = .ok (.getfield 167, 3) := by decide +kernel
theorem d_M_work_156 : decode c_M_work 156 = .ok (.iload 4, 2) := by decide +kernel
theorem d_M_work_158 : decode c_M_work 158 = .ok (.iastore, 1) := by decide +kernel
theorem d_M_work_159 : decode c_M_work 159 = .ok (.aload_n 0, 1) := by decide +kernel
theorem d_M_work_160 : decode c_M_work 160 = .ok (.getfield 167, 3) := by decide +kernel
theorem d_M_work_163 : decode c_M_work 163 = .ok (.iconst 1, 1) := by decide +kernel
theorem d_M_work_164 : decode c_M_work 164 = .ok (.isub, 1) := by decide +kernel
theorem d_M_work_165 : decode c_M_work 165 = .ok (.istore 5, 2) := by decide +kernel
theorem d_M_work_167 : decode c_M_work 167 = .ok (.iload 5, 2) := by decide +kernel
theorem d_M_work_169 : decode c_M_work 169 = .ok (.iconst 1, 1) := by decide +kernel
theorem d_M_work_170 : decode c_M_work 170 = .ok (.if_icmp .lt 38, 3) := by decide +kernel
theorem d_M_work_173 : decode c_M_work 173 = .ok (.aload_n 0, 1) := by decide +kernel
theorem d_M_work_174 : decode c_M_work 174 = .ok (.iload 5, 2) := by decide +kernel
theorem d_M_work_176 : decode c_M_work 176 = .ok (.aload_n 0, 1) := by decide +kernel
theorem d_M_work_177 : decode c_M_work 177 = .ok (.getfield 167, 3) := by decide +kernel
theorem d_M_work_180 : decode c_M_work 180 = .ok (.invokevirtual 201, 3) := by decide +kernel
theorem d_M_work_183 : decode c_M_work 183 = .ok (.ifCond .eq 19, 3) := by decide +kernel
theorem d_M_work_186 : decode c_M_work 186 = .ok (.aload_n 0, 1) := by decide +kernel
theorem d_M_work_187 : decode c_M_work 187 = .ok (.getfield 17, 3) := by decide +kernel
theorem d_M_work_190 : decode c_M_work 190 = .ok (.aload_n 0, 1) := by decide +kernel
theorem d_M_work_191 : decode c_M_work 191 = .ok (.getfield 167, 3) := by decide +kernel
theorem d_M_work_194 : decode c_M_work 194 = .ok (.aload_n 0, 1) := by decide +kernel
theorem d_M_work_195 : decode c_M_work 195 = .ok (.getfield 17, 3) := by decide +kernel
theorem d_M_work_198 : decode c_M_work 198 = .ok (.iload 5, 2) := by decide +kernel
theorem d_M_work_200 : decode c_M_work 200 = .ok (.iaload, 1) := by decide +kernel
theorem d_M_work_201 : decode c_M_work 201 = .ok (.iastore, 1) := by decide +kernel
theorem d_M_work_202 : decode c_M_work 202 = .ok (.iinc 5 (-1), 3) := by decide +kernel
theorem d_M_work_205 : decode c_M_work 205 = .ok (.goto (-38), 3) := by decide +kernel
theorem d_M_work_208 : decode c_M_work 208 = .ok (.iload_n 2, 1) := by decide +kernel
theorem d_M_work_209 : decode c_M_work 209 = .ok (.ifCond .eq 21, 3) := by decide +kernel
theorem d_M_work_212 : decode c_M_work 212 = .ok (.aload_n 0, 1) := by decide +kernel
theorem d_M_work_213 : decode c_M_work 213 = .ok (.getfield 20, 3) := by decide +kernel
theorem d_M_work_216 : decode c_M_work 216 = .ok (.aload_n 0, 1) := by decide +kernel
theorem d_M_work_217 : decode c_M_work 217 = .ok (.getfield 7, 3) := by decide +kernel
theorem d_M_work_220 : decode c_M_work 220 = .ok (.iconst 0, 1) := by decide +kernel
theorem d_M_work_221 : decode c_M_work 221 = .ok (.iaload, 1) := by decide +kernel
theorem d_M_work_222 : decode c_M_work 222 = .ok (.bipush 97, 2) := by decide +kernel
theorem d_M_work_224 : decode c_M_work 224 = .ok (.isub, 1) := by decide +kernel
theorem d_M_work_225 : decode c_M_work 225 = .ok (.aload_n 0, 1) := by decide +kernel
theorem d_M_work_226 : decode c_M_work 226 = .ok (.getfield 167, 3) := by decide +kernel
theorem d_M_work_229 : decode c_M_work 229 = .ok (.iastore, 1) := by decide +kernel
theorem d_M_work_230 : decode c_M_work 230 = .ok (.aload_n 0, 1) := by decide +kernel
theorem d_M_work_231 : decode c_M_work 231 = .ok (.getfield 167, 3) := by decide +kernel
theorem d_M_work_234 : decode c_M_work 234 = .ok (.ireturn, 1) := by decide +kernel
theorem d_M_badPlaceOf_0 : decode c_M_badPlaceOf 0 = .ok (.bipush 26, 2) := by decide +kernel
theorem d_M_badPlaceOf_2 : decode c_M_badPlaceOf 2 = .ok (.istore_n 1, 1) := by decide +kernel
theorem d_M_badPlaceOf_3 : decode c_M_badPlaceOf 3 = .ok (.aload_n 0, 1) := by decide +kernel
theorem d_M_badPlaceOf_4 : decode c_M_badPlaceOf 4 = .ok (.iconst 0, 1) := by decide +kernel
theorem d_M_badPlaceOf_5 : decode c_M_badPlaceOf 5 = .ok (.putfield 85, 3) := by decide +kernel
theorem d_M_badPlaceOf_8 : decode c_M_badPlaceOf 8 = .ok (.iconst 0, 1) := by decide +kernel
theorem d_M_badPlaceOf_9 : decode c_M_badPlaceOf 9 = .ok (.istore_n 2, 1) := by decide +kernel
theorem d_M_badPlaceOf_10 : decode c_M_badPlaceOf 10 = .ok (.iload_n 2, 1) := by decide +kernel
theorem d_M_badPlaceOf_11 : decode c_M_badPlaceOf 11 = .ok (.aload_n 0, 1) := by decide +kernel
theorem d_M_badPlaceOf_12 : decode c_M_badPlaceOf 12 = .ok (.getfield 67, 3) := by decide +kernel
theorem d_M_badPlaceOf_15 : decode c_M_badPlaceOf 15 = .ok (.if_icmp .ge 27, 3) := by decide +kernel
theorem d_M_badPlaceOf_18 : decode c_M_badPlaceOf 18 = .ok (.aload_n 0, 1) := by decide +kernel
theorem d_M_badPlaceOf_19 : decode c_M_badPlaceOf 19 = .ok (.iload_n 1, 1) := by decide +kernel
theorem d_M_badPlaceOf_20 : decode c_M_badPlaceOf 20 = .ok (.aload_n 0, 1) := by decide +kernel
theorem d_M_badPlaceOf_21 : decode c_M_badPlaceOf 21 = .ok (.getfield 7, 3) := by decide +kernel
theorem d_M_badPlaceOf_24 : decode c_M_badPlaceOf 24 = .ok (.iload_n 2, 1) := by decide +kernel
theorem d_M_badPlaceOf_25 : decode c_M_badPlaceOf 25 = .ok (.iaload, 1) := by decide +kernel
theorem d_M_badPlaceOf_26 : decode c_M_badPlaceOf 26 = .ok (.invokevirtual 88, 3) := by decide +kernel
theorem d_M_badPlaceOf_29 : decode c_M_badPlaceOf 29 = .ok (.istore_n 1, 1) := by decide +kernel
theorem d_M_badPlaceOf_30 : decode c_M_badPlaceOf 30 = .ok (.iload_n 1, 1) := by decide +kernel
theorem d_M_badPlaceOf_31 : decode c_M_badPlaceOf 31 = .ok (.ifCond .ge 5, 3) := by decide +kernel
theorem d_M_badPlaceOf_34 : decode c_M_badPlaceOf 34 = .ok (.iload_n 2, 1) := by decide +kernel
theorem d_M_badPlaceOf_35 : decode c_M_badPlaceOf 35 = .ok (.ireturn, 1) := by decide +kernel
theorem d_M_badPlaceOf_36 : decode c_M_badPlaceOf 36 = .ok (.iinc 2 1, 3) := by decide +kernel
theorem d_M_badPlaceOf_39 : decode c_M_badPlaceOf 39 = .ok (.goto (-29), 3) := by decide +kernel
theorem d_M_badPlaceOf_42 : decode c_M_badPlaceOf 42 = .ok (.aload_n 0, 1) := by decide +kernel
theorem d_M_badPlaceOf_43 : decode c_M_badPlaceOf 43 = .ok (.getfield 85, 3) := by decide +kernel
theorem d_M_badPlaceOf_46 : decode c_M_badPlaceOf 46 = .ok (.ifCond .ne 15, 3) := by decide +kernel
theorem d_M_badPlaceOf_49 : decode c_M_badPlaceOf 49 = .ok (.aload_n 0, 1) := by decide +kernel
theorem d_M_badPlaceOf_50 : decode c_M_badPlaceOf 50 = .ok (.iload_n 1, 1) := by decide +kernel
theorem d_M_badPlaceOf_51 : decode c_M_badPlaceOf 51 = .ok (.invokevirtual 91, 3) := by decide +kernel
theorem d_M_badPlaceOf_54 : decode c_M_badPlaceOf 54 = .ok (.ifCond .eq 7, 3) := by decide +kernel
theorem d_M_badPlaceOf_57 : decode c_M_badPlaceOf 57 = .ok (.iconst (-1), 1) := by decide +kernel
theorem d_M_badPlaceOf_58 : decode c_M_badPlaceOf 58 = .ok (.goto 7, 3) := by decide +kernel
theorem d_M_badPlaceOf_61 : decode c_M_badPlaceOf 61 = .ok (.aload_n 0, 1) := by decide +kernel
theorem d_M_badPlaceOf_62 : decode c_M_badPlaceOf 62 = .ok (.getfield 67, 3) := by decide +kernel
theorem d_M_badPlaceOf_65 : decode c_M_badPlaceOf 65 = .ok (.ireturn, 1) := by decide +kernel
theorem d_M_stateAt_0 : decode c_M_stateAt 0 = .ok (.iload_n 1, 1) := by decide +kernel
theorem d_M_stateAt_1 : decode c_M_stateAt 1 = .ok (.bipush 23, 2) := by decide +kernel
theorem d_M_stateAt_3 : decode c_M_stateAt 3 = .ok (.if_icmp .eq 9, 3) := by decide +kernel
theorem d_M_stateAt_6 : decode c_M_stateAt 6 = .ok (.iload_n 1, 1) := by decide +kernel
theorem d_M_stateAt_7 : decode c_M_stateAt 7 = .ok (.bipush 24, 2) := by decide +kernel
theorem d_M_stateAt_9 : decode c_M_stateAt 9 = .ok (.if_icmp .ne 27, 3) := by decide +kernel
theorem d_M_stateAt_12 : decode c_M_stateAt 12 = .ok (.iload_n 2, 1) := by decide +kernel
theorem d_M_stateAt_13 : decode c_M_stateAt 13 = .ok (.bipush 40, 2) := by decide +kernel
theorem d_M_stateAt_15 : decode c_M_stateAt 15 = .ok (.if_icmp .eq 5, 3) := by decide +kernel
theorem d_M_stateAt_18 : decode c_M_stateAt 18 = .ok (.iconst (-1), 1) := by decide +kernel
theorem d_M_stateAt_19 : decode c_M_stateAt 19 = .ok (.ireturn, 1) := by decide +kernel
theorem d_M_stateAt_20 : decode c_M_stateAt 20 = .ok (.aload_n 0, 1) := by decide +kernel
theorem d_M_stateAt_21 : decode c_M_stateAt 21 = .ok (.iload_n 1, 1) := by decide +kernel
theorem d_M_stateAt_22 : decode c_M_stateAt 22 = .ok (.bipush 23, 2) := by decide +kernel
theorem d_M_stateAt_24 : decode c_M_stateAt 24 = .ok (.if_icmp .ne 7, 3) := by decide +kernel
theorem d_M_stateAt_27 : decode c_M_stateAt 27 = .ok (.iconst 2, 1) := by decide +kernel
theorem d_M_stateAt_28 : decode c_M_stateAt 28 = .ok (.goto 4, 3) := by decide +kernel
theorem d_M_stateAt_31 : decode c_M_stateAt 31 = .ok (.iconst 3, 1) := by decide +kernel
theorem d_M_stateAt_32 : decode c_M_stateAt 32 = .ok (.invokevirtual 74, 3) := by decide +kernel
theorem d_M_stateAt_35 : decode c_M_stateAt 35 = .ok (.ireturn, 1) := by decide +kernel
theorem d_M_stateAt_36 : decode c_M_stateAt 36 = .ok (.iload_n 1, 1) := by decide +kernel
theorem d_M_stateAt_37 : decode c_M_stateAt 37 = .ok (.ifCond .eq 14, 3) := by decide +kernel
theorem d_M_stateAt_40 : decode c_M_stateAt 40 = .ok (.iload_n 1, 1) := by decide +kernel
theorem d_M_stateAt_41 : decode c_M_stateAt 41 = .ok (.iconst 1, 1) := by decide +kernel
theorem d_M_stateAt_42 : decode c_M_stateAt 42 = .ok (.if_icmp .eq 9, 3) := by decide +kernel
theorem d_M_stateAt_45 : decode c_M_stateAt 45 = .ok (.iload_n 1, 1) := by decide +kernel
theorem d_M_stateAt_46 : decode c_M_stateAt 46 = .ok (.bipush 26, 2) := by decide +kernel
theorem d_M_stateAt_48 : decode c_M_stateAt 48 = .ok (.if_icmp .ne 10, 3) := by decide +kernel
theorem d_M_stateAt_51 : decode c_M_stateAt 51 = .ok (.aload_n 0, 1) := by decide +kernel
theorem d_M_stateAt_52 : decode c_M_stateAt 52 = .ok (.iload_n 1, 1) := by decide +kernel
theorem d_M_stateAt_53 : decode c_M_stateAt 53 = .ok (.iload_n 2, 1) := by decide +kernel
theorem d_M_stateAt_54 : decode c_M_stateAt 54 = .ok (.invokevirtual 77, 3) := by decide +kernel
theorem d_M_stateAt_57 : decode c_M_stateAt 57 = .ok (.ireturn, 1) := by decide +kernel
theorem d_M_stateAt_58 : decode c_M_stateAt 58 = .ok (.iload_n 1, 1) := by decide +kernel
theorem d_M_stateAt_59 : decode c_M_stateAt 59 = .ok (.bipush 9, 2) := by decide +kernel
theorem d_M_stateAt_61 : decode c_M_stateAt 61 = .ok (.if_icmp .eq 9, 3) := by decide +kernel
theorem d_M_stateAt_64 : decode c_M_stateAt 64 = .ok (.iload_n 1, 1) := by decide +kernel
theorem d_M_stateAt_65 : decode c_M_stateAt 65 = .ok (.bipush 10, 2) := by decide +kernel
theorem d_M_stateAt_67 : decode c_M_stateAt 67 = .ok (.if_icmp .ne 38, 3) := by decide +kernel
theorem d_M_stateAt_70 : decode c_M_stateAt 70 = .ok (.aload_n 0, 1) := by decide +kernel
theorem d_M_stateAt_71 : decode c_M_stateAt 71 = .ok (.iload_n 2, 1) := by decide +kernel
theorem d_M_stateAt_72 : decode c_M_stateAt 72 = .ok (.invokevirtual 57, 3) := by decide +kernel
theorem d_M_stateAt_75 : decode c_M_stateAt 75 = .ok (.ifCond .eq 11, 3) := by decide +kernel
theorem d_M_stateAt_78 : decode c_M_stateAt 78 = .ok (.bipush 11, 2) := by decide +kernel
theorem d_M_stateAt_80 : decode c_M_stateAt 80 = .ok (.iload_n 2, 1) := by decide +kernel
theorem d_M_stateAt_81 : decode c_M_stateAt 81 = .ok (.iadd, 1) := by decide +kernel
theorem d_M_stateAt_82 : decode c_M_stateAt 82 = .ok (.bipush 48, 2) := by decide +kernel
theorem d_M_stateAt_84 : decode c_M_stateAt 84 = .ok (.isub, 1) := by decide +kernel
theorem d_M_stateAt_85 : decode c_M_stateAt 85 = .ok (.ireturn, 1) := by decide +kernel
theorem d_M_stateAt_86 : decode c_M_stateAt 86 = .ok (.iload_n 1, 1) := by decide +kernel
theorem d_M_stateAt_87 : decode c_M_stateAt 87 = .ok (.bipush 9, 2) := by decide +kernel
theorem d_M_stateAt_89 : decode c_M_stateAt 89 = .ok (.if_icmp .ne 14, 3) := by decide +kernel
theorem d_M_stateAt_92 : decode c_M_stateAt 92 = .ok (.iload_n 2, 1) := by decide +kernel
theorem d_M_stateAt_93 : decode c_M_stateAt 93 = .ok (.bipush 45, 2) := by decide +kernel
theorem d_M_stateAt_95 : decode c_M_stateAt 95 = .ok (.if_icmp .ne 8, 3) := by decide +kernel
theorem d_M_stateAt_98 : decode c_M_stateAt 98 = .ok (.bipush 10, 2) := by decide +kernel
theorem d_M_stateAt_100 : decode c_M_stateAt 100 = .ok (.goto 4, 3) := by decide +kernel
theorem d_M_stateAt_103 : decode c_M_stateAt 103 = .ok (.iconst (-1), 1) := by decide +kernel
theorem d_M_stateAt_104 : decode c_M_stateAt 104 = .ok (.ireturn, 1) := by decide +kernel
theorem d_M_stateAt_105 : decode c_M_stateAt 105 = .ok (.iload_n 1, 1) := by decide +kernel
theorem d_M_stateAt_106 : decode c_M_stateAt 106 = .ok (.bipush 21, 2) := by decide +kernel
theorem d_M_stateAt_108 : decode c_M_stateAt 108 = .ok (.if_icmp .ne 18, 3) := by decide +kernel
theorem d_M_stateAt_111 : decode c_M_stateAt 111 = .ok (.aload_n 0, 1) := by decide +kernel
theorem d_M_stateAt_112 : decode c_M_stateAt 112 = .ok (.iload_n 2, 1) := by decide +kernel
theorem d_M_stateAt_113 : decode c_M_stateAt 113 = .ok (.invokevirtual 57, 3) := by decide +kernel
theorem d_M_stateAt_116 : decode c_M_stateAt 116 = .ok (.ifCond .eq 8, 3) := by decide +kernel
theorem d_M_stateAt_119 : decode c_M_stateAt 119 = .ok (.bipush 22, 2) := by decide +kernel
theorem d_M_stateAt_121 : decode c_M_stateAt 121 = .ok (.goto 4, 3) := by decide +kernel
theorem d_M_stateAt_124 : decode c_M_stateAt 124 = .ok (.iconst (-1), 1) := by decide +kernel
theorem d_M_stateAt_125 : decode c_M_stateAt 125 = .ok (.ireturn, 1) := by decide +kernel
theorem d_M_stateAt_126 : decode c_M_stateAt 126 = .ok (.aload_n 0, 1) := by decide +kernel
theorem d_M_stateAt_127 : decode c_M_stateAt 127 = .ok (.iload_n 2, 1) := by decide +kernel
theorem d_M_stateAt_128 : decode c_M_stateAt 128 = .ok (.invokevirtual 57, 3) := by decide +kernel
theorem d_M_stateAt_131 : decode c_M_stateAt 131 = .ok (.ifCond .eq 61, 3) := by decide +kernel
theorem d_M_stateAt_134 : decode c_M_stateAt 134 = .ok (.iload_n 1, 1) := by decide +kernel
theorem d_M_stateAt_135 : decode c_M_stateAt 135 = .ok (.iconst 4, 1) := by decide +kernel
theorem d_M_stateAt_136 : decode c_M_stateAt 136 = .ok (.if_icmp .lt 13, 3) := by decide +kernel
theorem d_M_stateAt_139 : decode c_M_stateAt 139 = .ok (.iload_n 1, 1) := by decide +kernel
theorem d_M_stateAt_140 : decode c_M_stateAt 140 = .ok (.bipush 8, 2) := by decide +kernel
theorem d_M_stateAt_142 : decode c_M_stateAt 142 = .ok (.if_icmp .ge 7, 3) := by decide +kernel
theorem d_M_stateAt_145 : decode c_M_stateAt 145 = .ok (.iload_n 1, 1) := by decide +kernel
theorem d_M_stateAt_146 : decode c_M_stateAt 146 = .ok (.iconst 1, 1) := by decide +kernel
theorem d_M_stateAt_147 : decode c_M_stateAt 147 = .ok (.iadd, 1) := by decide +kernel
theorem d_M_stateAt_148 : decode c_M_stateAt 148 = .ok (.ireturn, 1) := by decide +kernel
theorem d_M_stateAt_149 : decode c_M_stateAt 149 = .ok (.iload_n 1, 1) := by decide +kernel
theorem d_M_stateAt_150 : decode c_M_stateAt 150 = .ok (.bipush 22, 2) := by decide +kernel
theorem d_M_stateAt_152 : decode c_M_stateAt 152 = .ok (.if_icmp .ne 5, 3) := by decide +kernel
theorem d_M_stateAt_155 : decode c_M_stateAt 155 = .ok (.iconst 2, 1) := by decide +kernel
theorem d_M_stateAt_156 : decode c_M_stateAt 156 = .ok (.ireturn, 1) := by decide +kernel
theorem d_M_stateAt_157 : decode c_M_stateAt 157 = .ok (.iload_n 1, 1) := by decide +kernel
theorem d_M_stateAt_158 : decode c_M_stateAt 158 = .ok (.bipush 11, 2) := by decide +kernel
theorem d_M_stateAt_160 : decode c_M_stateAt 160 = .ok (.if_icmp .lt 30, 3) := by decide +kernel
theorem d_M_stateAt_163 : decode c_M_stateAt 163 = .ok (.iload_n 1, 1) := by decide +kernel
theorem d_M_stateAt_164 : decode c_M_stateAt 164 = .ok (.bipush 20, 2) := by decide +kernel
theorem d_M_stateAt_166 : decode c_M_stateAt 166 = .ok (.if_icmp .gt 24, 3) := by decide +kernel
theorem d_M_stateAt_169 : decode c_M_stateAt 169 = .ok (.iload_n 1, 1) := by decide +kernel
theorem d_M_stateAt_170 : decode c_M_stateAt 170 = .ok (.bipush 11, 2) := by decide +kernel
theorem d_M_stateAt_172 : decode c_M_stateAt 172 = .ok (.isub, 1) := by decide +kernel
theorem d_M_stateAt_173 : decode c_M_stateAt 173 = .ok (.bipush 10, 2) := by decide +kernel
theorem d_M_stateAt_175 : decode c_M_stateAt 175 = .ok (.imul, 1) := by decide +kernel
theorem d_M_stateAt_176 : decode c_M_stateAt 176 = .ok (.iload_n 2, 1) := by decide +kernel
theorem d_M_stateAt_177 : decode c_M_stateAt 177 = .ok (.iadd, 1) := by decide +kernel
theorem d_M_stateAt_178 : decode c_M_stateAt 178 = .ok (.bipush 48, 2) := by decide +kernel
theorem d_M_stateAt_180 : decode c_M_stateAt 180 = .ok (.isub, 1) := by decide +kernel
theorem d_M_stateAt_181 : decode c_M_stateAt 181 = .ok (.bipush 12, 2) := by decide +kernel
theorem d_M_stateAt_183 : decode c_M_stateAt 183 = .ok (.if_icmp .gt 7, 3) := by decide +kernel
theorem d_M_stateAt_186 : decode c_M_stateAt 186 = .ok (.iconst 3, 1) := by decide +kernel
theorem d_M_stateAt_187 : decode c_M_stateAt 187 = .ok (.goto 4, 3) := by decide +kernel
theorem d_M_stateAt_190 : decode c_M_stateAt 190 = .ok (.iconst (-1), 1) := by decide +kernel
theorem d_M_stateAt_191 : decode c_M_stateAt 191 = .ok (.ireturn, 1) := by decide +kernel
theorem d_M_stateAt_192 : decode c_M_stateAt 192 = .ok (.iload_n 2, 1) := by decide +kernel
theorem d_M_stateAt_193 : decode c_M_stateAt 193 = .ok (.bipush 58, 2) := by decide +kernel
theorem d_M_stateAt_195 : decode c_M_stateAt 195 = .ok (.if_icmp .ne 15, 3) := by decide +kernel
theorem d_M_stateAt_198 : decode c_M_stateAt 198 = .ok (.iload_n 1, 1) := by decide +kernel
theorem d_M_stateAt_199 : decode c_M_stateAt 199 = .ok (.bipush 25, 2) := by decide +kernel
theorem d_M_stateAt_201 : decode c_M_stateAt 201 = .ok (.if_icmp .ne 7, 3) := by decide +kernel
theorem d_M_stateAt_204 : decode c_M_stateAt 204 = .ok (.iconst 0, 1) := by decide +kernel
theorem d_M_stateAt_205 : decode c_M_stateAt 205 = .ok (.goto 4, 3) := by decide +kernel
theorem d_M_stateAt_208 : decode c_M_stateAt 208 = .ok (.iconst (-1), 1) := by decide +kernel
theorem d_M_stateAt_209 : decode c_M_stateAt 209 = .ok (.ireturn, 1) := by decide +kernel
theorem d_M_stateAt_210 : decode c_M_stateAt 210 = .ok (.iload_n 2, 1) := by decide +kernel
theorem d_M_stateAt_211 : decode c_M_stateAt 211 = .ok (.bipush 94, 2) := by decide +kernel
theorem d_M_stateAt_213 : decode c_M_stateAt 213 = .ok (.if_icmp .ne 27, 3) := by decide +kernel
theorem d_M_stateAt_216 : decode c_M_stateAt 216 = .ok (.iload_n 1, 1) := by decide +kernel
theorem d_M_stateAt_217 : decode c_M_stateAt 217 = .ok (.iconst 3, 1) := by decide +kernel
theorem d_M_stateAt_218 : decode c_M_stateAt 218 = .ok (.if_icmp .eq 15, 3) := by decide +kernel
theorem d_M_stateAt_221 : decode c_M_stateAt 221 = .ok (.iload_n 1, 1) := by decide +kernel
theorem d_M_stateAt_222 : decode c_M_stateAt 222 = .ok (.bipush 11, 2) := by decide +kernel
theorem d_M_stateAt_224 : decode c_M_stateAt 224 = .ok (.if_icmp .lt 13, 3) := by decide +kernel
theorem d_M_stateAt_227 : decode c_M_stateAt 227 = .ok (.iload_n 1, 1) := by decide +kernel
theorem d_M_stateAt_228 : decode c_M_stateAt 228 = .ok (.bipush 20, 2) := by decide +kernel
theorem d_M_stateAt_230 : decode c_M_stateAt 230 = .ok (.if_icmp .gt 7, 3) := by decide +kernel
theorem d_M_stateAt_233 : decode c_M_stateAt 233 = .ok (.iconst (-1), 1) := by decide +kernel
theorem d_M_stateAt_234 : decode c_M_stateAt 234 = .ok (.goto 5, 3) := by decide +kernel
theorem d_M_stateAt_237 : decode c_M_stateAt 237 = .ok (.bipush 9, 2) := by decide +kernel
theorem d_M_stateAt_239 : decode c_M_stateAt 239 = .ok (.ireturn, 1) := by decide +kernel
theorem d_M_stateAt_240 : decode c_M_stateAt 240 = .ok (.iload_n 2, 1) := by decide +kernel
theorem d_M_stateAt_241 : decode c_M_stateAt 241 = .ok (.bipush 43, 2) := by decide +kernel
theorem d_M_stateAt_243 : decode c_M_stateAt 243 = .ok (.if_icmp .eq 21, 3) := by decide +kernel
theorem d_M_stateAt_246 : decode c_M_stateAt 246 = .ok (.iload_n 2, 1) := by decide +kernel
theorem d_M_stateAt_247 : decode c_M_stateAt 247 = .ok (.bipush 45, 2) := by decide +kernel
theorem d_M_stateAt_249 : decode c_M_stateAt 249 = .ok (.if_icmp .eq 15, 3) := by decide +kernel
theorem d_M_stateAt_252 : decode c_M_stateAt 252 = .ok (.iload_n 2, 1) := by decide +kernel
theorem d_M_stateAt_253 : decode c_M_stateAt 253 = .ok (.bipush 42, 2) := by decide +kernel
theorem d_M_stateAt_255 : decode c_M_stateAt 255 = .ok (.if_icmp .eq 9, 3) := by decide +kernel
theorem d_M_stateAt_258 : decode c_M_stateAt 258 = .ok (.iload_n 2, 1) := by decide +kernel
theorem d_M_stateAt_259 : decode c_M_stateAt 259 = .ok (.bipush 47, 2) := by decide +kernel
theorem d_M_stateAt_261 : decode c_M_stateAt 261 = .ok (.if_icmp .ne 5, 3) := by decide +kernel
theorem d_M_stateAt_264 : decode c_M_stateAt 264 = .ok (.iconst 1, 1) := by decide +kernel
theorem d_M_stateAt_265 : decode c_M_stateAt 265 = .ok (.ireturn, 1) := by decide +kernel
theorem d_M_stateAt_266 : decode c_M_stateAt 266 = .ok (.iload_n 2, 1) := by decide +kernel
theorem d_M_stateAt_267 : decode c_M_stateAt 267 = .ok (.bipush 41, 2) := by decide +kernel
theorem d_M_stateAt_269 : decode c_M_stateAt 269 = .ok (.if_icmp .ne 8, 3) := by decide +kernel
theorem d_M_stateAt_272 : decode c_M_stateAt 272 = .ok (.aload_n 0, 1) := by decide +kernel
theorem d_M_stateAt_273 : decode c_M_stateAt 273 = .ok (.invokevirtual 81, 3) := by decide +kernel
theorem d_M_stateAt_276 : decode c_M_stateAt 276 = .ok (.ireturn, 1) := by decide +kernel
theorem d_M_stateAt_277 : decode c_M_stateAt 277 = .ok (.iload_n 2, 1) := by decide +kernel
theorem d_M_stateAt_278 : decode c_M_stateAt 278 = .ok (.bipush 44, 2) := by decide +kernel
theorem d_M_stateAt_280 : decode c_M_stateAt 280 = .ok (.if_icmp .ne 23, 3) := by decide +kernel
theorem d_M_stateAt_283 : decode c_M_stateAt 283 = .ok (.aload_n 0, 1) := by decide +kernel
theorem d_M_stateAt_284 : decode c_M_stateAt 284 = .ok (.getfield 85, 3) := by decide +kernel
theorem d_M_stateAt_287 : decode c_M_stateAt 287 = .ok (.ifCond .eq 16, 3) := by decide +kernel
theorem d_M_stateAt_290 : decode c_M_stateAt 290 = .ok (.aload_n 0, 1) := by decide +kernel
theorem d_M_stateAt_291 : decode c_M_stateAt 291 = .ok (.getfield 41, 3) := by decide +kernel
theorem d_M_stateAt_294 : decode c_M_stateAt 294 = .ok (.aload_n 0, 1) := by decide +kernel
theorem d_M_stateAt_295 : decode c_M_stateAt 295 = .ok (.getfield 85, 3) := by decide +kernel
theorem d_M_stateAt_298 : decode c_M_stateAt 298 = .ok (.iaload, 1) := by decide +kernel
theorem d_M_stateAt_299 : decode c_M_stateAt 299 = .ok (.iconst 3, 1) := by decide +kernel
theorem d_M_stateAt_300 : decode c_M_stateAt 300 = .ok (.if_icmp .eq 5, 3) := by decide +kernel
theorem d_M_stateAt_303 : decode c_M_stateAt 303 = .ok (.iconst (-1), 1) := by decide +kernel
theorem d_M_stateAt_304 : decode c_M_stateAt 304 = .ok (.ireturn, 1) := by decide +kernel
theorem d_M_stateAt_305 : decode c_M_stateAt 305 = .ok (.aload_n 0, 1) := by decide +kernel
theorem d_M_stateAt_306 : decode c_M_stateAt 306 = .ok (.getfield 41, 3) := by decide +kernel
theorem d_M_stateAt_309 : decode c_M_stateAt 309 = .ok (.aload_n 0, 1) := by decide +kernel
theorem d_M_stateAt_310 : decode c_M_stateAt 310 = .ok (.getfield 85, 3) := by decide +kernel
theorem d_M_stateAt_313 : decode c_M_stateAt 313 = .ok (.iconst 4, 1) := by decide +kernel
theorem d_M_stateAt_314 : decode c_M_stateAt 314 = .ok (.iastore, 1) := by decide +kernel
theorem d_M_stateAt_315 : decode c_M_stateAt 315 = .ok (.iconst 0, 1) := by decide +kernel
theorem d_M_stateAt_316 : decode c_M_stateAt 316 = .ok (.ireturn, 1) := by decide +kernel
theorem d_M_open_0 : decode c_M_open 0 = .ok (.aload_n 0, 1) := by decide +kernel
theorem d_M_open_1 : decode c_M_open 1 = .ok (.dup, 1) := by decide +kernel
theorem d_M_open_2 : decode c_M_open 2 = .ok (.getfield 85, 3) := by decide +kernel
theorem d_M_open_5 : decode c_M_open 5 = .ok (.iconst 1, 1) := by decide +kernel
theorem d_M_open_6 : decode c_M_open 6 = .ok (.iadd, 1) := by decide +kernel
theorem d_M_open_7 : decode c_M_open 7 = .ok (.putfield 85, 3) := by decide +kernel
theorem d_M_open_10 : decode c_M_open 10 = .ok (.aload_n 0, 1) := by decide +kernel
theorem d_M_open_11 : decode c_M_open 11 = .ok (.getfield 41, 3) := by decide +kernel
theorem d_M_open_14 : decode c_M_open 14 = .ok (.aload_n 0, 1) := by decide +kernel
theorem d_M_open_15 : decode c_M_open 15 = .ok (.getfield 85, 3) := by decide +kernel
theorem d_M_open_18 : decode c_M_open 18 = .ok (.iload_n 1, 1) := by decide +kernel
theorem d_M_open_19 : decode c_M_open 19 = .ok (.iastore, 1) := by decide +kernel
theorem d_M_open_20 : decode c_M_open 20 = .ok (.iconst 0, 1) := by decide +kernel
theorem d_M_open_21 : decode c_M_open 21 = .ok (.ireturn, 1) := by decide +kernel
theorem d_M_begin_0 : decode c_M_begin 0 = .ok (.aload_n 0, 1) := by decide +kernel
theorem d_M_begin_1 : decode c_M_begin 1 = .ok (.iload_n 2, 1) := by decide +kernel
theorem d_M_begin_2 : decode c_M_begin 2 = .ok (.invokevirtual 57, 3) := by decide +kernel
theorem d_M_begin_5 : decode c_M_begin 5 = .ok (.ifCond .eq 5, 3) := by decide +kernel
theorem d_M_begin_8 : decode c_M_begin 8 = .ok (.iconst 4, 1) := by decide +kernel
theorem d_M_begin_9 : decode c_M_begin 9 = .ok (.ireturn, 1) := by decide +kernel
theorem d_M_begin_10 : decode c_M_begin 10 = .ok (.iload_n 2, 1) := by decide +kernel
theorem d_M_begin_11 : decode c_M_begin 11 = .ok (.bipush 120, 2) := by decide +kernel
theorem d_M_begin_13 : decode c_M_begin 13 = .ok (.if_icmp .ne 5, 3) := by decide +kernel
theorem d_M_begin_16 : decode c_M_begin 16 = .ok (.iconst 2, 1) := by decide +kernel
theorem d_M_begin_17 : decode c_M_begin 17 = .ok (.ireturn, 1) := by decide +kernel
theorem d_M_begin_18 : decode c_M_begin 18 = .ok (.aload_n 0, 1) := by decide +kernel
theorem d_M_begin_19 : decode c_M_begin 19 = .ok (.iload_n 2, 1) := by decide +kernel
theorem d_M_begin_20 : decode c_M_begin 20 = .ok (.invokevirtual 61, 3) := by decide +kernel
theorem d_M_begin_23 : decode c_M_begin 23 = .ok (.ifCond .eq 16, 3) := by decide +kernel
theorem d_M_begin_26 : decode c_M_begin 26 = .ok (.iload_n 1, 1) := by decide +kernel
theorem d_M_begin_27 : decode c_M_begin 27 = .ok (.bipush 26, 2) := by decide +kernel
theorem d_M_begin_29 : decode c_M_begin 29 = .ok (.if_icmp .ne 8, 3) := by decide +kernel
theorem d_M_begin_32 : decode c_M_begin 32 = .ok (.bipush 25, 2) := by decide +kernel
theorem d_M_begin_34 : decode c_M_begin 34 = .ok (.goto 4, 3) := by decide +kernel
theorem d_M_begin_37 : decode c_M_begin 37 = .ok (.iconst 2, 1) := by decide +kernel
theorem d_M_begin_38 : decode c_M_begin 38 = .ok (.ireturn, 1) := by decide +kernel
theorem d_M_begin_39 : decode c_M_begin 39 = .ok (.iload_n 2, 1) := by decide +kernel
theorem d_M_begin_40 : decode c_M_begin 40 = .ok (.bipush 37, 2) := by decide +kernel
theorem d_M_begin_42 : decode c_M_begin 42 = .ok (.if_icmp .ne 6, 3) := by decide +kernel
theorem d_M_begin_45 : decode c_M_begin 45 = .ok (.bipush 21, 2) := by decide +kernel
theorem d_M_begin_47 : decode c_M_begin 47 = .ok (.ireturn, 1) := by decide +kernel
theorem d_M_begin_48 : decode c_M_begin 48 = .ok (.iload_n 2, 1) := by decide +kernel
theorem d_M_begin_49 : decode c_M_begin 49 = .ok (.bipush 43, 2) := by decide +kernel
theorem d_M_begin_51 : decode c_M_begin 51 = .ok (.if_icmp .eq 9, 3) := by decide +kernel
theorem d_M_begin_54 : decode c_M_begin 54 = .ok (.iload_n 2, 1) := by decide +kernel
theorem d_M_begin_55 : decode c_M_begin 55 = .ok (.bipush 45, 2) := by decide +kernel
theorem d_M_begin_57 : decode c_M_begin 57 = .ok (.if_icmp .ne 10, 3) := by decide +kernel
theorem d_M_begin_60 : decode c_M_begin 60 = .ok (.iload_n 1, 1) := by decide +kernel
theorem d_M_begin_61 : decode c_M_begin 61 = .ok (.iconst 1, 1) := by decide +kernel
theorem d_M_begin_62 : decode c_M_begin 62 = .ok (.if_icmp .eq 5, 3) := by decide +kernel
theorem d_M_begin_65 : decode c_M_begin 65 = .ok (.iconst 1, 1) := by decide +kernel
theorem d_M_begin_66 : decode c_M_begin 66 = .ok (.ireturn, 1) := by decide +kernel
theorem d_M_begin_67 : decode c_M_begin 67 = .ok (.aload_n 0, 1) := by decide +kernel
theorem d_M_begin_68 : decode c_M_begin 68 = .ok (.getfield 85, 3) := by decide +kernel
theorem d_M_begin_71 : decode c_M_begin 71 = .ok (.bipush 8, 2) := by decide +kernel
theorem d_M_begin_73 : decode c_M_begin 73 = .ok (.if_icmp .ne 5, 3) := by decide +kernel
theorem d_M_begin_76 : decode c_M_begin 76 = .ok (.iconst (-1), 1) := by decide +kernel
theorem d_M_begin_77 : decode c_M_begin 77 = .ok (.ireturn, 1) := by decide +kernel
theorem d_M_begin_78 : decode c_M_begin 78 = .ok (.iload_n 2, 1) := by decide +kernel
theorem d_M_begin_79 : decode c_M_begin 79 = .ok (.bipush 100, 2) := by decide +kernel
theorem d_M_begin_81 : decode c_M_begin 81 = .ok (.if_icmp .ne 6, 3) := by decide +kernel
theorem d_M_begin_84 : decode c_M_begin 84 = .ok (.bipush 23, 2) := by decide +kernel
theorem d_M_begin_86 : decode c_M_begin 86 = .ok (.ireturn, 1) := by decide +kernel
theorem d_M_begin_87 : decode c_M_begin 87 = .ok (.iload_n 2, 1) := by decide +kernel
theorem d_M_begin_88 : decode c_M_begin 88 = .ok (.bipush 115, 2) := by decide +kernel
theorem d_M_begin_90 : decode c_M_begin 90 = .ok (.if_icmp .ne 6, 3) := by decide +kernel
theorem d_M_begin_93 : decode c_M_begin 93 = .ok (.bipush 24, 2) := by decide +kernel
theorem d_M_begin_95 : decode c_M_begin 95 = .ok (.ireturn, 1) := by decide +kernel
theorem d_M_begin_96 : decode c_M_begin 96 = .ok (.iload_n 2, 1) := by decide +kernel
theorem d_M_begin_97 : decode c_M_begin 97 = .ok (.bipush 40, 2) := by decide +kernel
theorem d_M_begin_99 : decode c_M_begin 99 = .ok (.if_icmp .ne 11, 3) := by decide +kernel
theorem d_M_begin_102 : decode c_M_begin 102 = .ok (.aload_n 0, 1) := by decide +kernel
theorem d_M_begin_103 : decode c_M_begin 103 = .ok (.iconst 1, 1) := by decide +kernel
theorem d_M_begin_104 : decode c_M_begin 104 = .ok (.invokevirtual 74, 3) := by decide +kernel
theorem d_M_begin_107 : decode c_M_begin 107 = .ok (.goto 4, 3) := by decide +kernel
theorem d_M_begin_110 : decode c_M_begin 110 = .ok (.iconst (-1), 1) := by decide +kernel
theorem d_M_begin_111 : decode c_M_begin 111 = .ok (.ireturn, 1) := by decide +kernel
theorem d_M_close_0 : decode c_M_close 0 = .ok (.aload_n 0, 1) := by decide +kernel
theorem d_M_close_1 : decode c_M_close 1 = .ok (.getfield 85, 3) := by decide +kernel
theorem d_M_close_4 : decode c_M_close 4 = .ok (.ifCond .eq 16, 3) := by decide +kernel
theorem d_M_close_7 : decode c_M_close 7 = .ok (.aload_n 0, 1) := by decide +kernel
theorem d_M_close_8 : decode c_M_close 8 = .ok (.getfield 41, 3) := by decide +kernel
theorem d_M_close_11 : decode c_M_close 11 = .ok (.aload_n 0, 1) := by decide +kernel
theorem d_M_close_12 : decode c_M_close 12 = .ok (.getfield 85, 3) := by decide +kernel
theorem d_M_close_15 : decode c_M_close 15 = .ok (.iaload, 1) := by decide +kernel
theorem d_M_close_16 : decode c_M_close 16 = .ok (.iconst 3, 1) := by decide +kernel
theorem d_M_close_17 : decode c_M_close 17 = .ok (.if_icmp .ne 5, 3) := by decide +kernel
theorem d_M_close_20 : decode c_M_close 20 = .ok (.iconst (-1), 1) := by decide +kernel
theorem d_M_close_21 : decode c_M_close 21 = .ok (.ireturn, 1) := by decide +kernel
theorem d_M_close_22 : decode c_M_close 22 = .ok (.aload_n 0, 1) := by decide +kernel
theorem d_M_close_23 : decode c_M_close 23 = .ok (.dup, 1) := by decide +kernel
theorem d_M_close_24 : decode c_M_close 24 = .ok (.getfield 85, 3) := by decide +kernel
theorem d_M_close_27 : decode c_M_close 27 = .ok (.iconst 1, 1) := by decide +kernel
theorem d_M_close_28 : decode c_M_close 28 = .ok (.isub, 1) := by decide +kernel
theorem d_M_close_29 : decode c_M_close 29 = .ok (.putfield 85, 3) := by decide +kernel
theorem d_M_close_32 : decode c_M_close 32 = .ok (.iconst 2, 1) := by decide +kernel
theorem d_M_close_33 : decode c_M_close 33 = .ok (.ireturn, 1) := by decide +kernel
theorem d_M_complete_0 : decode c_M_complete 0 = .ok (.iload_n 1, 1) := by decide +kernel
theorem d_M_complete_1 : decode c_M_complete 1 = .ok (.iconst 2, 1) := by decide +kernel
theorem d_M_complete_2 : decode c_M_complete 2 = .ok (.if_icmp .lt 9, 3) := by decide +kernel
theorem d_M_complete_5 : decode c_M_complete 5 = .ok (.iload_n 1, 1) := by decide +kernel
theorem d_M_complete_6 : decode c_M_complete 6 = .ok (.bipush 8, 2) := by decide +kernel
theorem d_M_complete_8 : decode c_M_complete 8 = .ok (.if_icmp .le 27, 3) := by decide +kernel
theorem d_M_complete_11 : decode c_M_complete 11 = .ok (.iload_n 1, 1) := by decide +kernel
theorem d_M_complete_12 : decode c_M_complete 12 = .ok (.bipush 11, 2) := by decide +kernel
theorem d_M_complete_14 : decode c_M_complete 14 = .ok (.if_icmp .lt 9, 3) := by decide +kernel
theorem d_M_complete_17 : decode c_M_complete 17 = .ok (.iload_n 1, 1) := by decide +kernel
theorem d_M_complete_18 : decode c_M_complete 18 = .ok (.bipush 20, 2) := by decide +kernel
theorem d_M_complete_20 : decode c_M_complete 20 = .ok (.if_icmp .le 15, 3) := by decide +kernel
theorem d_M_complete_23 : decode c_M_complete 23 = .ok (.iload_n 1, 1) := by decide +kernel
theorem d_M_complete_24 : decode c_M_complete 24 = .ok (.bipush 22, 2) := by decide +kernel
theorem d_M_complete_26 : decode c_M_complete 26 = .ok (.if_icmp .eq 9, 3) := by decide +kernel
theorem d_M_complete_29 : decode c_M_complete 29 = .ok (.iload_n 1, 1) := by decide +kernel
theorem d_M_complete_30 : decode c_M_complete 30 = .ok (.bipush 25, 2) := by decide +kernel
theorem d_M_complete_32 : decode c_M_complete 32 = .ok (.if_icmp .ne 7, 3) := by decide +kernel
theorem d_M_complete_35 : decode c_M_complete 35 = .ok (.iconst 1, 1) := by decide +kernel
theorem d_M_complete_36 : decode c_M_complete 36 = .ok (.goto 4, 3) := by decide +kernel
theorem d_M_complete_39 : decode c_M_complete 39 = .ok (.iconst 0, 1) := by decide +kernel
theorem d_M_complete_40 : decode c_M_complete 40 = .ok (.ireturn, 1) := by decide +kernel
theorem d_M_start_0 : decode c_M_start 0 = .ok (.aload_n 0, 1) := by decide +kernel
theorem d_M_start_1 : decode c_M_start 1 = .ok (.getfield 41, 3) := by decide +kernel
theorem d_M_start_4 : decode c_M_start 4 = .ok (.aload_n 0, 1) := by decide +kernel
theorem d_M_start_5 : decode c_M_start 5 = .ok (.getfield 85, 3) := by decide +kernel
theorem d_M_start_8 : decode c_M_start 8 = .ok (.iload_n 1, 1) := by decide +kernel
theorem d_M_start_9 : decode c_M_start 9 = .ok (.iastore, 1) := by decide +kernel
theorem d_M_start_10 : decode c_M_start 10 = .ok (.aload_n 0, 1) := by decide +kernel
theorem d_M_start_11 : decode c_M_start 11 = .ok (.getfield 44, 3) := by decide +kernel
theorem d_M_start_14 : decode c_M_start 14 = .ok (.aload_n 0, 1) := by decide +kernel
theorem d_M_start_15 : decode c_M_start 15 = .ok (.getfield 85, 3) := by decide +kernel
theorem d_M_start_18 : decode c_M_start 18 = .ok (.iconst 0, 1) := by decide +kernel
theorem d_M_start_19 : decode c_M_start 19 = .ok (.bastore, 1) := by decide +kernel
theorem d_M_start_20 : decode c_M_start 20 = .ok (.aload_n 0, 1) := by decide +kernel
theorem d_M_start_21 : decode c_M_start 21 = .ok (.getfield 48, 3) := by decide +kernel
theorem d_M_start_24 : decode c_M_start 24 = .ok (.aload_n 0, 1) := by decide +kernel
theorem d_M_start_25 : decode c_M_start 25 = .ok (.getfield 85, 3) := by decide +kernel
theorem d_M_start_28 : decode c_M_start 28 = .ok (.iconst 0, 1) := by decide +kernel
theorem d_M_start_29 : decode c_M_start 29 = .ok (.bastore, 1) := by decide +kernel
theorem d_M_start_30 : decode c_M_start 30 = .ok (.aload_n 0, 1) := by decide +kernel
theorem d_M_start_31 : decode c_M_start 31 = .ok (.getfield 51, 3) := by decide +kernel
theorem d_M_start_34 : decode c_M_start 34 = .ok (.aload_n 0, 1) := by decide +kernel
theorem d_M_start_35 : decode c_M_start 35 = .ok (.getfield 85, 3) := by decide +kernel
theorem d_M_start_38 : decode c_M_start 38 = .ok (.iconst 1, 1) := by decide +kernel
theorem d_M_start_39 : decode c_M_start 39 = .ok (.iastore, 1) := by decide +kernel
theorem d_M_start_40 : decode c_M_start 40 = .ok (.aload_n 0, 1) := by decide +kernel
theorem d_M_start_41 : decode c_M_start 41 = .ok (.getfield 54, 3) := by decide +kernel
theorem d_M_start_44 : decode c_M_start 44 = .ok (.aload_n 0, 1) := by decide +kernel
theorem d_M_start_45 : decode c_M_start 45 = .ok (.getfield 85, 3) := by decide +kernel
theorem d_M_start_48 : decode c_M_start 48 = .ok (.iconst 0, 1) := by decide +kernel
theorem d_M_start_49 : decode c_M_start 49 = .ok (.bastore, 1) := by decide +kernel
theorem d_M_start_50 : decode c_M_start 50 = .ok (.return_, 1) := by decide +kernel
theorem d_M_advance_0 : decode c_M_advance 0 = .ok (.aload_n 0, 1) := by decide +kernel
theorem d_M_advance_1 : decode c_M_advance 1 = .ok (.getfield 7, 3) := by decide +kernel
theorem d_M_advance_4 : decode c_M_advance 4 = .ok (.iload_n 1, 1) := by decide +kernel
theorem d_M_advance_5 : decode c_M_advance 5 = .ok (.iaload, 1) := by decide +kernel
theorem d_M_advance_6 : decode c_M_advance 6 = .ok (.istore_n 2, 1) := by decide +kernel
theorem d_M_advance_7 : decode c_M_advance 7 = .ok (.iload_n 2, 1) := by decide +kernel
theorem d_M_advance_8 : decode c_M_advance 8 = .ok (.bipush 40, 2) := by decide +kernel
theorem d_M_advance_10 : decode c_M_advance 10 = .ok (.if_icmp .eq 15, 3) := by decide +kernel
theorem d_M_advance_13 : decode c_M_advance 13 = .ok (.iload_n 2, 1) := by decide +kernel
theorem d_M_advance_14 : decode c_M_advance 14 = .ok (.bipush 100, 2) := by decide +kernel
theorem d_M_advance_16 : decode c_M_advance 16 = .ok (.if_icmp .eq 9, 3) := by decide +kernel
theorem d_M_advance_19 : decode c_M_advance 19 = .ok (.iload_n 2, 1) := by decide +kernel
theorem d_M_advance_20 : decode c_M_advance 20 = .ok (.bipush 115, 2) := by decide +kernel
theorem d_M_advance_22 : decode c_M_advance 22 = .ok (.if_icmp .ne 54, 3) := by decide +kernel
theorem d_M_advance_25 : decode c_M_advance 25 = .ok (.aload_n 0, 1) := by decide +kernel
theorem d_M_advance_26 : decode c_M_advance 26 = .ok (.dup, 1) := by decide +kernel
theorem d_M_advance_27 : decode c_M_advance 27 = .ok (.getfield 85, 3) := by decide +kernel
theorem d_M_advance_30 : decode c_M_advance 30 = .ok (.iconst 1, 1) := by decide +kernel
theorem d_M_advance_31 : decode c_M_advance 31 = .ok (.iadd, 1) := by decide +kernel
theorem d_M_advance_32 : decode c_M_advance 32 = .ok (.putfield 85, 3) := by decide +kernel
theorem d_M_advance_35 : decode c_M_advance 35 = .ok (.aload_n 0, 1) := by decide +kernel
theorem d_M_advance_36 : decode c_M_advance 36 = .ok (.iload_n 2, 1) := by decide +kernel
theorem d_M_advance_37 : decode c_M_advance 37 = .ok (.bipush 40, 2) := by decide +kernel
theorem d_M_advance_39 : decode c_M_advance 39 = .ok (.if_icmp .ne 7, 3) := by decide +kernel
theorem d_M_advance_42 : decode c_M_advance 42 = .ok (.iconst 1, 1) := by decide +kernel
theorem d_M_advance_43 : decode c_M_advance 43 = .ok (.goto 14, 3) := by decide +kernel
theorem d_M_advance_46 : decode c_M_advance 46 = .ok (.iload_n 2, 1) := by decide +kernel
theorem d_M_advance_47 : decode c_M_advance 47 = .ok (.bipush 100, 2) := by decide +kernel
theorem d_M_advance_49 : decode c_M_advance 49 = .ok (.if_icmp .ne 7, 3) := by decide +kernel
theorem d_M_advance_52 : decode c_M_advance 52 = .ok (.iconst 2, 1) := by decide +kernel
theorem d_M_advance_53 : decode c_M_advance 53 = .ok (.goto 4, 3) := by decide +kernel
theorem d_M_advance_56 : decode c_M_advance 56 = .ok (.iconst 3, 1) := by decide +kernel
theorem d_M_advance_57 : decode c_M_advance 57 = .ok (.invokevirtual 177, 3) := by decide +kernel
theorem d_M_advance_60 : decode c_M_advance 60 = .ok (.iload_n 2, 1) := by decide +kernel
theorem d_M_advance_61 : decode c_M_advance 61 = .ok (.bipush 40, 2) := by decide +kernel
theorem d_M_advance_63 : decode c_M_advance 63 = .ok (.if_icmp .ne 9, 3) := by decide +kernel
theorem d_M_advance_66 : decode c_M_advance 66 = .ok (.iload_n 1, 1) := by decide +kernel
theorem d_M_advance_67 : decode c_M_advance 67 = .ok (.iconst 1, 1) := by decide +kernel
theorem d_M_advance_68 : decode c_M_advance 68 = .ok (.iadd, 1) := by decide +kernel
theorem d_M_advance_69 : decode c_M_advance 69 = .ok (.goto 6, 3) := by decide +kernel
theorem d_M_advance_72 : decode c_M_advance 72 = .ok (.iload_n 1, 1) := by decide +kernel
theorem d_M_advance_73 : decode c_M_advance 73 = .ok (.iconst 2, 1) := by decide +kernel
theorem d_M_advance_74 : decode c_M_advance 74 = .ok (.iadd, 1) := by decide +kernel
theorem d_M_advance_75 : decode c_M_advance 75 = .ok (.ireturn, 1) := by decide +kernel
theorem d_M_advance_76 : decode c_M_advance 76 = .ok (.iload_n 2, 1) := by decide +kernel
theorem d_M_advance_77 : decode c_M_advance 77 = .ok (.bipush 43, 2) := by decide +kernel
theorem d_M_advance_79 : decode c_M_advance 79 = .ok (.if_icmp .eq 9, 3) := by decide +kernel
theorem d_M_advance_82 : decode c_M_advance 82 = .ok (.iload_n 2, 1) := by decide +kernel
theorem d_M_advance_83 : decode c_M_advance 83 = .ok (.bipush 45, 2) := by decide +kernel
theorem d_M_advance_85 : decode c_M_advance 85 = .ok (.if_icmp .ne 45, 3) := by decide +kernel
theorem d_M_advance_88 : decode c_M_advance 88 = .ok (.aload_n 0, 1) := by decide +kernel
theorem d_M_advance_89 : decode c_M_advance 89 = .ok (.getfield 48, 3) := by decide +kernel
theorem d_M_advance_92 : decode c_M_advance 92 = .ok (.aload_n 0, 1) := by decide +kernel
theorem d_M_advance_93 : decode c_M_advance 93 = .ok (.getfield 85, 3) := by decide +kernel
theorem d_M_advance_96 : decode c_M_advance 96 = .ok (.baload, 1) := by decide +kernel
theorem d_M_advance_97 : decode c_M_advance 97 = .ok (.ifCond .eq 7, 3) := by decide +kernel
theorem d_M_advance_100 : decode c_M_advance 100 = .ok (.aload_n 0, 1) := by decide +kernel
theorem d_M_advance_101 : decode c_M_advance 101 = .ok (.invokevirtual 152, 3) := by decide +kernel
theorem d_M_advance_104 : decode c_M_advance 104 = .ok (.aload_n 0, 1) := by decide +kernel
theorem d_M_advance_105 : decode c_M_advance 105 = .ok (.getfield 51, 3) := by decide +kernel
theorem d_M_advance_108 : decode c_M_advance 108 = .ok (.aload_n 0, 1) := by decide +kernel
theorem d_M_advance_109 : decode c_M_advance 109 = .ok (.getfield 85, 3) := by decide +kernel
theorem d_M_advance_112 : decode c_M_advance 112 = .ok (.iload_n 2, 1) := by decide +kernel
theorem d_M_advance_113 : decode c_M_advance 113 = .ok (.bipush 45, 2) := by decide +kernel
theorem d_M_advance_115 : decode c_M_advance 115 = .ok (.if_icmp .ne 9, 3) := by decide +kernel
theorem d_M_advance_118 : decode c_M_advance 118 = .ok (.sipush 10006, 3) := by decide +kernel
theorem d_M_advance_121 : decode c_M_advance 121 = .ok (.goto 4, 3) := by decide +kernel
theorem d_M_advance_124 : decode c_M_advance 124 = .ok (.iconst 1, 1) := by decide +kernel
theorem d_M_advance_125 : decode c_M_advance 125 = .ok (.iastore, 1) := by decide +kernel
theorem d_M_advance_126 : decode c_M_advance 126 = .ok (.iload_n 1, 1) := by decide +kernel
theorem d_M_advance_127 : decode c_M_advance 127 = .ok (.iconst 1, 1) := by decide +kernel
theorem d_M_advance_128 : decode c_M_advance 128 = .ok (.iadd, 1) := by decide +kernel
theorem d_M_advance_129 : decode c_M_advance 129 = .ok (.ireturn, 1) := by decide +kernel
theorem d_M_advance_130 : decode c_M_advance 130 = .ok (.iload_n 2, 1) := by decide +kernel
theorem d_M_advance_131 : decode c_M_advance 131 = .ok (.bipush 42, 2) := by decide +kernel
theorem d_M_advance_133 : decode c_M_advance 133 = .ok (.if_icmp .eq 9, 3) := by decide +kernel
theorem d_M_advance_136 : decode c_M_advance 136 = .ok (.iload_n 2, 1) := by decide +kernel
theorem d_M_advance_137 : decode c_M_advance 137 = .ok (.bipush 47, 2) := by decide +kernel
theorem d_M_advance_139 : decode c_M_advance 139 = .ok (.if_icmp .ne 27, 3) := by decide +kernel
theorem d_M_advance_142 : decode c_M_advance 142 = .ok (.aload_n 0, 1) := by decide +kernel
theorem d_M_advance_143 : decode c_M_advance 143 = .ok (.getfield 54, 3) := by decide +kernel
theorem d_M_advance_146 : decode c_M_advance 146 = .ok (.aload_n 0, 1) := by decide +kernel
theorem d_M_advance_147 : decode c_M_advance 147 = .ok (.getfield 85, 3) := by decide +kernel
theorem d_M_advance_150 : decode c_M_advance 150 = .ok (.iload_n 2, 1) := by decide +kernel
theorem d_M_advance_151 : decode c_M_advance 151 = .ok (.bipush 47, 2) := by decide +kernel
theorem d_M_advance_153 : decode c_M_advance 153 = .ok (.if_icmp .ne 7, 3) := by decide +kernel
theorem d_M_advance_156 : decode c_M_advance 156 = .ok (.iconst 1, 1) := by decide +kernel
theorem d_M_advance_157 : decode c_M_advance 157 = .ok (.goto 4, 3) := by decide +kernel
theorem d_M_advance_160 : decode c_M_advance 160 = .ok (.iconst 0, 1) := by decide +kernel
theorem d_M_advance_161 : decode c_M_advance 161 = .ok (.bastore, 1) := by decide +kernel
theorem d_M_advance_162 : decode c_M_advance 162 = .ok (.iload_n 1, 1) := by decide +kernel
theorem d_M_advance_163 : decode c_M_advance 163 = .ok (.iconst 1, 1) := by decide +kernel
theorem d_M_advance_164 : decode c_M_advance 164 = .ok (.iadd, 1) := by decide +kernel
theorem d_M_advance_165 : decode c_M_advance 165 = .ok (.ireturn, 1) := by decide +kernel
theorem d_M_advance_166 : decode c_M_advance 166 = .ok (.iload_n 2, 1) := by decide +kernel
theorem d_M_advance_167 : decode c_M_advance 167 = .ok (.bipush 44, 2) := by decide +kernel
theorem d_M_advance_169 : decode c_M_advance 169 = .ok (.if_icmp .ne 34, 3) := by decide +kernel
theorem d_M_advance_172 : decode c_M_advance 172 = .ok (.aload_n 0, 1) := by decide +kernel
theorem d_M_advance_173 : decode c_M_advance 173 = .ok (.invokevirtual 152, 3) := by decide +kernel
theorem d_M_advance_176 : decode c_M_advance 176 = .ok (.aload_n 0, 1) := by decide +kernel
theorem d_M_advance_177 : decode c_M_advance 177 = .ok (.bipush 44, 2) := by decide +kernel
theorem d_M_advance_179 : decode c_M_advance 179 = .ok (.aload_n 0, 1) := by decide +kernel
theorem d_M_advance_180 : decode c_M_advance 180 = .ok (.getfield 85, 3) := by decide +kernel
theorem d_M_advance_183 : decode c_M_advance 183 = .ok (.iadd, 1) := by decide +kernel
theorem d_M_advance_184 : decode c_M_advance 184 = .ok (.bipush 62, 2) := by decide +kernel
theorem d_M_advance_186 : decode c_M_advance 186 = .ok (.aload_n 0, 1) := by decide +kernel
theorem d_M_advance_187 : decode c_M_advance 187 = .ok (.getfield 85, 3) := by decide +kernel
theorem d_M_advance_190 : decode c_M_advance 190 = .ok (.iadd, 1) := by decide +kernel
theorem d_M_advance_191 : decode c_M_advance 191 = .ok (.invokevirtual 137, 3) := by decide +kernel
theorem d_M_advance_194 : decode c_M_advance 194 = .ok (.aload_n 0, 1) := by decide +kernel
theorem d_M_advance_195 : decode c_M_advance 195 = .ok (.iconst 4, 1) := by decide +kernel
theorem d_M_advance_196 : decode c_M_advance 196 = .ok (.invokevirtual 177, 3) := by decide +kernel
theorem d_M_advance_199 : decode c_M_advance 199 = .ok (.iload_n 1, 1) := by decide +kernel
theorem d_M_advance_200 : decode c_M_advance 200 = .ok (.iconst 1, 1) := by decide +kernel
theorem d_M_advance_201 : decode c_M_advance 201 = .ok (.iadd, 1) := by decide +kernel
theorem d_M_advance_202 : decode c_M_advance 202 = .ok (.ireturn, 1) := by decide +kernel
theorem d_M_advance_203 : decode c_M_advance 203 = .ok (.iload_n 2, 1) := by decide +kernel
theorem d_M_advance_204 : decode c_M_advance 204 = .ok (.bipush 41, 2) := by decide +kernel
theorem d_M_advance_206 : decode c_M_advance 206 = .ok (.if_icmp .ne 15, 3) := by decide +kernel
theorem d_M_advance_209 : decode c_M_advance 209 = .ok (.aload_n 0, 1) := by decide +kernel
theorem d_M_advance_210 : decode c_M_advance 210 = .ok (.invokevirtual 180, 3) := by decide +kernel
theorem d_M_advance_213 : decode c_M_advance 213 = .ok (.aload_n 0, 1) := by decide +kernel
theorem d_M_advance_214 : decode c_M_advance 214 = .ok (.iload_n 1, 1) := by decide +kernel
theorem d_M_advance_215 : decode c_M_advance 215 = .ok (.iconst 1, 1) := by decide +kernel
theorem d_M_advance_216 : decode c_M_advance 216 = .ok (.iadd, 1) := by decide +kernel
theorem d_M_advance_217 : decode c_M_advance 217 = .ok (.invokevirtual 183, 3) := by decide +kernel
theorem d_M_advance_220 : decode c_M_advance 220 = .ok (.ireturn, 1) := by decide +kernel
theorem d_M_advance_221 : decode c_M_advance 221 = .ok (.aload_n 0, 1) := by decide +kernel
theorem d_M_advance_222 : decode c_M_advance 222 = .ok (.iload_n 1, 1) := by decide +kernel
theorem d_M_advance_223 : decode c_M_advance 223 = .ok (.invokevirtual 186, 3) := by decide +kernel
theorem d_M_advance_226 : decode c_M_advance 226 = .ok (.istore_n 3, 1) := by decide +kernel
theorem d_M_advance_227 : decode c_M_advance 227 = .ok (.aload_n 0, 1) := by decide +kernel
theorem d_M_advance_228 : decode c_M_advance 228 = .ok (.iload_n 3, 1) := by decide +kernel
theorem d_M_advance_229 : decode c_M_advance 229 = .ok (.invokevirtual 183, 3) := by decide +kernel
theorem d_M_advance_232 : decode c_M_advance 232 = .ok (.ireturn, 1) := by decide +kernel
theorem d_M_term_0 : decode c_M_term 0 = .ok (.aload_n 0, 1) := by decide +kernel
theorem d_M_term_1 : decode c_M_term 1 = .ok (.getfield 119, 3) := by decide +kernel
theorem d_M_term_4 : decode c_M_term 4 = .ok (.ifCond .eq 4, 3) := by decide +kernel
theorem d_M_term_7 : decode c_M_term 7 = .ok (.return_, 1) := by decide +kernel
theorem d_M_term_8 : decode c_M_term 8 = .ok (.bipush 44, 2) := by decide +kernel
theorem d_M_term_10 : decode c_M_term 10 = .ok (.aload_n 0, 1) := by decide +kernel
theorem d_M_term_11 : decode c_M_term 11 = .ok (.getfield 85, 3) := by decide +kernel
theorem d_M_term_14 : decode c_M_term 14 = .ok (.iadd, 1) := by decide +kernel
theorem d_M_term_15 : decode c_M_term 15 = .ok (.istore_n 1, 1) := by decide +kernel
theorem d_M_term_16 : decode c_M_term 16 = .ok (.aload_n 0, 1) := by decide +kernel
theorem d_M_term_17 : decode c_M_term 17 = .ok (.getfield 44, 3) := by decide +kernel
theorem d_M_term_20 : decode c_M_term 20 = .ok (.aload_n 0, 1) := by decide +kernel
theorem d_M_term_21 : decode c_M_term 21 = .ok (.getfield 85, 3) := by decide +kernel
theorem d_M_term_24 : decode c_M_term 24 = .ok (.baload, 1) := by decide +kernel
theorem d_M_term_25 : decode c_M_term 25 = .ok (.ifCond .eq 28, 3) := by decide +kernel
theorem d_M_term_28 : decode c_M_term 28 = .ok (.aload_n 0, 1) := by decide +kernel
theorem d_M_term_29 : decode c_M_term 29 = .ok (.iload_n 1, 1) := by decide +kernel
theorem d_M_term_30 : decode c_M_term 30 = .ok (.bipush 53, 2) := by decide +kernel
theorem d_M_term_32 : decode c_M_term 32 = .ok (.aload_n 0, 1) := by decide +kernel
theorem d_M_term_33 : decode c_M_term 33 = .ok (.getfield 85, 3) := by decide +kernel
theorem d_M_term_36 : decode c_M_term 36 = .ok (.iadd, 1) := by decide +kernel
theorem d_M_term_37 : decode c_M_term 37 = .ok (.aload_n 0, 1) := by decide +kernel
theorem d_M_term_38 : decode c_M_term 38 = .ok (.getfield 51, 3) := by decide +kernel
theorem d_M_term_41 : decode c_M_term 41 = .ok (.aload_n 0, 1) := by decide +kernel
theorem d_M_term_42 : decode c_M_term 42 = .ok (.getfield 85, 3) := by decide +kernel
theorem d_M_term_45 : decode c_M_term 45 = .ok (.iaload, 1) := by decide +kernel
theorem d_M_term_46 : decode c_M_term 46 = .ok (.iload_n 1, 1) := by decide +kernel
theorem d_M_term_47 : decode c_M_term 47 = .ok (.invokevirtual 144, 3) := by decide +kernel
theorem d_M_term_50 : decode c_M_term 50 = .ok (.goto 65, 3) := by decide +kernel
theorem d_M_term_53 : decode c_M_term 53 = .ok (.aload_n 0, 1) := by decide +kernel
theorem d_M_term_54 : decode c_M_term 54 = .ok (.bipush 53, 2) := by decide +kernel
theorem d_M_term_56 : decode c_M_term 56 = .ok (.aload_n 0, 1) := by decide +kernel
theorem d_M_term_57 : decode c_M_term 57 = .ok (.getfield 85, 3) := by decide +kernel
theorem d_M_term_60 : decode c_M_term 60 = .ok (.iadd, 1) := by decide +kernel
theorem d_M_term_61 : decode c_M_term 61 = .ok (.iload_n 1, 1) := by decide +kernel
theorem d_M_term_62 : decode c_M_term 62 = .ok (.invokevirtual 137, 3) := by decide +kernel
theorem d_M_term_65 : decode c_M_term 65 = .ok (.iconst 0, 1) := by decide +kernel
theorem d_M_term_66 : decode c_M_term 66 = .ok (.istore_n 2, 1) := by decide +kernel
theorem d_M_term_67 : decode c_M_term 67 = .ok (.iload_n 2, 1) := by decide +kernel
theorem d_M_term_68 : decode c_M_term 68 = .ok (.bipush 13, 2) := by decide +kernel
theorem d_M_term_70 : decode c_M_term 70 = .ok (.if_icmp .ge 45, 3) := by decide +kernel
theorem d_M_term_73 : decode c_M_term 73 = .ok (.aload_n 0, 1) := by decide +kernel
theorem d_M_term_74 : decode c_M_term 74 = .ok (.getfield 23, 3) := by decide +kernel
theorem d_M_term_77 : decode c_M_term 77 = .ok (.iload_n 1, 1) := by decide +kernel
theorem d_M_term_78 : decode c_M_term 78 = .ok (.bipush 13, 2) := by decide +kernel
theorem d_M_term_80 : decode c_M_term 80 = .ok (.imul, 1) := by decide +kernel
theorem d_M_term_81 : decode c_M_term 81 = .ok (.iload_n 2, 1) := by decide +kernel
theorem d_M_term_82 : decode c_M_term 82 = .ok (.iadd, 1) := by decide +kernel
theorem d_M_term_83 : decode c_M_term 83 = .ok (.aload_n 0, 1) := by decide +kernel
theorem d_M_term_84 : decode c_M_term 84 = .ok (.getfield 23, 3) := by decide +kernel
theorem d_M_term_87 : decode c_M_term 87 = .ok (.iload_n 1, 1) := by decide +kernel
theorem d_M_term_88 : decode c_M_term 88 = .ok (.bipush 13, 2) := by decide +kernel
theorem d_M_term_90 : decode c_M_term 90 = .ok (.imul, 1) := by decide +kernel
theorem d_M_term_91 : decode c_M_term 91 = .ok (.iload_n 2, 1) := by decide +kernel
theorem d_M_term_92 : decode c_M_term 92 = .ok (.iadd, 1) := by decide +kernel
theorem d_M_term_93 : decode c_M_term 93 = .ok (.iaload, 1) := by decide +kernel
theorem d_M_term_94 : decode c_M_term 94 = .ok (.aload_n 0, 1) := by decide +kernel
theorem d_M_term_95 : decode c_M_term 95 = .ok (.getfield 51, 3) := by decide +kernel
theorem d_M_term_98 : decode c_M_term 98 = .ok (.aload_n 0, 1) := by decide +kernel
theorem d_M_term_99 : decode c_M_term 99 = .ok (.getfield 85, 3) := by decide +kernel
theorem d_M_term_102 : decode c_M_term 102 = .ok (.iaload, 1) := by decide +kernel
theorem d_M_term_103 : decode c_M_term 103 = .ok (.imul, 1) := by decide +kernel
theorem d_M_term_104 : decode c_M_term 104 = .ok (.sipush 10007, 3) := by decide +kernel
theorem d_M_term_107 : decode c_M_term 107 = .ok (.irem, 1) := by decide +kernel
theorem d_M_term_108 : decode c_M_term 108 = .ok (.iastore, 1) := by decide +kernel
theorem d_M_term_109 : decode c_M_term 109 = .ok (.iinc 2 1, 3) := by decide +kernel
theorem d_M_term_112 : decode c_M_term 112 = .ok (.goto (-45), 3) := by decide +kernel
theorem d_M_term_115 : decode c_M_term 115 = .ok (.aload_n 0, 1) := by decide +kernel
theorem d_M_term_116 : decode c_M_term 116 = .ok (.getfield 44, 3) := by decide +kernel
theorem d_M_term_119 : decode c_M_term 119 = .ok (.aload_n 0, 1) := by decide +kernel
theorem d_M_term_120 : decode c_M_term 120 = .ok (.getfield 85, 3) := by decide +kernel
theorem d_M_term_123 : decode c_M_term 123 = .ok (.iconst 1, 1) := by decide +kernel
theorem d_M_term_124 : decode c_M_term 124 = .ok (.bastore, 1) := by decide +kernel
theorem d_M_term_125 : decode c_M_term 125 = .ok (.aload_n 0, 1) := by decide +kernel
theorem d_M_term_126 : decode c_M_term 126 = .ok (.getfield 48, 3) := by decide +kernel
theorem d_M_term_129 : decode c_M_term 129 = .ok (.aload_n 0, 1) := by decide +kernel
theorem d_M_term_130 : decode c_M_term 130 = .ok (.getfield 85, 3) := by decide +kernel
theorem d_M_term_133 : decode c_M_term 133 = .ok (.iconst 0, 1) := by decide +kernel
theorem d_M_term_134 : decode c_M_term 134 = .ok (.bastore, 1) := by decide +kernel
theorem d_M_term_135 : decode c_M_term 135 = .ok (.return_, 1) := by decide +kernel
theorem d_M_add_0 : decode c_M_add 0 = .ok (.aload_n 0, 1) := by decide +kernel
theorem d_M_add_1 : decode c_M_add 1 = .ok (.getfield 119, 3) := by decide +kernel
theorem d_M_add_4 : decode c_M_add 4 = .ok (.ifCond .eq 4, 3) := by decide +kernel
theorem d_M_add_7 : decode c_M_add 7 = .ok (.return_, 1) := by decide +kernel
theorem d_M_add_8 : decode c_M_add 8 = .ok (.aload_n 0, 1) := by decide +kernel
theorem d_M_add_9 : decode c_M_add 9 = .ok (.invokevirtual 122, 3) := by decide +kernel
theorem d_M_add_12 : decode c_M_add 12 = .ok (.aload_n 0, 1) := by decide +kernel
theorem d_M_add_13 : decode c_M_add 13 = .ok (.iload_n 1, 1) := by decide +kernel
theorem d_M_add_14 : decode c_M_add 14 = .ok (.iconst 0, 1) := by decide +kernel
theorem d_M_add_15 : decode c_M_add 15 = .ok (.iload_n 2, 1) := by decide +kernel
theorem d_M_add_16 : decode c_M_add 16 = .ok (.iconst 1, 1) := by decide +kernel
theorem d_M_add_17 : decode c_M_add 17 = .ok (.iconst 1, 1) := by decide +kernel
theorem d_M_add_18 : decode c_M_add 18 = .ok (.iconst 0, 1) := by decide +kernel
theorem d_M_add_19 : decode c_M_add 19 = .ok (.invokevirtual 125, 3) := by decide +kernel
theorem d_M_add_22 : decode c_M_add 22 = .ok (.aload_n 0, 1) := by decide +kernel
theorem d_M_add_23 : decode c_M_add 23 = .ok (.iload_n 2, 1) := by decide +kernel
theorem d_M_add_24 : decode c_M_add 24 = .ok (.iconst 0, 1) := by decide +kernel
theorem d_M_add_25 : decode c_M_add 25 = .ok (.iload_n 1, 1) := by decide +kernel
theorem d_M_add_26 : decode c_M_add 26 = .ok (.iconst 1, 1) := by decide +kernel
theorem d_M_add_27 : decode c_M_add 27 = .ok (.iload_n 3, 1) := by decide +kernel
theorem d_M_add_28 : decode c_M_add 28 = .ok (.iconst 0, 1) := by decide +kernel
theorem d_M_add_29 : decode c_M_add 29 = .ok (.invokevirtual 125, 3) := by decide +kernel
theorem d_M_add_32 : decode c_M_add 32 = .ok (.aload_n 0, 1) := by decide +kernel
theorem d_M_add_33 : decode c_M_add 33 = .ok (.iload_n 1, 1) := by decide +kernel
theorem d_M_add_34 : decode c_M_add 34 = .ok (.iconst 1, 1) := by decide +kernel
theorem d_M_add_35 : decode c_M_add 35 = .ok (.iload_n 2, 1) := by decide +kernel
theorem d_M_add_36 : decode c_M_add 36 = .ok (.iconst 1, 1) := by decide +kernel
theorem d_M_add_37 : decode c_M_add 37 = .ok (.iconst 1, 1) := by decide +kernel
theorem d_M_add_38 : decode c_M_add 38 = .ok (.iconst 1, 1) := by decide +kernel
theorem d_M_add_39 : decode c_M_add 39 = .ok (.invokevirtual 125, 3) := by decide +kernel
theorem d_M_add_42 : decode c_M_add 42 = .ok (.aload_n 0, 1) := by decide +kernel
theorem d_M_add_43 : decode c_M_add 43 = .ok (.iload 4, 2) := by decide +kernel
theorem d_M_add_45 : decode c_M_add 45 = .ok (.invokevirtual 129, 3) := by decide +kernel
theorem d_M_add_48 : decode c_M_add 48 = .ok (.return_, 1) := by decide +kernel
theorem d_M_blank_0 : decode c_M_blank 0 = .ok (.iconst 0, 1) := by decide +kernel
theorem d_M_blank_1 : decode c_M_blank 1 = .ok (.istore_n 1, 1) := by decide +kernel
theorem d_M_blank_2 : decode c_M_blank 2 = .ok (.iload_n 1, 1) := by decide +kernel
theorem d_M_blank_3 : decode c_M_blank 3 = .ok (.bipush 80, 2) := by decide +kernel
theorem d_M_blank_5 : decode c_M_blank 5 = .ok (.if_icmp .ge 35, 3) := by decide +kernel
theorem d_M_blank_8 : decode c_M_blank 8 = .ok (.iload_n 1, 1) := by decide +kernel
theorem d_M_blank_9 : decode c_M_blank 9 = .ok (.bipush 40, 2) := by decide +kernel
theorem d_M_blank_11 : decode c_M_blank 11 = .ok (.if_icmp .ge 13, 3) := by decide +kernel
theorem d_M_blank_14 : decode c_M_blank 14 = .ok (.aload_n 0, 1) := by decide +kernel
theorem d_M_blank_15 : decode c_M_blank 15 = .ok (.getfield 29, 3) := by decide +kernel
theorem d_M_blank_18 : decode c_M_blank 18 = .ok (.iload_n 1, 1) := by decide +kernel
theorem d_M_blank_19 : decode c_M_blank 19 = .ok (.iconst 0, 1) := by decide +kernel
theorem d_M_blank_20 : decode c_M_blank 20 = .ok (.iastore, 1) := by decide +kernel
theorem d_M_blank_21 : decode c_M_blank 21 = .ok (.goto 13, 3) := by decide +kernel
theorem d_M_blank_24 : decode c_M_blank 24 = .ok (.aload_n 0, 1) := by decide +kernel
theorem d_M_blank_25 : decode c_M_blank 25 = .ok (.getfield 32, 3) := by decide +kernel
theorem d_M_blank_28 : decode c_M_blank 28 = .ok (.iload_n 1, 1) := by decide +kernel
theorem d_M_blank_29 : decode c_M_blank 29 = .ok (.bipush 40, 2) := by decide +kernel
theorem d_M_blank_31 : decode c_M_blank 31 = .ok (.isub, 1) := by decide +kernel
theorem d_M_blank_32 : decode c_M_blank 32 = .ok (.iconst 0, 1) := by decide +kernel
theorem d_M_blank_33 : decode c_M_blank 33 = .ok (.iastore, 1) := by decide +kernel
theorem d_M_blank_34 : decode c_M_blank 34 = .ok (.iinc 1 1, 3) := by decide +kernel
theorem d_M_blank_37 : decode c_M_blank 37 = .ok (.goto (-35), 3) := by decide +kernel
theorem d_M_blank_40 : decode c_M_blank 40 = .ok (.return_, 1) := by decide +kernel
theorem d_M_product_0 : decode c_M_product 0 = .ok (.iconst 0, 1) := by decide +kernel
theorem d_M_product_1 : decode c_M_product 1 = .ok (.istore 7, 2) := by decide +kernel
theorem d_M_product_3 : decode c_M_product 3 = .ok (.iload 7, 2) := by decide +kernel
theorem d_M_product_5 : decode c_M_product 5 = .ok (.sipush 169, 3) := by decide +kernel
theorem d_M_product_8 : decode c_M_product 8 = .ok (.if_icmp .ge 170, 3) := by decide +kernel
theorem d_M_product_11 : decode c_M_product 11 = .ok (.iload 7, 2) := by decide +kernel
theorem d_M_product_13 : decode c_M_product 13 = .ok (.bipush 13, 2) := by decide +kernel
theorem d_M_product_15 : decode c_M_product 15 = .ok (.idiv, 1) := by decide +kernel
theorem d_M_product_16 : decode c_M_product 16 = .ok (.istore 8, 2) := by decide +kernel
theorem d_M_product_18 : decode c_M_product 18 = .ok (.iload 7, 2) := by decide +kernel
theorem d_M_product_20 : decode c_M_product 20 = .ok (.bipush 13, 2) := by decide +kernel
theorem d_M_product_22 : decode c_M_product 22 = .ok (.irem, 1) := by decide +kernel
theorem d_M_product_23 : decode c_M_product 23 = .ok (.istore 9, 2) := by decide +kernel
theorem d_M_product_25 : decode c_M_product 25 = .ok (.iload_n 2, 1) := by decide +kernel
theorem d_M_product_26 : decode c_M_product 26 = .ok (.ifCond .eq 18, 3) := by decide +kernel
theorem d_M_product_29 : decode c_M_product 29 = .ok (.aload_n 0, 1) := by decide +kernel
theorem d_M_product_30 : decode c_M_product 30 = .ok (.getfield 26, 3) := by decide +kernel
theorem d_M_product_33 : decode c_M_product 33 = .ok (.iload_n 1, 1) := by decide +kernel
theorem d_M_product_34 : decode c_M_product 34 = .ok (.bipush 13, 2) := by decide +kernel
theorem d_M_product_36 : decode c_M_product 36 = .ok (.imul, 1) := by decide +kernel
theorem d_M_product_37 : decode c_M_product 37 = .ok (.iload 8, 2) := by decide +kernel
theorem d_M_product_39 : decode c_M_product 39 = .ok (.iadd, 1) := by decide +kernel
theorem d_M_product_40 : decode c_M_product 40 = .ok (.iaload, 1) := by decide +kernel
theorem d_M_product_41 : decode c_M_product 41 = .ok (.goto 15, 3) := by decide +kernel
theorem d_M_product_44 : decode c_M_product 44 = .ok (.aload_n 0, 1) := by decide +kernel
theorem d_M_product_45 : decode c_M_product 45 = .ok (.getfield 23, 3) := by decide +kernel
theorem d_M_product_48 : decode c_M_product 48 = .ok (.iload_n 1, 1) := by decide +kernel
theorem d_M_product_49 : decode c_M_product 49 = .ok (.bipush 13, 2) := by decide +kernel
theorem d_M_product_51 : decode c_M_product 51 = .ok (.imul, 1) := by decide +kernel
theorem d_M_product_52 : decode c_M_product 52 = .ok (.iload 8, 2) := by decide +kernel
theorem d_M_product_54 : decode c_M_product 54 = .ok (.iadd, 1) := by decide +kernel
theorem d_M_product_55 : decode c_M_product 55 = .ok (.iaload, 1) := by decide +kernel
theorem d_M_product_56 : decode c_M_product 56 = .ok (.istore 10, 2) := by decide +kernel
theorem d_M_product_58 : decode c_M_product 58 = .ok (.iload 4, 2) := by decide +kernel
theorem d_M_product_60 : decode c_M_product 60 = .ok (.ifCond .eq 18, 3) := by decide +kernel
theorem d_M_product_63 : decode c_M_product 63 = .ok (.aload_n 0, 1) := by decide +kernel
theorem d_M_product_64 : decode c_M_product 64 = .ok (.getfield 26, 3) := by decide +kernel
theorem d_M_product_67 : decode c_M_product 67 = .ok (.iload_n 3, 1) := by decide +kernel
theorem d_M_product_68 : decode c_M_product 68 = .ok (.bipush 13, 2) := by decide +kernel
theorem d_M_product_70 : decode c_M_product 70 = .ok (.imul, 1) := by decide +kernel
theorem d_M_product_71 : decode c_M_product 71 = .ok (.iload 9, 2) := by decide +kernel
theorem d_M_product_73 : decode c_M_product 73 = .ok (.iadd, 1) := by decide +kernel
theorem d_M_product_74 : decode c_M_product 74 = .ok (.iaload, 1) := by decide +kernel
theorem d_M_product_75 : decode c_M_product 75 = .ok (.goto 15, 3) := by decide +kernel
theorem d_M_product_78 : decode c_M_product 78 = .ok (.aload_n 0, 1) := by decide +kernel
theorem d_M_product_79 : decode c_M_product 79 = .ok (.getfield 23, 3) := by decide +kernel
theorem d_M_product_82 : decode c_M_product 82 = .ok (.iload_n 3, 1) := by decide +kernel
theorem d_M_product_83 : decode c_M_product 83 = .ok (.bipush 13, 2) := by decide +kernel
theorem d_M_product_85 : decode c_M_product 85 = .ok (.imul, 1) := by decide +kernel
theorem d_M_product_86 : decode c_M_product 86 = .ok (.iload 9, 2) := by decide +kernel
theorem d_M_product_88 : decode c_M_product 88 = .ok (.iadd, 1) := by decide +kernel
theorem d_M_product_89 : decode c_M_product 89 = .ok (.iaload, 1) := by decide +kernel
theorem d_M_product_90 : decode c_M_product 90 = .ok (.istore 11, 2) := by decide +kernel
theorem d_M_product_92 : decode c_M_product 92 = .ok (.iload 10, 2) := by decide +kernel
theorem d_M_product_94 : decode c_M_product 94 = .ok (.iload 11, 2) := by decide +kernel
theorem d_M_product_96 : decode c_M_product 96 = .ok (.imul, 1) := by decide +kernel
theorem d_M_product_97 : decode c_M_product 97 = .ok (.sipush 10007, 3) := by decide +kernel
theorem d_M_product_100 : decode c_M_product 100 = .ok (.irem, 1) := by decide +kernel
theorem d_M_product_101 : decode c_M_product 101 = .ok (.iload 5, 2) := by decide +kernel
theorem d_M_product_103 : decode c_M_product 103 = .ok (.imul, 1) := by decide +kernel
theorem d_M_product_104 : decode c_M_product 104 = .ok (.sipush 10007, 3) := by decide +kernel
theorem d_M_product_107 : decode c_M_product 107 = .ok (.irem, 1) := by decide +kernel
theorem d_M_product_108 : decode c_M_product 108 = .ok (.istore 12, 2) := by decide +kernel
theorem d_M_product_110 : decode c_M_product 110 = .ok (.iload 6, 2) := by decide +kernel
theorem d_M_product_112 : decode c_M_product 112 = .ok (.ifCond .eq 33, 3) := by decide +kernel
theorem d_M_product_115 : decode c_M_product 115 = .ok (.aload_n 0, 1) := by decide +kernel
theorem d_M_product_116 : decode c_M_product 116 = .ok (.getfield 32, 3) := by decide +kernel
theorem d_M_product_119 : decode c_M_product 119 = .ok (.iload 8, 2) := by decide +kernel
theorem d_M_product_121 : decode c_M_product 121 = .ok (.iload 9, 2) := by decide +kernel
theorem d_M_product_123 : decode c_M_product 123 = .ok (.iadd, 1) := by decide +kernel
theorem d_M_product_124 : decode c_M_product 124 = .ok (.aload_n 0, 1) := by decide +kernel
theorem d_M_product_125 : decode c_M_product 125 = .ok (.getfield 32, 3) := by decide +kernel
theorem d_M_product_128 : decode c_M_product 128 = .ok (.iload 8, 2) := by decide +kernel
theorem d_M_product_130 : decode c_M_product 130 = .ok (.iload 9, 2) := by decide +kernel
theorem d_M_product_132 : decode c_M_product 132 = .ok (.iadd, 1) := by decide +kernel
theorem d_M_product_133 : decode c_M_product 133 = .ok (.iaload, 1) := by decide +kernel
theorem d_M_product_134 : decode c_M_product 134 = .ok (.iload 12, 2) := by decide +kernel
theorem d_M_product_136 : decode c_M_product 136 = .ok (.iadd, 1) := by decide +kernel
theorem d_M_product_137 : decode c_M_product 137 = .ok (.sipush 10007, 3) := by decide +kernel
theorem d_M_product_140 : decode c_M_product 140 = .ok (.irem, 1) := by decide +kernel
theorem d_M_product_141 : decode c_M_product 141 = .ok (.iastore, 1) := by decide +kernel
theorem d_M_product_142 : decode c_M_product 142 = .ok (.goto 30, 3) := by decide +kernel
theorem d_M_product_145 : decode c_M_product 145 = .ok (.aload_n 0, 1) := by decide +kernel
theorem d_M_product_146 : decode c_M_product 146 = .ok (.getfield 29, 3) := by decide +kernel
theorem d_M_product_149 : decode c_M_product 149 = .ok (.iload 8, 2) := by decide +kernel
theorem d_M_product_151 : decode c_M_product 151 = .ok (.iload 9, 2) := by decide +kernel
theorem d_M_product_153 : decode c_M_product 153 = .ok (.iadd, 1) := by decide +kernel
theorem d_M_product_154 : decode c_M_product 154 = .ok (.aload_n 0, 1) := by decide +kernel
theorem d_M_product_155 : decode c_M_product 155 = .ok (.getfield 29, 3) := by decide +kernel
theorem d_M_product_158 : decode c_M_product 158 = .ok (.iload 8, 2) := by decide +kernel
theorem d_M_product_160 : decode c_M_product 160 = .ok (.iload 9, 2) := by decide +kernel
theorem d_M_product_162 : decode c_M_product 162 = .ok (.iadd, 1) := by decide +kernel
theorem d_M_product_163 : decode c_M_product 163 = .ok (.iaload, 1) := by decide +kernel
theorem d_M_product_164 : decode c_M_product 164 = .ok (.iload 12, 2) := by decide +kernel
theorem d_M_product_166 : decode c_M_product 166 = .ok (.iadd, 1) := by decide +kernel
theorem d_M_product_167 : decode c_M_product 167 = .ok (.sipush 10007, 3) := by decide +kernel
theorem d_M_product_170 : decode c_M_product 170 = .ok (.irem, 1) := by decide +kernel
theorem d_M_product_171 : decode c_M_product 171 = .ok (.iastore, 1) := by decide +kernel
theorem d_M_product_172 : decode c_M_product 172 = .ok (.iinc 7 1, 3) := by decide +kernel
theorem d_M_product_175 : decode c_M_product 175 = .ok (.goto (-172), 3) := by decide +kernel
theorem d_M_product_178 : decode c_M_product 178 = .ok (.return_, 1) := by decide +kernel
theorem d_M_form_0 : decode c_M_form 0 = .ok (.aload_n 0, 1) := by decide +kernel
theorem d_M_form_1 : decode c_M_form 1 = .ok (.iconst 0, 1) := by decide +kernel
theorem d_M_form_2 : decode c_M_form 2 = .ok (.invokevirtual 104, 3) := by decide +kernel
theorem d_M_form_5 : decode c_M_form 5 = .ok (.istore_n 2, 1) := by decide +kernel
theorem d_M_form_6 : decode c_M_form 6 = .ok (.aload_n 0, 1) := by decide +kernel
theorem d_M_form_7 : decode c_M_form 7 = .ok (.iconst 1, 1) := by decide +kernel
theorem d_M_form_8 : decode c_M_form 8 = .ok (.invokevirtual 104, 3) := by decide +kernel
theorem d_M_form_11 : decode c_M_form 11 = .ok (.istore_n 3, 1) := by decide +kernel
theorem d_M_form_12 : decode c_M_form 12 = .ok (.iload_n 2, 1) := by decide +kernel
theorem d_M_form_13 : decode c_M_form 13 = .ok (.ifCond .ge 10, 3) := by decide +kernel
theorem d_M_form_16 : decode c_M_form 16 = .ok (.aload_n 0, 1) := by decide +kernel
theorem d_M_form_17 : decode c_M_form 17 = .ok (.iload_n 1, 1) := by decide +kernel
theorem d_M_form_18 : decode c_M_form 18 = .ok (.iconst 0, 1) := by decide +kernel
theorem d_M_form_19 : decode c_M_form 19 = .ok (.invokevirtual 108, 3) := by decide +kernel
theorem d_M_form_22 : decode c_M_form 22 = .ok (.return_, 1) := by decide +kernel
theorem d_M_form_23 : decode c_M_form 23 = .ok (.iconst 0, 1) := by decide +kernel
theorem d_M_form_24 : decode c_M_form 24 = .ok (.istore 4, 2) := by decide +kernel
theorem d_M_form_26 : decode c_M_form 26 = .ok (.iload 4, 2) := by decide +kernel
theorem d_M_form_28 : decode c_M_form 28 = .ok (.bipush 12, 2) := by decide +kernel
theorem d_M_form_30 : decode c_M_form 30 = .ok (.if_icmp .gt 171, 3) := by decide +kernel
theorem d_M_form_33 : decode c_M_form 33 = .ok (.iload 4, 2) := by decide +kernel
theorem d_M_form_35 : decode c_M_form 35 = .ok (.iload_n 3, 1) := by decide +kernel
theorem d_M_form_36 : decode c_M_form 36 = .ok (.if_icmp .gt 165, 3) := by decide +kernel
theorem d_M_form_39 : decode c_M_form 39 = .ok (.iload_n 2, 1) := by decide +kernel
theorem d_M_form_40 : decode c_M_form 40 = .ok (.iload 4, 2) := by decide +kernel
theorem d_M_form_42 : decode c_M_form 42 = .ok (.iadd, 1) := by decide +kernel
theorem d_M_form_43 : decode c_M_form 43 = .ok (.iload_n 3, 1) := by decide +kernel
theorem d_M_form_44 : decode c_M_form 44 = .ok (.isub, 1) := by decide +kernel
theorem d_M_form_45 : decode c_M_form 45 = .ok (.bipush 12, 2) := by decide +kernel
theorem d_M_form_47 : decode c_M_form 47 = .ok (.if_icmp .gt 154, 3) := by decide +kernel
theorem d_M_form_50 : decode c_M_form 50 = .ok (.iload_n 2, 1) := by decide +kernel
theorem d_M_form_51 : decode c_M_form 51 = .ok (.iload 4, 2) := by decide +kernel
theorem d_M_form_53 : decode c_M_form 53 = .ok (.iadd, 1) := by decide +kernel
theorem d_M_form_54 : decode c_M_form 54 = .ok (.iload_n 3, 1) := by decide +kernel
theorem d_M_form_55 : decode c_M_form 55 = .ok (.isub, 1) := by decide +kernel
theorem d_M_form_56 : decode c_M_form 56 = .ok (.istore 5, 2) := by decide +kernel
theorem d_M_form_58 : decode c_M_form 58 = .ok (.iload 5, 2) := by decide +kernel
theorem d_M_form_60 : decode c_M_form 60 = .ok (.ifCond .lt 135, 3) := by decide +kernel
theorem d_M_form_63 : decode c_M_form 63 = .ok (.aload_n 0, 1) := by decide +kernel
theorem d_M_form_64 : decode c_M_form 64 = .ok (.iload 4, 2) := by decide +kernel
theorem d_M_form_66 : decode c_M_form 66 = .ok (.iload 5, 2) := by decide +kernel
theorem d_M_form_68 : decode c_M_form 68 = .ok (.iload_n 2, 1) := by decide +kernel
theorem d_M_form_69 : decode c_M_form 69 = .ok (.iload 4, 2) := by decide +kernel
theorem d_M_form_71 : decode c_M_form 71 = .ok (.iadd, 1) := by decide +kernel
theorem d_M_form_72 : decode c_M_form 72 = .ok (.iconst 1, 1) := by decide +kernel
theorem d_M_form_73 : decode c_M_form 73 = .ok (.iadd, 1) := by decide +kernel
theorem d_M_form_74 : decode c_M_form 74 = .ok (.invokevirtual 112, 3) := by decide +kernel
theorem d_M_form_77 : decode c_M_form 77 = .ok (.ifCond .eq 118, 3) := by decide +kernel
theorem d_M_form_80 : decode c_M_form 80 = .ok (.aload_n 0, 1) := by decide +kernel
theorem d_M_form_81 : decode c_M_form 81 = .ok (.iload_n 1, 1) := by decide +kernel
theorem d_M_form_82 : decode c_M_form 82 = .ok (.iconst 0, 1) := by decide +kernel
theorem d_M_form_83 : decode c_M_form 83 = .ok (.invokevirtual 108, 3) := by decide +kernel
theorem d_M_form_86 : decode c_M_form 86 = .ok (.aload_n 0, 1) := by decide +kernel
theorem d_M_form_87 : decode c_M_form 87 = .ok (.getfield 26, 3) := by decide +kernel
theorem d_M_form_90 : decode c_M_form 90 = .ok (.iload_n 1, 1) := by decide +kernel
theorem d_M_form_91 : decode c_M_form 91 = .ok (.bipush 13, 2) := by decide +kernel
theorem d_M_form_93 : decode c_M_form 93 = .ok (.imul, 1) := by decide +kernel
theorem d_M_form_94 : decode c_M_form 94 = .ok (.iconst 0, 1) := by decide +kernel
theorem d_M_form_95 : decode c_M_form 95 = .ok (.iastore, 1) := by decide +kernel
theorem d_M_form_96 : decode c_M_form 96 = .ok (.aload_n 0, 1) := by decide +kernel
theorem d_M_form_97 : decode c_M_form 97 = .ok (.getfield 26, 3) := by decide +kernel
theorem d_M_form_100 : decode c_M_form 100 = .ok (.iload_n 1, 1) := by decide +kernel
theorem d_M_form_101 : decode c_M_form 101 = .ok (.bipush 13, 2) := by decide +kernel
theorem d_M_form_103 : decode c_M_form 103 = .ok (.imul, 1) := by decide +kernel
theorem d_M_form_104 : decode c_M_form 104 = .ok (.iload 4, 2) := by decide +kernel
theorem d_M_form_106 : decode c_M_form 106 = .ok (.iadd, 1) := by decide +kernel
theorem d_M_form_107 : decode c_M_form 107 = .ok (.iconst 1, 1) := by decide +kernel
theorem d_M_form_108 : decode c_M_form 108 = .ok (.iastore, 1) := by decide +kernel
theorem d_M_form_109 : decode c_M_form 109 = .ok (.iconst 0, 1) := by decide +kernel
theorem d_M_form_110 : decode c_M_form 110 = .ok (.istore 6, 2) := by decide +kernel
theorem d_M_form_112 : decode c_M_form 112 = .ok (.iload 6, 2) := by decide +kernel
theorem d_M_form_114 : decode c_M_form 114 = .ok (.iload 4, 2) := by decide +kernel
theorem d_M_form_116 : decode c_M_form 116 = .ok (.if_icmp .ge 34, 3) := by decide +kernel
theorem d_M_form_119 : decode c_M_form 119 = .ok (.aload_n 0, 1) := by decide +kernel
theorem d_M_form_120 : decode c_M_form 120 = .ok (.getfield 26, 3) := by decide +kernel
theorem d_M_form_123 : decode c_M_form 123 = .ok (.iload_n 1, 1) := by decide +kernel
theorem d_M_form_124 : decode c_M_form 124 = .ok (.bipush 13, 2) := by decide +kernel
theorem d_M_form_126 : decode c_M_form 126 = .ok (.imul, 1) := by decide +kernel
theorem d_M_form_127 : decode c_M_form 127 = .ok (.iload 6, 2) := by decide +kernel
theorem d_M_form_129 : decode c_M_form 129 = .ok (.iadd, 1) := by decide +kernel
theorem d_M_form_130 : decode c_M_form 130 = .ok (.aload_n 0, 1) := by decide +kernel
theorem d_M_form_131 : decode c_M_form 131 = .ok (.iload 6, 2) := by decide +kernel
theorem d_M_form_133 : decode c_M_form 133 = .ok (.iload 4, 2) := by decide +kernel
theorem d_M_form_135 : decode c_M_form 135 = .ok (.iload 5, 2) := by decide +kernel
theorem d_M_form_137 : decode c_M_form 137 = .ok (.iadd, 1) := by decide +kernel
theorem d_M_form_138 : decode c_M_form 138 = .ok (.iconst 1, 1) := by decide +kernel
theorem d_M_form_139 : decode c_M_form 139 = .ok (.iadd, 1) := by decide +kernel
theorem d_M_form_140 : decode c_M_form 140 = .ok (.invokevirtual 116, 3) := by decide +kernel
theorem d_M_form_143 : decode c_M_form 143 = .ok (.iastore, 1) := by decide +kernel
theorem d_M_form_144 : decode c_M_form 144 = .ok (.iinc 6 1, 3) := by decide +kernel
theorem d_M_form_147 : decode c_M_form 147 = .ok (.goto (-35), 3) := by decide +kernel
theorem d_M_form_150 : decode c_M_form 150 = .ok (.iconst 0, 1) := by decide +kernel
theorem d_M_form_151 : decode c_M_form 151 = .ok (.istore 6, 2) := by decide +kernel
theorem d_M_form_153 : decode c_M_form 153 = .ok (.iload 6, 2) := by decide +kernel
theorem d_M_form_155 : decode c_M_form 155 = .ok (.iload 5, 2) := by decide +kernel
theorem d_M_form_157 : decode c_M_form 157 = .ok (.if_icmp .gt 37, 3) := by decide +kernel
theorem d_M_form_160 : decode c_M_form 160 = .ok (.aload_n 0, 1) := by decide +kernel
theorem d_M_form_161 : decode c_M_form 161 = .ok (.getfield 23, 3) := by decide +kernel
theorem d_M_form_164 : decode c_M_form 164 = .ok (.iload_n 1, 1) := by decide +kernel
theorem d_M_form_165 : decode c_M_form 165 = .ok (.bipush 13, 2) := by decide +kernel
theorem d_M_form_167 : decode c_M_form 167 = .ok (.imul, 1) := by decide +kernel
theorem d_M_form_168 : decode c_M_form 168 = .ok (.iload 6, 2) := by decide +kernel
theorem d_M_form_170 : decode c_M_form 170 = .ok (.iadd, 1) := by decide +kernel
theorem d_M_form_171 : decode c_M_form 171 = .ok (.aload_n 0, 1) := by decide +kernel
theorem d_M_form_172 : decode c_M_form 172 = .ok (.iload 4, 2) := by decide +kernel
theorem d_M_form_174 : decode c_M_form 174 = .ok (.iload 6, 2) := by decide +kernel
theorem d_M_form_176 : decode c_M_form 176 = .ok (.iadd, 1) := by decide +kernel
theorem d_M_form_177 : decode c_M_form 177 = .ok (.iload 4, 2) := by decide +kernel
theorem d_M_form_179 : decode c_M_form 179 = .ok (.iload 5, 2) := by decide +kernel
theorem d_M_form_181 : decode c_M_form 181 = .ok (.iadd, 1) := by decide +kernel
theorem d_M_form_182 : decode c_M_form 182 = .ok (.iconst 1, 1) := by decide +kernel
theorem d_M_form_183 : decode c_M_form 183 = .ok (.iadd, 1) := by decide +kernel
theorem d_M_form_184 : decode c_M_form 184 = .ok (.invokevirtual 116, 3) := by decide +kernel
theorem d_M_form_187 : decode c_M_form 187 = .ok (.iastore, 1) := by decide +kernel
theorem d_M_form_188 : decode c_M_form 188 = .ok (.iinc 6 1, 3) := by decide +kernel
theorem d_M_form_191 : decode c_M_form 191 = .ok (.goto (-38), 3) := by decide +kernel
theorem d_M_form_194 : decode c_M_form 194 = .ok (.return_, 1) := by decide +kernel
theorem d_M_form_195 : decode c_M_form 195 = .ok (.iinc 4 1, 3) := by decide +kernel
theorem d_M_form_198 : decode c_M_form 198 = .ok (.goto (-172), 3) := by decide +kernel
theorem d_M_form_201 : decode c_M_form 201 = .ok (.aload_n 0, 1) := by decide +kernel
theorem d_M_form_202 : decode c_M_form 202 = .ok (.bipush (-6), 2) := by decide +kernel
theorem d_M_form_204 : decode c_M_form 204 = .ok (.putfield 119, 3) := by decide +kernel
theorem d_M_form_207 : decode c_M_form 207 = .ok (.return_, 1) := by decide +kernel
theorem d_M_topOf_0 : decode c_M_topOf 0 = .ok (.bipush 39, 2) := by decide +kernel
theorem d_M_topOf_2 : decode c_M_topOf 2 = .ok (.istore_n 2, 1) := by decide +kernel
theorem d_M_topOf_3 : decode c_M_topOf 3 = .ok (.iload_n 2, 1) := by decide +kernel
theorem d_M_topOf_4 : decode c_M_topOf 4 = .ok (.ifCond .lt 33, 3) := by decide +kernel
theorem d_M_topOf_7 : decode c_M_topOf 7 = .ok (.iload_n 1, 1) := by decide +kernel
theorem d_M_topOf_8 : decode c_M_topOf 8 = .ok (.ifCond .eq 12, 3) := by decide +kernel
theorem d_M_topOf_11 : decode c_M_topOf 11 = .ok (.aload_n 0, 1) := by decide +kernel
theorem d_M_topOf_12 : decode c_M_topOf 12 = .ok (.getfield 32, 3) := by decide +kernel
theorem d_M_topOf_15 : decode c_M_topOf 15 = .ok (.iload_n 2, 1) := by decide +kernel
theorem d_M_topOf_16 : decode c_M_topOf 16 = .ok (.iaload, 1) := by decide +kernel
theorem d_M_topOf_17 : decode c_M_topOf 17 = .ok (.goto 9, 3) := by decide +kernel
theorem d_M_topOf_20 : decode c_M_topOf 20 = .ok (.aload_n 0, 1) := by decide +kernel
theorem d_M_topOf_21 : decode c_M_topOf 21 = .ok (.getfield 29, 3) := by decide +kernel
theorem d_M_topOf_24 : decode c_M_topOf 24 = .ok (.iload_n 2, 1) := by decide +kernel
theorem d_M_topOf_25 : decode c_M_topOf 25 = .ok (.iaload, 1) := by decide +kernel
theorem d_M_topOf_26 : decode c_M_topOf 26 = .ok (.ifCond .eq 5, 3) := by decide +kernel
theorem d_M_topOf_29 : decode c_M_topOf 29 = .ok (.iload_n 2, 1) := by decide +kernel
theorem d_M_topOf_30 : decode c_M_topOf 30 = .ok (.ireturn, 1) := by decide +kernel
theorem d_M_topOf_31 : decode c_M_topOf 31 = .ok (.iinc 2 (-1), 3) := by decide +kernel
theorem d_M_topOf_34 : decode c_M_topOf 34 = .ok (.goto (-31), 3) := by decide +kernel
theorem d_M_topOf_37 : decode c_M_topOf 37 = .ok (.iconst (-1), 1) := by decide +kernel
theorem d_M_topOf_38 : decode c_M_topOf 38 = .ok (.ireturn, 1) := by decide +kernel
theorem d_M_constant_0 : decode c_M_constant 0 = .ok (.iconst 0, 1) := by decide +kernel
theorem d_M_constant_1 : decode c_M_constant 1 = .ok (.istore_n 3, 1) := by decide +kernel
theorem d_M_constant_2 : decode c_M_constant 2 = .ok (.iload_n 3, 1) := by decide +kernel
theorem d_M_constant_3 : decode c_M_constant 3 = .ok (.bipush 13, 2) := by decide +kernel
theorem d_M_constant_5 : decode c_M_constant 5 = .ok (.if_icmp .ge 33, 3) := by decide +kernel
theorem d_M_constant_8 : decode c_M_constant 8 = .ok (.aload_n 0, 1) := by decide +kernel
theorem d_M_constant_9 : decode c_M_constant 9 = .ok (.getfield 23, 3) := by decide +kernel
theorem d_M_constant_12 : decode c_M_constant 12 = .ok (.iload_n 1, 1) := by decide +kernel
theorem d_M_constant_13 : decode c_M_constant 13 = .ok (.bipush 13, 2) := by decide +kernel
theorem d_M_constant_15 : decode c_M_constant 15 = .ok (.imul, 1) := by decide +kernel
theorem d_M_constant_16 : decode c_M_constant 16 = .ok (.iload_n 3, 1) := by decide +kernel
theorem d_M_constant_17 : decode c_M_constant 17 = .ok (.iadd, 1) := by decide +kernel
theorem d_M_constant_18 : decode c_M_constant 18 = .ok (.iconst 0, 1) := by decide +kernel
theorem d_M_constant_19 : decode c_M_constant 19 = .ok (.iastore, 1) := by decide +kernel
theorem d_M_constant_20 : decode c_M_constant 20 = .ok (.aload_n 0, 1) := by decide +kernel
theorem d_M_constant_21 : decode c_M_constant 21 = .ok (.getfield 26, 3) := by decide +kernel
theorem d_M_constant_24 : decode c_M_constant 24 = .ok (.iload_n 1, 1) := by decide +kernel
theorem d_M_constant_25 : decode c_M_constant 25 = .ok (.bipush 13, 2) := by decide +kernel
theorem d_M_constant_27 : decode c_M_constant 27 = .ok (.imul, 1) := by decide +kernel
theorem d_M_constant_28 : decode c_M_constant 28 = .ok (.iload_n 3, 1) := by decide +kernel
theorem d_M_constant_29 : decode c_M_constant 29 = .ok (.iadd, 1) := by decide +kernel
theorem d_M_constant_30 : decode c_M_constant 30 = .ok (.iconst 0, 1) := by decide +kernel
theorem d_M_constant_31 : decode c_M_constant 31 = .ok (.iastore, 1) := by decide +kernel
theorem d_M_constant_32 : decode c_M_constant 32 = .ok (.iinc 3 1, 3) := by decide +kernel
theorem d_M_constant_35 : decode c_M_constant 35 = .ok (.goto (-33), 3) := by decide +kernel
theorem d_M_constant_38 : decode c_M_constant 38 = .ok (.aload_n 0, 1) := by decide +kernel
theorem d_M_constant_39 : decode c_M_constant 39 = .ok (.getfield 23, 3) := by decide +kernel
theorem d_M_constant_42 : decode c_M_constant 42 = .ok (.iload_n 1, 1) := by decide +kernel
theorem d_M_constant_43 : decode c_M_constant 43 = .ok (.bipush 13, 2) := by decide +kernel
theorem d_M_constant_45 : decode c_M_constant 45 = .ok (.imul, 1) := by decide +kernel
theorem d_M_constant_46 : decode c_M_constant 46 = .ok (.iload_n 2, 1) := by decide +kernel
theorem d_M_constant_47 : decode c_M_constant 47 = .ok (.iastore, 1) := by decide +kernel
theorem d_M_constant_48 : decode c_M_constant 48 = .ok (.aload_n 0, 1) := by decide +kernel
theorem d_M_constant_49 : decode c_M_constant 49 = .ok (.getfield 26, 3) := by decide +kernel
theorem d_M_constant_52 : decode c_M_constant 52 = .ok (.iload_n 1, 1) := by decide +kernel
theorem d_M_constant_53 : decode c_M_constant 53 = .ok (.bipush 13, 2) := by decide +kernel
theorem d_M_constant_55 : decode c_M_constant 55 = .ok (.imul, 1) := by decide +kernel
theorem d_M_constant_56 : decode c_M_constant 56 = .ok (.iconst 1, 1) := by decide +kernel
theorem d_M_constant_57 : decode c_M_constant 57 = .ok (.iastore, 1) := by decide +kernel
theorem d_M_constant_58 : decode c_M_constant 58 = .ok (.return_, 1) := by decide +kernel
theorem d_M_solve_0 : decode c_M_solve 0 = .ok (.iload_n 1, 1) := by decide +kernel
theorem d_M_solve_1 : decode c_M_solve 1 = .ok (.iload_n 2, 1) := by decide +kernel
theorem d_M_solve_2 : decode c_M_solve 2 = .ok (.iadd, 1) := by decide +kernel
theorem d_M_solve_3 : decode c_M_solve 3 = .ok (.iconst 1, 1) := by decide +kernel
theorem d_M_solve_4 : decode c_M_solve 4 = .ok (.iadd, 1) := by decide +kernel
theorem d_M_solve_5 : decode c_M_solve 5 = .ok (.istore 4, 2) := by decide +kernel
theorem d_M_solve_7 : decode c_M_solve 7 = .ok (.iconst 0, 1) := by decide +kernel
theorem d_M_solve_8 : decode c_M_solve 8 = .ok (.istore 5, 2) := by decide +kernel
theorem d_M_solve_10 : decode c_M_solve 10 = .ok (.iload 5, 2) := by decide +kernel
theorem d_M_solve_12 : decode c_M_solve 12 = .ok (.iload_n 3, 1) := by decide +kernel
theorem d_M_solve_13 : decode c_M_solve 13 = .ok (.bipush 26, 2) := by decide +kernel
theorem d_M_solve_15 : decode c_M_solve 15 = .ok (.imul, 1) := by decide +kernel
theorem d_M_solve_16 : decode c_M_solve 16 = .ok (.if_icmp .ge 148, 3) := by decide +kernel
theorem d_M_solve_19 : decode c_M_solve 19 = .ok (.iload 5, 2) := by decide +kernel
theorem d_M_solve_21 : decode c_M_solve 21 = .ok (.bipush 26, 2) := by decide +kernel
theorem d_M_solve_23 : decode c_M_solve 23 = .ok (.idiv, 1) := by decide +kernel
theorem d_M_solve_24 : decode c_M_solve 24 = .ok (.istore 6, 2) := by decide +kernel
theorem d_M_solve_26 : decode c_M_solve 26 = .ok (.iload 5, 2) := by decide +kernel
theorem d_M_solve_28 : decode c_M_solve 28 = .ok (.bipush 26, 2) := by decide +kernel
theorem d_M_solve_30 : decode c_M_solve 30 = .ok (.irem, 1) := by decide +kernel
theorem d_M_solve_31 : decode c_M_solve 31 = .ok (.istore 7, 2) := by decide +kernel
theorem d_M_solve_33 : decode c_M_solve 33 = .ok (.iconst 0, 1) := by decide +kernel
theorem d_M_solve_34 : decode c_M_solve 34 = .ok (.istore 8, 2) := by decide +kernel
theorem d_M_solve_36 : decode c_M_solve 36 = .ok (.iload 7, 2) := by decide +kernel
theorem d_M_solve_38 : decode c_M_solve 38 = .ok (.iload_n 1, 1) := by decide +kernel
theorem d_M_solve_39 : decode c_M_solve 39 = .ok (.if_icmp .ge 29, 3) := by decide +kernel
theorem d_M_solve_42 : decode c_M_solve 42 = .ok (.iload 6, 2) := by decide +kernel
theorem d_M_solve_44 : decode c_M_solve 44 = .ok (.iload 7, 2) := by decide +kernel
theorem d_M_solve_46 : decode c_M_solve 46 = .ok (.if_icmp .lt 16, 3) := by decide +kernel
theorem d_M_solve_49 : decode c_M_solve 49 = .ok (.aload_n 0, 1) := by decide +kernel
theorem d_M_solve_50 : decode c_M_solve 50 = .ok (.getfield 29, 3) := by decide +kernel
theorem d_M_solve_53 : decode c_M_solve 53 = .ok (.iload 6, 2) := by decide +kernel
theorem d_M_solve_55 : decode c_M_solve 55 = .ok (.iload 7, 2) := by decide +kernel
theorem d_M_solve_57 : decode c_M_solve 57 = .ok (.isub, 1) := by decide +kernel
theorem d_M_solve_58 : decode c_M_solve 58 = .ok (.iaload, 1) := by decide +kernel
theorem d_M_solve_59 : decode c_M_solve 59 = .ok (.goto 4, 3) := by decide +kernel
theorem d_M_solve_62 : decode c_M_solve 62 = .ok (.iconst 0, 1) := by decide +kernel
theorem d_M_solve_63 : decode c_M_solve 63 = .ok (.istore 8, 2) := by decide +kernel
theorem d_M_solve_65 : decode c_M_solve 65 = .ok (.goto 84, 3) := by decide +kernel
theorem d_M_solve_68 : decode c_M_solve 68 = .ok (.iload 7, 2) := by decide +kernel
theorem d_M_solve_70 : decode c_M_solve 70 = .ok (.iload 4, 2) := by decide +kernel
theorem d_M_solve_72 : decode c_M_solve 72 = .ok (.if_icmp .ge 41, 3) := by decide +kernel
theorem d_M_solve_75 : decode c_M_solve 75 = .ok (.iload 6, 2) := by decide +kernel
theorem d_M_solve_77 : decode c_M_solve 77 = .ok (.iload 7, 2) := by decide +kernel
theorem d_M_solve_79 : decode c_M_solve 79 = .ok (.iload_n 1, 1) := by decide +kernel
theorem d_M_solve_80 : decode c_M_solve 80 = .ok (.isub, 1) := by decide +kernel
theorem d_M_solve_81 : decode c_M_solve 81 = .ok (.if_icmp .lt 26, 3) := by decide +kernel
theorem d_M_solve_84 : decode c_M_solve 84 = .ok (.sipush 10007, 3) := by decide +kernel
theorem d_M_solve_87 : decode c_M_solve 87 = .ok (.aload_n 0, 1) := by decide +kernel
theorem d_M_solve_88 : decode c_M_solve 88 = .ok (.getfield 32, 3) := by decide +kernel
theorem d_M_solve_91 : decode c_M_solve 91 = .ok (.iload 6, 2) := by decide +kernel
theorem d_M_solve_93 : decode c_M_solve 93 = .ok (.iload 7, 2) := by decide +kernel
theorem d_M_solve_95 : decode c_M_solve 95 = .ok (.isub, 1) := by decide +kernel
theorem d_M_solve_96 : decode c_M_solve 96 = .ok (.iload_n 1, 1) := by decide +kernel
theorem d_M_solve_97 : decode c_M_solve 97 = .ok (.iadd, 1) := by decide +kernel
theorem d_M_solve_98 : decode c_M_solve 98 = .ok (.iaload, 1) := by decide +kernel
theorem d_M_solve_99 : decode c_M_solve 99 = .ok (.isub, 1) := by decide +kernel
theorem d_M_solve_100 : decode c_M_solve 100 = .ok (.sipush 10007, 3) := by decide +kernel
theorem d_M_solve_103 : decode c_M_solve 103 = .ok (.irem, 1) := by decide +kernel
theorem d_M_solve_104 : decode c_M_solve 104 = .ok (.goto 4, 3) := by decide +kernel
theorem d_M_solve_107 : decode c_M_solve 107 = .ok (.iconst 0, 1) := by decide +kernel
theorem d_M_solve_108 : decode c_M_solve 108 = .ok (.istore 8, 2) := by decide +kernel
theorem d_M_solve_110 : decode c_M_solve 110 = .ok (.goto 39, 3) := by decide +kernel
theorem d_M_solve_113 : decode c_M_solve 113 = .ok (.iload 7, 2) := by decide +kernel
theorem d_M_solve_115 : decode c_M_solve 115 = .ok (.iload 4, 2) := by decide +kernel
theorem d_M_solve_117 : decode c_M_solve 117 = .ok (.if_icmp .ne 32, 3) := by decide +kernel
theorem d_M_solve_120 : decode c_M_solve 120 = .ok (.iload 6, 2) := by decide +kernel
theorem d_M_solve_122 : decode c_M_solve 122 = .ok (.iload_n 1, 1) := by decide +kernel
theorem d_M_solve_123 : decode c_M_solve 123 = .ok (.if_icmp .lt 23, 3) := by decide +kernel
theorem d_M_solve_126 : decode c_M_solve 126 = .ok (.sipush 10007, 3) := by decide +kernel
theorem d_M_solve_129 : decode c_M_solve 129 = .ok (.aload_n 0, 1) := by decide +kernel
theorem d_M_solve_130 : decode c_M_solve 130 = .ok (.getfield 29, 3) := by decide +kernel
theorem d_M_solve_133 : decode c_M_solve 133 = .ok (.iload 6, 2) := by decide +kernel
theorem d_M_solve_135 : decode c_M_solve 135 = .ok (.iload_n 1, 1) := by decide +kernel
theorem d_M_solve_136 : decode c_M_solve 136 = .ok (.isub, 1) := by decide +kernel
theorem d_M_solve_137 : decode c_M_solve 137 = .ok (.iaload, 1) := by decide +kernel
theorem d_M_solve_138 : decode c_M_solve 138 = .ok (.isub, 1) := by decide +kernel
theorem d_M_solve_139 : decode c_M_solve 139 = .ok (.sipush 10007, 3) := by decide +kernel
theorem d_M_solve_142 : decode c_M_solve 142 = .ok (.irem, 1) := by decide +kernel
theorem d_M_solve_143 : decode c_M_solve 143 = .ok (.goto 4, 3) := by decide +kernel
theorem d_M_solve_146 : decode c_M_solve 146 = .ok (.iconst 0, 1) := by decide +kernel
theorem d_M_solve_147 : decode c_M_solve 147 = .ok (.istore 8, 2) := by decide +kernel
theorem d_M_solve_149 : decode c_M_solve 149 = .ok (.aload_n 0, 1) := by decide +kernel
theorem d_M_solve_150 : decode c_M_solve 150 = .ok (.getfield 35, 3) := by decide +kernel
theorem d_M_solve_153 : decode c_M_solve 153 = .ok (.iload 5, 2) := by decide +kernel
theorem d_M_solve_155 : decode c_M_solve 155 = .ok (.iload 8, 2) := by decide +kernel
theorem d_M_solve_157 : decode c_M_solve 157 = .ok (.iastore, 1) := by decide +kernel
theorem d_M_solve_158 : decode c_M_solve 158 = .ok (.iinc 5 1, 3) := by decide +kernel
theorem d_M_solve_161 : decode c_M_solve 161 = .ok (.goto (-151), 3) := by decide +kernel
theorem d_M_solve_164 : decode c_M_solve 164 = .ok (.lconst 0, 1) := by decide +kernel
theorem d_M_solve_165 : decode c_M_solve 165 = .ok (.lstore 5, 2) := by decide +kernel
theorem d_M_solve_167 : decode c_M_solve 167 = .ok (.iconst 0, 1) := by decide +kernel
theorem d_M_solve_168 : decode c_M_solve 168 = .ok (.istore 7, 2) := by decide +kernel
theorem d_M_solve_170 : decode c_M_solve 170 = .ok (.iload 7, 2) := by decide +kernel
theorem d_M_solve_172 : decode c_M_solve 172 = .ok (.iload 4, 2) := by decide +kernel
theorem d_M_solve_174 : decode c_M_solve 174 = .ok (.if_icmp .ge 117, 3) := by decide +kernel
theorem d_M_solve_177 : decode c_M_solve 177 = .ok (.aload_n 0, 1) := by decide +kernel
theorem d_M_solve_178 : decode c_M_solve 178 = .ok (.getfield 38, 3) := by decide +kernel
theorem d_M_solve_181 : decode c_M_solve 181 = .ok (.iload 7, 2) := by decide +kernel
theorem d_M_solve_183 : decode c_M_solve 183 = .ok (.iconst (-1), 1) := by decide +kernel
theorem d_M_solve_184 : decode c_M_solve 184 = .ok (.iastore, 1) := by decide +kernel
theorem d_M_solve_185 : decode c_M_solve 185 = .ok (.iconst 0, 1) := by decide +kernel
theorem d_M_solve_186 : decode c_M_solve 186 = .ok (.istore 8, 2) := by decide +kernel
theorem d_M_solve_188 : decode c_M_solve 188 = .ok (.iload 8, 2) := by decide +kernel
theorem d_M_solve_190 : decode c_M_solve 190 = .ok (.iload_n 3, 1) := by decide +kernel
theorem d_M_solve_191 : decode c_M_solve 191 = .ok (.if_icmp .ge 56, 3) := by decide +kernel
theorem d_M_solve_194 : decode c_M_solve 194 = .ok (.aload_n 0, 1) := by decide +kernel
theorem d_M_solve_195 : decode c_M_solve 195 = .ok (.getfield 38, 3) := by decide +kernel
theorem d_M_solve_198 : decode c_M_solve 198 = .ok (.iload 7, 2) := by decide +kernel
theorem d_M_solve_200 : decode c_M_solve 200 = .ok (.iaload, 1) := by decide +kernel
theorem d_M_solve_201 : decode c_M_solve 201 = .ok (.ifCond .ge 46, 3) := by decide +kernel
theorem d_M_solve_204 : decode c_M_solve 204 = .ok (.aload_n 0, 1) := by decide +kernel
theorem d_M_solve_205 : decode c_M_solve 205 = .ok (.getfield 35, 3) := by decide +kernel
theorem d_M_solve_208 : decode c_M_solve 208 = .ok (.iload 8, 2) := by decide +kernel
theorem d_M_solve_210 : decode c_M_solve 210 = .ok (.bipush 26, 2) := by decide +kernel
theorem d_M_solve_212 : decode c_M_solve 212 = .ok (.imul, 1) := by decide +kernel
theorem d_M_solve_213 : decode c_M_solve 213 = .ok (.iload 7, 2) := by decide +kernel
theorem d_M_solve_215 : decode c_M_solve 215 = .ok (.iadd, 1) := by decide +kernel
theorem d_M_solve_216 : decode c_M_solve 216 = .ok (.iaload, 1) := by decide +kernel
theorem d_M_solve_217 : decode c_M_solve 217 = .ok (.ifCond .eq 24, 3) := by decide +kernel
theorem d_M_solve_220 : decode c_M_solve 220 = .ok (.lload 5, 2) := by decide +kernel
theorem d_M_solve_222 : decode c_M_solve 222 = .ok (.iload 8, 2) := by decide +kernel
theorem d_M_solve_224 : decode c_M_solve 224 = .ok (.lshr, 1) := by decide +kernel
theorem d_M_solve_225 : decode c_M_solve 225 = .ok (.lconst 1, 1) := by decide +kernel
theorem d_M_solve_226 : decode c_M_solve 226 = .ok (.land, 1) := by decide +kernel
theorem d_M_solve_227 : decode c_M_solve 227 = .ok (.lconst 0, 1) := by decide +kernel
theorem d_M_solve_228 : decode c_M_solve 228 = .ok (.lcmp, 1) := by decide +kernel
theorem d_M_solve_229 : decode c_M_solve 229 = .ok (.ifCond .ne 12, 3) := by decide +kernel
theorem d_M_solve_232 : decode c_M_solve 232 = .ok (.aload_n 0, 1) := by decide +kernel
theorem d_M_solve_233 : decode c_M_solve 233 = .ok (.getfield 38, 3) := by decide +kernel
theorem d_M_solve_236 : decode c_M_solve 236 = .ok (.iload 7, 2) := by decide +kernel
theorem d_M_solve_238 : decode c_M_solve 238 = .ok (.iload 8, 2) := by decide +kernel
theorem d_M_solve_240 : decode c_M_solve 240 = .ok (.iastore, 1) := by decide +kernel
theorem d_M_solve_241 : decode c_M_solve 241 = .ok (.iinc 8 1, 3) := by decide +kernel
theorem d_M_solve_244 : decode c_M_solve 244 = .ok (.goto (-56), 3) := by decide +kernel
theorem d_M_solve_247 : decode c_M_solve 247 = .ok (.aload_n 0, 1) := by decide +kernel
theorem d_M_solve_248 : decode c_M_solve 248 = .ok (.getfield 38, 3) := by decide +kernel
theorem d_M_solve_251 : decode c_M_solve 251 = .ok (.iload 7, 2) := by decide +kernel
theorem d_M_solve_253 : decode c_M_solve 253 = .ok (.iaload, 1) := by decide +kernel
theorem d_M_solve_254 : decode c_M_solve 254 = .ok (.ifCond .lt 31, 3) := by decide +kernel
theorem d_M_solve_257 : decode c_M_solve 257 = .ok (.lload 5, 2) := by decide +kernel
theorem d_M_solve_259 : decode c_M_solve 259 = .ok (.lconst 1, 1) := by decide +kernel
theorem d_M_solve_260 : decode c_M_solve 260 = .ok (.aload_n 0, 1) := by decide +kernel
theorem d_M_solve_261 : decode c_M_solve 261 = .ok (.getfield 38, 3) := by decide +kernel
theorem d_M_solve_264 : decode c_M_solve 264 = .ok (.iload 7, 2) := by decide +kernel
theorem d_M_solve_266 : decode c_M_solve 266 = .ok (.iaload, 1) := by decide +kernel
theorem d_M_solve_267 : decode c_M_solve 267 = .ok (.lshl, 1) := by decide +kernel
theorem d_M_solve_268 : decode c_M_solve 268 = .ok (.lor, 1) := by decide +kernel
theorem d_M_solve_269 : decode c_M_solve 269 = .ok (.lstore 5, 2) := by decide +kernel
theorem d_M_solve_271 : decode c_M_solve 271 = .ok (.aload_n 0, 1) := by decide +kernel
theorem d_M_solve_272 : decode c_M_solve 272 = .ok (.aload_n 0, 1) := by decide +kernel
theorem d_M_solve_273 : decode c_M_solve 273 = .ok (.getfield 38, 3) := by decide +kernel
theorem d_M_solve_276 : decode c_M_solve 276 = .ok (.iload 7, 2) := by decide +kernel
theorem d_M_solve_278 : decode c_M_solve 278 = .ok (.iaload, 1) := by decide +kernel
theorem d_M_solve_279 : decode c_M_solve 279 = .ok (.iload 7, 2) := by decide +kernel
theorem d_M_solve_281 : decode c_M_solve 281 = .ok (.iload_n 3, 1) := by decide +kernel
theorem d_M_solve_282 : decode c_M_solve 282 = .ok (.invokevirtual 94, 3) := by decide +kernel
theorem d_M_solve_285 : decode c_M_solve 285 = .ok (.iinc 7 1, 3) := by decide +kernel
theorem d_M_solve_288 : decode c_M_solve 288 = .ok (.goto (-118), 3) := by decide +kernel
theorem d_M_solve_291 : decode c_M_solve 291 = .ok (.iconst 0, 1) := by decide +kernel
theorem d_M_solve_292 : decode c_M_solve 292 = .ok (.istore 7, 2) := by decide +kernel
theorem d_M_solve_294 : decode c_M_solve 294 = .ok (.iload 7, 2) := by decide +kernel
theorem d_M_solve_296 : decode c_M_solve 296 = .ok (.iload_n 3, 1) := by decide +kernel
theorem d_M_solve_297 : decode c_M_solve 297 = .ok (.if_icmp .ge 39, 3) := by decide +kernel
theorem d_M_solve_300 : decode c_M_solve 300 = .ok (.lload 5, 2) := by decide +kernel
theorem d_M_solve_302 : decode c_M_solve 302 = .ok (.iload 7, 2) := by decide +kernel
theorem d_M_solve_304 : decode c_M_solve 304 = .ok (.lshr, 1) := by decide +kernel
theorem d_M_solve_305 : decode c_M_solve 305 = .ok (.lconst 1, 1) := by decide +kernel
theorem d_M_solve_306 : decode c_M_solve 306 = .ok (.land, 1) := by decide +kernel
theorem d_M_solve_307 : decode c_M_solve 307 = .ok (.lconst 0, 1) := by decide +kernel
theorem d_M_solve_308 : decode c_M_solve 308 = .ok (.lcmp, 1) := by decide +kernel
theorem d_M_solve_309 : decode c_M_solve 309 = .ok (.ifCond .ne 21, 3) := by decide +kernel
theorem d_M_solve_312 : decode c_M_solve 312 = .ok (.aload_n 0, 1) := by decide +kernel
theorem d_M_solve_313 : decode c_M_solve 313 = .ok (.getfield 35, 3) := by decide +kernel
theorem d_M_solve_316 : decode c_M_solve 316 = .ok (.iload 7, 2) := by decide +kernel
theorem d_M_solve_318 : decode c_M_solve 318 = .ok (.bipush 26, 2) := by decide +kernel
theorem d_M_solve_320 : decode c_M_solve 320 = .ok (.imul, 1) := by decide +kernel
theorem d_M_solve_321 : decode c_M_solve 321 = .ok (.iload 4, 2) := by decide +kernel
theorem d_M_solve_323 : decode c_M_solve 323 = .ok (.iadd, 1) := by decide +kernel
theorem d_M_solve_324 : decode c_M_solve 324 = .ok (.iaload, 1) := by decide +kernel
theorem d_M_solve_325 : decode c_M_solve 325 = .ok (.ifCond .eq 5, 3) := by decide +kernel
theorem d_M_solve_328 : decode c_M_solve 328 = .ok (.iconst 0, 1) := by decide +kernel
theorem d_M_solve_329 : decode c_M_solve 329 = .ok (.ireturn, 1) := by decide +kernel
theorem d_M_solve_330 : decode c_M_solve 330 = .ok (.iinc 7 1, 3) := by decide +kernel
theorem d_M_solve_333 : decode c_M_solve 333 = .ok (.goto (-39), 3) := by decide +kernel
theorem d_M_solve_336 : decode c_M_solve 336 = .ok (.iconst 1, 1) := by decide +kernel
theorem d_M_solve_337 : decode c_M_solve 337 = .ok (.ireturn, 1) := by decide +kernel
theorem d_M_eliminate_0 : decode c_M_eliminate 0 = .ok (.aload_n 0, 1) := by decide +kernel
theorem d_M_eliminate_1 : decode c_M_eliminate 1 = .ok (.aload_n 0, 1) := by decide +kernel
theorem d_M_eliminate_2 : decode c_M_eliminate 2 = .ok (.getfield 35, 3) := by decide +kernel
theorem d_M_eliminate_5 : decode c_M_eliminate 5 = .ok (.iload_n 1, 1) := by decide +kernel
theorem d_M_eliminate_6 : decode c_M_eliminate 6 = .ok (.bipush 26, 2) := by decide +kernel
theorem d_M_eliminate_8 : decode c_M_eliminate 8 = .ok (.imul, 1) := by decide +kernel
theorem d_M_eliminate_9 : decode c_M_eliminate 9 = .ok (.iload_n 2, 1) := by decide +kernel
theorem d_M_eliminate_10 : decode c_M_eliminate 10 = .ok (.iadd, 1) := by decide +kernel
theorem d_M_eliminate_11 : decode c_M_eliminate 11 = .ok (.iaload, 1) := by decide +kernel
theorem d_M_eliminate_12 : decode c_M_eliminate 12 = .ok (.invokevirtual 98, 3) := by decide +kernel
theorem d_M_eliminate_15 : decode c_M_eliminate 15 = .ok (.istore 4, 2) := by decide +kernel
theorem d_M_eliminate_17 : decode c_M_eliminate 17 = .ok (.iconst 0, 1) := by decide +kernel
theorem d_M_eliminate_18 : decode c_M_eliminate 18 = .ok (.istore 5, 2) := by decide +kernel
theorem d_M_eliminate_20 : decode c_M_eliminate 20 = .ok (.iload 5, 2) := by decide +kernel
theorem d_M_eliminate_22 : decode c_M_eliminate 22 = .ok (.bipush 26, 2) := by decide +kernel
theorem d_M_eliminate_24 : decode c_M_eliminate 24 = .ok (.if_icmp .ge 40, 3) := by decide +kernel
theorem d_M_eliminate_27 : decode c_M_eliminate 27 = .ok (.aload_n 0, 1) := by decide +kernel
theorem d_M_eliminate_28 : decode c_M_eliminate 28 = .ok (.getfield 35, 3) := by decide +kernel
theorem d_M_eliminate_31 : decode c_M_eliminate 31 = .ok (.iload_n 1, 1) := by decide +kernel
theorem d_M_eliminate_32 : decode c_M_eliminate 32 = .ok (.bipush 26, 2) := by decide +kernel
theorem d_M_eliminate_34 : decode c_M_eliminate 34 = .ok (.imul, 1) := by decide +kernel
theorem d_M_eliminate_35 : decode c_M_eliminate 35 = .ok (.iload 5, 2) := by decide +kernel
theorem d_M_eliminate_37 : decode c_M_eliminate 37 = .ok (.iadd, 1) := by decide +kernel
theorem d_M_eliminate_38 : decode c_M_eliminate 38 = .ok (.aload_n 0, 1) := by decide +kernel
theorem d_M_eliminate_39 : decode c_M_eliminate 39 = .ok (.getfield 35, 3) := by decide +kernel
theorem d_M_eliminate_42 : decode c_M_eliminate 42 = .ok (.iload_n 1, 1) := by decide +kernel
theorem d_M_eliminate_43 : decode c_M_eliminate 43 = .ok (.bipush 26, 2) := by decide +kernel
theorem d_M_eliminate_45 : decode c_M_eliminate 45 = .ok (.imul, 1) := by decide +kernel
theorem d_M_eliminate_46 : decode c_M_eliminate 46 = .ok (.iload 5, 2) := by decide +kernel
theorem d_M_eliminate_48 : decode c_M_eliminate 48 = .ok (.iadd, 1) := by decide +kernel
theorem d_M_eliminate_49 : decode c_M_eliminate 49 = .ok (.iaload, 1) := by decide +kernel
theorem d_M_eliminate_50 : decode c_M_eliminate 50 = .ok (.iload 4, 2) := by decide +kernel
theorem d_M_eliminate_52 : decode c_M_eliminate 52 = .ok (.imul, 1) := by decide +kernel
theorem d_M_eliminate_53 : decode c_M_eliminate 53 = .ok (.sipush 10007, 3) := by decide +kernel
theorem d_M_eliminate_56 : decode c_M_eliminate 56 = .ok (.irem, 1) := by decide +kernel
theorem d_M_eliminate_57 : decode c_M_eliminate 57 = .ok (.iastore, 1) := by decide +kernel
theorem d_M_eliminate_58 : decode c_M_eliminate 58 = .ok (.iinc 5 1, 3) := by decide +kernel
theorem d_M_eliminate_61 : decode c_M_eliminate 61 = .ok (.goto (-41), 3) := by decide +kernel
theorem d_M_eliminate_64 : decode c_M_eliminate 64 = .ok (.iconst 0, 1) := by decide +kernel
theorem d_M_eliminate_65 : decode c_M_eliminate 65 = .ok (.istore 5, 2) := by decide +kernel
theorem d_M_eliminate_67 : decode c_M_eliminate 67 = .ok (.iload 5, 2) := by decide +kernel
theorem d_M_eliminate_69 : decode c_M_eliminate 69 = .ok (.iload_n 3, 1) := by decide +kernel
theorem d_M_eliminate_70 : decode c_M_eliminate 70 = .ok (.if_icmp .ge 49, 3) := by decide +kernel
theorem d_M_eliminate_73 : decode c_M_eliminate 73 = .ok (.iload 5, 2) := by decide +kernel
theorem d_M_eliminate_75 : decode c_M_eliminate 75 = .ok (.iload_n 1, 1) := by decide +kernel
theorem d_M_eliminate_76 : decode c_M_eliminate 76 = .ok (.if_icmp .eq 37, 3) := by decide +kernel
theorem d_M_eliminate_79 : decode c_M_eliminate 79 = .ok (.aload_n 0, 1) := by decide +kernel
theorem d_M_eliminate_80 : decode c_M_eliminate 80 = .ok (.getfield 35, 3) := by decide +kernel
theorem d_M_eliminate_83 : decode c_M_eliminate 83 = .ok (.iload 5, 2) := by decide +kernel
theorem d_M_eliminate_85 : decode c_M_eliminate 85 = .ok (.bipush 26, 2) := by decide +kernel
theorem d_M_eliminate_87 : decode c_M_eliminate 87 = .ok (.imul, 1) := by decide +kernel
theorem d_M_eliminate_88 : decode c_M_eliminate 88 = .ok (.iload_n 2, 1) := by decide +kernel
theorem d_M_eliminate_89 : decode c_M_eliminate 89 = .ok (.iadd, 1) := by decide +kernel
theorem d_M_eliminate_90 : decode c_M_eliminate 90 = .ok (.iaload, 1) := by decide +kernel
theorem d_M_eliminate_91 : decode c_M_eliminate 91 = .ok (.ifCond .eq 22, 3) := by decide +kernel
theorem d_M_eliminate_94 : decode c_M_eliminate 94 = .ok (.aload_n 0, 1) := by decide +kernel
theorem d_M_eliminate_95 : decode c_M_eliminate 95 = .ok (.iload 5, 2) := by decide +kernel
theorem d_M_eliminate_97 : decode c_M_eliminate 97 = .ok (.iload_n 1, 1) := by decide +kernel
theorem d_M_eliminate_98 : decode c_M_eliminate 98 = .ok (.aload_n 0, 1) := by decide +kernel
theorem d_M_eliminate_99 : decode c_M_eliminate 99 = .ok (.getfield 35, 3) := by decide +kernel
theorem d_M_eliminate_102 : decode c_M_eliminate 102 = .ok (.iload 5, 2) := by decide +kernel
theorem d_M_eliminate_104 : decode c_M_eliminate 104 = .ok (.bipush 26, 2) := by decide +kernel
theorem d_M_eliminate_106 : decode c_M_eliminate 106 = .ok (.imul, 1) := by decide +kernel
theorem d_M_eliminate_107 : decode c_M_eliminate 107 = .ok (.iload_n 2, 1) := by decide +kernel
theorem d_M_eliminate_108 : decode c_M_eliminate 108 = .ok (.iadd, 1) := by decide +kernel
theorem d_M_eliminate_109 : decode c_M_eliminate 109 = .ok (.iaload, 1) := by decide +kernel
theorem d_M_eliminate_110 : decode c_M_eliminate 110 = .ok (.invokevirtual 101, 3) := by decide +kernel
theorem d_M_eliminate_113 : decode c_M_eliminate 113 = .ok (.iinc 5 1, 3) := by decide +kernel
theorem d_M_eliminate_116 : decode c_M_eliminate 116 = .ok (.goto (-49), 3) := by decide +kernel
theorem d_M_eliminate_119 : decode c_M_eliminate 119 = .ok (.return_, 1) := by decide +kernel
theorem d_M_inverse_0 : decode c_M_inverse 0 = .ok (.iconst 1, 1) := by decide +kernel
theorem d_M_inverse_1 : decode c_M_inverse 1 = .ok (.istore_n 2, 1) := by decide +kernel
theorem d_M_inverse_2 : decode c_M_inverse 2 = .ok (.bipush 13, 2) := by decide +kernel
theorem d_M_inverse_4 : decode c_M_inverse 4 = .ok (.istore_n 3, 1) := by decide +kernel
theorem d_M_inverse_5 : decode c_M_inverse 5 = .ok (.iload_n 3, 1) := by decide +kernel
theorem d_M_inverse_6 : decode c_M_inverse 6 = .ok (.ifCond .lt 35, 3) := by decide +kernel
theorem d_M_inverse_9 : decode c_M_inverse 9 = .ok (.iload_n 2, 1) := by decide +kernel
theorem d_M_inverse_10 : decode c_M_inverse 10 = .ok (.iload_n 2, 1) := by decide +kernel
theorem d_M_inverse_11 : decode c_M_inverse 11 = .ok (.imul, 1) := by decide +kernel
theorem d_M_inverse_12 : decode c_M_inverse 12 = .ok (.sipush 10007, 3) := by decide +kernel
theorem d_M_inverse_15 : decode c_M_inverse 15 = .ok (.irem, 1) := by decide +kernel
theorem d_M_inverse_16 : decode c_M_inverse 16 = .ok (.istore_n 2, 1) := by decide +kernel
theorem d_M_inverse_17 : decode c_M_inverse 17 = .ok (.sipush 10005, 3) := by decide +kernel
theorem d_M_inverse_20 : decode c_M_inverse 20 = .ok (.iload_n 3, 1) := by decide +kernel
theorem d_M_inverse_21 : decode c_M_inverse 21 = .ok (.ishr, 1) := by decide +kernel
theorem d_M_inverse_22 : decode c_M_inverse 22 = .ok (.iconst 1, 1) := by decide +kernel
theorem d_M_inverse_23 : decode c_M_inverse 23 = .ok (.iand, 1) := by decide +kernel
theorem d_M_inverse_24 : decode c_M_inverse 24 = .ok (.ifCond .eq 11, 3) := by decide +kernel
theorem d_M_inverse_27 : decode c_M_inverse 27 = .ok (.iload_n 2, 1) := by decide +kernel
theorem d_M_inverse_28 : decode c_M_inverse 28 = .ok (.iload_n 1, 1) := by decide +kernel
theorem d_M_inverse_29 : decode c_M_inverse 29 = .ok (.imul, 1) := by decide +kernel
theorem d_M_inverse_30 : decode c_M_inverse 30 = .ok (.sipush 10007, 3) := by decide +kernel
theorem d_M_inverse_33 : decode c_M_inverse 33 = .ok (.irem, 1) := by decide +kernel
theorem d_M_inverse_34 : decode c_M_inverse 34 = .ok (.istore_n 2, 1) := by decide +kernel
theorem d_M_inverse_35 : decode c_M_inverse 35 = .ok (.iinc 3 (-1), 3) := by decide +kernel
theorem d_M_inverse_38 : decode c_M_inverse 38 = .ok (.goto (-33), 3) := by decide +kernel
theorem d_M_inverse_41 : decode c_M_inverse 41 = .ok (.iload_n 2, 1) := by decide +kernel
theorem d_M_inverse_42 : decode c_M_inverse 42 = .ok (.ireturn, 1) := by decide +kernel
theorem d_M_subtract_0 : decode c_M_subtract 0 = .ok (.iconst 0, 1) := by decide +kernel
theorem d_M_subtract_1 : decode c_M_subtract 1 = .ok (.istore 4, 2) := by decide +kernel
theorem d_M_subtract_3 : decode c_M_subtract 3 = .ok (.iload 4, 2) := by decide +kernel
theorem d_M_subtract_5 : decode c_M_subtract 5 = .ok (.bipush 26, 2) := by decide +kernel
theorem d_M_subtract_7 : decode c_M_subtract 7 = .ok (.if_icmp .ge 56, 3) := by decide +kernel
theorem d_M_subtract_10 : decode c_M_subtract 10 = .ok (.aload_n 0, 1) := by decide +kernel
theorem d_M_subtract_11 : decode c_M_subtract 11 = .ok (.getfield 35, 3) := by decide +kernel
theorem d_M_subtract_14 : decode c_M_subtract 14 = .ok (.iload_n 1, 1) := by decide +kernel
theorem d_M_subtract_15 : decode c_M_subtract 15 = .ok (.bipush 26, 2) := by decide +kernel
theorem d_M_subtract_17 : decode c_M_subtract 17 = .ok (.imul, 1) := by decide +kernel
theorem d_M_subtract_18 : decode c_M_subtract 18 = .ok (.iload 4, 2) := by decide +kernel
theorem d_M_subtract_20 : decode c_M_subtract 20 = .ok (.iadd, 1) := by decide +kernel
theorem d_M_subtract_21 : decode c_M_subtract 21 = .ok (.aload_n 0, 1) := by decide +kernel
theorem d_M_subtract_22 : decode c_M_subtract 22 = .ok (.getfield 35, 3) := by decide +kernel
theorem d_M_subtract_25 : decode c_M_subtract 25 = .ok (.iload_n 1, 1) := by decide +kernel
theorem d_M_subtract_26 : decode c_M_subtract 26 = .ok (.bipush 26, 2) := by decide +kernel
theorem d_M_subtract_28 : decode c_M_subtract 28 = .ok (.imul, 1) := by decide +kernel
theorem d_M_subtract_29 : decode c_M_subtract 29 = .ok (.iload 4, 2) := by decide +kernel
theorem d_M_subtract_31 : decode c_M_subtract 31 = .ok (.iadd, 1) := by decide +kernel
theorem d_M_subtract_32 : decode c_M_subtract 32 = .ok (.iaload, 1) := by decide +kernel
theorem d_M_subtract_33 : decode c_M_subtract 33 = .ok (.sipush 10007, 3) := by decide +kernel
theorem d_M_subtract_36 : decode c_M_subtract 36 = .ok (.iload_n 3, 1) := by decide +kernel
theorem d_M_subtract_37 : decode c_M_subtract 37 = .ok (.isub, 1) := by decide +kernel
theorem d_M_subtract_38 : decode c_M_subtract 38 = .ok (.aload_n 0, 1) := by decide +kernel
theorem d_M_subtract_39 : decode c_M_subtract 39 = .ok (.getfield 35, 3) := by decide +kernel
theorem d_M_subtract_42 : decode c_M_subtract 42 = .ok (.iload_n 2, 1) := by decide +kernel
theorem d_M_subtract_43 : decode c_M_subtract 43 = .ok (.bipush 26, 2) := by decide +kernel
theorem d_M_subtract_45 : decode c_M_subtract 45 = .ok (.imul, 1) := by decide +kernel
theorem d_M_subtract_46 : decode c_M_subtract 46 = .ok (.iload 4, 2) := by decide +kernel
theorem d_M_subtract_48 : decode c_M_subtract 48 = .ok (.iadd, 1) := by decide +kernel
theorem d_M_subtract_49 : decode c_M_subtract 49 = .ok (.iaload, 1) := by decide +kernel
theorem d_M_subtract_50 : decode c_M_subtract 50 = .ok (.imul, 1) := by decide +kernel
theorem d_M_subtract_51 : decode c_M_subtract 51 = .ok (.iadd, 1) := by decide +kernel
theorem d_M_subtract_52 : decode c_M_subtract 52 = .ok (.sipush 10007, 3) := by decide +kernel
theorem d_M_subtract_55 : decode c_M_subtract 55 = .ok (.irem, 1) := by decide +kernel
theorem d_M_subtract_56 : decode c_M_subtract 56 = .ok (.iastore, 1) := by decide +kernel
theorem d_M_subtract_57 : decode c_M_subtract 57 = .ok (.iinc 4 1, 3) := by decide +kernel
theorem d_M_subtract_60 : decode c_M_subtract 60 = .ok (.goto (-57), 3) := by decide +kernel
theorem d_M_subtract_63 : decode c_M_subtract 63 = .ok (.return_, 1) := by decide +kernel
theorem d_M_unknown_0 : decode c_M_unknown 0 = .ok (.aload_n 0, 1) := by decide +kernel
theorem d_M_unknown_1 : decode c_M_unknown 1 = .ok (.getfield 38, 3) := by decide +kernel
theorem d_M_unknown_4 : decode c_M_unknown 4 = .ok (.iload_n 1, 1) := by decide +kernel
theorem d_M_unknown_5 : decode c_M_unknown 5 = .ok (.iaload, 1) := by decide +kernel
theorem d_M_unknown_6 : decode c_M_unknown 6 = .ok (.ifCond .ge 7, 3) := by decide +kernel
theorem d_M_unknown_9 : decode c_M_unknown 9 = .ok (.iconst 0, 1) := by decide +kernel
theorem d_M_unknown_10 : decode c_M_unknown 10 = .ok (.goto 19, 3) := by decide +kernel
theorem d_M_unknown_13 : decode c_M_unknown 13 = .ok (.aload_n 0, 1) := by decide +kernel
theorem d_M_unknown_14 : decode c_M_unknown 14 = .ok (.getfield 35, 3) := by decide +kernel
theorem d_M_unknown_17 : decode c_M_unknown 17 = .ok (.aload_n 0, 1) := by decide +kernel
theorem d_M_unknown_18 : decode c_M_unknown 18 = .ok (.getfield 38, 3) := by decide +kernel
theorem d_M_unknown_21 : decode c_M_unknown 21 = .ok (.iload_n 1, 1) := by decide +kernel
theorem d_M_unknown_22 : decode c_M_unknown 22 = .ok (.iaload, 1) := by decide +kernel
theorem d_M_unknown_23 : decode c_M_unknown 23 = .ok (.bipush 26, 2) := by decide +kernel
theorem d_M_unknown_25 : decode c_M_unknown 25 = .ok (.imul, 1) := by decide +kernel
theorem d_M_unknown_26 : decode c_M_unknown 26 = .ok (.iload_n 2, 1) := by decide +kernel
theorem d_M_unknown_27 : decode c_M_unknown 27 = .ok (.iadd, 1) := by decide +kernel
theorem d_M_unknown_28 : decode c_M_unknown 28 = .ok (.iaload, 1) := by decide +kernel
theorem d_M_unknown_29 : decode c_M_unknown 29 = .ok (.ireturn, 1) := by decide +kernel
theorem d_M_copy_0 : decode c_M_copy 0 = .ok (.iconst 0, 1) := by decide +kernel
theorem d_M_copy_1 : decode c_M_copy 1 = .ok (.istore_n 3, 1) := by decide +kernel
theorem d_M_copy_2 : decode c_M_copy 2 = .ok (.iload_n 3, 1) := by decide +kernel
theorem d_M_copy_3 : decode c_M_copy 3 = .ok (.bipush 13, 2) := by decide +kernel
theorem d_M_copy_5 : decode c_M_copy 5 = .ok (.if_icmp .ge 53, 3) := by decide +kernel
theorem d_M_copy_8 : decode c_M_copy 8 = .ok (.aload_n 0, 1) := by decide +kernel
theorem d_M_copy_9 : decode c_M_copy 9 = .ok (.getfield 23, 3) := by decide +kernel
theorem d_M_copy_12 : decode c_M_copy 12 = .ok (.iload_n 2, 1) := by decide +kernel
theorem d_M_copy_13 : decode c_M_copy 13 = .ok (.bipush 13, 2) := by decide +kernel
theorem d_M_copy_15 : decode c_M_copy 15 = .ok (.imul, 1) := by decide +kernel
theorem d_M_copy_16 : decode c_M_copy 16 = .ok (.iload_n 3, 1) := by decide +kernel
theorem d_M_copy_17 : decode c_M_copy 17 = .ok (.iadd, 1) := by decide +kernel
theorem d_M_copy_18 : decode c_M_copy 18 = .ok (.aload_n 0, 1) := by decide +kernel
theorem d_M_copy_19 : decode c_M_copy 19 = .ok (.getfield 23, 3) := by decide +kernel
theorem d_M_copy_22 : decode c_M_copy 22 = .ok (.iload_n 1, 1) := by decide +kernel
theorem d_M_copy_23 : decode c_M_copy 23 = .ok (.bipush 13, 2) := by decide +kernel
theorem d_M_copy_25 : decode c_M_copy 25 = .ok (.imul, 1) := by decide +kernel
theorem d_M_copy_26 : decode c_M_copy 26 = .ok (.iload_n 3, 1) := by decide +kernel
theorem d_M_copy_27 : decode c_M_copy 27 = .ok (.iadd, 1) := by decide +kernel
theorem d_M_copy_28 : decode c_M_copy 28 = .ok (.iaload, 1) := by decide +kernel
theorem d_M_copy_29 : decode c_M_copy 29 = .ok (.iastore, 1) := by decide +kernel
theorem d_M_copy_30 : decode c_M_copy 30 = .ok (.aload_n 0, 1) := by decide +kernel
theorem d_M_copy_31 : decode c_M_copy 31 = .ok (.getfield 26, 3) := by decide +kernel
theorem d_M_copy_34 : decode c_M_copy 34 = .ok (.iload_n 2, 1) := by decide +kernel
theorem d_M_copy_35 : decode c_M_copy 35 = .ok (.bipush 13, 2) := by decide +kernel
theorem d_M_copy_37 : decode c_M_copy 37 = .ok (.imul, 1) := by decide +kernel
theorem d_M_copy_38 : decode c_M_copy 38 = .ok (.iload_n 3, 1) := by decide +kernel
theorem d_M_copy_39 : decode c_M_copy 39 = .ok (.iadd, 1) := by decide +kernel
theorem d_M_copy_40 : decode c_M_copy 40 = .ok (.aload_n 0, 1) := by decide +kernel
theorem d_M_copy_41 : decode c_M_copy 41 = .ok (.getfield 26, 3) := by decide +kernel
theorem d_M_copy_44 : decode c_M_copy 44 = .ok (.iload_n 1, 1) := by decide +kernel
theorem d_M_copy_45 : decode c_M_copy 45 = .ok (.bipush 13, 2) := by decide +kernel
theorem d_M_copy_47 : decode c_M_copy 47 = .ok (.imul, 1) := by decide +kernel
theorem d_M_copy_48 : decode c_M_copy 48 = .ok (.iload_n 3, 1) := by decide +kernel
theorem d_M_copy_49 : decode c_M_copy 49 = .ok (.iadd, 1) := by decide +kernel
theorem d_M_copy_50 : decode c_M_copy 50 = .ok (.iaload, 1) := by decide +kernel
theorem d_M_copy_51 : decode c_M_copy 51 = .ok (.iastore, 1) := by decide +kernel
theorem d_M_copy_52 : decode c_M_copy 52 = .ok (.iinc 3 1, 3) := by decide +kernel
theorem d_M_copy_55 : decode c_M_copy 55 = .ok (.goto (-53), 3) := by decide +kernel
theorem d_M_copy_58 : decode c_M_copy 58 = .ok (.return_, 1) := by decide +kernel
theorem d_M_closed_0 : decode c_M_closed 0 = .ok (.aload_n 0, 1) := by decide +kernel
theorem d_M_closed_1 : decode c_M_closed 1 = .ok (.invokevirtual 152, 3) := by decide +kernel
theorem d_M_closed_4 : decode c_M_closed 4 = .ok (.bipush 44, 2) := by decide +kernel
theorem d_M_closed_6 : decode c_M_closed 6 = .ok (.aload_n 0, 1) := by decide +kernel
theorem d_M_closed_7 : decode c_M_closed 7 = .ok (.getfield 85, 3) := by decide +kernel
theorem d_M_closed_10 : decode c_M_closed 10 = .ok (.iadd, 1) := by decide +kernel
theorem d_M_closed_11 : decode c_M_closed 11 = .ok (.istore_n 1, 1) := by decide +kernel
theorem d_M_closed_12 : decode c_M_closed 12 = .ok (.aload_n 0, 1) := by decide +kernel
theorem d_M_closed_13 : decode c_M_closed 13 = .ok (.getfield 119, 3) := by decide +kernel
theorem d_M_closed_16 : decode c_M_closed 16 = .ok (.ifCond .eq 4, 3) := by decide +kernel
theorem d_M_closed_19 : decode c_M_closed 19 = .ok (.return_, 1) := by decide +kernel
theorem d_M_closed_20 : decode c_M_closed 20 = .ok (.aload_n 0, 1) := by decide +kernel
theorem d_M_closed_21 : decode c_M_closed 21 = .ok (.getfield 41, 3) := by decide +kernel
theorem d_M_closed_24 : decode c_M_closed 24 = .ok (.aload_n 0, 1) := by decide +kernel
theorem d_M_closed_25 : decode c_M_closed 25 = .ok (.getfield 85, 3) := by decide +kernel
theorem d_M_closed_28 : decode c_M_closed 28 = .ok (.iaload, 1) := by decide +kernel
theorem d_M_closed_29 : decode c_M_closed 29 = .ok (.iconst 2, 1) := by decide +kernel
theorem d_M_closed_30 : decode c_M_closed 30 = .ok (.if_icmp .ne 13, 3) := by decide +kernel
theorem d_M_closed_33 : decode c_M_closed 33 = .ok (.aload_n 0, 1) := by decide +kernel
theorem d_M_closed_34 : decode c_M_closed 34 = .ok (.iload_n 1, 1) := by decide +kernel
theorem d_M_closed_35 : decode c_M_closed 35 = .ok (.bipush 71, 2) := by decide +kernel
theorem d_M_closed_37 : decode c_M_closed 37 = .ok (.invokevirtual 155, 3) := by decide +kernel
theorem d_M_closed_40 : decode c_M_closed 40 = .ok (.goto 40, 3) := by decide +kernel
theorem d_M_closed_43 : decode c_M_closed 43 = .ok (.aload_n 0, 1) := by decide +kernel
theorem d_M_closed_44 : decode c_M_closed 44 = .ok (.getfield 41, 3) := by decide +kernel
theorem d_M_closed_47 : decode c_M_closed 47 = .ok (.aload_n 0, 1) := by decide +kernel
theorem d_M_closed_48 : decode c_M_closed 48 = .ok (.getfield 85, 3) := by decide +kernel
theorem d_M_closed_51 : decode c_M_closed 51 = .ok (.iaload, 1) := by decide +kernel
theorem d_M_closed_52 : decode c_M_closed 52 = .ok (.iconst 4, 1) := by decide +kernel
theorem d_M_closed_53 : decode c_M_closed 53 = .ok (.if_icmp .ne 20, 3) := by decide +kernel
theorem d_M_closed_56 : decode c_M_closed 56 = .ok (.aload_n 0, 1) := by decide +kernel
theorem d_M_closed_57 : decode c_M_closed 57 = .ok (.bipush 62, 2) := by decide +kernel
theorem d_M_closed_59 : decode c_M_closed 59 = .ok (.aload_n 0, 1) := by decide +kernel
theorem d_M_closed_60 : decode c_M_closed 60 = .ok (.getfield 85, 3) := by decide +kernel
theorem d_M_closed_63 : decode c_M_closed 63 = .ok (.iadd, 1) := by decide +kernel
theorem d_M_closed_64 : decode c_M_closed 64 = .ok (.iload_n 1, 1) := by decide +kernel
theorem d_M_closed_65 : decode c_M_closed 65 = .ok (.bipush 71, 2) := by decide +kernel
theorem d_M_closed_67 : decode c_M_closed 67 = .ok (.invokevirtual 158, 3) := by decide +kernel
theorem d_M_closed_70 : decode c_M_closed 70 = .ok (.goto 10, 3) := by decide +kernel
theorem d_M_closed_73 : decode c_M_closed 73 = .ok (.aload_n 0, 1) := by decide +kernel
theorem d_M_closed_74 : decode c_M_closed 74 = .ok (.iload_n 1, 1) := by decide +kernel
theorem d_M_closed_75 : decode c_M_closed 75 = .ok (.bipush 71, 2) := by decide +kernel
theorem d_M_closed_77 : decode c_M_closed 77 = .ok (.invokevirtual 137, 3) := by decide +kernel
theorem d_M_closed_80 : decode c_M_closed 80 = .ok (.aload_n 0, 1) := by decide +kernel
theorem d_M_closed_81 : decode c_M_closed 81 = .ok (.dup, 1) := by decide +kernel
theorem d_M_closed_82 : decode c_M_closed 82 = .ok (.getfield 85, 3) := by decide +kernel
theorem d_M_closed_85 : decode c_M_closed 85 = .ok (.iconst 1, 1) := by decide +kernel
theorem d_M_closed_86 : decode c_M_closed 86 = .ok (.isub, 1) := by decide +kernel
theorem d_M_closed_87 : decode c_M_closed 87 = .ok (.putfield 85, 3) := by decide +kernel
theorem d_M_closed_90 : decode c_M_closed 90 = .ok (.return_, 1) := by decide +kernel
theorem d_M_derive_0 : decode c_M_derive 0 = .ok (.aload_n 0, 1) := by decide +kernel
theorem d_M_derive_1 : decode c_M_derive 1 = .ok (.getfield 119, 3) := by decide +kernel
theorem d_M_derive_4 : decode c_M_derive 4 = .ok (.ifCond .eq 4, 3) := by decide +kernel
theorem d_M_derive_7 : decode c_M_derive 7 = .ok (.return_, 1) := by decide +kernel
theorem d_M_derive_8 : decode c_M_derive 8 = .ok (.aload_n 0, 1) := by decide +kernel
theorem d_M_derive_9 : decode c_M_derive 9 = .ok (.bipush 72, 2) := by decide +kernel
theorem d_M_derive_11 : decode c_M_derive 11 = .ok (.iconst 0, 1) := by decide +kernel
theorem d_M_derive_12 : decode c_M_derive 12 = .ok (.invokevirtual 108, 3) := by decide +kernel
theorem d_M_derive_15 : decode c_M_derive 15 = .ok (.aload_n 0, 1) := by decide +kernel
theorem d_M_derive_16 : decode c_M_derive 16 = .ok (.bipush 73, 2) := by decide +kernel
theorem d_M_derive_18 : decode c_M_derive 18 = .ok (.iconst 0, 1) := by decide +kernel
theorem d_M_derive_19 : decode c_M_derive 19 = .ok (.invokevirtual 108, 3) := by decide +kernel
theorem d_M_derive_22 : decode c_M_derive 22 = .ok (.iconst 1, 1) := by decide +kernel
theorem d_M_derive_23 : decode c_M_derive 23 = .ok (.istore_n 3, 1) := by decide +kernel
theorem d_M_derive_24 : decode c_M_derive 24 = .ok (.iload_n 3, 1) := by decide +kernel
theorem d_M_derive_25 : decode c_M_derive 25 = .ok (.bipush 13, 2) := by decide +kernel
theorem d_M_derive_27 : decode c_M_derive 27 = .ok (.if_icmp .ge 67, 3) := by decide +kernel
theorem d_M_derive_30 : decode c_M_derive 30 = .ok (.aload_n 0, 1) := by decide +kernel
theorem d_M_derive_31 : decode c_M_derive 31 = .ok (.getfield 23, 3) := by decide +kernel
theorem d_M_derive_34 : decode c_M_derive 34 = .ok (.sipush 936, 3) := by decide +kernel
theorem d_M_derive_37 : decode c_M_derive 37 = .ok (.iload_n 3, 1) := by decide +kernel
theorem d_M_derive_38 : decode c_M_derive 38 = .ok (.iadd, 1) := by decide +kernel
theorem d_M_derive_39 : decode c_M_derive 39 = .ok (.iconst 1, 1) := by decide +kernel
theorem d_M_derive_40 : decode c_M_derive 40 = .ok (.isub, 1) := by decide +kernel
theorem d_M_derive_41 : decode c_M_derive 41 = .ok (.iload_n 3, 1) := by decide +kernel
theorem d_M_derive_42 : decode c_M_derive 42 = .ok (.aload_n 0, 1) := by decide +kernel
theorem d_M_derive_43 : decode c_M_derive 43 = .ok (.getfield 23, 3) := by decide +kernel
theorem d_M_derive_46 : decode c_M_derive 46 = .ok (.iload_n 1, 1) := by decide +kernel
theorem d_M_derive_47 : decode c_M_derive 47 = .ok (.bipush 13, 2) := by decide +kernel
theorem d_M_derive_49 : decode c_M_derive 49 = .ok (.imul, 1) := by decide +kernel
theorem d_M_derive_50 : decode c_M_derive 50 = .ok (.iload_n 3, 1) := by decide +kernel
theorem d_M_derive_51 : decode c_M_derive 51 = .ok (.iadd, 1) := by decide +kernel
theorem d_M_derive_52 : decode c_M_derive 52 = .ok (.iaload, 1) := by decide +kernel
theorem d_M_derive_53 : decode c_M_derive 53 = .ok (.imul, 1) := by decide +kernel
theorem d_M_derive_54 : decode c_M_derive 54 = .ok (.sipush 10007, 3) := by decide +kernel
theorem d_M_derive_57 : decode c_M_derive 57 = .ok (.irem, 1) := by decide +kernel
theorem d_M_derive_58 : decode c_M_derive 58 = .ok (.iastore, 1) := by decide +kernel
theorem d_M_derive_59 : decode c_M_derive 59 = .ok (.aload_n 0, 1) := by decide +kernel
theorem d_M_derive_60 : decode c_M_derive 60 = .ok (.getfield 23, 3) := by decide +kernel
theorem d_M_derive_63 : decode c_M_derive 63 = .ok (.sipush 949, 3) := by decide +kernel
theorem d_M_derive_66 : decode c_M_derive 66 = .ok (.iload_n 3, 1) := by decide +kernel
theorem d_M_derive_67 : decode c_M_derive 67 = .ok (.iadd, 1) := by decide +kernel
theorem d_M_derive_68 : decode c_M_derive 68 = .ok (.iconst 1, 1) := by decide +kernel
theorem d_M_derive_69 : decode c_M_derive 69 = .ok (.isub, 1) := by decide +kernel
theorem d_M_derive_70 : decode c_M_derive 70 = .ok (.iload_n 3, 1) := by decide +kernel
theorem d_M_derive_71 : decode c_M_derive 71 = .ok (.aload_n 0, 1) := by decide +kernel
theorem d_M_derive_72 : decode c_M_derive 72 = .ok (.getfield 26, 3) := by decide +kernel
theorem d_M_derive_75 : decode c_M_derive 75 = .ok (.iload_n 1, 1) := by decide +kernel
theorem d_M_derive_76 : decode c_M_derive 76 = .ok (.bipush 13, 2) := by decide +kernel
theorem d_M_derive_78 : decode c_M_derive 78 = .ok (.imul, 1) := by decide +kernel
theorem d_M_derive_79 : decode c_M_derive 79 = .ok (.iload_n 3, 1) := by decide +kernel
theorem d_M_derive_80 : decode c_M_derive 80 = .ok (.iadd, 1) := by decide +kernel
theorem d_M_derive_81 : decode c_M_derive 81 = .ok (.iaload, 1) := by decide +kernel
theorem d_M_derive_82 : decode c_M_derive 82 = .ok (.imul, 1) := by decide +kernel
theorem d_M_derive_83 : decode c_M_derive 83 = .ok (.sipush 10007, 3) := by decide +kernel
theorem d_M_derive_86 : decode c_M_derive 86 = .ok (.irem, 1) := by decide +kernel
theorem d_M_derive_87 : decode c_M_derive 87 = .ok (.iastore, 1) := by decide +kernel
theorem d_M_derive_88 : decode c_M_derive 88 = .ok (.iinc 3 1, 3) := by decide +kernel
theorem d_M_derive_91 : decode c_M_derive 91 = .ok (.goto (-67), 3) := by decide +kernel
theorem d_M_derive_94 : decode c_M_derive 94 = .ok (.aload_n 0, 1) := by decide +kernel
theorem d_M_derive_95 : decode c_M_derive 95 = .ok (.invokevirtual 122, 3) := by decide +kernel
theorem d_M_derive_98 : decode c_M_derive 98 = .ok (.aload_n 0, 1) := by decide +kernel
theorem d_M_derive_99 : decode c_M_derive 99 = .ok (.bipush 72, 2) := by decide +kernel
theorem d_M_derive_101 : decode c_M_derive 101 = .ok (.iconst 0, 1) := by decide +kernel
theorem d_M_derive_102 : decode c_M_derive 102 = .ok (.iload_n 1, 1) := by decide +kernel
theorem d_M_derive_103 : decode c_M_derive 103 = .ok (.iconst 1, 1) := by decide +kernel
theorem d_M_derive_104 : decode c_M_derive 104 = .ok (.iconst 1, 1) := by decide +kernel
theorem d_M_derive_105 : decode c_M_derive 105 = .ok (.iconst 0, 1) := by decide +kernel
theorem d_M_derive_106 : decode c_M_derive 106 = .ok (.invokevirtual 125, 3) := by decide +kernel
theorem d_M_derive_109 : decode c_M_derive 109 = .ok (.aload_n 0, 1) := by decide +kernel
theorem d_M_derive_110 : decode c_M_derive 110 = .ok (.bipush 73, 2) := by decide +kernel
theorem d_M_derive_112 : decode c_M_derive 112 = .ok (.iconst 0, 1) := by decide +kernel
theorem d_M_derive_113 : decode c_M_derive 113 = .ok (.iload_n 1, 1) := by decide +kernel
theorem d_M_derive_114 : decode c_M_derive 114 = .ok (.iconst 0, 1) := by decide +kernel
theorem d_M_derive_115 : decode c_M_derive 115 = .ok (.sipush 10006, 3) := by decide +kernel
theorem d_M_derive_118 : decode c_M_derive 118 = .ok (.iconst 0, 1) := by decide +kernel
theorem d_M_derive_119 : decode c_M_derive 119 = .ok (.invokevirtual 125, 3) := by decide +kernel
theorem d_M_derive_122 : decode c_M_derive 122 = .ok (.aload_n 0, 1) := by decide +kernel
theorem d_M_derive_123 : decode c_M_derive 123 = .ok (.iload_n 1, 1) := by decide +kernel
theorem d_M_derive_124 : decode c_M_derive 124 = .ok (.iconst 1, 1) := by decide +kernel
theorem d_M_derive_125 : decode c_M_derive 125 = .ok (.iload_n 1, 1) := by decide +kernel
theorem d_M_derive_126 : decode c_M_derive 126 = .ok (.iconst 1, 1) := by decide +kernel
theorem d_M_derive_127 : decode c_M_derive 127 = .ok (.iconst 1, 1) := by decide +kernel
theorem d_M_derive_128 : decode c_M_derive 128 = .ok (.iconst 1, 1) := by decide +kernel
theorem d_M_derive_129 : decode c_M_derive 129 = .ok (.invokevirtual 125, 3) := by decide +kernel
theorem d_M_derive_132 : decode c_M_derive 132 = .ok (.aload_n 0, 1) := by decide +kernel
theorem d_M_derive_133 : decode c_M_derive 133 = .ok (.iload_n 2, 1) := by decide +kernel
theorem d_M_derive_134 : decode c_M_derive 134 = .ok (.invokevirtual 129, 3) := by decide +kernel
theorem d_M_derive_137 : decode c_M_derive 137 = .ok (.return_, 1) := by decide +kernel
theorem d_M_substitute_0 : decode c_M_substitute 0 = .ok (.aload_n 0, 1) := by decide +kernel
theorem d_M_substitute_1 : decode c_M_substitute 1 = .ok (.getfield 119, 3) := by decide +kernel
theorem d_M_substitute_4 : decode c_M_substitute 4 = .ok (.ifCond .eq 4, 3) := by decide +kernel
theorem d_M_substitute_7 : decode c_M_substitute 7 = .ok (.return_, 1) := by decide +kernel
theorem d_M_substitute_8 : decode c_M_substitute 8 = .ok (.aload_n 0, 1) := by decide +kernel
theorem d_M_substitute_9 : decode c_M_substitute 9 = .ok (.iload_n 1, 1) := by decide +kernel
theorem d_M_substitute_10 : decode c_M_substitute 10 = .ok (.iconst 0, 1) := by decide +kernel
theorem d_M_substitute_11 : decode c_M_substitute 11 = .ok (.invokevirtual 133, 3) := by decide +kernel
theorem d_M_substitute_14 : decode c_M_substitute 14 = .ok (.aload_n 0, 1) := by decide +kernel
theorem d_M_substitute_15 : decode c_M_substitute 15 = .ok (.iload_n 1, 1) := by decide +kernel
theorem d_M_substitute_16 : decode c_M_substitute 16 = .ok (.iconst 1, 1) := by decide +kernel
theorem d_M_substitute_17 : decode c_M_substitute 17 = .ok (.invokevirtual 133, 3) := by decide +kernel
theorem d_M_substitute_20 : decode c_M_substitute 20 = .ok (.if_icmp .le 12, 3) := by decide +kernel
theorem d_M_substitute_23 : decode c_M_substitute 23 = .ok (.aload_n 0, 1) := by decide +kernel
theorem d_M_substitute_24 : decode c_M_substitute 24 = .ok (.iload_n 1, 1) := by decide +kernel
theorem d_M_substitute_25 : decode c_M_substitute 25 = .ok (.iconst 0, 1) := by decide +kernel
theorem d_M_substitute_26 : decode c_M_substitute 26 = .ok (.invokevirtual 133, 3) := by decide +kernel
theorem d_M_substitute_29 : decode c_M_substitute 29 = .ok (.goto 9, 3) := by decide +kernel
theorem d_M_substitute_32 : decode c_M_substitute 32 = .ok (.aload_n 0, 1) := by decide +kernel
theorem d_M_substitute_33 : decode c_M_substitute 33 = .ok (.iload_n 1, 1) := by decide +kernel
theorem d_M_substitute_34 : decode c_M_substitute 34 = .ok (.iconst 1, 1) := by decide +kernel
theorem d_M_substitute_35 : decode c_M_substitute 35 = .ok (.invokevirtual 133, 3) := by decide +kernel
theorem d_M_substitute_38 : decode c_M_substitute 38 = .ok (.istore 4, 2) := by decide +kernel
theorem d_M_substitute_40 : decode c_M_substitute 40 = .ok (.aload_n 0, 1) := by decide +kernel
theorem d_M_substitute_41 : decode c_M_substitute 41 = .ok (.iload_n 2, 1) := by decide +kernel
theorem d_M_substitute_42 : decode c_M_substitute 42 = .ok (.iconst 0, 1) := by decide +kernel
theorem d_M_substitute_43 : decode c_M_substitute 43 = .ok (.invokevirtual 133, 3) := by decide +kernel
theorem d_M_substitute_46 : decode c_M_substitute 46 = .ok (.aload_n 0, 1) := by decide +kernel
theorem d_M_substitute_47 : decode c_M_substitute 47 = .ok (.iload_n 2, 1) := by decide +kernel
theorem d_M_substitute_48 : decode c_M_substitute 48 = .ok (.iconst 1, 1) := by decide +kernel
theorem d_M_substitute_49 : decode c_M_substitute 49 = .ok (.invokevirtual 133, 3) := by decide +kernel
theorem d_M_substitute_52 : decode c_M_substitute 52 = .ok (.if_icmp .le 12, 3) := by decide +kernel
theorem d_M_substitute_55 : decode c_M_substitute 55 = .ok (.aload_n 0, 1) := by decide +kernel
theorem d_M_substitute_56 : decode c_M_substitute 56 = .ok (.iload_n 2, 1) := by decide +kernel
theorem d_M_substitute_57 : decode c_M_substitute 57 = .ok (.iconst 0, 1) := by decide +kernel
theorem d_M_substitute_58 : decode c_M_substitute 58 = .ok (.invokevirtual 133, 3) := by decide +kernel
theorem d_M_substitute_61 : decode c_M_substitute 61 = .ok (.goto 9, 3) := by decide +kernel
theorem d_M_substitute_64 : decode c_M_substitute 64 = .ok (.aload_n 0, 1) := by decide +kernel
theorem d_M_substitute_65 : decode c_M_substitute 65 = .ok (.iload_n 2, 1) := by decide +kernel
theorem d_M_substitute_66 : decode c_M_substitute 66 = .ok (.iconst 1, 1) := by decide +kernel
theorem d_M_substitute_67 : decode c_M_substitute 67 = .ok (.invokevirtual 133, 3) := by decide +kernel
theorem d_M_substitute_70 : decode c_M_substitute 70 = .ok (.istore 5, 2) := by decide +kernel
theorem d_M_substitute_72 : decode c_M_substitute 72 = .ok (.iload 4, 2) := by decide +kernel
theorem d_M_substitute_74 : decode c_M_substitute 74 = .ok (.iload 5, 2) := by decide +kernel
theorem d_M_substitute_76 : decode c_M_substitute 76 = .ok (.imul, 1) := by decide +kernel
theorem d_M_substitute_77 : decode c_M_substitute 77 = .ok (.bipush 12, 2) := by decide +kernel
theorem d_M_substitute_79 : decode c_M_substitute 79 = .ok (.if_icmp .le 10, 3) := by decide +kernel
theorem d_M_substitute_82 : decode c_M_substitute 82 = .ok (.aload_n 0, 1) := by decide +kernel
theorem d_M_substitute_83 : decode c_M_substitute 83 = .ok (.bipush (-6), 2) := by decide +kernel
theorem d_M_substitute_85 : decode c_M_substitute 85 = .ok (.putfield 119, 3) := by decide +kernel
theorem d_M_substitute_88 : decode c_M_substitute 88 = .ok (.return_, 1) := by decide +kernel
theorem d_M_substitute_89 : decode c_M_substitute 89 = .ok (.aload_n 0, 1) := by decide +kernel
theorem d_M_substitute_90 : decode c_M_substitute 90 = .ok (.iload_n 1, 1) := by decide +kernel
theorem d_M_substitute_91 : decode c_M_substitute 91 = .ok (.iconst 0, 1) := by decide +kernel
theorem d_M_substitute_92 : decode c_M_substitute 92 = .ok (.iload_n 2, 1) := by decide +kernel
theorem d_M_substitute_93 : decode c_M_substitute 93 = .ok (.bipush 73, 2) := by decide +kernel
theorem d_M_substitute_95 : decode c_M_substitute 95 = .ok (.invokevirtual 148, 3) := by decide +kernel
theorem d_M_substitute_98 : decode c_M_substitute 98 = .ok (.aload_n 0, 1) := by decide +kernel
theorem d_M_substitute_99 : decode c_M_substitute 99 = .ok (.iload_n 1, 1) := by decide +kernel
theorem d_M_substitute_100 : decode c_M_substitute 100 = .ok (.iconst 1, 1) := by decide +kernel
theorem d_M_substitute_101 : decode c_M_substitute 101 = .ok (.iload_n 2, 1) := by decide +kernel
theorem d_M_substitute_102 : decode c_M_substitute 102 = .ok (.bipush 74, 2) := by decide +kernel
theorem d_M_substitute_104 : decode c_M_substitute 104 = .ok (.invokevirtual 148, 3) := by decide +kernel
theorem d_M_substitute_107 : decode c_M_substitute 107 = .ok (.aload_n 0, 1) := by decide +kernel
theorem d_M_substitute_108 : decode c_M_substitute 108 = .ok (.bipush 73, 2) := by decide +kernel
theorem d_M_substitute_110 : decode c_M_substitute 110 = .ok (.bipush 74, 2) := by decide +kernel
theorem d_M_substitute_112 : decode c_M_substitute 112 = .ok (.iconst 1, 1) := by decide +kernel
theorem d_M_substitute_113 : decode c_M_substitute 113 = .ok (.iload_n 3, 1) := by decide +kernel
theorem d_M_substitute_114 : decode c_M_substitute 114 = .ok (.invokevirtual 140, 3) := by decide +kernel
theorem d_M_substitute_117 : decode c_M_substitute 117 = .ok (.return_, 1) := by decide +kernel
theorem d_M_top_0 : decode c_M_top 0 = .ok (.bipush 12, 2) := by decide +kernel
theorem d_M_top_2 : decode c_M_top 2 = .ok (.istore_n 3, 1) := by decide +kernel
theorem d_M_top_3 : decode c_M_top 3 = .ok (.iload_n 3, 1) := by decide +kernel
theorem d_M_top_4 : decode c_M_top 4 = .ok (.ifCond .lt 43, 3) := by decide +kernel
theorem d_M_top_7 : decode c_M_top 7 = .ok (.iload_n 2, 1) := by decide +kernel
theorem d_M_top_8 : decode c_M_top 8 = .ok (.ifCond .eq 17, 3) := by decide +kernel
theorem d_M_top_11 : decode c_M_top 11 = .ok (.aload_n 0, 1) := by decide +kernel
theorem d_M_top_12 : decode c_M_top 12 = .ok (.getfield 26, 3) := by decide +kernel
theorem d_M_top_15 : decode c_M_top 15 = .ok (.iload_n 1, 1) := by decide +kernel
theorem d_M_top_16 : decode c_M_top 16 = .ok (.bipush 13, 2) := by decide +kernel
theorem d_M_top_18 : decode c_M_top 18 = .ok (.imul, 1) := by decide +kernel
theorem d_M_top_19 : decode c_M_top 19 = .ok (.iload_n 3, 1) := by decide +kernel
theorem d_M_top_20 : decode c_M_top 20 = .ok (.iadd, 1) := by decide +kernel
theorem d_M_top_21 : decode c_M_top 21 = .ok (.iaload, 1) := by decide +kernel
theorem d_M_top_22 : decode c_M_top 22 = .ok (.goto 14, 3) := by decide +kernel
theorem d_M_top_25 : decode c_M_top 25 = .ok (.aload_n 0, 1) := by decide +kernel
theorem d_M_top_26 : decode c_M_top 26 = .ok (.getfield 23, 3) := by decide +kernel
theorem d_M_top_29 : decode c_M_top 29 = .ok (.iload_n 1, 1) := by decide +kernel
theorem d_M_top_30 : decode c_M_top 30 = .ok (.bipush 13, 2) := by decide +kernel
theorem d_M_top_32 : decode c_M_top 32 = .ok (.imul, 1) := by decide +kernel
theorem d_M_top_33 : decode c_M_top 33 = .ok (.iload_n 3, 1) := by decide +kernel
theorem d_M_top_34 : decode c_M_top 34 = .ok (.iadd, 1) := by decide +kernel
theorem d_M_top_35 : decode c_M_top 35 = .ok (.iaload, 1) := by decide +kernel
theorem d_M_top_36 : decode c_M_top 36 = .ok (.ifCond .eq 5, 3) := by decide +kernel
theorem d_M_top_39 : decode c_M_top 39 = .ok (.iload_n 3, 1) := by decide +kernel
theorem d_M_top_40 : decode c_M_top 40 = .ok (.ireturn, 1) := by decide +kernel
theorem d_M_top_41 : decode c_M_top 41 = .ok (.iinc 3 (-1), 3) := by decide +kernel
theorem d_M_top_44 : decode c_M_top 44 = .ok (.goto (-41), 3) := by decide +kernel
theorem d_M_top_47 : decode c_M_top 47 = .ok (.iconst (-1), 1) := by decide +kernel
theorem d_M_top_48 : decode c_M_top 48 = .ok (.ireturn, 1) := by decide +kernel
theorem d_M_put_0 : decode c_M_put 0 = .ok (.aload_n 0, 1) := by decide +kernel
theorem d_M_put_1 : decode c_M_put 1 = .ok (.iload 4, 2) := by decide +kernel
theorem d_M_put_3 : decode c_M_put 3 = .ok (.iconst 0, 1) := by decide +kernel
theorem d_M_put_4 : decode c_M_put 4 = .ok (.invokevirtual 108, 3) := by decide +kernel
theorem d_M_put_7 : decode c_M_put 7 = .ok (.aload_n 0, 1) := by decide +kernel
theorem d_M_put_8 : decode c_M_put 8 = .ok (.iload_n 1, 1) := by decide +kernel
theorem d_M_put_9 : decode c_M_put 9 = .ok (.iload_n 2, 1) := by decide +kernel
theorem d_M_put_10 : decode c_M_put 10 = .ok (.invokevirtual 133, 3) := by decide +kernel
theorem d_M_put_13 : decode c_M_put 13 = .ok (.istore 5, 2) := by decide +kernel
theorem d_M_put_15 : decode c_M_put 15 = .ok (.iload 5, 2) := by decide +kernel
theorem d_M_put_17 : decode c_M_put 17 = .ok (.ifCond .lt 67, 3) := by decide +kernel
theorem d_M_put_20 : decode c_M_put 20 = .ok (.aload_n 0, 1) := by decide +kernel
theorem d_M_put_21 : decode c_M_put 21 = .ok (.iload 4, 2) := by decide +kernel
theorem d_M_put_23 : decode c_M_put 23 = .ok (.iload_n 3, 1) := by decide +kernel
theorem d_M_put_24 : decode c_M_put 24 = .ok (.iconst 0, 1) := by decide +kernel
theorem d_M_put_25 : decode c_M_put 25 = .ok (.iload 4, 2) := by decide +kernel
theorem d_M_put_27 : decode c_M_put 27 = .ok (.invokevirtual 140, 3) := by decide +kernel
theorem d_M_put_30 : decode c_M_put 30 = .ok (.aload_n 0, 1) := by decide +kernel
theorem d_M_put_31 : decode c_M_put 31 = .ok (.bipush 75, 2) := by decide +kernel
theorem d_M_put_33 : decode c_M_put 33 = .ok (.iload_n 2, 1) := by decide +kernel
theorem d_M_put_34 : decode c_M_put 34 = .ok (.ifCond .eq 18, 3) := by decide +kernel
theorem d_M_put_37 : decode c_M_put 37 = .ok (.aload_n 0, 1) := by decide +kernel
theorem d_M_put_38 : decode c_M_put 38 = .ok (.getfield 26, 3) := by decide +kernel
theorem d_M_put_41 : decode c_M_put 41 = .ok (.iload_n 1, 1) := by decide +kernel
theorem d_M_put_42 : decode c_M_put 42 = .ok (.bipush 13, 2) := by decide +kernel
theorem d_M_put_44 : decode c_M_put 44 = .ok (.imul, 1) := by decide +kernel
theorem d_M_put_45 : decode c_M_put 45 = .ok (.iload 5, 2) := by decide +kernel
theorem d_M_put_47 : decode c_M_put 47 = .ok (.iadd, 1) := by decide +kernel
theorem d_M_put_48 : decode c_M_put 48 = .ok (.iaload, 1) := by decide +kernel
theorem d_M_put_49 : decode c_M_put 49 = .ok (.goto 15, 3) := by decide +kernel
theorem d_M_put_52 : decode c_M_put 52 = .ok (.aload_n 0, 1) := by decide +kernel
theorem d_M_put_53 : decode c_M_put 53 = .ok (.getfield 23, 3) := by decide +kernel
theorem d_M_put_56 : decode c_M_put 56 = .ok (.iload_n 1, 1) := by decide +kernel
theorem d_M_put_57 : decode c_M_put 57 = .ok (.bipush 13, 2) := by decide +kernel
theorem d_M_put_59 : decode c_M_put 59 = .ok (.imul, 1) := by decide +kernel
theorem d_M_put_60 : decode c_M_put 60 = .ok (.iload 5, 2) := by decide +kernel
theorem d_M_put_62 : decode c_M_put 62 = .ok (.iadd, 1) := by decide +kernel
theorem d_M_put_63 : decode c_M_put 63 = .ok (.iaload, 1) := by decide +kernel
theorem d_M_put_64 : decode c_M_put 64 = .ok (.invokevirtual 108, 3) := by decide +kernel
theorem d_M_put_67 : decode c_M_put 67 = .ok (.aload_n 0, 1) := by decide +kernel
theorem d_M_put_68 : decode c_M_put 68 = .ok (.iload 4, 2) := by decide +kernel
theorem d_M_put_70 : decode c_M_put 70 = .ok (.bipush 75, 2) := by decide +kernel
theorem d_M_put_72 : decode c_M_put 72 = .ok (.iconst 1, 1) := by decide +kernel
theorem d_M_put_73 : decode c_M_put 73 = .ok (.iload 4, 2) := by decide +kernel
theorem d_M_put_75 : decode c_M_put 75 = .ok (.invokevirtual 144, 3) := by decide +kernel
theorem d_M_put_78 : decode c_M_put 78 = .ok (.iinc 5 (-1), 3) := by decide +kernel
theorem d_M_put_81 : decode c_M_put 81 = .ok (.goto (-66), 3) := by decide +kernel
theorem d_M_put_84 : decode c_M_put 84 = .ok (.return_, 1) := by decide +kernel
theorem d_M_times_0 : decode c_M_times 0 = .ok (.aload_n 0, 1) := by decide +kernel
theorem d_M_times_1 : decode c_M_times 1 = .ok (.getfield 119, 3) := by decide +kernel
theorem d_M_times_4 : decode c_M_times 4 = .ok (.ifCond .eq 4, 3) := by decide +kernel
theorem d_M_times_7 : decode c_M_times 7 = .ok (.return_, 1) := by decide +kernel
theorem d_M_times_8 : decode c_M_times 8 = .ok (.iload_n 3, 1) := by decide +kernel
theorem d_M_times_9 : decode c_M_times 9 = .ok (.ifCond .eq 19, 3) := by decide +kernel
theorem d_M_times_12 : decode c_M_times 12 = .ok (.aload_n 0, 1) := by decide +kernel
theorem d_M_times_13 : decode c_M_times 13 = .ok (.iload_n 2, 1) := by decide +kernel
theorem d_M_times_14 : decode c_M_times 14 = .ok (.iconst 0, 1) := by decide +kernel
theorem d_M_times_15 : decode c_M_times 15 = .ok (.invokevirtual 133, 3) := by decide +kernel
theorem d_M_times_18 : decode c_M_times 18 = .ok (.ifCond .ge 10, 3) := by decide +kernel
theorem d_M_times_21 : decode c_M_times 21 = .ok (.aload_n 0, 1) := by decide +kernel
theorem d_M_times_22 : decode c_M_times 22 = .ok (.bipush (-5), 2) := by decide +kernel
theorem d_M_times_24 : decode c_M_times 24 = .ok (.putfield 119, 3) := by decide +kernel
theorem d_M_times_27 : decode c_M_times 27 = .ok (.return_, 1) := by decide +kernel
theorem d_M_times_28 : decode c_M_times 28 = .ok (.aload_n 0, 1) := by decide +kernel
theorem d_M_times_29 : decode c_M_times 29 = .ok (.invokevirtual 122, 3) := by decide +kernel
theorem d_M_times_32 : decode c_M_times 32 = .ok (.aload_n 0, 1) := by decide +kernel
theorem d_M_times_33 : decode c_M_times 33 = .ok (.iload_n 1, 1) := by decide +kernel
theorem d_M_times_34 : decode c_M_times 34 = .ok (.iconst 0, 1) := by decide +kernel
theorem d_M_times_35 : decode c_M_times 35 = .ok (.iload_n 2, 1) := by decide +kernel
theorem d_M_times_36 : decode c_M_times 36 = .ok (.iload_n 3, 1) := by decide +kernel
theorem d_M_times_37 : decode c_M_times 37 = .ok (.iconst 1, 1) := by decide +kernel
theorem d_M_times_38 : decode c_M_times 38 = .ok (.iconst 0, 1) := by decide +kernel
theorem d_M_times_39 : decode c_M_times 39 = .ok (.invokevirtual 125, 3) := by decide +kernel
theorem d_M_times_42 : decode c_M_times 42 = .ok (.aload_n 0, 1) := by decide +kernel
theorem d_M_times_43 : decode c_M_times 43 = .ok (.iload_n 1, 1) := by decide +kernel
theorem d_M_times_44 : decode c_M_times 44 = .ok (.iconst 1, 1) := by decide +kernel
theorem d_M_times_45 : decode c_M_times 45 = .ok (.iload_n 2, 1) := by decide +kernel
theorem d_M_times_46 : decode c_M_times 46 = .ok (.iload_n 3, 1) := by decide +kernel
theorem d_M_times_47 : decode c_M_times 47 = .ok (.ifCond .ne 7, 3) := by decide +kernel
theorem d_M_times_50 : decode c_M_times 50 = .ok (.iconst 1, 1) := by decide +kernel
theorem d_M_times_51 : decode c_M_times 51 = .ok (.goto 4, 3) := by decide +kernel
theorem d_M_times_54 : decode c_M_times 54 = .ok (.iconst 0, 1) := by decide +kernel
theorem d_M_times_55 : decode c_M_times 55 = .ok (.iconst 1, 1) := by decide +kernel
theorem d_M_times_56 : decode c_M_times 56 = .ok (.iconst 1, 1) := by decide +kernel
theorem d_M_times_57 : decode c_M_times 57 = .ok (.invokevirtual 125, 3) := by decide +kernel
theorem d_M_times_60 : decode c_M_times 60 = .ok (.aload_n 0, 1) := by decide +kernel
theorem d_M_times_61 : decode c_M_times 61 = .ok (.iload 4, 2) := by decide +kernel
theorem d_M_times_63 : decode c_M_times 63 = .ok (.invokevirtual 129, 3) := by decide +kernel
theorem d_M_times_66 : decode c_M_times 66 = .ok (.return_, 1) := by decide +kernel
theorem d_M_raise_0 : decode c_M_raise 0 = .ok (.iload_n 1, 1) := by decide +kernel
theorem d_M_raise_1 : decode c_M_raise 1 = .ok (.aload_n 0, 1) := by decide +kernel
theorem d_M_raise_2 : decode c_M_raise 2 = .ok (.getfield 67, 3) := by decide +kernel
theorem d_M_raise_5 : decode c_M_raise 5 = .ok (.if_icmp .ge 18, 3) := by decide +kernel
theorem d_M_raise_8 : decode c_M_raise 8 = .ok (.aload_n 0, 1) := by decide +kernel
theorem d_M_raise_9 : decode c_M_raise 9 = .ok (.getfield 7, 3) := by decide +kernel
theorem d_M_raise_12 : decode c_M_raise 12 = .ok (.iload_n 1, 1) := by decide +kernel
theorem d_M_raise_13 : decode c_M_raise 13 = .ok (.iaload, 1) := by decide +kernel
theorem d_M_raise_14 : decode c_M_raise 14 = .ok (.bipush 94, 2) := by decide +kernel
theorem d_M_raise_16 : decode c_M_raise 16 = .ok (.if_icmp .ne 7, 3) := by decide +kernel
theorem d_M_raise_19 : decode c_M_raise 19 = .ok (.iconst 1, 1) := by decide +kernel
theorem d_M_raise_20 : decode c_M_raise 20 = .ok (.goto 4, 3) := by decide +kernel
theorem d_M_raise_23 : decode c_M_raise 23 = .ok (.iconst 0, 1) := by decide +kernel
theorem d_M_raise_24 : decode c_M_raise 24 = .ok (.istore_n 2, 1) := by decide +kernel
theorem d_M_raise_25 : decode c_M_raise 25 = .ok (.iload_n 2, 1) := by decide +kernel
theorem d_M_raise_26 : decode c_M_raise 26 = .ok (.ifCond .eq 20, 3) := by decide +kernel
theorem d_M_raise_29 : decode c_M_raise 29 = .ok (.aload_n 0, 1) := by decide +kernel
theorem d_M_raise_30 : decode c_M_raise 30 = .ok (.getfield 7, 3) := by decide +kernel
theorem d_M_raise_33 : decode c_M_raise 33 = .ok (.iload_n 1, 1) := by decide +kernel
theorem d_M_raise_34 : decode c_M_raise 34 = .ok (.iconst 1, 1) := by decide +kernel
theorem d_M_raise_35 : decode c_M_raise 35 = .ok (.iadd, 1) := by decide +kernel
theorem d_M_raise_36 : decode c_M_raise 36 = .ok (.iaload, 1) := by decide +kernel
theorem d_M_raise_37 : decode c_M_raise 37 = .ok (.bipush 45, 2) := by decide +kernel
theorem d_M_raise_39 : decode c_M_raise 39 = .ok (.if_icmp .ne 7, 3) := by decide +kernel
theorem d_M_raise_42 : decode c_M_raise 42 = .ok (.iconst 1, 1) := by decide +kernel
theorem d_M_raise_43 : decode c_M_raise 43 = .ok (.goto 4, 3) := by decide +kernel
theorem d_M_raise_46 : decode c_M_raise 46 = .ok (.iconst 0, 1) := by decide +kernel
theorem d_M_raise_47 : decode c_M_raise 47 = .ok (.istore_n 3, 1) := by decide +kernel
theorem d_M_raise_48 : decode c_M_raise 48 = .ok (.iload_n 2, 1) := by decide +kernel
theorem d_M_raise_49 : decode c_M_raise 49 = .ok (.ifCond .eq 19, 3) := by decide +kernel
theorem d_M_raise_52 : decode c_M_raise 52 = .ok (.iload_n 3, 1) := by decide +kernel
theorem d_M_raise_53 : decode c_M_raise 53 = .ok (.ifCond .eq 9, 3) := by decide +kernel
theorem d_M_raise_56 : decode c_M_raise 56 = .ok (.iload_n 1, 1) := by decide +kernel
theorem d_M_raise_57 : decode c_M_raise 57 = .ok (.iconst 2, 1) := by decide +kernel
theorem d_M_raise_58 : decode c_M_raise 58 = .ok (.iadd, 1) := by decide +kernel
theorem d_M_raise_59 : decode c_M_raise 59 = .ok (.goto 10, 3) := by decide +kernel
theorem d_M_raise_62 : decode c_M_raise 62 = .ok (.iload_n 1, 1) := by decide +kernel
theorem d_M_raise_63 : decode c_M_raise 63 = .ok (.iconst 1, 1) := by decide +kernel
theorem d_M_raise_64 : decode c_M_raise 64 = .ok (.iadd, 1) := by decide +kernel
theorem d_M_raise_65 : decode c_M_raise 65 = .ok (.goto 4, 3) := by decide +kernel
theorem d_M_raise_68 : decode c_M_raise 68 = .ok (.iload_n 1, 1) := by decide +kernel
theorem d_M_raise_69 : decode c_M_raise 69 = .ok (.istore 4, 2) := by decide +kernel
theorem d_M_raise_71 : decode c_M_raise 71 = .ok (.iload_n 2, 1) := by decide +kernel
theorem d_M_raise_72 : decode c_M_raise 72 = .ok (.ifCond .eq 12, 3) := by decide +kernel
theorem d_M_raise_75 : decode c_M_raise 75 = .ok (.aload_n 0, 1) := by decide +kernel
theorem d_M_raise_76 : decode c_M_raise 76 = .ok (.iload 4, 2) := by decide +kernel
theorem d_M_raise_78 : decode c_M_raise 78 = .ok (.invokevirtual 161, 3) := by decide +kernel
theorem d_M_raise_81 : decode c_M_raise 81 = .ok (.goto 4, 3) := by decide +kernel
theorem d_M_raise_84 : decode c_M_raise 84 = .ok (.iload_n 1, 1) := by decide +kernel
theorem d_M_raise_85 : decode c_M_raise 85 = .ok (.istore 5, 2) := by decide +kernel
theorem d_M_raise_87 : decode c_M_raise 87 = .ok (.iload_n 2, 1) := by decide +kernel
theorem d_M_raise_88 : decode c_M_raise 88 = .ok (.ifCond .eq 16, 3) := by decide +kernel
theorem d_M_raise_91 : decode c_M_raise 91 = .ok (.aload_n 0, 1) := by decide +kernel
theorem d_M_raise_92 : decode c_M_raise 92 = .ok (.aload_n 0, 1) := by decide +kernel
theorem d_M_raise_93 : decode c_M_raise 93 = .ok (.iload 4, 2) := by decide +kernel
theorem d_M_raise_95 : decode c_M_raise 95 = .ok (.iload 5, 2) := by decide +kernel
theorem d_M_raise_97 : decode c_M_raise 97 = .ok (.invokevirtual 164, 3) := by decide +kernel
theorem d_M_raise_100 : decode c_M_raise 100 = .ok (.iload_n 3, 1) := by decide +kernel
theorem d_M_raise_101 : decode c_M_raise 101 = .ok (.invokevirtual 170, 3) := by decide +kernel
theorem d_M_raise_104 : decode c_M_raise 104 = .ok (.aload_n 0, 1) := by decide +kernel
theorem d_M_raise_105 : decode c_M_raise 105 = .ok (.invokevirtual 174, 3) := by decide +kernel
theorem d_M_raise_108 : decode c_M_raise 108 = .ok (.iload 5, 2) := by decide +kernel
theorem d_M_raise_110 : decode c_M_raise 110 = .ok (.ireturn, 1) := by decide +kernel
theorem d_M_digits_0 : decode c_M_digits 0 = .ok (.iload_n 1, 1) := by decide +kernel
theorem d_M_digits_1 : decode c_M_digits 1 = .ok (.istore_n 2, 1) := by decide +kernel
theorem d_M_digits_2 : decode c_M_digits 2 = .ok (.iconst 0, 1) := by decide +kernel
theorem d_M_digits_3 : decode c_M_digits 3 = .ok (.istore_n 3, 1) := by decide +kernel
theorem d_M_digits_4 : decode c_M_digits 4 = .ok (.iload_n 3, 1) := by decide +kernel
theorem d_M_digits_5 : decode c_M_digits 5 = .ok (.bipush 32, 2) := by decide +kernel
theorem d_M_digits_7 : decode c_M_digits 7 = .ok (.if_icmp .ge 33, 3) := by decide +kernel
theorem d_M_digits_10 : decode c_M_digits 10 = .ok (.iload_n 2, 1) := by decide +kernel
theorem d_M_digits_11 : decode c_M_digits 11 = .ok (.aload_n 0, 1) := by decide +kernel
theorem d_M_digits_12 : decode c_M_digits 12 = .ok (.getfield 67, 3) := by decide +kernel
theorem d_M_digits_15 : decode c_M_digits 15 = .ok (.if_icmp .ge 25, 3) := by decide +kernel
theorem d_M_digits_18 : decode c_M_digits 18 = .ok (.aload_n 0, 1) := by decide +kernel
theorem d_M_digits_19 : decode c_M_digits 19 = .ok (.aload_n 0, 1) := by decide +kernel
theorem d_M_digits_20 : decode c_M_digits 20 = .ok (.getfield 7, 3) := by decide +kernel
theorem d_M_digits_23 : decode c_M_digits 23 = .ok (.iload_n 2, 1) := by decide +kernel
theorem d_M_digits_24 : decode c_M_digits 24 = .ok (.iaload, 1) := by decide +kernel
theorem d_M_digits_25 : decode c_M_digits 25 = .ok (.invokevirtual 57, 3) := by decide +kernel
theorem d_M_digits_28 : decode c_M_digits 28 = .ok (.ifCond .eq 12, 3) := by decide +kernel
theorem d_M_digits_31 : decode c_M_digits 31 = .ok (.iinc 2 1, 3) := by decide +kernel
theorem d_M_digits_34 : decode c_M_digits 34 = .ok (.iinc 3 1, 3) := by decide +kernel
theorem d_M_digits_37 : decode c_M_digits 37 = .ok (.goto (-33), 3) := by decide +kernel
theorem d_M_digits_40 : decode c_M_digits 40 = .ok (.iload_n 2, 1) := by decide +kernel
theorem d_M_digits_41 : decode c_M_digits 41 = .ok (.ireturn, 1) := by decide +kernel
theorem d_M_worth_0 : decode c_M_worth 0 = .ok (.iconst 0, 1) := by decide +kernel
theorem d_M_worth_1 : decode c_M_worth 1 = .ok (.istore_n 3, 1) := by decide +kernel
theorem d_M_worth_2 : decode c_M_worth 2 = .ok (.iload_n 1, 1) := by decide +kernel
theorem d_M_worth_3 : decode c_M_worth 3 = .ok (.istore 4, 2) := by decide +kernel
theorem d_M_worth_5 : decode c_M_worth 5 = .ok (.iload 4, 2) := by decide +kernel
theorem d_M_worth_7 : decode c_M_worth 7 = .ok (.iload_n 2, 1) := by decide +kernel
theorem d_M_worth_8 : decode c_M_worth 8 = .ok (.if_icmp .ge 25, 3) := by decide +kernel
theorem d_M_worth_11 : decode c_M_worth 11 = .ok (.iload_n 3, 1) := by decide +kernel
theorem d_M_worth_12 : decode c_M_worth 12 = .ok (.bipush 10, 2) := by decide +kernel
theorem d_M_worth_14 : decode c_M_worth 14 = .ok (.imul, 1) := by decide +kernel
theorem d_M_worth_15 : decode c_M_worth 15 = .ok (.aload_n 0, 1) := by decide +kernel
theorem d_M_worth_16 : decode c_M_worth 16 = .ok (.getfield 7, 3) := by decide +kernel
theorem d_M_worth_19 : decode c_M_worth 19 = .ok (.iload 4, 2) := by decide +kernel
theorem d_M_worth_21 : decode c_M_worth 21 = .ok (.iaload, 1) := by decide +kernel
theorem d_M_worth_22 : decode c_M_worth 22 = .ok (.iadd, 1) := by decide +kernel
theorem d_M_worth_23 : decode c_M_worth 23 = .ok (.bipush 48, 2) := by decide +kernel
theorem d_M_worth_25 : decode c_M_worth 25 = .ok (.isub, 1) := by decide +kernel
theorem d_M_worth_26 : decode c_M_worth 26 = .ok (.istore_n 3, 1) := by decide +kernel
theorem d_M_worth_27 : decode c_M_worth 27 = .ok (.iinc 4 1, 3) := by decide +kernel
theorem d_M_worth_30 : decode c_M_worth 30 = .ok (.goto (-25), 3) := by decide +kernel
theorem d_M_worth_33 : decode c_M_worth 33 = .ok (.iload_n 3, 1) := by decide +kernel
theorem d_M_worth_34 : decode c_M_worth 34 = .ok (.ireturn, 1) := by decide +kernel
theorem d_M_power_0 : decode c_M_power 0 = .ok (.aload_n 0, 1) := by decide +kernel
theorem d_M_power_1 : decode c_M_power 1 = .ok (.getfield 119, 3) := by decide +kernel
theorem d_M_power_4 : decode c_M_power 4 = .ok (.ifCond .eq 4, 3) := by decide +kernel
theorem d_M_power_7 : decode c_M_power 7 = .ok (.return_, 1) := by decide +kernel
theorem d_M_power_8 : decode c_M_power 8 = .ok (.iload_n 2, 1) := by decide +kernel
theorem d_M_power_9 : decode c_M_power 9 = .ok (.ifCond .eq 24, 3) := by decide +kernel
theorem d_M_power_12 : decode c_M_power 12 = .ok (.iload_n 1, 1) := by decide +kernel
theorem d_M_power_13 : decode c_M_power 13 = .ok (.ifCond .le 20, 3) := by decide +kernel
theorem d_M_power_16 : decode c_M_power 16 = .ok (.aload_n 0, 1) := by decide +kernel
theorem d_M_power_17 : decode c_M_power 17 = .ok (.bipush 71, 2) := by decide +kernel
theorem d_M_power_19 : decode c_M_power 19 = .ok (.iconst 0, 1) := by decide +kernel
theorem d_M_power_20 : decode c_M_power 20 = .ok (.invokevirtual 133, 3) := by decide +kernel
theorem d_M_power_23 : decode c_M_power 23 = .ok (.ifCond .ge 10, 3) := by decide +kernel
theorem d_M_power_26 : decode c_M_power 26 = .ok (.aload_n 0, 1) := by decide +kernel
theorem d_M_power_27 : decode c_M_power 27 = .ok (.bipush (-5), 2) := by decide +kernel
theorem d_M_power_29 : decode c_M_power 29 = .ok (.putfield 119, 3) := by decide +kernel
theorem d_M_power_32 : decode c_M_power 32 = .ok (.return_, 1) := by decide +kernel
theorem d_M_power_33 : decode c_M_power 33 = .ok (.aload_n 0, 1) := by decide +kernel
theorem d_M_power_34 : decode c_M_power 34 = .ok (.bipush 71, 2) := by decide +kernel
theorem d_M_power_36 : decode c_M_power 36 = .ok (.bipush 72, 2) := by decide +kernel
theorem d_M_power_38 : decode c_M_power 38 = .ok (.invokevirtual 137, 3) := by decide +kernel
theorem d_M_power_41 : decode c_M_power 41 = .ok (.aload_n 0, 1) := by decide +kernel
theorem d_M_power_42 : decode c_M_power 42 = .ok (.bipush 71, 2) := by decide +kernel
theorem d_M_power_44 : decode c_M_power 44 = .ok (.iconst 1, 1) := by decide +kernel
theorem d_M_power_45 : decode c_M_power 45 = .ok (.invokevirtual 108, 3) := by decide +kernel
theorem d_M_power_48 : decode c_M_power 48 = .ok (.iconst 0, 1) := by decide +kernel
theorem d_M_power_49 : decode c_M_power 49 = .ok (.istore_n 3, 1) := by decide +kernel
theorem d_M_power_50 : decode c_M_power 50 = .ok (.iload_n 3, 1) := by decide +kernel
theorem d_M_power_51 : decode c_M_power 51 = .ok (.iload_n 1, 1) := by decide +kernel
theorem d_M_power_52 : decode c_M_power 52 = .ok (.if_icmp .ge 20, 3) := by decide +kernel
theorem d_M_power_55 : decode c_M_power 55 = .ok (.aload_n 0, 1) := by decide +kernel
theorem d_M_power_56 : decode c_M_power 56 = .ok (.bipush 71, 2) := by decide +kernel
theorem d_M_power_58 : decode c_M_power 58 = .ok (.bipush 72, 2) := by decide +kernel
theorem d_M_power_60 : decode c_M_power 60 = .ok (.iload_n 2, 1) := by decide +kernel
theorem d_M_power_61 : decode c_M_power 61 = .ok (.bipush 71, 2) := by decide +kernel
theorem d_M_power_63 : decode c_M_power 63 = .ok (.invokevirtual 140, 3) := by decide +kernel
theorem d_M_power_66 : decode c_M_power 66 = .ok (.iinc 3 1, 3) := by decide +kernel
theorem d_M_power_69 : decode c_M_power 69 = .ok (.goto (-19), 3) := by decide +kernel
theorem d_M_power_72 : decode c_M_power 72 = .ok (.return_, 1) := by decide +kernel
theorem d_M_factor_0 : decode c_M_factor 0 = .ok (.aload_n 0, 1) := by decide +kernel
theorem d_M_factor_1 : decode c_M_factor 1 = .ok (.getfield 119, 3) := by decide +kernel
theorem d_M_factor_4 : decode c_M_factor 4 = .ok (.ifCond .eq 4, 3) := by decide +kernel
theorem d_M_factor_7 : decode c_M_factor 7 = .ok (.return_, 1) := by decide +kernel
theorem d_M_factor_8 : decode c_M_factor 8 = .ok (.aload_n 0, 1) := by decide +kernel
theorem d_M_factor_9 : decode c_M_factor 9 = .ok (.getfield 48, 3) := by decide +kernel
theorem d_M_factor_12 : decode c_M_factor 12 = .ok (.aload_n 0, 1) := by decide +kernel
theorem d_M_factor_13 : decode c_M_factor 13 = .ok (.getfield 85, 3) := by decide +kernel
theorem d_M_factor_16 : decode c_M_factor 16 = .ok (.baload, 1) := by decide +kernel
theorem d_M_factor_17 : decode c_M_factor 17 = .ok (.ifCond .eq 35, 3) := by decide +kernel
theorem d_M_factor_20 : decode c_M_factor 20 = .ok (.aload_n 0, 1) := by decide +kernel
theorem d_M_factor_21 : decode c_M_factor 21 = .ok (.bipush 53, 2) := by decide +kernel
theorem d_M_factor_23 : decode c_M_factor 23 = .ok (.aload_n 0, 1) := by decide +kernel
theorem d_M_factor_24 : decode c_M_factor 24 = .ok (.getfield 85, 3) := by decide +kernel
theorem d_M_factor_27 : decode c_M_factor 27 = .ok (.iadd, 1) := by decide +kernel
theorem d_M_factor_28 : decode c_M_factor 28 = .ok (.bipush 71, 2) := by decide +kernel
theorem d_M_factor_30 : decode c_M_factor 30 = .ok (.aload_n 0, 1) := by decide +kernel
theorem d_M_factor_31 : decode c_M_factor 31 = .ok (.getfield 54, 3) := by decide +kernel
theorem d_M_factor_34 : decode c_M_factor 34 = .ok (.aload_n 0, 1) := by decide +kernel
theorem d_M_factor_35 : decode c_M_factor 35 = .ok (.getfield 85, 3) := by decide +kernel
theorem d_M_factor_38 : decode c_M_factor 38 = .ok (.baload, 1) := by decide +kernel
theorem d_M_factor_39 : decode c_M_factor 39 = .ok (.bipush 53, 2) := by decide +kernel
theorem d_M_factor_41 : decode c_M_factor 41 = .ok (.aload_n 0, 1) := by decide +kernel
theorem d_M_factor_42 : decode c_M_factor 42 = .ok (.getfield 85, 3) := by decide +kernel
theorem d_M_factor_45 : decode c_M_factor 45 = .ok (.iadd, 1) := by decide +kernel
theorem d_M_factor_46 : decode c_M_factor 46 = .ok (.invokevirtual 140, 3) := by decide +kernel
theorem d_M_factor_49 : decode c_M_factor 49 = .ok (.goto 16, 3) := by decide +kernel
theorem d_M_factor_52 : decode c_M_factor 52 = .ok (.aload_n 0, 1) := by decide +kernel
theorem d_M_factor_53 : decode c_M_factor 53 = .ok (.bipush 71, 2) := by decide +kernel
theorem d_M_factor_55 : decode c_M_factor 55 = .ok (.bipush 53, 2) := by decide +kernel
theorem d_M_factor_57 : decode c_M_factor 57 = .ok (.aload_n 0, 1) := by decide +kernel
theorem d_M_factor_58 : decode c_M_factor 58 = .ok (.getfield 85, 3) := by decide +kernel
theorem d_M_factor_61 : decode c_M_factor 61 = .ok (.iadd, 1) := by decide +kernel
theorem d_M_factor_62 : decode c_M_factor 62 = .ok (.invokevirtual 137, 3) := by decide +kernel
theorem d_M_factor_65 : decode c_M_factor 65 = .ok (.aload_n 0, 1) := by decide +kernel
theorem d_M_factor_66 : decode c_M_factor 66 = .ok (.getfield 48, 3) := by decide +kernel
theorem d_M_factor_69 : decode c_M_factor 69 = .ok (.aload_n 0, 1) := by decide +kernel
theorem d_M_factor_70 : decode c_M_factor 70 = .ok (.getfield 85, 3) := by decide +kernel
theorem d_M_factor_73 : decode c_M_factor 73 = .ok (.iconst 1, 1) := by decide +kernel
theorem d_M_factor_74 : decode c_M_factor 74 = .ok (.bastore, 1) := by decide +kernel
theorem d_M_factor_75 : decode c_M_factor 75 = .ok (.return_, 1) := by decide +kernel
theorem d_M_atom_0 : decode c_M_atom 0 = .ok (.aload_n 0, 1) := by decide +kernel
theorem d_M_atom_1 : decode c_M_atom 1 = .ok (.getfield 7, 3) := by decide +kernel
theorem d_M_atom_4 : decode c_M_atom 4 = .ok (.iload_n 1, 1) := by decide +kernel
theorem d_M_atom_5 : decode c_M_atom 5 = .ok (.iaload, 1) := by decide +kernel
theorem d_M_atom_6 : decode c_M_atom 6 = .ok (.istore_n 2, 1) := by decide +kernel
theorem d_M_atom_7 : decode c_M_atom 7 = .ok (.aload_n 0, 1) := by decide +kernel
theorem d_M_atom_8 : decode c_M_atom 8 = .ok (.iload_n 1, 1) := by decide +kernel
theorem d_M_atom_9 : decode c_M_atom 9 = .ok (.invokevirtual 161, 3) := by decide +kernel
theorem d_M_atom_12 : decode c_M_atom 12 = .ok (.istore_n 3, 1) := by decide +kernel
theorem d_M_atom_13 : decode c_M_atom 13 = .ok (.iload_n 3, 1) := by decide +kernel
theorem d_M_atom_14 : decode c_M_atom 14 = .ok (.iload_n 1, 1) := by decide +kernel
theorem d_M_atom_15 : decode c_M_atom 15 = .ok (.if_icmp .le 21, 3) := by decide +kernel
theorem d_M_atom_18 : decode c_M_atom 18 = .ok (.aload_n 0, 1) := by decide +kernel
theorem d_M_atom_19 : decode c_M_atom 19 = .ok (.bipush 71, 2) := by decide +kernel
theorem d_M_atom_21 : decode c_M_atom 21 = .ok (.aload_n 0, 1) := by decide +kernel
theorem d_M_atom_22 : decode c_M_atom 22 = .ok (.iload_n 1, 1) := by decide +kernel
theorem d_M_atom_23 : decode c_M_atom 23 = .ok (.iload_n 3, 1) := by decide +kernel
theorem d_M_atom_24 : decode c_M_atom 24 = .ok (.invokevirtual 164, 3) := by decide +kernel
theorem d_M_atom_27 : decode c_M_atom 27 = .ok (.sipush 10007, 3) := by decide +kernel
theorem d_M_atom_30 : decode c_M_atom 30 = .ok (.irem, 1) := by decide +kernel
theorem d_M_atom_31 : decode c_M_atom 31 = .ok (.invokevirtual 108, 3) := by decide +kernel
theorem d_M_atom_34 : decode c_M_atom 34 = .ok (.iload_n 3, 1) := by decide +kernel
theorem d_M_atom_35 : decode c_M_atom 35 = .ok (.ireturn, 1) := by decide +kernel
theorem d_M_atom_36 : decode c_M_atom 36 = .ok (.iload_n 2, 1) := by decide +kernel
theorem d_M_atom_37 : decode c_M_atom 37 = .ok (.bipush 120, 2) := by decide +kernel
theorem d_M_atom_39 : decode c_M_atom 39 = .ok (.if_icmp .ne 23, 3) := by decide +kernel
theorem d_M_atom_42 : decode c_M_atom 42 = .ok (.aload_n 0, 1) := by decide +kernel
theorem d_M_atom_43 : decode c_M_atom 43 = .ok (.bipush 71, 2) := by decide +kernel
theorem d_M_atom_45 : decode c_M_atom 45 = .ok (.iconst 0, 1) := by decide +kernel
theorem d_M_atom_46 : decode c_M_atom 46 = .ok (.invokevirtual 108, 3) := by decide +kernel
theorem d_M_atom_49 : decode c_M_atom 49 = .ok (.aload_n 0, 1) := by decide +kernel
theorem d_M_atom_50 : decode c_M_atom 50 = .ok (.getfield 23, 3) := by decide +kernel
theorem d_M_atom_53 : decode c_M_atom 53 = .ok (.sipush 924, 3) := by decide +kernel
theorem d_M_atom_56 : decode c_M_atom 56 = .ok (.iconst 1, 1) := by decide +kernel
theorem d_M_atom_57 : decode c_M_atom 57 = .ok (.iastore, 1) := by decide +kernel
theorem d_M_atom_58 : decode c_M_atom 58 = .ok (.iload_n 1, 1) := by decide +kernel
theorem d_M_atom_59 : decode c_M_atom 59 = .ok (.iconst 1, 1) := by decide +kernel
theorem d_M_atom_60 : decode c_M_atom 60 = .ok (.iadd, 1) := by decide +kernel
theorem d_M_atom_61 : decode c_M_atom 61 = .ok (.ireturn, 1) := by decide +kernel
theorem d_M_atom_62 : decode c_M_atom 62 = .ok (.iload_n 2, 1) := by decide +kernel
theorem d_M_atom_63 : decode c_M_atom 63 = .ok (.bipush 37, 2) := by decide +kernel
theorem d_M_atom_65 : decode c_M_atom 65 = .ok (.if_icmp .ne 13, 3) := by decide +kernel
theorem d_M_atom_68 : decode c_M_atom 68 = .ok (.aload_n 0, 1) := by decide +kernel
theorem d_M_atom_69 : decode c_M_atom 69 = .ok (.iload_n 1, 1) := by decide +kernel
theorem d_M_atom_70 : decode c_M_atom 70 = .ok (.iconst 1, 1) := by decide +kernel
theorem d_M_atom_71 : decode c_M_atom 71 = .ok (.iadd, 1) := by decide +kernel
theorem d_M_atom_72 : decode c_M_atom 72 = .ok (.invokevirtual 161, 3) := by decide +kernel
theorem d_M_atom_75 : decode c_M_atom 75 = .ok (.goto 6, 3) := by decide +kernel
theorem d_M_atom_78 : decode c_M_atom 78 = .ok (.iload_n 1, 1) := by decide +kernel
theorem d_M_atom_79 : decode c_M_atom 79 = .ok (.iconst 1, 1) := by decide +kernel
theorem d_M_atom_80 : decode c_M_atom 80 = .ok (.iadd, 1) := by decide +kernel
theorem d_M_atom_81 : decode c_M_atom 81 = .ok (.istore_n 3, 1) := by decide +kernel
theorem d_M_atom_82 : decode c_M_atom 82 = .ok (.iload_n 2, 1) := by decide +kernel
theorem d_M_atom_83 : decode c_M_atom 83 = .ok (.bipush 37, 2) := by decide +kernel
theorem d_M_atom_85 : decode c_M_atom 85 = .ok (.if_icmp .ne 14, 3) := by decide +kernel
theorem d_M_atom_88 : decode c_M_atom 88 = .ok (.aload_n 0, 1) := by decide +kernel
theorem d_M_atom_89 : decode c_M_atom 89 = .ok (.iload_n 1, 1) := by decide +kernel
theorem d_M_atom_90 : decode c_M_atom 90 = .ok (.iconst 1, 1) := by decide +kernel
theorem d_M_atom_91 : decode c_M_atom 91 = .ok (.iadd, 1) := by decide +kernel
theorem d_M_atom_92 : decode c_M_atom 92 = .ok (.iload_n 3, 1) := by decide +kernel
theorem d_M_atom_93 : decode c_M_atom 93 = .ok (.invokevirtual 164, 3) := by decide +kernel
theorem d_M_atom_96 : decode c_M_atom 96 = .ok (.goto 12, 3) := by decide +kernel
theorem d_M_atom_99 : decode c_M_atom 99 = .ok (.aload_n 0, 1) := by decide +kernel
theorem d_M_atom_100 : decode c_M_atom 100 = .ok (.getfield 20, 3) := by decide +kernel
theorem d_M_atom_103 : decode c_M_atom 103 = .ok (.iload_n 2, 1) := by decide +kernel
theorem d_M_atom_104 : decode c_M_atom 104 = .ok (.bipush 97, 2) := by decide +kernel
theorem d_M_atom_106 : decode c_M_atom 106 = .ok (.isub, 1) := by decide +kernel
theorem d_M_atom_107 : decode c_M_atom 107 = .ok (.iaload, 1) := by decide +kernel
theorem d_M_atom_108 : decode c_M_atom 108 = .ok (.istore 4, 2) := by decide +kernel
theorem d_M_atom_110 : decode c_M_atom 110 = .ok (.iload 4, 2) := by decide +kernel
theorem d_M_atom_112 : decode c_M_atom 112 = .ok (.iconst 1, 1) := by decide +kernel
theorem d_M_atom_113 : decode c_M_atom 113 = .ok (.if_icmp .lt 12, 3) := by decide +kernel
theorem d_M_atom_116 : decode c_M_atom 116 = .ok (.iload 4, 2) := by decide +kernel
theorem d_M_atom_118 : decode c_M_atom 118 = .ok (.aload_n 0, 1) := by decide +kernel
theorem d_M_atom_119 : decode c_M_atom 119 = .ok (.getfield 167, 3) := by decide +kernel
theorem d_M_atom_122 : decode c_M_atom 122 = .ok (.if_icmp .le 12, 3) := by decide +kernel
theorem d_M_atom_125 : decode c_M_atom 125 = .ok (.aload_n 0, 1) := by decide +kernel
theorem d_M_atom_126 : decode c_M_atom 126 = .ok (.bipush (-4), 2) := by decide +kernel
theorem d_M_atom_128 : decode c_M_atom 128 = .ok (.putfield 119, 3) := by decide +kernel
theorem d_M_atom_131 : decode c_M_atom 131 = .ok (.goto 11, 3) := by decide +kernel
theorem d_M_atom_134 : decode c_M_atom 134 = .ok (.aload_n 0, 1) := by decide +kernel
theorem d_M_atom_135 : decode c_M_atom 135 = .ok (.iload 4, 2) := by decide +kernel
theorem d_M_atom_137 : decode c_M_atom 137 = .ok (.bipush 71, 2) := by decide +kernel
theorem d_M_atom_139 : decode c_M_atom 139 = .ok (.invokevirtual 137, 3) := by decide +kernel
theorem d_M_atom_142 : decode c_M_atom 142 = .ok (.iload_n 3, 1) := by decide +kernel
theorem d_M_atom_143 : decode c_M_atom 143 = .ok (.ireturn, 1) := by decide +kernel
theorem d_M_shapes_0 : decode c_M_shapes 0 = .ok (.iconst 0, 1) := by decide +kernel
theorem d_M_shapes_1 : decode c_M_shapes 1 = .ok (.istore_n 1, 1) := by decide +kernel
theorem d_M_shapes_2 : decode c_M_shapes 2 = .ok (.iconst 1, 1) := by decide +kernel
theorem d_M_shapes_3 : decode c_M_shapes 3 = .ok (.istore_n 2, 1) := by decide +kernel
theorem d_M_shapes_4 : decode c_M_shapes 4 = .ok (.iload_n 2, 1) := by decide +kernel
theorem d_M_shapes_5 : decode c_M_shapes 5 = .ok (.aload_n 0, 1) := by decide +kernel
theorem d_M_shapes_6 : decode c_M_shapes 6 = .ok (.getfield 167, 3) := by decide +kernel
theorem d_M_shapes_9 : decode c_M_shapes 9 = .ok (.if_icmp .gt 26, 3) := by decide +kernel
theorem d_M_shapes_12 : decode c_M_shapes 12 = .ok (.aload_n 0, 1) := by decide +kernel
theorem d_M_shapes_13 : decode c_M_shapes 13 = .ok (.getfield 17, 3) := by decide +kernel
theorem d_M_shapes_16 : decode c_M_shapes 16 = .ok (.iload_n 2, 1) := by decide +kernel
theorem d_M_shapes_17 : decode c_M_shapes 17 = .ok (.iaload, 1) := by decide +kernel
theorem d_M_shapes_18 : decode c_M_shapes 18 = .ok (.iload_n 1, 1) := by decide +kernel
theorem d_M_shapes_19 : decode c_M_shapes 19 = .ok (.if_icmp .le 10, 3) := by decide +kernel
theorem d_M_shapes_22 : decode c_M_shapes 22 = .ok (.aload_n 0, 1) := by decide +kernel
theorem d_M_shapes_23 : decode c_M_shapes 23 = .ok (.getfield 17, 3) := by decide +kernel
theorem d_M_shapes_26 : decode c_M_shapes 26 = .ok (.iload_n 2, 1) := by decide +kernel
theorem d_M_shapes_27 : decode c_M_shapes 27 = .ok (.iaload, 1) := by decide +kernel
theorem d_M_shapes_28 : decode c_M_shapes 28 = .ok (.istore_n 1, 1) := by decide +kernel
theorem d_M_shapes_29 : decode c_M_shapes 29 = .ok (.iinc 2 1, 3) := by decide +kernel
theorem d_M_shapes_32 : decode c_M_shapes 32 = .ok (.goto (-28), 3) := by decide +kernel
theorem d_M_shapes_35 : decode c_M_shapes 35 = .ok (.iload_n 1, 1) := by decide +kernel
theorem d_M_shapes_36 : decode c_M_shapes 36 = .ok (.ireturn, 1) := by decide +kernel
theorem d_M_alike_0 : decode c_M_alike 0 = .ok (.iconst 0, 1) := by decide +kernel
theorem d_M_alike_1 : decode c_M_alike 1 = .ok (.istore_n 3, 1) := by decide +kernel
theorem d_M_alike_2 : decode c_M_alike 2 = .ok (.iload_n 3, 1) := by decide +kernel
theorem d_M_alike_3 : decode c_M_alike 3 = .ok (.bipush 13, 2) := by decide +kernel
theorem d_M_alike_5 : decode c_M_alike 5 = .ok (.if_icmp .ge 61, 3) := by decide +kernel
theorem d_M_alike_8 : decode c_M_alike 8 = .ok (.aload_n 0, 1) := by decide +kernel
theorem d_M_alike_9 : decode c_M_alike 9 = .ok (.getfield 23, 3) := by decide +kernel
theorem d_M_alike_12 : decode c_M_alike 12 = .ok (.iload_n 1, 1) := by decide +kernel
theorem d_M_alike_13 : decode c_M_alike 13 = .ok (.bipush 13, 2) := by decide +kernel
theorem d_M_alike_15 : decode c_M_alike 15 = .ok (.imul, 1) := by decide +kernel
theorem d_M_alike_16 : decode c_M_alike 16 = .ok (.iload_n 3, 1) := by decide +kernel
theorem d_M_alike_17 : decode c_M_alike 17 = .ok (.iadd, 1) := by decide +kernel
theorem d_M_alike_18 : decode c_M_alike 18 = .ok (.iaload, 1) := by decide +kernel
theorem d_M_alike_19 : decode c_M_alike 19 = .ok (.aload_n 0, 1) := by decide +kernel
theorem d_M_alike_20 : decode c_M_alike 20 = .ok (.getfield 23, 3) := by decide +kernel
theorem d_M_alike_23 : decode c_M_alike 23 = .ok (.iload_n 2, 1) := by decide +kernel
theorem d_M_alike_24 : decode c_M_alike 24 = .ok (.bipush 13, 2) := by decide +kernel
theorem d_M_alike_26 : decode c_M_alike 26 = .ok (.imul, 1) := by decide +kernel
theorem d_M_alike_27 : decode c_M_alike 27 = .ok (.iload_n 3, 1) := by decide +kernel
theorem d_M_alike_28 : decode c_M_alike 28 = .ok (.iadd, 1) := by decide +kernel
theorem d_M_alike_29 : decode c_M_alike 29 = .ok (.iaload, 1) := by decide +kernel
theorem d_M_alike_30 : decode c_M_alike 30 = .ok (.if_icmp .ne 28, 3) := by decide +kernel
theorem d_M_alike_33 : decode c_M_alike 33 = .ok (.aload_n 0, 1) := by decide +kernel
theorem d_M_alike_34 : decode c_M_alike 34 = .ok (.getfield 26, 3) := by decide +kernel
theorem d_M_alike_37 : decode c_M_alike 37 = .ok (.iload_n 1, 1) := by decide +kernel
theorem d_M_alike_38 : decode c_M_alike 38 = .ok (.bipush 13, 2) := by decide +kernel
theorem d_M_alike_40 : decode c_M_alike 40 = .ok (.imul, 1) := by decide +kernel
theorem d_M_alike_41 : decode c_M_alike 41 = .ok (.iload_n 3, 1) := by decide +kernel
theorem d_M_alike_42 : decode c_M_alike 42 = .ok (.iadd, 1) := by decide +kernel
theorem d_M_alike_43 : decode c_M_alike 43 = .ok (.iaload, 1) := by decide +kernel
theorem d_M_alike_44 : decode c_M_alike 44 = .ok (.aload_n 0, 1) := by decide +kernel
theorem d_M_alike_45 : decode c_M_alike 45 = .ok (.getfield 26, 3) := by decide +kernel
theorem d_M_alike_48 : decode c_M_alike 48 = .ok (.iload_n 2, 1) := by decide +kernel
theorem d_M_alike_49 : decode c_M_alike 49 = .ok (.bipush 13, 2) := by decide +kernel
theorem d_M_alike_51 : decode c_M_alike 51 = .ok (.imul, 1) := by decide +kernel
theorem d_M_alike_52 : decode c_M_alike 52 = .ok (.iload_n 3, 1) := by decide +kernel
theorem d_M_alike_53 : decode c_M_alike 53 = .ok (.iadd, 1) := by decide +kernel
theorem d_M_alike_54 : decode c_M_alike 54 = .ok (.iaload, 1) := by decide +kernel
theorem d_M_alike_55 : decode c_M_alike 55 = .ok (.if_icmp .eq 5, 3) := by decide +kernel
theorem d_M_alike_58 : decode c_M_alike 58 = .ok (.iconst 0, 1) := by decide +kernel
theorem d_M_alike_59 : decode c_M_alike 59 = .ok (.ireturn, 1) := by decide +kernel
theorem d_M_alike_60 : decode c_M_alike 60 = .ok (.iinc 3 1, 3) := by decide +kernel
theorem d_M_alike_63 : decode c_M_alike 63 = .ok (.goto (-61), 3) := by decide +kernel
theorem d_M_alike_66 : decode c_M_alike 66 = .ok (.iconst 1, 1) := by decide +kernel
theorem d_M_alike_67 : decode c_M_alike 67 = .ok (.ireturn, 1) := by decide +kernel
theorem d_M_badPlace_0 : decode c_M_badPlace 0 = .ok (.aload_n 0, 1) := by decide +kernel
theorem d_M_badPlace_1 : decode c_M_badPlace 1 = .ok (.getfield 13, 3) := by decide +kernel
theorem d_M_badPlace_4 : decode c_M_badPlace 4 = .ok (.ireturn, 1) := by decide +kernel
theorem d_M_degree_0 : decode c_M_degree 0 = .ok (.aload_n 0, 1) := by decide +kernel
theorem d_M_degree_1 : decode c_M_degree 1 = .ok (.iload_n 1, 1) := by decide +kernel
theorem d_M_degree_2 : decode c_M_degree 2 = .ok (.invokevirtual 205, 3) := by decide +kernel
theorem d_M_degree_5 : decode c_M_degree 5 = .ok (.ifCond .eq 7, 3) := by decide +kernel
theorem d_M_degree_8 : decode c_M_degree 8 = .ok (.iconst (-1), 1) := by decide +kernel
theorem d_M_degree_9 : decode c_M_degree 9 = .ok (.goto 9, 3) := by decide +kernel
theorem d_M_degree_12 : decode c_M_degree 12 = .ok (.aload_n 0, 1) := by decide +kernel
theorem d_M_degree_13 : decode c_M_degree 13 = .ok (.iload_n 1, 1) := by decide +kernel
theorem d_M_degree_14 : decode c_M_degree 14 = .ok (.iload_n 2, 1) := by decide +kernel
theorem d_M_degree_15 : decode c_M_degree 15 = .ok (.invokevirtual 133, 3) := by decide +kernel
theorem d_M_degree_18 : decode c_M_degree 18 = .ok (.ireturn, 1) := by decide +kernel
theorem d_M_noLabel_0 : decode c_M_noLabel 0 = .ok (.iload_n 1, 1) := by decide +kernel
theorem d_M_noLabel_1 : decode c_M_noLabel 1 = .ok (.iconst 1, 1) := by decide +kernel
theorem d_M_noLabel_2 : decode c_M_noLabel 2 = .ok (.if_icmp .lt 11, 3) := by decide +kernel
theorem d_M_noLabel_5 : decode c_M_noLabel 5 = .ok (.iload_n 1, 1) := by decide +kernel
theorem d_M_noLabel_6 : decode c_M_noLabel 6 = .ok (.aload_n 0, 1) := by decide +kernel
theorem d_M_noLabel_7 : decode c_M_noLabel 7 = .ok (.getfield 167, 3) := by decide +kernel
theorem d_M_noLabel_10 : decode c_M_noLabel 10 = .ok (.if_icmp .le 7, 3) := by decide +kernel
theorem d_M_noLabel_13 : decode c_M_noLabel 13 = .ok (.iconst 1, 1) := by decide +kernel
theorem d_M_noLabel_14 : decode c_M_noLabel 14 = .ok (.goto 4, 3) := by decide +kernel
theorem d_M_noLabel_17 : decode c_M_noLabel 17 = .ok (.iconst 0, 1) := by decide +kernel
theorem d_M_noLabel_18 : decode c_M_noLabel 18 = .ok (.ireturn, 1) := by decide +kernel
theorem d_M_coefficient_0 : decode c_M_coefficient 0 = .ok (.aload_n 0, 1) := by decide +kernel
theorem d_M_coefficient_1 : decode c_M_coefficient 1 = .ok (.iload_n 1, 1) := by decide +kernel
theorem d_M_coefficient_2 : decode c_M_coefficient 2 = .ok (.invokevirtual 205, 3) := by decide +kernel
theorem d_M_coefficient_5 : decode c_M_coefficient 5 = .ok (.ifCond .ne 13, 3) := by decide +kernel
theorem d_M_coefficient_8 : decode c_M_coefficient 8 = .ok (.iload_n 3, 1) := by decide +kernel
theorem d_M_coefficient_9 : decode c_M_coefficient 9 = .ok (.ifCond .lt 9, 3) := by decide +kernel
theorem d_M_coefficient_12 : decode c_M_coefficient 12 = .ok (.iload_n 3, 1) := by decide +kernel
theorem d_M_coefficient_13 : decode c_M_coefficient 13 = .ok (.bipush 12, 2) := by decide +kernel
theorem d_M_coefficient_15 : decode c_M_coefficient 15 = .ok (.if_icmp .le 5, 3) := by decide +kernel
theorem d_M_coefficient_18 : decode c_M_coefficient 18 = .ok (.iconst (-1), 1) := by decide +kernel
theorem d_M_coefficient_19 : decode c_M_coefficient 19 = .ok (.ireturn, 1) := by decide +kernel
theorem d_M_coefficient_20 : decode c_M_coefficient 20 = .ok (.iload_n 2, 1) := by decide +kernel
theorem d_M_coefficient_21 : decode c_M_coefficient 21 = .ok (.ifCond .eq 17, 3) := by decide +kernel
theorem d_M_coefficient_24 : decode c_M_coefficient 24 = .ok (.aload_n 0, 1) := by decide +kernel
theorem d_M_coefficient_25 : decode c_M_coefficient 25 = .ok (.getfield 26, 3) := by decide +kernel
theorem d_M_coefficient_28 : decode c_M_coefficient 28 = .ok (.iload_n 1, 1) := by decide +kernel
theorem d_M_coefficient_29 : decode c_M_coefficient 29 = .ok (.bipush 13, 2) := by decide +kernel
theorem d_M_coefficient_31 : decode c_M_coefficient 31 = .ok (.imul, 1) := by decide +kernel
theorem d_M_coefficient_32 : decode c_M_coefficient 32 = .ok (.iload_n 3, 1) := by decide +kernel
theorem d_M_coefficient_33 : decode c_M_coefficient 33 = .ok (.iadd, 1) := by decide +kernel
theorem d_M_coefficient_34 : decode c_M_coefficient 34 = .ok (.iaload, 1) := by decide +kernel
theorem d_M_coefficient_35 : decode c_M_coefficient 35 = .ok (.goto 14, 3) := by decide +kernel
theorem d_M_coefficient_38 : decode c_M_coefficient 38 = .ok (.aload_n 0, 1) := by decide +kernel
theorem d_M_coefficient_39 : decode c_M_coefficient 39 = .ok (.getfield 23, 3) := by decide +kernel
theorem d_M_coefficient_42 : decode c_M_coefficient 42 = .ok (.iload_n 1, 1) := by decide +kernel
theorem d_M_coefficient_43 : decode c_M_coefficient 43 = .ok (.bipush 13, 2) := by decide +kernel
theorem d_M_coefficient_45 : decode c_M_coefficient 45 = .ok (.imul, 1) := by decide +kernel
theorem d_M_coefficient_46 : decode c_M_coefficient 46 = .ok (.iload_n 3, 1) := by decide +kernel
theorem d_M_coefficient_47 : decode c_M_coefficient 47 = .ok (.iadd, 1) := by decide +kernel
theorem d_M_coefficient_48 : decode c_M_coefficient 48 = .ok (.iaload, 1) := by decide +kernel
theorem d_M_coefficient_49 : decode c_M_coefficient 49 = .ok (.ireturn, 1) := by decide +kernel
theorem d_M_shape_0 : decode c_M_shape 0 = .ok (.aload_n 0, 1) := by decide +kernel
theorem d_M_shape_1 : decode c_M_shape 1 = .ok (.iload_n 1, 1) := by decide +kernel
theorem d_M_shape_2 : decode c_M_shape 2 = .ok (.invokevirtual 205, 3) := by decide +kernel
theorem d_M_shape_5 : decode c_M_shape 5 = .ok (.ifCond .eq 7, 3) := by decide +kernel
theorem d_M_shape_8 : decode c_M_shape 8 = .ok (.iconst (-1), 1) := by decide +kernel
theorem d_M_shape_9 : decode c_M_shape 9 = .ok (.goto 9, 3) := by decide +kernel
theorem d_M_shape_12 : decode c_M_shape 12 = .ok (.aload_n 0, 1) := by decide +kernel
theorem d_M_shape_13 : decode c_M_shape 13 = .ok (.getfield 17, 3) := by decide +kernel
theorem d_M_shape_16 : decode c_M_shape 16 = .ok (.iload_n 1, 1) := by decide +kernel
theorem d_M_shape_17 : decode c_M_shape 17 = .ok (.iaload, 1) := by decide +kernel
theorem d_M_shape_18 : decode c_M_shape 18 = .ok (.ireturn, 1) := by decide +kernel
theorem d_M_labels_0 : decode c_M_labels 0 = .ok (.aload_n 0, 1) := by decide +kernel
theorem d_M_labels_1 : decode c_M_labels 1 = .ok (.getfield 167, 3) := by decide +kernel
theorem d_M_labels_4 : decode c_M_labels 4 = .ok (.ireturn, 1) := by decide +kernel
theorem d_M_bound_0 : decode c_M_bound 0 = .ok (.iload_n 1, 1) := by decide +kernel
theorem d_M_bound_1 : decode c_M_bound 1 = .ok (.ifCond .lt 8, 3) := by decide +kernel
theorem d_M_bound_4 : decode c_M_bound 4 = .ok (.iload_n 1, 1) := by decide +kernel
theorem d_M_bound_5 : decode c_M_bound 5 = .ok (.iconst 2, 1) := by decide +kernel
theorem d_M_bound_6 : decode c_M_bound 6 = .ok (.if_icmp .le 5, 3) := by decide +kernel
theorem d_M_bound_9 : decode c_M_bound 9 = .ok (.iconst (-1), 1) := by decide +kernel
theorem d_M_bound_10 : decode c_M_bound 10 = .ok (.ireturn, 1) := by decide +kernel
theorem d_M_bound_11 : decode c_M_bound 11 = .ok (.aload_n 0, 1) := by decide +kernel
theorem d_M_bound_12 : decode c_M_bound 12 = .ok (.getfield 20, 3) := by decide +kernel
theorem d_M_bound_15 : decode c_M_bound 15 = .ok (.iload_n 1, 1) := by decide +kernel
theorem d_M_bound_16 : decode c_M_bound 16 = .ok (.iaload, 1) := by decide +kernel
theorem d_M_bound_17 : decode c_M_bound 17 = .ok (.ifCond .ne 7, 3) := by decide +kernel
theorem d_M_bound_20 : decode c_M_bound 20 = .ok (.iconst 0, 1) := by decide +kernel
theorem d_M_bound_21 : decode c_M_bound 21 = .ok (.goto 14, 3) := by decide +kernel
theorem d_M_bound_24 : decode c_M_bound 24 = .ok (.aload_n 0, 1) := by decide +kernel
theorem d_M_bound_25 : decode c_M_bound 25 = .ok (.getfield 17, 3) := by decide +kernel
theorem d_M_bound_28 : decode c_M_bound 28 = .ok (.aload_n 0, 1) := by decide +kernel
theorem d_M_bound_29 : decode c_M_bound 29 = .ok (.getfield 20, 3) := by decide +kernel
theorem d_M_bound_32 : decode c_M_bound 32 = .ok (.iload_n 1, 1) := by decide +kernel
theorem d_M_bound_33 : decode c_M_bound 33 = .ok (.iaload, 1) := by decide +kernel
theorem d_M_bound_34 : decode c_M_bound 34 = .ok (.iaload, 1) := by decide +kernel
theorem d_M_bound_35 : decode c_M_bound 35 = .ok (.ireturn, 1) := by decide +kernel
theorem d_M_value_0 : decode c_M_value 0 = .ok (.aload_n 0, 1) := by decide +kernel
theorem d_M_value_1 : decode c_M_value 1 = .ok (.iload_n 1, 1) := by decide +kernel
theorem d_M_value_2 : decode c_M_value 2 = .ok (.invokevirtual 205, 3) := by decide +kernel
theorem d_M_value_5 : decode c_M_value 5 = .ok (.ifCond .eq 5, 3) := by decide +kernel
theorem d_M_value_8 : decode c_M_value 8 = .ok (.iconst (-1), 1) := by decide +kernel
theorem d_M_value_9 : decode c_M_value 9 = .ok (.ireturn, 1) := by decide +kernel
theorem d_M_value_10 : decode c_M_value 10 = .ok (.iload_n 2, 1) := by decide +kernel
theorem d_M_value_11 : decode c_M_value 11 = .ok (.sipush 10007, 3) := by decide +kernel
theorem d_M_value_14 : decode c_M_value 14 = .ok (.irem, 1) := by decide +kernel
theorem d_M_value_15 : decode c_M_value 15 = .ok (.sipush 10007, 3) := by decide +kernel
theorem d_M_value_18 : decode c_M_value 18 = .ok (.iadd, 1) := by decide +kernel
theorem d_M_value_19 : decode c_M_value 19 = .ok (.sipush 10007, 3) := by decide +kernel
theorem d_M_value_22 : decode c_M_value 22 = .ok (.irem, 1) := by decide +kernel
theorem d_M_value_23 : decode c_M_value 23 = .ok (.istore_n 3, 1) := by decide +kernel
theorem d_M_value_24 : decode c_M_value 24 = .ok (.iconst 0, 1) := by decide +kernel
theorem d_M_value_25 : decode c_M_value 25 = .ok (.istore 4, 2) := by decide +kernel
theorem d_M_value_27 : decode c_M_value 27 = .ok (.iconst 0, 1) := by decide +kernel
theorem d_M_value_28 : decode c_M_value 28 = .ok (.istore 5, 2) := by decide +kernel
theorem d_M_value_30 : decode c_M_value 30 = .ok (.iconst 1, 1) := by decide +kernel
theorem d_M_value_31 : decode c_M_value 31 = .ok (.istore 6, 2) := by decide +kernel
theorem d_M_value_33 : decode c_M_value 33 = .ok (.iconst 0, 1) := by decide +kernel
theorem d_M_value_34 : decode c_M_value 34 = .ok (.istore 7, 2) := by decide +kernel
theorem d_M_value_36 : decode c_M_value 36 = .ok (.iload 7, 2) := by decide +kernel
theorem d_M_value_38 : decode c_M_value 38 = .ok (.bipush 13, 2) := by decide +kernel
theorem d_M_value_40 : decode c_M_value 40 = .ok (.if_icmp .ge 67, 3) := by decide +kernel
theorem d_M_value_43 : decode c_M_value 43 = .ok (.iload 4, 2) := by decide +kernel
theorem d_M_value_45 : decode c_M_value 45 = .ok (.aload_n 0, 1) := by decide +kernel
theorem d_M_value_46 : decode c_M_value 46 = .ok (.getfield 23, 3) := by decide +kernel
theorem d_M_value_49 : decode c_M_value 49 = .ok (.iload_n 1, 1) := by decide +kernel
theorem d_M_value_50 : decode c_M_value 50 = .ok (.bipush 13, 2) := by decide +kernel
theorem d_M_value_52 : decode c_M_value 52 = .ok (.imul, 1) := by decide +kernel
theorem d_M_value_53 : decode c_M_value 53 = .ok (.iload 7, 2) := by decide +kernel
theorem d_M_value_55 : decode c_M_value 55 = .ok (.iadd, 1) := by decide +kernel
theorem d_M_value_56 : decode c_M_value 56 = .ok (.iaload, 1) := by decide +kernel
theorem d_M_value_57 : decode c_M_value 57 = .ok (.iload 6, 2) := by decide +kernel
theorem d_M_value_59 : decode c_M_value 59 = .ok (.imul, 1) := by decide +kernel
theorem d_M_value_60 : decode c_M_value 60 = .ok (.iadd, 1) := by decide +kernel
theorem d_M_value_61 : decode c_M_value 61 = .ok (.sipush 10007, 3) := by decide +kernel
theorem d_M_value_64 : decode c_M_value 64 = .ok (.irem, 1) := by decide +kernel
theorem d_M_value_65 : decode c_M_value 65 = .ok (.istore 4, 2) := by decide +kernel
theorem d_M_value_67 : decode c_M_value 67 = .ok (.iload 5, 2) := by decide +kernel
theorem d_M_value_69 : decode c_M_value 69 = .ok (.aload_n 0, 1) := by decide +kernel
theorem d_M_value_70 : decode c_M_value 70 = .ok (.getfield 26, 3) := by decide +kernel
theorem d_M_value_73 : decode c_M_value 73 = .ok (.iload_n 1, 1) := by decide +kernel
theorem d_M_value_74 : decode c_M_value 74 = .ok (.bipush 13, 2) := by decide +kernel
theorem d_M_value_76 : decode c_M_value 76 = .ok (.imul, 1) := by decide +kernel
theorem d_M_value_77 : decode c_M_value 77 = .ok (.iload 7, 2) := by decide +kernel
theorem d_M_value_79 : decode c_M_value 79 = .ok (.iadd, 1) := by decide +kernel
theorem d_M_value_80 : decode c_M_value 80 = .ok (.iaload, 1) := by decide +kernel
theorem d_M_value_81 : decode c_M_value 81 = .ok (.iload 6, 2) := by decide +kernel
theorem d_M_value_83 : decode c_M_value 83 = .ok (.imul, 1) := by decide +kernel
theorem d_M_value_84 : decode c_M_value 84 = .ok (.iadd, 1) := by decide +kernel
theorem d_M_value_85 : decode c_M_value 85 = .ok (.sipush 10007, 3) := by decide +kernel
theorem d_M_value_88 : decode c_M_value 88 = .ok (.irem, 1) := by decide +kernel
theorem d_M_value_89 : decode c_M_value 89 = .ok (.istore 5, 2) := by decide +kernel
theorem d_M_value_91 : decode c_M_value 91 = .ok (.iload 6, 2) := by decide +kernel
theorem d_M_value_93 : decode c_M_value 93 = .ok (.iload_n 3, 1) := by decide +kernel
theorem d_M_value_94 : decode c_M_value 94 = .ok (.imul, 1) := by decide +kernel
theorem d_M_value_95 : decode c_M_value 95 = .ok (.sipush 10007, 3) := by decide +kernel
theorem d_M_value_98 : decode c_M_value 98 = .ok (.irem, 1) := by decide +kernel
theorem d_M_value_99 : decode c_M_value 99 = .ok (.istore 6, 2) := by decide +kernel
theorem d_M_value_101 : decode c_M_value 101 = .ok (.iinc 7 1, 3) := by decide +kernel
theorem d_M_value_104 : decode c_M_value 104 = .ok (.goto (-68), 3) := by decide +kernel
theorem d_M_value_107 : decode c_M_value 107 = .ok (.iload 5, 2) := by decide +kernel
theorem d_M_value_109 : decode c_M_value 109 = .ok (.ifCond .ne 8, 3) := by decide +kernel
theorem d_M_value_112 : decode c_M_value 112 = .ok (.bipush (-7), 2) := by decide +kernel
theorem d_M_value_114 : decode c_M_value 114 = .ok (.goto 16, 3) := by decide +kernel
theorem d_M_value_117 : decode c_M_value 117 = .ok (.iload 4, 2) := by decide +kernel
theorem d_M_value_119 : decode c_M_value 119 = .ok (.aload_n 0, 1) := by decide +kernel
theorem d_M_value_120 : decode c_M_value 120 = .ok (.iload 5, 2) := by decide +kernel
theorem d_M_value_122 : decode c_M_value 122 = .ok (.invokevirtual 98, 3) := by decide +kernel
theorem d_M_value_125 : decode c_M_value 125 = .ok (.imul, 1) := by decide +kernel
theorem d_M_value_126 : decode c_M_value 126 = .ok (.sipush 10007, 3) := by decide +kernel
theorem d_M_value_129 : decode c_M_value 129 = .ok (.irem, 1) := by decide +kernel
theorem d_M_value_130 : decode c_M_value 130 = .ok (.ireturn, 1) := by decide +kernel
theorem d_M_text_0 : decode c_M_text 0 = .ok (.aload_n 0, 1) := by decide +kernel
theorem d_M_text_1 : decode c_M_text 1 = .ok (.iload_n 1, 1) := by decide +kernel
theorem d_M_text_2 : decode c_M_text 2 = .ok (.invokevirtual 205, 3) := by decide +kernel
theorem d_M_text_5 : decode c_M_text 5 = .ok (.ifCond .ne 7, 3) := by decide +kernel
theorem d_M_text_8 : decode c_M_text 8 = .ok (.iload_n 2, 1) := by decide +kernel
theorem d_M_text_9 : decode c_M_text 9 = .ok (.ifCond .ge 5, 3) := by decide +kernel
theorem d_M_text_12 : decode c_M_text 12 = .ok (.iconst (-1), 1) := by decide +kernel
theorem d_M_text_13 : decode c_M_text 13 = .ok (.ireturn, 1) := by decide +kernel
theorem d_M_text_14 : decode c_M_text 14 = .ok (.aload_n 0, 1) := by decide +kernel
theorem d_M_text_15 : decode c_M_text 15 = .ok (.iload_n 2, 1) := by decide +kernel
theorem d_M_text_16 : decode c_M_text 16 = .ok (.putfield 211, 3) := by decide +kernel
theorem d_M_text_19 : decode c_M_text 19 = .ok (.aload_n 0, 1) := by decide +kernel
theorem d_M_text_20 : decode c_M_text 20 = .ok (.iconst 0, 1) := by decide +kernel
theorem d_M_text_21 : decode c_M_text 21 = .ok (.putfield 208, 3) := by decide +kernel
theorem d_M_text_24 : decode c_M_text 24 = .ok (.aload_n 0, 1) := by decide +kernel
theorem d_M_text_25 : decode c_M_text 25 = .ok (.iconst 0, 1) := by decide +kernel
theorem d_M_text_26 : decode c_M_text 26 = .ok (.putfield 214, 3) := by decide +kernel
theorem d_M_text_29 : decode c_M_text 29 = .ok (.aload_n 0, 1) := by decide +kernel
theorem d_M_text_30 : decode c_M_text 30 = .ok (.iload_n 1, 1) := by decide +kernel
theorem d_M_text_31 : decode c_M_text 31 = .ok (.iconst 1, 1) := by decide +kernel
theorem d_M_text_32 : decode c_M_text 32 = .ok (.invokevirtual 133, 3) := by decide +kernel
theorem d_M_text_35 : decode c_M_text 35 = .ok (.ifCond .ne 7, 3) := by decide +kernel
theorem d_M_text_38 : decode c_M_text 38 = .ok (.iconst 1, 1) := by decide +kernel
theorem d_M_text_39 : decode c_M_text 39 = .ok (.goto 4, 3) := by decide +kernel
theorem d_M_text_42 : decode c_M_text 42 = .ok (.iconst 0, 1) := by decide +kernel
theorem d_M_text_43 : decode c_M_text 43 = .ok (.istore_n 3, 1) := by decide +kernel
theorem d_M_text_44 : decode c_M_text 44 = .ok (.iload_n 3, 1) := by decide +kernel
theorem d_M_text_45 : decode c_M_text 45 = .ok (.ifCond .ne 9, 3) := by decide +kernel
theorem d_M_text_48 : decode c_M_text 48 = .ok (.aload_n 0, 1) := by decide +kernel
theorem d_M_text_49 : decode c_M_text 49 = .ok (.bipush 40, 2) := by decide +kernel
theorem d_M_text_51 : decode c_M_text 51 = .ok (.invokevirtual 217, 3) := by decide +kernel
theorem d_M_text_54 : decode c_M_text 54 = .ok (.aload_n 0, 1) := by decide +kernel
theorem d_M_text_55 : decode c_M_text 55 = .ok (.iload_n 1, 1) := by decide +kernel
theorem d_M_text_56 : decode c_M_text 56 = .ok (.iconst 0, 1) := by decide +kernel
theorem d_M_text_57 : decode c_M_text 57 = .ok (.invokevirtual 223, 3) := by decide +kernel
theorem d_M_text_60 : decode c_M_text 60 = .ok (.iload_n 3, 1) := by decide +kernel
theorem d_M_text_61 : decode c_M_text 61 = .ok (.ifCond .eq 8, 3) := by decide +kernel
theorem d_M_text_64 : decode c_M_text 64 = .ok (.aload_n 0, 1) := by decide +kernel
theorem d_M_text_65 : decode c_M_text 65 = .ok (.getfield 214, 3) := by decide +kernel
theorem d_M_text_68 : decode c_M_text 68 = .ok (.ireturn, 1) := by decide +kernel
theorem d_M_text_69 : decode c_M_text 69 = .ok (.aload_n 0, 1) := by decide +kernel
theorem d_M_text_70 : decode c_M_text 70 = .ok (.bipush 41, 2) := by decide +kernel
theorem d_M_text_72 : decode c_M_text 72 = .ok (.invokevirtual 217, 3) := by decide +kernel
theorem d_M_text_75 : decode c_M_text 75 = .ok (.aload_n 0, 1) := by decide +kernel
theorem d_M_text_76 : decode c_M_text 76 = .ok (.bipush 47, 2) := by decide +kernel
theorem d_M_text_78 : decode c_M_text 78 = .ok (.invokevirtual 217, 3) := by decide +kernel
theorem d_M_text_81 : decode c_M_text 81 = .ok (.aload_n 0, 1) := by decide +kernel
theorem d_M_text_82 : decode c_M_text 82 = .ok (.bipush 40, 2) := by decide +kernel
theorem d_M_text_84 : decode c_M_text 84 = .ok (.invokevirtual 217, 3) := by decide +kernel
theorem d_M_text_87 : decode c_M_text 87 = .ok (.aload_n 0, 1) := by decide +kernel
theorem d_M_text_88 : decode c_M_text 88 = .ok (.iload_n 1, 1) := by decide +kernel
theorem d_M_text_89 : decode c_M_text 89 = .ok (.iconst 1, 1) := by decide +kernel
theorem d_M_text_90 : decode c_M_text 90 = .ok (.invokevirtual 223, 3) := by decide +kernel
theorem d_M_text_93 : decode c_M_text 93 = .ok (.aload_n 0, 1) := by decide +kernel
theorem d_M_text_94 : decode c_M_text 94 = .ok (.bipush 41, 2) := by decide +kernel
theorem d_M_text_96 : decode c_M_text 96 = .ok (.invokevirtual 217, 3) := by decide +kernel
theorem d_M_text_99 : decode c_M_text 99 = .ok (.aload_n 0, 1) := by decide +kernel
theorem d_M_text_100 : decode c_M_text 100 = .ok (.getfield 214, 3) := by decide +kernel
theorem d_M_text_103 : decode c_M_text 103 = .ok (.ireturn, 1) := by decide +kernel
theorem d_M_emit_0 : decode c_M_emit 0 = .ok (.aload_n 0, 1) := by decide +kernel
theorem d_M_emit_1 : decode c_M_emit 1 = .ok (.getfield 208, 3) := by decide +kernel
theorem d_M_emit_4 : decode c_M_emit 4 = .ok (.aload_n 0, 1) := by decide +kernel
theorem d_M_emit_5 : decode c_M_emit 5 = .ok (.getfield 211, 3) := by decide +kernel
theorem d_M_emit_8 : decode c_M_emit 8 = .ok (.if_icmp .ne 8, 3) := by decide +kernel
theorem d_M_emit_11 : decode c_M_emit 11 = .ok (.aload_n 0, 1) := by decide +kernel
theorem d_M_emit_12 : decode c_M_emit 12 = .ok (.iload_n 1, 1) := by decide +kernel
theorem d_M_emit_13 : decode c_M_emit 13 = .ok (.putfield 214, 3) := by decide +kernel
theorem d_M_emit_16 : decode c_M_emit 16 = .ok (.aload_n 0, 1) := by decide +kernel
theorem d_M_emit_17 : decode c_M_emit 17 = .ok (.dup, 1) := by decide +kernel
theorem d_M_emit_18 : decode c_M_emit 18 = .ok (.getfield 208, 3) := by decide +kernel
theorem d_M_emit_21 : decode c_M_emit 21 = .ok (.iconst 1, 1) := by decide +kernel
theorem d_M_emit_22 : decode c_M_emit 22 = .ok (.iadd, 1) := by decide +kernel
theorem d_M_emit_23 : decode c_M_emit 23 = .ok (.putfield 208, 3) := by decide +kernel
theorem d_M_emit_26 : decode c_M_emit 26 = .ok (.return_, 1) := by decide +kernel
theorem d_M_emitPolynomial_0 : decode c_M_emitPolynomial 0 = .ok (.aload_n 0, 1) := by decide +kernel
theorem d_M_emitPolynomial_1 : decode c_M_emitPolynomial 1 = .ok (.iload_n 1, 1) := by decide +kernel
theorem d_M_emitPolynomial_2 : decode c_M_emitPolynomial 2 = .ok (.iload_n 2, 1) := by decide +kernel
theorem d_M_emitPolynomial_3 : decode c_M_emitPolynomial 3 = .ok (.invokevirtual 133, 3) := by decide +kernel
theorem d_M_emitPolynomial_6 : decode c_M_emitPolynomial 6 = .ok (.istore_n 3, 1) := by decide +kernel
theorem d_M_emitPolynomial_7 : decode c_M_emitPolynomial 7 = .ok (.iload_n 3, 1) := by decide +kernel
theorem d_M_emitPolynomial_8 : decode c_M_emitPolynomial 8 = .ok (.ifCond .ge 9, 3) := by decide +kernel
theorem d_M_emitPolynomial_11 : decode c_M_emitPolynomial 11 = .ok (.aload_n 0, 1) := by decide +kernel
theorem d_M_emitPolynomial_12 : decode c_M_emitPolynomial 12 = .ok (.bipush 48, 2) := by decide +kernel
theorem d_M_emitPolynomial_14 : decode c_M_emitPolynomial 14 = .ok (.invokevirtual 217, 3) := by decide +kernel
theorem d_M_emitPolynomial_17 : decode c_M_emitPolynomial 17 = .ok (.iload_n 3, 1) := by decide +kernel
theorem d_M_emitPolynomial_18 : decode c_M_emitPolynomial 18 = .ok (.istore 4, 2) := by decide +kernel
theorem d_M_emitPolynomial_20 : decode c_M_emitPolynomial 20 = .ok (.iload 4, 2) := by decide +kernel
theorem d_M_emitPolynomial_22 : decode c_M_emitPolynomial 22 = .ok (.ifCond .lt 128, 3) := by decide +kernel
theorem d_M_emitPolynomial_25 : decode c_M_emitPolynomial 25 = .ok (.iload_n 2, 1) := by decide +kernel
theorem d_M_emitPolynomial_26 : decode c_M_emitPolynomial 26 = .ok (.ifCond .eq 18, 3) := by decide +kernel
theorem d_M_emitPolynomial_29 : decode c_M_emitPolynomial 29 = .ok (.aload_n 0, 1) := by decide +kernel
theorem d_M_emitPolynomial_30 : decode c_M_emitPolynomial 30 = .ok (.getfield 26, 3) := by decide +kernel
theorem d_M_emitPolynomial_33 : decode c_M_emitPolynomial 33 = .ok (.iload_n 1, 1) := by decide +kernel
theorem d_M_emitPolynomial_34 : decode c_M_emitPolynomial 34 = .ok (.bipush 13, 2) := by decide +kernel
theorem d_M_emitPolynomial_36 : decode c_M_emitPolynomial 36 = .ok (.imul, 1) := by decide +kernel
theorem d_M_emitPolynomial_37 : decode c_M_emitPolynomial 37 = .ok (.iload 4, 2) := by decide +kernel
theorem d_M_emitPolynomial_39 : decode c_M_emitPolynomial 39 = .ok (.iadd, 1) := by decide +kernel
theorem d_M_emitPolynomial_40 : decode c_M_emitPolynomial 40 = .ok (.iaload, 1) := by decide +kernel
theorem d_M_emitPolynomial_41 : decode c_M_emitPolynomial 41 = .ok (.goto 15, 3) := by decide +kernel
theorem d_M_emitPolynomial_44 : decode c_M_emitPolynomial 44 = .ok (.aload_n 0, 1) := by decide +kernel
theorem d_M_emitPolynomial_45 : decode c_M_emitPolynomial 45 = .ok (.getfield 23, 3) := by decide +kernel
theorem d_M_emitPolynomial_48 : decode c_M_emitPolynomial 48 = .ok (.iload_n 1, 1) := by decide +kernel
theorem d_M_emitPolynomial_49 : decode c_M_emitPolynomial 49 = .ok (.bipush 13, 2) := by decide +kernel
theorem d_M_emitPolynomial_51 : decode c_M_emitPolynomial 51 = .ok (.imul, 1) := by decide +kernel
theorem d_M_emitPolynomial_52 : decode c_M_emitPolynomial 52 = .ok (.iload 4, 2) := by decide +kernel
theorem d_M_emitPolynomial_54 : decode c_M_emitPolynomial 54 = .ok (.iadd, 1) := by decide +kernel
theorem d_M_emitPolynomial_55 : decode c_M_emitPolynomial 55 = .ok (.iaload, 1) := by decide +kernel
theorem d_M_emitPolynomial_56 : decode c_M_emitPolynomial 56 = .ok (.istore 5, 2) := by decide +kernel
theorem d_M_emitPolynomial_58 : decode c_M_emitPolynomial 58 = .ok (.iload 5, 2) := by decide +kernel
theorem d_M_emitPolynomial_60 : decode c_M_emitPolynomial 60 = .ok (.ifCond .eq 84, 3) := by decide +kernel
theorem d_M_emitPolynomial_63 : decode c_M_emitPolynomial 63 = .ok (.iload 4, 2) := by decide +kernel
theorem d_M_emitPolynomial_65 : decode c_M_emitPolynomial 65 = .ok (.iload_n 3, 1) := by decide +kernel
theorem d_M_emitPolynomial_66 : decode c_M_emitPolynomial 66 = .ok (.if_icmp .ge 9, 3) := by decide +kernel
theorem d_M_emitPolynomial_69 : decode c_M_emitPolynomial 69 = .ok (.aload_n 0, 1) := by decide +kernel
theorem d_M_emitPolynomial_70 : decode c_M_emitPolynomial 70 = .ok (.bipush 43, 2) := by decide +kernel
theorem d_M_emitPolynomial_72 : decode c_M_emitPolynomial 72 = .ok (.invokevirtual 217, 3) := by decide +kernel
theorem d_M_emitPolynomial_75 : decode c_M_emitPolynomial 75 = .ok (.iload 5, 2) := by decide +kernel
theorem d_M_emitPolynomial_77 : decode c_M_emitPolynomial 77 = .ok (.iconst 1, 1) := by decide +kernel
theorem d_M_emitPolynomial_78 : decode c_M_emitPolynomial 78 = .ok (.if_icmp .gt 8, 3) := by decide +kernel
theorem d_M_emitPolynomial_81 : decode c_M_emitPolynomial 81 = .ok (.iload 4, 2) := by decide +kernel
theorem d_M_emitPolynomial_83 : decode c_M_emitPolynomial 83 = .ok (.ifCond .ne 9, 3) := by decide +kernel
theorem d_M_emitPolynomial_86 : decode c_M_emitPolynomial 86 = .ok (.aload_n 0, 1) := by decide +kernel
theorem d_M_emitPolynomial_87 : decode c_M_emitPolynomial 87 = .ok (.iload 5, 2) := by decide +kernel
theorem d_M_emitPolynomial_89 : decode c_M_emitPolynomial 89 = .ok (.invokevirtual 220, 3) := by decide +kernel
theorem d_M_emitPolynomial_92 : decode c_M_emitPolynomial 92 = .ok (.iload 5, 2) := by decide +kernel
theorem d_M_emitPolynomial_94 : decode c_M_emitPolynomial 94 = .ok (.iconst 1, 1) := by decide +kernel
theorem d_M_emitPolynomial_95 : decode c_M_emitPolynomial 95 = .ok (.if_icmp .le 14, 3) := by decide +kernel
theorem d_M_emitPolynomial_98 : decode c_M_emitPolynomial 98 = .ok (.iload 4, 2) := by decide +kernel
theorem d_M_emitPolynomial_100 : decode c_M_emitPolynomial 100 = .ok (.ifCond .le 9, 3) := by decide +kernel
theorem d_M_emitPolynomial_103 : decode c_M_emitPolynomial 103 = .ok (.aload_n 0, 1) := by decide +kernel
theorem d_M_emitPolynomial_104 : decode c_M_emitPolynomial 104 = .ok (.bipush 42, 2) := by decide +kernel
theorem d_M_emitPolynomial_106 : decode c_M_emitPolynomial 106 = .ok (.invokevirtual 217, 3) := by decide +kernel
theorem d_M_emitPolynomial_109 : decode c_M_emitPolynomial 109 = .ok (.iload 4, 2) := by decide +kernel
theorem d_M_emitPolynomial_111 : decode c_M_emitPolynomial 111 = .ok (.ifCond .le 9, 3) := by decide +kernel
theorem d_M_emitPolynomial_114 : decode c_M_emitPolynomial 114 = .ok (.aload_n 0, 1) := by decide +kernel
theorem d_M_emitPolynomial_115 : decode c_M_emitPolynomial 115 = .ok (.bipush 120, 2) := by decide +kernel
theorem d_M_emitPolynomial_117 : decode c_M_emitPolynomial 117 = .ok (.invokevirtual 217, 3) := by decide +kernel
theorem d_M_emitPolynomial_120 : decode c_M_emitPolynomial 120 = .ok (.iload 4, 2) := by decide +kernel
theorem d_M_emitPolynomial_122 : decode c_M_emitPolynomial 122 = .ok (.iconst 1, 1) := by decide +kernel
theorem d_M_emitPolynomial_123 : decode c_M_emitPolynomial 123 = .ok (.if_icmp .le 9, 3) := by decide +kernel
theorem d_M_emitPolynomial_126 : decode c_M_emitPolynomial 126 = .ok (.aload_n 0, 1) := by decide +kernel
theorem d_M_emitPolynomial_127 : decode c_M_emitPolynomial 127 = .ok (.bipush 94, 2) := by decide +kernel
theorem d_M_emitPolynomial_129 : decode c_M_emitPolynomial 129 = .ok (.invokevirtual 217, 3) := by decide +kernel
theorem d_M_emitPolynomial_132 : decode c_M_emitPolynomial 132 = .ok (.iload 4, 2) := by decide +kernel
theorem d_M_emitPolynomial_134 : decode c_M_emitPolynomial 134 = .ok (.iconst 1, 1) := by decide +kernel
theorem d_M_emitPolynomial_135 : decode c_M_emitPolynomial 135 = .ok (.if_icmp .le 9, 3) := by decide +kernel
theorem d_M_emitPolynomial_138 : decode c_M_emitPolynomial 138 = .ok (.aload_n 0, 1) := by decide +kernel
theorem d_M_emitPolynomial_139 : decode c_M_emitPolynomial 139 = .ok (.iload 4, 2) := by decide +kernel
theorem d_M_emitPolynomial_141 : decode c_M_emitPolynomial 141 = .ok (.invokevirtual 220, 3) := by decide +kernel
theorem d_M_emitPolynomial_144 : decode c_M_emitPolynomial 144 = .ok (.iinc 4 (-1), 3) := by decide +kernel
theorem d_M_emitPolynomial_147 : decode c_M_emitPolynomial 147 = .ok (.goto (-127), 3) := by decide +kernel
theorem d_M_emitPolynomial_150 : decode c_M_emitPolynomial 150 = .ok (.return_, 1) := by decide +kernel
theorem d_M_emitNumber_0 : decode c_M_emitNumber 0 = .ok (.sipush 10000, 3) := by decide +kernel
theorem d_M_emitNumber_3 : decode c_M_emitNumber 3 = .ok (.istore_n 2, 1) := by decide +kernel
theorem d_M_emitNumber_4 : decode c_M_emitNumber 4 = .ok (.iload_n 2, 1) := by decide +kernel
theorem d_M_emitNumber_5 : decode c_M_emitNumber 5 = .ok (.ifCond .le 34, 3) := by decide +kernel
theorem d_M_emitNumber_8 : decode c_M_emitNumber 8 = .ok (.iload_n 1, 1) := by decide +kernel
theorem d_M_emitNumber_9 : decode c_M_emitNumber 9 = .ok (.iload_n 2, 1) := by decide +kernel
theorem d_M_emitNumber_10 : decode c_M_emitNumber 10 = .ok (.if_icmp .ge 8, 3) := by decide +kernel
theorem d_M_emitNumber_13 : decode c_M_emitNumber 13 = .ok (.iload_n 2, 1) := by decide +kernel
theorem d_M_emitNumber_14 : decode c_M_emitNumber 14 = .ok (.iconst 1, 1) := by decide +kernel
theorem d_M_emitNumber_15 : decode c_M_emitNumber 15 = .ok (.if_icmp .ne 16, 3) := by decide +kernel
theorem d_M_emitNumber_18 : decode c_M_emitNumber 18 = .ok (.aload_n 0, 1) := by decide +kernel
theorem d_M_emitNumber_19 : decode c_M_emitNumber 19 = .ok (.bipush 48, 2) := by decide +kernel
theorem d_M_emitNumber_21 : decode c_M_emitNumber 21 = .ok (.iload_n 1, 1) := by decide +kernel
theorem d_M_emitNumber_22 : decode c_M_emitNumber 22 = .ok (.iload_n 2, 1) := by decide +kernel
theorem d_M_emitNumber_23 : decode c_M_emitNumber 23 = .ok (.idiv, 1) := by decide +kernel
theorem d_M_emitNumber_24 : decode c_M_emitNumber 24 = .ok (.bipush 10, 2) := by decide +kernel
theorem d_M_emitNumber_26 : decode c_M_emitNumber 26 = .ok (.irem, 1) := by decide +kernel
theorem d_M_emitNumber_27 : decode c_M_emitNumber 27 = .ok (.iadd, 1) := by decide +kernel
theorem d_M_emitNumber_28 : decode c_M_emitNumber 28 = .ok (.invokevirtual 217, 3) := by decide +kernel
theorem d_M_emitNumber_31 : decode c_M_emitNumber 31 = .ok (.iload_n 2, 1) := by decide +kernel
theorem d_M_emitNumber_32 : decode c_M_emitNumber 32 = .ok (.bipush 10, 2) := by decide +kernel
theorem d_M_emitNumber_34 : decode c_M_emitNumber 34 = .ok (.idiv, 1) := by decide +kernel
theorem d_M_emitNumber_35 : decode c_M_emitNumber 35 = .ok (.istore_n 2, 1) := by decide +kernel
theorem d_M_emitNumber_36 : decode c_M_emitNumber 36 = .ok (.goto (-32), 3) := by decide +kernel
theorem d_M_emitNumber_39 : decode c_M_emitNumber 39 = .ok (.return_, 1) := by decide +kernel
theorem d_M_line_0 : decode c_M_line 0 = .ok (.iload_n 1, 1) := by decide +kernel
theorem d_M_line_1 : decode c_M_line 1 = .ok (.ifCond .ge 8, 3) := by decide +kernel
theorem d_M_line_4 : decode c_M_line 4 = .ok (.aload_n 0, 1) := by decide +kernel
theorem d_M_line_5 : decode c_M_line 5 = .ok (.getfield 67, 3) := by decide +kernel
theorem d_M_line_8 : decode c_M_line 8 = .ok (.ireturn, 1) := by decide +kernel
theorem d_M_line_9 : decode c_M_line 9 = .ok (.iload_n 1, 1) := by decide +kernel
theorem d_M_line_10 : decode c_M_line 10 = .ok (.aload_n 0, 1) := by decide +kernel
theorem d_M_line_11 : decode c_M_line 11 = .ok (.getfield 67, 3) := by decide +kernel
theorem d_M_line_14 : decode c_M_line 14 = .ok (.if_icmp .ge 12, 3) := by decide +kernel
theorem d_M_line_17 : decode c_M_line 17 = .ok (.aload_n 0, 1) := by decide +kernel
theorem d_M_line_18 : decode c_M_line 18 = .ok (.getfield 7, 3) := by decide +kernel
theorem d_M_line_21 : decode c_M_line 21 = .ok (.iload_n 1, 1) := by decide +kernel
theorem d_M_line_22 : decode c_M_line 22 = .ok (.iaload, 1) := by decide +kernel
theorem d_M_line_23 : decode c_M_line 23 = .ok (.goto 4, 3) := by decide +kernel
theorem d_M_line_26 : decode c_M_line 26 = .ok (.iconst (-1), 1) := by decide +kernel
theorem d_M_line_27 : decode c_M_line 27 = .ok (.ireturn, 1) := by decide +kernel
theorem d_M_reset_0 : decode c_M_reset 0 = .ok (.aload_n 0, 1) := by decide +kernel
theorem d_M_reset_1 : decode c_M_reset 1 = .ok (.iconst 0, 1) := by decide +kernel
theorem d_M_reset_2 : decode c_M_reset 2 = .ok (.putfield 67, 3) := by decide +kernel
theorem d_M_reset_5 : decode c_M_reset 5 = .ok (.aload_n 0, 1) := by decide +kernel
theorem d_M_reset_6 : decode c_M_reset 6 = .ok (.iconst 0, 1) := by decide +kernel
theorem d_M_reset_7 : decode c_M_reset 7 = .ok (.putfield 167, 3) := by decide +kernel
theorem d_M_reset_10 : decode c_M_reset 10 = .ok (.aload_n 0, 1) := by decide +kernel
theorem d_M_reset_11 : decode c_M_reset 11 = .ok (.iconst (-1), 1) := by decide +kernel
theorem d_M_reset_12 : decode c_M_reset 12 = .ok (.putfield 13, 3) := by decide +kernel
theorem d_M_reset_15 : decode c_M_reset 15 = .ok (.iconst 0, 1) := by decide +kernel
theorem d_M_reset_16 : decode c_M_reset 16 = .ok (.istore_n 1, 1) := by decide +kernel
theorem d_M_reset_17 : decode c_M_reset 17 = .ok (.iload_n 1, 1) := by decide +kernel
theorem d_M_reset_18 : decode c_M_reset 18 = .ok (.iconst 3, 1) := by decide +kernel
theorem d_M_reset_19 : decode c_M_reset 19 = .ok (.if_icmp .ge 16, 3) := by decide +kernel
theorem d_M_reset_22 : decode c_M_reset 22 = .ok (.aload_n 0, 1) := by decide +kernel
theorem d_M_reset_23 : decode c_M_reset 23 = .ok (.getfield 20, 3) := by decide +kernel
theorem d_M_reset_26 : decode c_M_reset 26 = .ok (.iload_n 1, 1) := by decide +kernel
theorem d_M_reset_27 : decode c_M_reset 27 = .ok (.iconst 0, 1) := by decide +kernel
theorem d_M_reset_28 : decode c_M_reset 28 = .ok (.iastore, 1) := by decide +kernel
theorem d_M_reset_29 : decode c_M_reset 29 = .ok (.iinc 1 1, 3) := by decide +kernel
theorem d_M_reset_32 : decode c_M_reset 32 = .ok (.goto (-15), 3) := by decide +kernel
theorem d_M_reset_35 : decode c_M_reset 35 = .ok (.return_, 1) := by decide +kernel
