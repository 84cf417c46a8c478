theorem d_S_init_0 : decode c_S_init 0 = .ok (.aload_n 0, 1) := by decide +kernel
theorem d_S_init_1 : decode c_S_init 1 = .ok (.invokespecial 3, 3) := by decide +kernel
theorem d_S_init_4 : decode c_S_init 4 = .ok (.aload_n 0, 1) := by decide +kernel
theorem d_S_init_5 : decode c_S_init 5 = .ok (.new 9, 3) := by decide +kernel
theorem d_S_init_8 : decode c_S_init 8 = .ok (.dup, 1) := by decide +kernel
theorem d_S_init_9 : decode c_S_init 9 = .ok (.invokespecial 11, 3) := by decide +kernel
theorem d_S_init_12 : decode c_S_init 12 = .ok (.putfield 12, 3) := by decide +kernel
theorem d_S_init_15 : decode c_S_init 15 = .ok (.aload_n 0, 1) := by decide +kernel
theorem d_S_init_16 : decode c_S_init 16 = .ok (.new 16, 3) := by decide +kernel
theorem d_S_init_19 : decode c_S_init 19 = .ok (.dup, 1) := by decide +kernel
theorem d_S_init_20 : decode c_S_init 20 = .ok (.invokespecial 18, 3) := by decide +kernel
theorem d_S_init_23 : decode c_S_init 23 = .ok (.putfield 19, 3) := by decide +kernel
theorem d_S_init_26 : decode c_S_init 26 = .ok (.aload_n 0, 1) := by decide +kernel
theorem d_S_init_27 : decode c_S_init 27 = .ok (.new 23, 3) := by decide +kernel
theorem d_S_init_30 : decode c_S_init 30 = .ok (.dup, 1) := by decide +kernel
theorem d_S_init_31 : decode c_S_init 31 = .ok (.aload_n 0, 1) := by decide +kernel
theorem d_S_init_32 : decode c_S_init 32 = .ok (.getfield 12, 3) := by decide +kernel
theorem d_S_init_35 : decode c_S_init 35 = .ok (.aload_n 0, 1) := by decide +kernel
theorem d_S_init_36 : decode c_S_init 36 = .ok (.getfield 19, 3) := by decide +kernel
theorem d_S_init_39 : decode c_S_init 39 = .ok (.invokespecial 25, 3) := by decide +kernel
theorem d_S_init_42 : decode c_S_init 42 = .ok (.putfield 28, 3) := by decide +kernel
theorem d_S_init_45 : decode c_S_init 45 = .ok (.aload_n 0, 1) := by decide +kernel
theorem d_S_init_46 : decode c_S_init 46 = .ok (.new 32, 3) := by decide +kernel
theorem d_S_init_49 : decode c_S_init 49 = .ok (.dup, 1) := by decide +kernel
theorem d_S_init_50 : decode c_S_init 50 = .ok (.invokespecial 34, 3) := by decide +kernel
theorem d_S_init_53 : decode c_S_init 53 = .ok (.putfield 35, 3) := by decide +kernel
theorem d_S_init_56 : decode c_S_init 56 = .ok (.aload_n 0, 1) := by decide +kernel
theorem d_S_init_57 : decode c_S_init 57 = .ok (.new 39, 3) := by decide +kernel
theorem d_S_init_60 : decode c_S_init 60 = .ok (.dup, 1) := by decide +kernel
theorem d_S_init_61 : decode c_S_init 61 = .ok (.invokespecial 41, 3) := by decide +kernel
theorem d_S_init_64 : decode c_S_init 64 = .ok (.putfield 42, 3) := by decide +kernel
theorem d_S_init_67 : decode c_S_init 67 = .ok (.aload_n 0, 1) := by decide +kernel
theorem d_S_init_68 : decode c_S_init 68 = .ok (.new 46, 3) := by decide +kernel
theorem d_S_init_71 : decode c_S_init 71 = .ok (.dup, 1) := by decide +kernel
theorem d_S_init_72 : decode c_S_init 72 = .ok (.invokespecial 48, 3) := by decide +kernel
theorem d_S_init_75 : decode c_S_init 75 = .ok (.putfield 49, 3) := by decide +kernel
theorem d_S_init_78 : decode c_S_init 78 = .ok (.aload_n 0, 1) := by decide +kernel
theorem d_S_init_79 : decode c_S_init 79 = .ok (.iconst (-1), 1) := by decide +kernel
theorem d_S_init_80 : decode c_S_init 80 = .ok (.putfield 53, 3) := by decide +kernel
theorem d_S_init_83 : decode c_S_init 83 = .ok (.return_, 1) := by decide +kernel
theorem d_W_init_0 : decode c_W_init 0 = .ok (.aload_n 0, 1) := by decide +kernel
theorem d_W_init_1 : decode c_W_init 1 = .ok (.invokespecial 3, 3) := by decide +kernel
theorem d_W_init_4 : decode c_W_init 4 = .ok (.aload_n 0, 1) := by decide +kernel
theorem d_W_init_5 : decode c_W_init 5 = .ok (.new 9, 3) := by decide +kernel
theorem d_W_init_8 : decode c_W_init 8 = .ok (.dup, 1) := by decide +kernel
theorem d_W_init_9 : decode c_W_init 9 = .ok (.bipush 24, 2) := by decide +kernel
theorem d_W_init_11 : decode c_W_init 11 = .ok (.invokespecial 13, 3) := by decide +kernel
theorem d_W_init_14 : decode c_W_init 14 = .ok (.putfield 16, 3) := by decide +kernel
theorem d_W_init_17 : decode c_W_init 17 = .ok (.aload_n 0, 1) := by decide +kernel
theorem d_W_init_18 : decode c_W_init 18 = .ok (.new 9, 3) := by decide +kernel
theorem d_W_init_21 : decode c_W_init 21 = .ok (.dup, 1) := by decide +kernel
theorem d_W_init_22 : decode c_W_init 22 = .ok (.bipush 24, 2) := by decide +kernel
theorem d_W_init_24 : decode c_W_init 24 = .ok (.invokespecial 13, 3) := by decide +kernel
theorem d_W_init_27 : decode c_W_init 27 = .ok (.putfield 20, 3) := by decide +kernel
theorem d_W_init_30 : decode c_W_init 30 = .ok (.aload_n 0, 1) := by decide +kernel
theorem d_W_init_31 : decode c_W_init 31 = .ok (.new 9, 3) := by decide +kernel
theorem d_W_init_34 : decode c_W_init 34 = .ok (.dup, 1) := by decide +kernel
theorem d_W_init_35 : decode c_W_init 35 = .ok (.bipush 24, 2) := by decide +kernel
theorem d_W_init_37 : decode c_W_init 37 = .ok (.invokespecial 13, 3) := by decide +kernel
theorem d_W_init_40 : decode c_W_init 40 = .ok (.putfield 23, 3) := by decide +kernel
theorem d_W_init_43 : decode c_W_init 43 = .ok (.aload_n 0, 1) := by decide +kernel
theorem d_W_init_44 : decode c_W_init 44 = .ok (.new 9, 3) := by decide +kernel
theorem d_W_init_47 : decode c_W_init 47 = .ok (.dup, 1) := by decide +kernel
theorem d_W_init_48 : decode c_W_init 48 = .ok (.bipush 24, 2) := by decide +kernel
theorem d_W_init_50 : decode c_W_init 50 = .ok (.invokespecial 13, 3) := by decide +kernel
theorem d_W_init_53 : decode c_W_init 53 = .ok (.putfield 26, 3) := by decide +kernel
theorem d_W_init_56 : decode c_W_init 56 = .ok (.aload_n 0, 1) := by decide +kernel
theorem d_W_init_57 : decode c_W_init 57 = .ok (.new 9, 3) := by decide +kernel
theorem d_W_init_60 : decode c_W_init 60 = .ok (.dup, 1) := by decide +kernel
theorem d_W_init_61 : decode c_W_init 61 = .ok (.bipush 24, 2) := by decide +kernel
theorem d_W_init_63 : decode c_W_init 63 = .ok (.invokespecial 13, 3) := by decide +kernel
theorem d_W_init_66 : decode c_W_init 66 = .ok (.putfield 29, 3) := by decide +kernel
theorem d_W_init_69 : decode c_W_init 69 = .ok (.aload_n 0, 1) := by decide +kernel
theorem d_W_init_70 : decode c_W_init 70 = .ok (.new 9, 3) := by decide +kernel
theorem d_W_init_73 : decode c_W_init 73 = .ok (.dup, 1) := by decide +kernel
theorem d_W_init_74 : decode c_W_init 74 = .ok (.bipush 24, 2) := by decide +kernel
theorem d_W_init_76 : decode c_W_init 76 = .ok (.invokespecial 13, 3) := by decide +kernel
theorem d_W_init_79 : decode c_W_init 79 = .ok (.putfield 32, 3) := by decide +kernel
theorem d_W_init_82 : decode c_W_init 82 = .ok (.aload_n 0, 1) := by decide +kernel
theorem d_W_init_83 : decode c_W_init 83 = .ok (.new 9, 3) := by decide +kernel
theorem d_W_init_86 : decode c_W_init 86 = .ok (.dup, 1) := by decide +kernel
theorem d_W_init_87 : decode c_W_init 87 = .ok (.bipush 24, 2) := by decide +kernel
theorem d_W_init_89 : decode c_W_init 89 = .ok (.invokespecial 13, 3) := by decide +kernel
theorem d_W_init_92 : decode c_W_init 92 = .ok (.putfield 35, 3) := by decide +kernel
theorem d_W_init_95 : decode c_W_init 95 = .ok (.return_, 1) := by decide +kernel
theorem d_F_init_0 : decode c_F_init 0 = .ok (.aload_n 0, 1) := by decide +kernel
theorem d_F_init_1 : decode c_F_init 1 = .ok (.invokespecial 3, 3) := by decide +kernel
theorem d_F_init_4 : decode c_F_init 4 = .ok (.aload_n 0, 1) := by decide +kernel
theorem d_F_init_5 : decode c_F_init 5 = .ok (.new 9, 3) := by decide +kernel
theorem d_F_init_8 : decode c_F_init 8 = .ok (.dup, 1) := by decide +kernel
theorem d_F_init_9 : decode c_F_init 9 = .ok (.bipush 12, 2) := by decide +kernel
theorem d_F_init_11 : decode c_F_init 11 = .ok (.invokespecial 11, 3) := by decide +kernel
theorem d_F_init_14 : decode c_F_init 14 = .ok (.putfield 14, 3) := by decide +kernel
theorem d_F_init_17 : decode c_F_init 17 = .ok (.aload_n 0, 1) := by decide +kernel
theorem d_F_init_18 : decode c_F_init 18 = .ok (.new 9, 3) := by decide +kernel
theorem d_F_init_21 : decode c_F_init 21 = .ok (.dup, 1) := by decide +kernel
theorem d_F_init_22 : decode c_F_init 22 = .ok (.bipush 12, 2) := by decide +kernel
theorem d_F_init_24 : decode c_F_init 24 = .ok (.invokespecial 11, 3) := by decide +kernel
theorem d_F_init_27 : decode c_F_init 27 = .ok (.putfield 20, 3) := by decide +kernel
theorem d_F_init_30 : decode c_F_init 30 = .ok (.return_, 1) := by decide +kernel
theorem d_S_type_0 : decode c_S_type 0 = .ok (.iload_n 1, 1) := by decide +kernel
theorem d_S_type_1 : decode c_S_type 1 = .ok (.invokestatic 57, 3) := by decide +kernel
theorem d_S_type_4 : decode c_S_type 4 = .ok (.ifCond .ne 5, 3) := by decide +kernel
theorem d_S_type_7 : decode c_S_type 7 = .ok (.iconst (-1), 1) := by decide +kernel
theorem d_S_type_8 : decode c_S_type 8 = .ok (.ireturn, 1) := by decide +kernel
theorem d_S_type_9 : decode c_S_type 9 = .ok (.aload_n 0, 1) := by decide +kernel
theorem d_S_type_10 : decode c_S_type 10 = .ok (.getfield 12, 3) := by decide +kernel
theorem d_S_type_13 : decode c_S_type 13 = .ok (.iload_n 1, 1) := by decide +kernel
theorem d_S_type_14 : decode c_S_type 14 = .ok (.i2c, 1) := by decide +kernel
theorem d_S_type_15 : decode c_S_type 15 = .ok (.invokevirtual 61, 3) := by decide +kernel
theorem d_S_type_18 : decode c_S_type 18 = .ok (.ifCond .eq 13, 3) := by decide +kernel
theorem d_S_type_21 : decode c_S_type 21 = .ok (.aload_n 0, 1) := by decide +kernel
theorem d_S_type_22 : decode c_S_type 22 = .ok (.getfield 12, 3) := by decide +kernel
theorem d_S_type_25 : decode c_S_type 25 = .ok (.getfield 65, 3) := by decide +kernel
theorem d_S_type_28 : decode c_S_type 28 = .ok (.goto 5, 3) := by decide +kernel
theorem d_S_type_31 : decode c_S_type 31 = .ok (.bipush (-2), 2) := by decide +kernel
theorem d_S_type_33 : decode c_S_type 33 = .ok (.ireturn, 1) := by decide +kernel
theorem d_S_types_0 : decode c_S_types 0 = .ok (.bipush 56, 2) := by decide +kernel
theorem d_S_types_2 : decode c_S_types 2 = .ok (.istore_n 3, 1) := by decide +kernel
theorem d_S_types_3 : decode c_S_types 3 = .ok (.iload_n 3, 1) := by decide +kernel
theorem d_S_types_4 : decode c_S_types 4 = .ok (.ifCond .lt 40, 3) := by decide +kernel
theorem d_S_types_7 : decode c_S_types 7 = .ok (.lload_n 1, 1) := by decide +kernel
theorem d_S_types_8 : decode c_S_types 8 = .ok (.iload_n 3, 1) := by decide +kernel
theorem d_S_types_9 : decode c_S_types 9 = .ok (.lushr, 1) := by decide +kernel
theorem d_S_types_10 : decode c_S_types 10 = .ok (.l2i, 1) := by decide +kernel
theorem d_S_types_11 : decode c_S_types 11 = .ok (.sipush 255, 3) := by decide +kernel
theorem d_S_types_14 : decode c_S_types 14 = .ok (.iand, 1) := by decide +kernel
theorem d_S_types_15 : decode c_S_types 15 = .ok (.istore 4, 2) := by decide +kernel
theorem d_S_types_17 : decode c_S_types 17 = .ok (.iload 4, 2) := by decide +kernel
theorem d_S_types_19 : decode c_S_types 19 = .ok (.ifCond .eq 19, 3) := by decide +kernel
theorem d_S_types_22 : decode c_S_types 22 = .ok (.aload_n 0, 1) := by decide +kernel
theorem d_S_types_23 : decode c_S_types 23 = .ok (.iload 4, 2) := by decide +kernel
theorem d_S_types_25 : decode c_S_types 25 = .ok (.invokevirtual 68, 3) := by decide +kernel
theorem d_S_types_28 : decode c_S_types 28 = .ok (.istore 5, 2) := by decide +kernel
theorem d_S_types_30 : decode c_S_types 30 = .ok (.iload 5, 2) := by decide +kernel
theorem d_S_types_32 : decode c_S_types 32 = .ok (.ifCond .ge 6, 3) := by decide +kernel
theorem d_S_types_35 : decode c_S_types 35 = .ok (.iload 5, 2) := by decide +kernel
theorem d_S_types_37 : decode c_S_types 37 = .ok (.ireturn, 1) := by decide +kernel
theorem d_S_types_38 : decode c_S_types 38 = .ok (.iinc 3 (-8), 3) := by decide +kernel
theorem d_S_types_41 : decode c_S_types 41 = .ok (.goto (-38), 3) := by decide +kernel
theorem d_S_types_44 : decode c_S_types 44 = .ok (.aload_n 0, 1) := by decide +kernel
theorem d_S_types_45 : decode c_S_types 45 = .ok (.getfield 12, 3) := by decide +kernel
theorem d_S_types_48 : decode c_S_types 48 = .ok (.getfield 65, 3) := by decide +kernel
theorem d_S_types_51 : decode c_S_types 51 = .ok (.ireturn, 1) := by decide +kernel
theorem d_S_back_0 : decode c_S_back 0 = .ok (.aload_n 0, 1) := by decide +kernel
theorem d_S_back_1 : decode c_S_back 1 = .ok (.getfield 12, 3) := by decide +kernel
theorem d_S_back_4 : decode c_S_back 4 = .ok (.invokevirtual 72, 3) := by decide +kernel
theorem d_S_back_7 : decode c_S_back 7 = .ok (.ifCond .eq 13, 3) := by decide +kernel
theorem d_S_back_10 : decode c_S_back 10 = .ok (.aload_n 0, 1) := by decide +kernel
theorem d_S_back_11 : decode c_S_back 11 = .ok (.getfield 12, 3) := by decide +kernel
theorem d_S_back_14 : decode c_S_back 14 = .ok (.getfield 65, 3) := by decide +kernel
theorem d_S_back_17 : decode c_S_back 17 = .ok (.goto 4, 3) := by decide +kernel
theorem d_S_back_20 : decode c_S_back 20 = .ok (.iconst (-1), 1) := by decide +kernel
theorem d_S_back_21 : decode c_S_back 21 = .ok (.ireturn, 1) := by decide +kernel
theorem d_S_enter_0 : decode c_S_enter 0 = .ok (.aload_n 0, 1) := by decide +kernel
theorem d_S_enter_1 : decode c_S_enter 1 = .ok (.getfield 28, 3) := by decide +kernel
theorem d_S_enter_4 : decode c_S_enter 4 = .ok (.invokevirtual 76, 3) := by decide +kernel
theorem d_S_enter_7 : decode c_S_enter 7 = .ok (.istore_n 1, 1) := by decide +kernel
theorem d_S_enter_8 : decode c_S_enter 8 = .ok (.aload_n 0, 1) := by decide +kernel
theorem d_S_enter_9 : decode c_S_enter 9 = .ok (.getfield 12, 3) := by decide +kernel
theorem d_S_enter_12 : decode c_S_enter 12 = .ok (.invokevirtual 80, 3) := by decide +kernel
theorem d_S_enter_15 : decode c_S_enter 15 = .ok (.aload_n 0, 1) := by decide +kernel
theorem d_S_enter_16 : decode c_S_enter 16 = .ok (.getfield 42, 3) := by decide +kernel
theorem d_S_enter_19 : decode c_S_enter 19 = .ok (.invokevirtual 83, 3) := by decide +kernel
theorem d_S_enter_22 : decode c_S_enter 22 = .ok (.ifCond .eq 6, 3) := by decide +kernel
theorem d_S_enter_25 : decode c_S_enter 25 = .ok (.bipush (-2), 2) := by decide +kernel
theorem d_S_enter_27 : decode c_S_enter 27 = .ok (.ireturn, 1) := by decide +kernel
theorem d_S_enter_28 : decode c_S_enter 28 = .ok (.iload_n 1, 1) := by decide +kernel
theorem d_S_enter_29 : decode c_S_enter 29 = .ok (.iconst (-1), 1) := by decide +kernel
theorem d_S_enter_30 : decode c_S_enter 30 = .ok (.if_icmp .eq 11, 3) := by decide +kernel
theorem d_S_enter_33 : decode c_S_enter 33 = .ok (.aload_n 0, 1) := by decide +kernel
theorem d_S_enter_34 : decode c_S_enter 34 = .ok (.iload_n 1, 1) := by decide +kernel
theorem d_S_enter_35 : decode c_S_enter 35 = .ok (.putfield 53, 3) := by decide +kernel
theorem d_S_enter_38 : decode c_S_enter 38 = .ok (.bipush (-3), 2) := by decide +kernel
theorem d_S_enter_40 : decode c_S_enter 40 = .ok (.ireturn, 1) := by decide +kernel
theorem d_S_enter_41 : decode c_S_enter 41 = .ok (.aload_n 0, 1) := by decide +kernel
theorem d_S_enter_42 : decode c_S_enter 42 = .ok (.getfield 35, 3) := by decide +kernel
theorem d_S_enter_45 : decode c_S_enter 45 = .ok (.aload_n 0, 1) := by decide +kernel
theorem d_S_enter_46 : decode c_S_enter 46 = .ok (.getfield 19, 3) := by decide +kernel
theorem d_S_enter_49 : decode c_S_enter 49 = .ok (.aload_n 0, 1) := by decide +kernel
theorem d_S_enter_50 : decode c_S_enter 50 = .ok (.getfield 42, 3) := by decide +kernel
theorem d_S_enter_53 : decode c_S_enter 53 = .ok (.invokevirtual 86, 3) := by decide +kernel
theorem d_S_enter_56 : decode c_S_enter 56 = .ok (.istore_n 2, 1) := by decide +kernel
theorem d_S_enter_57 : decode c_S_enter 57 = .ok (.iload_n 2, 1) := by decide +kernel
theorem d_S_enter_58 : decode c_S_enter 58 = .ok (.ifCond .eq 5, 3) := by decide +kernel
theorem d_S_enter_61 : decode c_S_enter 61 = .ok (.iload_n 2, 1) := by decide +kernel
theorem d_S_enter_62 : decode c_S_enter 62 = .ok (.ireturn, 1) := by decide +kernel
theorem d_S_enter_63 : decode c_S_enter 63 = .ok (.aload_n 0, 1) := by decide +kernel
theorem d_S_enter_64 : decode c_S_enter 64 = .ok (.getfield 42, 3) := by decide +kernel
theorem d_S_enter_67 : decode c_S_enter 67 = .ok (.aload_n 0, 1) := by decide +kernel
theorem d_S_enter_68 : decode c_S_enter 68 = .ok (.getfield 35, 3) := by decide +kernel
theorem d_S_enter_71 : decode c_S_enter 71 = .ok (.invokevirtual 90, 3) := by decide +kernel
theorem d_S_enter_74 : decode c_S_enter 74 = .ok (.invokevirtual 94, 3) := by decide +kernel
theorem d_S_enter_77 : decode c_S_enter 77 = .ok (.istore_n 3, 1) := by decide +kernel
theorem d_S_enter_78 : decode c_S_enter 78 = .ok (.aload_n 0, 1) := by decide +kernel
theorem d_S_enter_79 : decode c_S_enter 79 = .ok (.getfield 42, 3) := by decide +kernel
theorem d_S_enter_82 : decode c_S_enter 82 = .ok (.aload_n 0, 1) := by decide +kernel
theorem d_S_enter_83 : decode c_S_enter 83 = .ok (.getfield 19, 3) := by decide +kernel
theorem d_S_enter_86 : decode c_S_enter 86 = .ok (.getfield 98, 3) := by decide +kernel
theorem d_S_enter_89 : decode c_S_enter 89 = .ok (.iload_n 3, 1) := by decide +kernel
theorem d_S_enter_90 : decode c_S_enter 90 = .ok (.invokevirtual 101, 3) := by decide +kernel
theorem d_S_enter_93 : decode c_S_enter 93 = .ok (.iload_n 3, 1) := by decide +kernel
theorem d_S_enter_94 : decode c_S_enter 94 = .ok (.ireturn, 1) := by decide +kernel
theorem d_F_setConstant_0 : decode c_F_setConstant 0 = .ok (.aload_n 0, 1) := by decide +kernel
theorem d_F_setConstant_1 : decode c_F_setConstant 1 = .ok (.getfield 14, 3) := by decide +kernel
theorem d_F_setConstant_4 : decode c_F_setConstant 4 = .ok (.iload_n 1, 1) := by decide +kernel
theorem d_F_setConstant_5 : decode c_F_setConstant 5 = .ok (.invokevirtual 37, 3) := by decide +kernel
theorem d_F_setConstant_8 : decode c_F_setConstant 8 = .ok (.aload_n 0, 1) := by decide +kernel
theorem d_F_setConstant_9 : decode c_F_setConstant 9 = .ok (.getfield 20, 3) := by decide +kernel
theorem d_F_setConstant_12 : decode c_F_setConstant 12 = .ok (.iconst 1, 1) := by decide +kernel
theorem d_F_setConstant_13 : decode c_F_setConstant 13 = .ok (.invokevirtual 37, 3) := by decide +kernel
theorem d_F_setConstant_16 : decode c_F_setConstant 16 = .ok (.return_, 1) := by decide +kernel
theorem d_F_setLetter_0 : decode c_F_setLetter 0 = .ok (.aload_n 0, 1) := by decide +kernel
theorem d_F_setLetter_1 : decode c_F_setLetter 1 = .ok (.getfield 14, 3) := by decide +kernel
theorem d_F_setLetter_4 : decode c_F_setLetter 4 = .ok (.invokevirtual 40, 3) := by decide +kernel
theorem d_F_setLetter_7 : decode c_F_setLetter 7 = .ok (.aload_n 0, 1) := by decide +kernel
theorem d_F_setLetter_8 : decode c_F_setLetter 8 = .ok (.getfield 20, 3) := by decide +kernel
theorem d_F_setLetter_11 : decode c_F_setLetter 11 = .ok (.iconst 1, 1) := by decide +kernel
theorem d_F_setLetter_12 : decode c_F_setLetter 12 = .ok (.invokevirtual 37, 3) := by decide +kernel
theorem d_F_setLetter_15 : decode c_F_setLetter 15 = .ok (.return_, 1) := by decide +kernel
theorem d_F_copy_0 : decode c_F_copy 0 = .ok (.aload_n 0, 1) := by decide +kernel
theorem d_F_copy_1 : decode c_F_copy 1 = .ok (.getfield 14, 3) := by decide +kernel
theorem d_F_copy_4 : decode c_F_copy 4 = .ok (.aload_n 1, 1) := by decide +kernel
theorem d_F_copy_5 : decode c_F_copy 5 = .ok (.getfield 14, 3) := by decide +kernel
theorem d_F_copy_8 : decode c_F_copy 8 = .ok (.invokevirtual 43, 3) := by decide +kernel
theorem d_F_copy_11 : decode c_F_copy 11 = .ok (.aload_n 0, 1) := by decide +kernel
theorem d_F_copy_12 : decode c_F_copy 12 = .ok (.getfield 20, 3) := by decide +kernel
theorem d_F_copy_15 : decode c_F_copy 15 = .ok (.aload_n 1, 1) := by decide +kernel
theorem d_F_copy_16 : decode c_F_copy 16 = .ok (.getfield 20, 3) := by decide +kernel
theorem d_F_copy_19 : decode c_F_copy 19 = .ok (.invokevirtual 43, 3) := by decide +kernel
theorem d_F_copy_22 : decode c_F_copy 22 = .ok (.return_, 1) := by decide +kernel
theorem d_W_add_0 : decode c_W_add 0 = .ok (.aload_n 0, 1) := by decide +kernel
theorem d_W_add_1 : decode c_W_add 1 = .ok (.getfield 16, 3) := by decide +kernel
theorem d_W_add_4 : decode c_W_add 4 = .ok (.aload_n 1, 1) := by decide +kernel
theorem d_W_add_5 : decode c_W_add 5 = .ok (.getfield 38, 3) := by decide +kernel
theorem d_W_add_8 : decode c_W_add 8 = .ok (.aload_n 2, 1) := by decide +kernel
theorem d_W_add_9 : decode c_W_add 9 = .ok (.getfield 41, 3) := by decide +kernel
theorem d_W_add_12 : decode c_W_add 12 = .ok (.invokevirtual 42, 3) := by decide +kernel
theorem d_W_add_15 : decode c_W_add 15 = .ok (.aload_n 0, 1) := by decide +kernel
theorem d_W_add_16 : decode c_W_add 16 = .ok (.getfield 23, 3) := by decide +kernel
theorem d_W_add_19 : decode c_W_add 19 = .ok (.aload_n 2, 1) := by decide +kernel
theorem d_W_add_20 : decode c_W_add 20 = .ok (.getfield 38, 3) := by decide +kernel
theorem d_W_add_23 : decode c_W_add 23 = .ok (.aload_n 1, 1) := by decide +kernel
theorem d_W_add_24 : decode c_W_add 24 = .ok (.getfield 41, 3) := by decide +kernel
theorem d_W_add_27 : decode c_W_add 27 = .ok (.invokevirtual 42, 3) := by decide +kernel
theorem d_W_add_30 : decode c_W_add 30 = .ok (.aload_n 0, 1) := by decide +kernel
theorem d_W_add_31 : decode c_W_add 31 = .ok (.getfield 16, 3) := by decide +kernel
theorem d_W_add_34 : decode c_W_add 34 = .ok (.aload_n 0, 1) := by decide +kernel
theorem d_W_add_35 : decode c_W_add 35 = .ok (.getfield 23, 3) := by decide +kernel
theorem d_W_add_38 : decode c_W_add 38 = .ok (.iload_n 3, 1) := by decide +kernel
theorem d_W_add_39 : decode c_W_add 39 = .ok (.invokevirtual 46, 3) := by decide +kernel
theorem d_W_add_42 : decode c_W_add 42 = .ok (.aload_n 0, 1) := by decide +kernel
theorem d_W_add_43 : decode c_W_add 43 = .ok (.getfield 20, 3) := by decide +kernel
theorem d_W_add_46 : decode c_W_add 46 = .ok (.aload_n 1, 1) := by decide +kernel
theorem d_W_add_47 : decode c_W_add 47 = .ok (.getfield 41, 3) := by decide +kernel
theorem d_W_add_50 : decode c_W_add 50 = .ok (.aload_n 2, 1) := by decide +kernel
theorem d_W_add_51 : decode c_W_add 51 = .ok (.getfield 41, 3) := by decide +kernel
theorem d_W_add_54 : decode c_W_add 54 = .ok (.invokevirtual 42, 3) := by decide +kernel
theorem d_W_add_57 : decode c_W_add 57 = .ok (.return_, 1) := by decide +kernel
theorem d_W_multiply_0 : decode c_W_multiply 0 = .ok (.aload_n 0, 1) := by decide +kernel
theorem d_W_multiply_1 : decode c_W_multiply 1 = .ok (.getfield 16, 3) := by decide +kernel
theorem d_W_multiply_4 : decode c_W_multiply 4 = .ok (.aload_n 1, 1) := by decide +kernel
theorem d_W_multiply_5 : decode c_W_multiply 5 = .ok (.getfield 38, 3) := by decide +kernel
theorem d_W_multiply_8 : decode c_W_multiply 8 = .ok (.aload_n 2, 1) := by decide +kernel
theorem d_W_multiply_9 : decode c_W_multiply 9 = .ok (.getfield 38, 3) := by decide +kernel
theorem d_W_multiply_12 : decode c_W_multiply 12 = .ok (.invokevirtual 42, 3) := by decide +kernel
theorem d_W_multiply_15 : decode c_W_multiply 15 = .ok (.aload_n 0, 1) := by decide +kernel
theorem d_W_multiply_16 : decode c_W_multiply 16 = .ok (.getfield 20, 3) := by decide +kernel
theorem d_W_multiply_19 : decode c_W_multiply 19 = .ok (.aload_n 1, 1) := by decide +kernel
theorem d_W_multiply_20 : decode c_W_multiply 20 = .ok (.getfield 41, 3) := by decide +kernel
theorem d_W_multiply_23 : decode c_W_multiply 23 = .ok (.aload_n 2, 1) := by decide +kernel
theorem d_W_multiply_24 : decode c_W_multiply 24 = .ok (.getfield 41, 3) := by decide +kernel
theorem d_W_multiply_27 : decode c_W_multiply 27 = .ok (.invokevirtual 42, 3) := by decide +kernel
theorem d_W_multiply_30 : decode c_W_multiply 30 = .ok (.return_, 1) := by decide +kernel
theorem d_W_divide_0 : decode c_W_divide 0 = .ok (.aload_n 2, 1) := by decide +kernel
theorem d_W_divide_1 : decode c_W_divide 1 = .ok (.invokevirtual 50, 3) := by decide +kernel
theorem d_W_divide_4 : decode c_W_divide 4 = .ok (.ifCond .eq 6, 3) := by decide +kernel
theorem d_W_divide_7 : decode c_W_divide 7 = .ok (.bipush (-5), 2) := by decide +kernel
theorem d_W_divide_9 : decode c_W_divide 9 = .ok (.ireturn, 1) := by decide +kernel
theorem d_W_divide_10 : decode c_W_divide 10 = .ok (.aload_n 0, 1) := by decide +kernel
theorem d_W_divide_11 : decode c_W_divide 11 = .ok (.getfield 16, 3) := by decide +kernel
theorem d_W_divide_14 : decode c_W_divide 14 = .ok (.aload_n 1, 1) := by decide +kernel
theorem d_W_divide_15 : decode c_W_divide 15 = .ok (.getfield 38, 3) := by decide +kernel
theorem d_W_divide_18 : decode c_W_divide 18 = .ok (.aload_n 2, 1) := by decide +kernel
theorem d_W_divide_19 : decode c_W_divide 19 = .ok (.getfield 41, 3) := by decide +kernel
theorem d_W_divide_22 : decode c_W_divide 22 = .ok (.invokevirtual 42, 3) := by decide +kernel
theorem d_W_divide_25 : decode c_W_divide 25 = .ok (.aload_n 0, 1) := by decide +kernel
theorem d_W_divide_26 : decode c_W_divide 26 = .ok (.getfield 20, 3) := by decide +kernel
theorem d_W_divide_29 : decode c_W_divide 29 = .ok (.aload_n 1, 1) := by decide +kernel
theorem d_W_divide_30 : decode c_W_divide 30 = .ok (.getfield 41, 3) := by decide +kernel
theorem d_W_divide_33 : decode c_W_divide 33 = .ok (.aload_n 2, 1) := by decide +kernel
theorem d_W_divide_34 : decode c_W_divide 34 = .ok (.getfield 38, 3) := by decide +kernel
theorem d_W_divide_37 : decode c_W_divide 37 = .ok (.invokevirtual 42, 3) := by decide +kernel
theorem d_W_divide_40 : decode c_W_divide 40 = .ok (.iconst 0, 1) := by decide +kernel
theorem d_W_divide_41 : decode c_W_divide 41 = .ok (.ireturn, 1) := by decide +kernel
theorem d_F_isZero_0 : decode c_F_isZero 0 = .ok (.aload_n 0, 1) := by decide +kernel
theorem d_F_isZero_1 : decode c_F_isZero 1 = .ok (.getfield 14, 3) := by decide +kernel
theorem d_F_isZero_4 : decode c_F_isZero 4 = .ok (.invokevirtual 23, 3) := by decide +kernel
theorem d_F_isZero_7 : decode c_F_isZero 7 = .ok (.ireturn, 1) := by decide +kernel
theorem d_W_compose_0 : decode c_W_compose 0 = .ok (.aload_n 1, 1) := by decide +kernel
theorem d_W_compose_1 : decode c_W_compose 1 = .ok (.invokevirtual 70, 3) := by decide +kernel
theorem d_W_compose_4 : decode c_W_compose 4 = .ok (.istore_n 3, 1) := by decide +kernel
theorem d_W_compose_5 : decode c_W_compose 5 = .ok (.iload_n 3, 1) := by decide +kernel
theorem d_W_compose_6 : decode c_W_compose 6 = .ok (.aload_n 2, 1) := by decide +kernel
theorem d_W_compose_7 : decode c_W_compose 7 = .ok (.invokevirtual 70, 3) := by decide +kernel
theorem d_W_compose_10 : decode c_W_compose 10 = .ok (.imul, 1) := by decide +kernel
theorem d_W_compose_11 : decode c_W_compose 11 = .ok (.bipush 12, 2) := by decide +kernel
theorem d_W_compose_13 : decode c_W_compose 13 = .ok (.if_icmp .le 6, 3) := by decide +kernel
theorem d_W_compose_16 : decode c_W_compose 16 = .ok (.bipush (-6), 2) := by decide +kernel
theorem d_W_compose_18 : decode c_W_compose 18 = .ok (.ireturn, 1) := by decide +kernel
theorem d_W_compose_19 : decode c_W_compose 19 = .ok (.aload_n 0, 1) := by decide +kernel
theorem d_W_compose_20 : decode c_W_compose 20 = .ok (.aload_n 1, 1) := by decide +kernel
theorem d_W_compose_21 : decode c_W_compose 21 = .ok (.getfield 38, 3) := by decide +kernel
theorem d_W_compose_24 : decode c_W_compose 24 = .ok (.iload_n 3, 1) := by decide +kernel
theorem d_W_compose_25 : decode c_W_compose 25 = .ok (.aload_n 2, 1) := by decide +kernel
theorem d_W_compose_26 : decode c_W_compose 26 = .ok (.aload_n 0, 1) := by decide +kernel
theorem d_W_compose_27 : decode c_W_compose 27 = .ok (.getfield 16, 3) := by decide +kernel
theorem d_W_compose_30 : decode c_W_compose 30 = .ok (.invokevirtual 81, 3) := by decide +kernel
theorem d_W_compose_33 : decode c_W_compose 33 = .ok (.aload_n 0, 1) := by decide +kernel
theorem d_W_compose_34 : decode c_W_compose 34 = .ok (.aload_n 1, 1) := by decide +kernel
theorem d_W_compose_35 : decode c_W_compose 35 = .ok (.getfield 41, 3) := by decide +kernel
theorem d_W_compose_38 : decode c_W_compose 38 = .ok (.iload_n 3, 1) := by decide +kernel
theorem d_W_compose_39 : decode c_W_compose 39 = .ok (.aload_n 2, 1) := by decide +kernel
theorem d_W_compose_40 : decode c_W_compose 40 = .ok (.aload_n 0, 1) := by decide +kernel
theorem d_W_compose_41 : decode c_W_compose 41 = .ok (.getfield 20, 3) := by decide +kernel
theorem d_W_compose_44 : decode c_W_compose 44 = .ok (.invokevirtual 81, 3) := by decide +kernel
theorem d_W_compose_47 : decode c_W_compose 47 = .ok (.aload_n 0, 1) := by decide +kernel
theorem d_W_compose_48 : decode c_W_compose 48 = .ok (.getfield 20, 3) := by decide +kernel
theorem d_W_compose_51 : decode c_W_compose 51 = .ok (.invokevirtual 85, 3) := by decide +kernel
theorem d_W_compose_54 : decode c_W_compose 54 = .ok (.ifCond .eq 8, 3) := by decide +kernel
theorem d_W_compose_57 : decode c_W_compose 57 = .ok (.bipush (-5), 2) := by decide +kernel
theorem d_W_compose_59 : decode c_W_compose 59 = .ok (.goto 4, 3) := by decide +kernel
theorem d_W_compose_62 : decode c_W_compose 62 = .ok (.iconst 0, 1) := by decide +kernel
theorem d_W_compose_63 : decode c_W_compose 63 = .ok (.ireturn, 1) := by decide +kernel
theorem d_F_height_0 : decode c_F_height 0 = .ok (.aload_n 0, 1) := by decide +kernel
theorem d_F_height_1 : decode c_F_height 1 = .ok (.getfield 14, 3) := by decide +kernel
theorem d_F_height_4 : decode c_F_height 4 = .ok (.getfield 27, 3) := by decide +kernel
theorem d_F_height_7 : decode c_F_height 7 = .ok (.aload_n 0, 1) := by decide +kernel
theorem d_F_height_8 : decode c_F_height 8 = .ok (.getfield 20, 3) := by decide +kernel
theorem d_F_height_11 : decode c_F_height 11 = .ok (.getfield 27, 3) := by decide +kernel
theorem d_F_height_14 : decode c_F_height 14 = .ok (.invokestatic 31, 3) := by decide +kernel
theorem d_F_height_17 : decode c_F_height 17 = .ok (.ireturn, 1) := by decide +kernel
theorem d_W_putInto_0 : decode c_W_putInto 0 = .ok (.aload 4, 2) := by decide +kernel
theorem d_W_putInto_2 : decode c_W_putInto 2 = .ok (.aload_n 1, 1) := by decide +kernel
theorem d_W_putInto_3 : decode c_W_putInto 3 = .ok (.iload_n 2, 1) := by decide +kernel
theorem d_W_putInto_4 : decode c_W_putInto 4 = .ok (.invokevirtual 86, 3) := by decide +kernel
theorem d_W_putInto_7 : decode c_W_putInto 7 = .ok (.invokevirtual 78, 3) := by decide +kernel
theorem d_W_putInto_10 : decode c_W_putInto 10 = .ok (.aload_n 0, 1) := by decide +kernel
theorem d_W_putInto_11 : decode c_W_putInto 11 = .ok (.getfield 26, 3) := by decide +kernel
theorem d_W_putInto_14 : decode c_W_putInto 14 = .ok (.iconst 1, 1) := by decide +kernel
theorem d_W_putInto_15 : decode c_W_putInto 15 = .ok (.invokevirtual 78, 3) := by decide +kernel
theorem d_W_putInto_18 : decode c_W_putInto 18 = .ok (.iload_n 2, 1) := by decide +kernel
theorem d_W_putInto_19 : decode c_W_putInto 19 = .ok (.iconst 1, 1) := by decide +kernel
theorem d_W_putInto_20 : decode c_W_putInto 20 = .ok (.isub, 1) := by decide +kernel
theorem d_W_putInto_21 : decode c_W_putInto 21 = .ok (.istore 5, 2) := by decide +kernel
theorem d_W_putInto_23 : decode c_W_putInto 23 = .ok (.iload 5, 2) := by decide +kernel
theorem d_W_putInto_25 : decode c_W_putInto 25 = .ok (.ifCond .lt 72, 3) := by decide +kernel
theorem d_W_putInto_28 : decode c_W_putInto 28 = .ok (.aload_n 0, 1) := by decide +kernel
theorem d_W_putInto_29 : decode c_W_putInto 29 = .ok (.getfield 23, 3) := by decide +kernel
theorem d_W_putInto_32 : decode c_W_putInto 32 = .ok (.aload 4, 2) := by decide +kernel
theorem d_W_putInto_34 : decode c_W_putInto 34 = .ok (.aload_n 3, 1) := by decide +kernel
theorem d_W_putInto_35 : decode c_W_putInto 35 = .ok (.getfield 38, 3) := by decide +kernel
theorem d_W_putInto_38 : decode c_W_putInto 38 = .ok (.invokevirtual 42, 3) := by decide +kernel
theorem d_W_putInto_41 : decode c_W_putInto 41 = .ok (.aload 4, 2) := by decide +kernel
theorem d_W_putInto_43 : decode c_W_putInto 43 = .ok (.aload_n 0, 1) := by decide +kernel
theorem d_W_putInto_44 : decode c_W_putInto 44 = .ok (.getfield 23, 3) := by decide +kernel
theorem d_W_putInto_47 : decode c_W_putInto 47 = .ok (.invokevirtual 54, 3) := by decide +kernel
theorem d_W_putInto_50 : decode c_W_putInto 50 = .ok (.aload_n 0, 1) := by decide +kernel
theorem d_W_putInto_51 : decode c_W_putInto 51 = .ok (.getfield 23, 3) := by decide +kernel
theorem d_W_putInto_54 : decode c_W_putInto 54 = .ok (.aload_n 0, 1) := by decide +kernel
theorem d_W_putInto_55 : decode c_W_putInto 55 = .ok (.getfield 26, 3) := by decide +kernel
theorem d_W_putInto_58 : decode c_W_putInto 58 = .ok (.aload_n 3, 1) := by decide +kernel
theorem d_W_putInto_59 : decode c_W_putInto 59 = .ok (.getfield 41, 3) := by decide +kernel
theorem d_W_putInto_62 : decode c_W_putInto 62 = .ok (.invokevirtual 42, 3) := by decide +kernel
theorem d_W_putInto_65 : decode c_W_putInto 65 = .ok (.aload_n 0, 1) := by decide +kernel
theorem d_W_putInto_66 : decode c_W_putInto 66 = .ok (.getfield 26, 3) := by decide +kernel
theorem d_W_putInto_69 : decode c_W_putInto 69 = .ok (.aload_n 0, 1) := by decide +kernel
theorem d_W_putInto_70 : decode c_W_putInto 70 = .ok (.getfield 23, 3) := by decide +kernel
theorem d_W_putInto_73 : decode c_W_putInto 73 = .ok (.invokevirtual 54, 3) := by decide +kernel
theorem d_W_putInto_76 : decode c_W_putInto 76 = .ok (.aload 4, 2) := by decide +kernel
theorem d_W_putInto_78 : decode c_W_putInto 78 = .ok (.aload_n 0, 1) := by decide +kernel
theorem d_W_putInto_79 : decode c_W_putInto 79 = .ok (.getfield 26, 3) := by decide +kernel
theorem d_W_putInto_82 : decode c_W_putInto 82 = .ok (.aload_n 1, 1) := by decide +kernel
theorem d_W_putInto_83 : decode c_W_putInto 83 = .ok (.iload 5, 2) := by decide +kernel
theorem d_W_putInto_85 : decode c_W_putInto 85 = .ok (.invokevirtual 86, 3) := by decide +kernel
theorem d_W_putInto_88 : decode c_W_putInto 88 = .ok (.invokevirtual 46, 3) := by decide +kernel
theorem d_W_putInto_91 : decode c_W_putInto 91 = .ok (.iinc 5 (-1), 3) := by decide +kernel
theorem d_W_putInto_94 : decode c_W_putInto 94 = .ok (.goto (-71), 3) := by decide +kernel
theorem d_W_putInto_97 : decode c_W_putInto 97 = .ok (.return_, 1) := by decide +kernel
theorem d_W_power_0 : decode c_W_power 0 = .ok (.iload_n 2, 1) := by decide +kernel
theorem d_W_power_1 : decode c_W_power 1 = .ok (.invokestatic 64, 3) := by decide +kernel
theorem d_W_power_4 : decode c_W_power 4 = .ok (.istore_n 3, 1) := by decide +kernel
theorem d_W_power_5 : decode c_W_power 5 = .ok (.iload_n 2, 1) := by decide +kernel
theorem d_W_power_6 : decode c_W_power 6 = .ok (.ifCond .ge 13, 3) := by decide +kernel
theorem d_W_power_9 : decode c_W_power 9 = .ok (.aload_n 1, 1) := by decide +kernel
theorem d_W_power_10 : decode c_W_power 10 = .ok (.invokevirtual 50, 3) := by decide +kernel
theorem d_W_power_13 : decode c_W_power 13 = .ok (.ifCond .eq 6, 3) := by decide +kernel
theorem d_W_power_16 : decode c_W_power 16 = .ok (.bipush (-5), 2) := by decide +kernel
theorem d_W_power_18 : decode c_W_power 18 = .ok (.ireturn, 1) := by decide +kernel
theorem d_W_power_19 : decode c_W_power 19 = .ok (.iload_n 3, 1) := by decide +kernel
theorem d_W_power_20 : decode c_W_power 20 = .ok (.aload_n 1, 1) := by decide +kernel
theorem d_W_power_21 : decode c_W_power 21 = .ok (.invokevirtual 70, 3) := by decide +kernel
theorem d_W_power_24 : decode c_W_power 24 = .ok (.imul, 1) := by decide +kernel
theorem d_W_power_25 : decode c_W_power 25 = .ok (.bipush 12, 2) := by decide +kernel
theorem d_W_power_27 : decode c_W_power 27 = .ok (.if_icmp .le 6, 3) := by decide +kernel
theorem d_W_power_30 : decode c_W_power 30 = .ok (.bipush (-6), 2) := by decide +kernel
theorem d_W_power_32 : decode c_W_power 32 = .ok (.ireturn, 1) := by decide +kernel
theorem d_W_power_33 : decode c_W_power 33 = .ok (.aload_n 0, 1) := by decide +kernel
theorem d_W_power_34 : decode c_W_power 34 = .ok (.aload_n 1, 1) := by decide +kernel
theorem d_W_power_35 : decode c_W_power 35 = .ok (.getfield 38, 3) := by decide +kernel
theorem d_W_power_38 : decode c_W_power 38 = .ok (.iload_n 3, 1) := by decide +kernel
theorem d_W_power_39 : decode c_W_power 39 = .ok (.iload_n 2, 1) := by decide +kernel
theorem d_W_power_40 : decode c_W_power 40 = .ok (.ifCond .ge 10, 3) := by decide +kernel
theorem d_W_power_43 : decode c_W_power 43 = .ok (.aload_n 0, 1) := by decide +kernel
theorem d_W_power_44 : decode c_W_power 44 = .ok (.getfield 20, 3) := by decide +kernel
theorem d_W_power_47 : decode c_W_power 47 = .ok (.goto 7, 3) := by decide +kernel
theorem d_W_power_50 : decode c_W_power 50 = .ok (.aload_n 0, 1) := by decide +kernel
theorem d_W_power_51 : decode c_W_power 51 = .ok (.getfield 16, 3) := by decide +kernel
theorem d_W_power_54 : decode c_W_power 54 = .ok (.invokevirtual 74, 3) := by decide +kernel
theorem d_W_power_57 : decode c_W_power 57 = .ok (.aload_n 0, 1) := by decide +kernel
theorem d_W_power_58 : decode c_W_power 58 = .ok (.aload_n 1, 1) := by decide +kernel
theorem d_W_power_59 : decode c_W_power 59 = .ok (.getfield 41, 3) := by decide +kernel
theorem d_W_power_62 : decode c_W_power 62 = .ok (.iload_n 3, 1) := by decide +kernel
theorem d_W_power_63 : decode c_W_power 63 = .ok (.iload_n 2, 1) := by decide +kernel
theorem d_W_power_64 : decode c_W_power 64 = .ok (.ifCond .ge 10, 3) := by decide +kernel
theorem d_W_power_67 : decode c_W_power 67 = .ok (.aload_n 0, 1) := by decide +kernel
theorem d_W_power_68 : decode c_W_power 68 = .ok (.getfield 16, 3) := by decide +kernel
theorem d_W_power_71 : decode c_W_power 71 = .ok (.goto 7, 3) := by decide +kernel
theorem d_W_power_74 : decode c_W_power 74 = .ok (.aload_n 0, 1) := by decide +kernel
theorem d_W_power_75 : decode c_W_power 75 = .ok (.getfield 20, 3) := by decide +kernel
theorem d_W_power_78 : decode c_W_power 78 = .ok (.invokevirtual 74, 3) := by decide +kernel
theorem d_W_power_81 : decode c_W_power 81 = .ok (.iconst 0, 1) := by decide +kernel
theorem d_W_power_82 : decode c_W_power 82 = .ok (.ireturn, 1) := by decide +kernel
theorem d_W_raise_0 : decode c_W_raise 0 = .ok (.aload_n 3, 1) := by decide +kernel
theorem d_W_raise_1 : decode c_W_raise 1 = .ok (.iconst 1, 1) := by decide +kernel
theorem d_W_raise_2 : decode c_W_raise 2 = .ok (.invokevirtual 78, 3) := by decide +kernel
theorem d_W_raise_5 : decode c_W_raise 5 = .ok (.iconst 0, 1) := by decide +kernel
theorem d_W_raise_6 : decode c_W_raise 6 = .ok (.istore 4, 2) := by decide +kernel
theorem d_W_raise_8 : decode c_W_raise 8 = .ok (.iload 4, 2) := by decide +kernel
theorem d_W_raise_10 : decode c_W_raise 10 = .ok (.iload_n 2, 1) := by decide +kernel
theorem d_W_raise_11 : decode c_W_raise 11 = .ok (.if_icmp .ge 26, 3) := by decide +kernel
theorem d_W_raise_14 : decode c_W_raise 14 = .ok (.aload_n 0, 1) := by decide +kernel
theorem d_W_raise_15 : decode c_W_raise 15 = .ok (.getfield 23, 3) := by decide +kernel
theorem d_W_raise_18 : decode c_W_raise 18 = .ok (.aload_n 3, 1) := by decide +kernel
theorem d_W_raise_19 : decode c_W_raise 19 = .ok (.aload_n 1, 1) := by decide +kernel
theorem d_W_raise_20 : decode c_W_raise 20 = .ok (.invokevirtual 42, 3) := by decide +kernel
theorem d_W_raise_23 : decode c_W_raise 23 = .ok (.aload_n 3, 1) := by decide +kernel
theorem d_W_raise_24 : decode c_W_raise 24 = .ok (.aload_n 0, 1) := by decide +kernel
theorem d_W_raise_25 : decode c_W_raise 25 = .ok (.getfield 23, 3) := by decide +kernel
theorem d_W_raise_28 : decode c_W_raise 28 = .ok (.invokevirtual 54, 3) := by decide +kernel
theorem d_W_raise_31 : decode c_W_raise 31 = .ok (.iinc 4 1, 3) := by decide +kernel
theorem d_W_raise_34 : decode c_W_raise 34 = .ok (.goto (-26), 3) := by decide +kernel
theorem d_W_raise_37 : decode c_W_raise 37 = .ok (.return_, 1) := by decide +kernel
theorem d_W_derive_0 : decode c_W_derive 0 = .ok (.aload_n 0, 1) := by decide +kernel
theorem d_W_derive_1 : decode c_W_derive 1 = .ok (.getfield 23, 3) := by decide +kernel
theorem d_W_derive_4 : decode c_W_derive 4 = .ok (.aload_n 1, 1) := by decide +kernel
theorem d_W_derive_5 : decode c_W_derive 5 = .ok (.getfield 38, 3) := by decide +kernel
theorem d_W_derive_8 : decode c_W_derive 8 = .ok (.invokevirtual 61, 3) := by decide +kernel
theorem d_W_derive_11 : decode c_W_derive 11 = .ok (.aload_n 0, 1) := by decide +kernel
theorem d_W_derive_12 : decode c_W_derive 12 = .ok (.getfield 16, 3) := by decide +kernel
theorem d_W_derive_15 : decode c_W_derive 15 = .ok (.aload_n 0, 1) := by decide +kernel
theorem d_W_derive_16 : decode c_W_derive 16 = .ok (.getfield 23, 3) := by decide +kernel
theorem d_W_derive_19 : decode c_W_derive 19 = .ok (.aload_n 1, 1) := by decide +kernel
theorem d_W_derive_20 : decode c_W_derive 20 = .ok (.getfield 41, 3) := by decide +kernel
theorem d_W_derive_23 : decode c_W_derive 23 = .ok (.invokevirtual 42, 3) := by decide +kernel
theorem d_W_derive_26 : decode c_W_derive 26 = .ok (.aload_n 0, 1) := by decide +kernel
theorem d_W_derive_27 : decode c_W_derive 27 = .ok (.getfield 23, 3) := by decide +kernel
theorem d_W_derive_30 : decode c_W_derive 30 = .ok (.aload_n 1, 1) := by decide +kernel
theorem d_W_derive_31 : decode c_W_derive 31 = .ok (.getfield 41, 3) := by decide +kernel
theorem d_W_derive_34 : decode c_W_derive 34 = .ok (.invokevirtual 61, 3) := by decide +kernel
theorem d_W_derive_37 : decode c_W_derive 37 = .ok (.aload_n 0, 1) := by decide +kernel
theorem d_W_derive_38 : decode c_W_derive 38 = .ok (.getfield 26, 3) := by decide +kernel
theorem d_W_derive_41 : decode c_W_derive 41 = .ok (.aload_n 1, 1) := by decide +kernel
theorem d_W_derive_42 : decode c_W_derive 42 = .ok (.getfield 38, 3) := by decide +kernel
theorem d_W_derive_45 : decode c_W_derive 45 = .ok (.aload_n 0, 1) := by decide +kernel
theorem d_W_derive_46 : decode c_W_derive 46 = .ok (.getfield 23, 3) := by decide +kernel
theorem d_W_derive_49 : decode c_W_derive 49 = .ok (.invokevirtual 42, 3) := by decide +kernel
theorem d_W_derive_52 : decode c_W_derive 52 = .ok (.aload_n 0, 1) := by decide +kernel
theorem d_W_derive_53 : decode c_W_derive 53 = .ok (.getfield 16, 3) := by decide +kernel
theorem d_W_derive_56 : decode c_W_derive 56 = .ok (.aload_n 0, 1) := by decide +kernel
theorem d_W_derive_57 : decode c_W_derive 57 = .ok (.getfield 26, 3) := by decide +kernel
theorem d_W_derive_60 : decode c_W_derive 60 = .ok (.sipush 10006, 3) := by decide +kernel
theorem d_W_derive_63 : decode c_W_derive 63 = .ok (.invokevirtual 46, 3) := by decide +kernel
theorem d_W_derive_66 : decode c_W_derive 66 = .ok (.aload_n 0, 1) := by decide +kernel
theorem d_W_derive_67 : decode c_W_derive 67 = .ok (.getfield 20, 3) := by decide +kernel
theorem d_W_derive_70 : decode c_W_derive 70 = .ok (.aload_n 1, 1) := by decide +kernel
theorem d_W_derive_71 : decode c_W_derive 71 = .ok (.getfield 41, 3) := by decide +kernel
theorem d_W_derive_74 : decode c_W_derive 74 = .ok (.aload_n 1, 1) := by decide +kernel
theorem d_W_derive_75 : decode c_W_derive 75 = .ok (.getfield 41, 3) := by decide +kernel
theorem d_W_derive_78 : decode c_W_derive 78 = .ok (.invokevirtual 42, 3) := by decide +kernel
theorem d_W_derive_81 : decode c_W_derive 81 = .ok (.return_, 1) := by decide +kernel
theorem d_W_negate_0 : decode c_W_negate 0 = .ok (.aload_n 0, 1) := by decide +kernel
theorem d_W_negate_1 : decode c_W_negate 1 = .ok (.getfield 16, 3) := by decide +kernel
theorem d_W_negate_4 : decode c_W_negate 4 = .ok (.aload_n 1, 1) := by decide +kernel
theorem d_W_negate_5 : decode c_W_negate 5 = .ok (.getfield 38, 3) := by decide +kernel
theorem d_W_negate_8 : decode c_W_negate 8 = .ok (.invokevirtual 54, 3) := by decide +kernel
theorem d_W_negate_11 : decode c_W_negate 11 = .ok (.aload_n 0, 1) := by decide +kernel
theorem d_W_negate_12 : decode c_W_negate 12 = .ok (.getfield 16, 3) := by decide +kernel
theorem d_W_negate_15 : decode c_W_negate 15 = .ok (.sipush 10006, 3) := by decide +kernel
theorem d_W_negate_18 : decode c_W_negate 18 = .ok (.invokevirtual 58, 3) := by decide +kernel
theorem d_W_negate_21 : decode c_W_negate 21 = .ok (.aload_n 0, 1) := by decide +kernel
theorem d_W_negate_22 : decode c_W_negate 22 = .ok (.getfield 20, 3) := by decide +kernel
theorem d_W_negate_25 : decode c_W_negate 25 = .ok (.aload_n 1, 1) := by decide +kernel
theorem d_W_negate_26 : decode c_W_negate 26 = .ok (.getfield 41, 3) := by decide +kernel
theorem d_W_negate_29 : decode c_W_negate 29 = .ok (.invokevirtual 54, 3) := by decide +kernel
theorem d_W_negate_32 : decode c_W_negate 32 = .ok (.return_, 1) := by decide +kernel
theorem d_W_settle_0 : decode c_W_settle 0 = .ok (.aload_n 0, 1) := by decide +kernel
theorem d_W_settle_1 : decode c_W_settle 1 = .ok (.getfield 16, 3) := by decide +kernel
theorem d_W_settle_4 : decode c_W_settle 4 = .ok (.invokevirtual 85, 3) := by decide +kernel
theorem d_W_settle_7 : decode c_W_settle 7 = .ok (.ifCond .eq 10, 3) := by decide +kernel
theorem d_W_settle_10 : decode c_W_settle 10 = .ok (.aload_n 1, 1) := by decide +kernel
theorem d_W_settle_11 : decode c_W_settle 11 = .ok (.iconst 0, 1) := by decide +kernel
theorem d_W_settle_12 : decode c_W_settle 12 = .ok (.invokevirtual 89, 3) := by decide +kernel
theorem d_W_settle_15 : decode c_W_settle 15 = .ok (.iconst 0, 1) := by decide +kernel
theorem d_W_settle_16 : decode c_W_settle 16 = .ok (.ireturn, 1) := by decide +kernel
theorem d_W_settle_17 : decode c_W_settle 17 = .ok (.aload_n 0, 1) := by decide +kernel
theorem d_W_settle_18 : decode c_W_settle 18 = .ok (.invokevirtual 90, 3) := by decide +kernel
theorem d_W_settle_21 : decode c_W_settle 21 = .ok (.astore_n 2, 1) := by decide +kernel
theorem d_W_settle_22 : decode c_W_settle 22 = .ok (.aload_n 2, 1) := by decide +kernel
theorem d_W_settle_23 : decode c_W_settle 23 = .ok (.getfield 94, 3) := by decide +kernel
theorem d_W_settle_26 : decode c_W_settle 26 = .ok (.ifCond .le 49, 3) := by decide +kernel
theorem d_W_settle_29 : decode c_W_settle 29 = .ok (.aload_n 0, 1) := by decide +kernel
theorem d_W_settle_30 : decode c_W_settle 30 = .ok (.getfield 16, 3) := by decide +kernel
theorem d_W_settle_33 : decode c_W_settle 33 = .ok (.aload_n 2, 1) := by decide +kernel
theorem d_W_settle_34 : decode c_W_settle 34 = .ok (.aload_n 0, 1) := by decide +kernel
theorem d_W_settle_35 : decode c_W_settle 35 = .ok (.getfield 35, 3) := by decide +kernel
theorem d_W_settle_38 : decode c_W_settle 38 = .ok (.invokevirtual 98, 3) := by decide +kernel
theorem d_W_settle_41 : decode c_W_settle 41 = .ok (.aload_n 0, 1) := by decide +kernel
theorem d_W_settle_42 : decode c_W_settle 42 = .ok (.getfield 16, 3) := by decide +kernel
theorem d_W_settle_45 : decode c_W_settle 45 = .ok (.aload_n 0, 1) := by decide +kernel
theorem d_W_settle_46 : decode c_W_settle 46 = .ok (.getfield 35, 3) := by decide +kernel
theorem d_W_settle_49 : decode c_W_settle 49 = .ok (.invokevirtual 54, 3) := by decide +kernel
theorem d_W_settle_52 : decode c_W_settle 52 = .ok (.aload_n 0, 1) := by decide +kernel
theorem d_W_settle_53 : decode c_W_settle 53 = .ok (.getfield 20, 3) := by decide +kernel
theorem d_W_settle_56 : decode c_W_settle 56 = .ok (.aload_n 2, 1) := by decide +kernel
theorem d_W_settle_57 : decode c_W_settle 57 = .ok (.aload_n 0, 1) := by decide +kernel
theorem d_W_settle_58 : decode c_W_settle 58 = .ok (.getfield 35, 3) := by decide +kernel
theorem d_W_settle_61 : decode c_W_settle 61 = .ok (.invokevirtual 98, 3) := by decide +kernel
theorem d_W_settle_64 : decode c_W_settle 64 = .ok (.aload_n 0, 1) := by decide +kernel
theorem d_W_settle_65 : decode c_W_settle 65 = .ok (.getfield 20, 3) := by decide +kernel
theorem d_W_settle_68 : decode c_W_settle 68 = .ok (.aload_n 0, 1) := by decide +kernel
theorem d_W_settle_69 : decode c_W_settle 69 = .ok (.getfield 35, 3) := by decide +kernel
theorem d_W_settle_72 : decode c_W_settle 72 = .ok (.invokevirtual 54, 3) := by decide +kernel
theorem d_W_settle_75 : decode c_W_settle 75 = .ok (.aload_n 0, 1) := by decide +kernel
theorem d_W_settle_76 : decode c_W_settle 76 = .ok (.getfield 16, 3) := by decide +kernel
theorem d_W_settle_79 : decode c_W_settle 79 = .ok (.getfield 94, 3) := by decide +kernel
theorem d_W_settle_82 : decode c_W_settle 82 = .ok (.bipush 12, 2) := by decide +kernel
theorem d_W_settle_84 : decode c_W_settle 84 = .ok (.if_icmp .gt 15, 3) := by decide +kernel
theorem d_W_settle_87 : decode c_W_settle 87 = .ok (.aload_n 0, 1) := by decide +kernel
theorem d_W_settle_88 : decode c_W_settle 88 = .ok (.getfield 20, 3) := by decide +kernel
theorem d_W_settle_91 : decode c_W_settle 91 = .ok (.getfield 94, 3) := by decide +kernel
theorem d_W_settle_94 : decode c_W_settle 94 = .ok (.bipush 12, 2) := by decide +kernel
theorem d_W_settle_96 : decode c_W_settle 96 = .ok (.if_icmp .le 6, 3) := by decide +kernel
theorem d_W_settle_99 : decode c_W_settle 99 = .ok (.bipush (-6), 2) := by decide +kernel
theorem d_W_settle_101 : decode c_W_settle 101 = .ok (.ireturn, 1) := by decide +kernel
theorem d_W_settle_102 : decode c_W_settle 102 = .ok (.aload_n 0, 1) := by decide +kernel
theorem d_W_settle_103 : decode c_W_settle 103 = .ok (.getfield 20, 3) := by decide +kernel
theorem d_W_settle_106 : decode c_W_settle 106 = .ok (.invokevirtual 101, 3) := by decide +kernel
theorem d_W_settle_109 : decode c_W_settle 109 = .ok (.invokestatic 104, 3) := by decide +kernel
theorem d_W_settle_112 : decode c_W_settle 112 = .ok (.istore_n 3, 1) := by decide +kernel
theorem d_W_settle_113 : decode c_W_settle 113 = .ok (.aload_n 0, 1) := by decide +kernel
theorem d_W_settle_114 : decode c_W_settle 114 = .ok (.getfield 16, 3) := by decide +kernel
theorem d_W_settle_117 : decode c_W_settle 117 = .ok (.iload_n 3, 1) := by decide +kernel
theorem d_W_settle_118 : decode c_W_settle 118 = .ok (.invokevirtual 58, 3) := by decide +kernel
theorem d_W_settle_121 : decode c_W_settle 121 = .ok (.aload_n 0, 1) := by decide +kernel
theorem d_W_settle_122 : decode c_W_settle 122 = .ok (.getfield 20, 3) := by decide +kernel
theorem d_W_settle_125 : decode c_W_settle 125 = .ok (.iload_n 3, 1) := by decide +kernel
theorem d_W_settle_126 : decode c_W_settle 126 = .ok (.invokevirtual 58, 3) := by decide +kernel
theorem d_W_settle_129 : decode c_W_settle 129 = .ok (.aload_n 1, 1) := by decide +kernel
theorem d_W_settle_130 : decode c_W_settle 130 = .ok (.getfield 38, 3) := by decide +kernel
theorem d_W_settle_133 : decode c_W_settle 133 = .ok (.aload_n 0, 1) := by decide +kernel
theorem d_W_settle_134 : decode c_W_settle 134 = .ok (.getfield 16, 3) := by decide +kernel
theorem d_W_settle_137 : decode c_W_settle 137 = .ok (.invokevirtual 54, 3) := by decide +kernel
theorem d_W_settle_140 : decode c_W_settle 140 = .ok (.aload_n 1, 1) := by decide +kernel
theorem d_W_settle_141 : decode c_W_settle 141 = .ok (.getfield 41, 3) := by decide +kernel
theorem d_W_settle_144 : decode c_W_settle 144 = .ok (.aload_n 0, 1) := by decide +kernel
theorem d_W_settle_145 : decode c_W_settle 145 = .ok (.getfield 20, 3) := by decide +kernel
theorem d_W_settle_148 : decode c_W_settle 148 = .ok (.invokevirtual 54, 3) := by decide +kernel
theorem d_W_settle_151 : decode c_W_settle 151 = .ok (.iconst 0, 1) := by decide +kernel
theorem d_W_settle_152 : decode c_W_settle 152 = .ok (.ireturn, 1) := by decide +kernel
theorem d_W_commonDivisor_0 : decode c_W_commonDivisor 0 = .ok (.aload_n 0, 1) := by decide +kernel
theorem d_W_commonDivisor_1 : decode c_W_commonDivisor 1 = .ok (.getfield 29, 3) := by decide +kernel
theorem d_W_commonDivisor_4 : decode c_W_commonDivisor 4 = .ok (.astore_n 1, 1) := by decide +kernel
theorem d_W_commonDivisor_5 : decode c_W_commonDivisor 5 = .ok (.aload_n 0, 1) := by decide +kernel
theorem d_W_commonDivisor_6 : decode c_W_commonDivisor 6 = .ok (.getfield 32, 3) := by decide +kernel
theorem d_W_commonDivisor_9 : decode c_W_commonDivisor 9 = .ok (.astore_n 2, 1) := by decide +kernel
theorem d_W_commonDivisor_10 : decode c_W_commonDivisor 10 = .ok (.aload_n 1, 1) := by decide +kernel
theorem d_W_commonDivisor_11 : decode c_W_commonDivisor 11 = .ok (.aload_n 0, 1) := by decide +kernel
theorem d_W_commonDivisor_12 : decode c_W_commonDivisor 12 = .ok (.getfield 16, 3) := by decide +kernel
theorem d_W_commonDivisor_15 : decode c_W_commonDivisor 15 = .ok (.invokevirtual 54, 3) := by decide +kernel
theorem d_W_commonDivisor_18 : decode c_W_commonDivisor 18 = .ok (.aload_n 2, 1) := by decide +kernel
theorem d_W_commonDivisor_19 : decode c_W_commonDivisor 19 = .ok (.aload_n 0, 1) := by decide +kernel
theorem d_W_commonDivisor_20 : decode c_W_commonDivisor 20 = .ok (.getfield 20, 3) := by decide +kernel
theorem d_W_commonDivisor_23 : decode c_W_commonDivisor 23 = .ok (.invokevirtual 54, 3) := by decide +kernel
theorem d_W_commonDivisor_26 : decode c_W_commonDivisor 26 = .ok (.iconst 0, 1) := by decide +kernel
theorem d_W_commonDivisor_27 : decode c_W_commonDivisor 27 = .ok (.istore_n 3, 1) := by decide +kernel
theorem d_W_commonDivisor_28 : decode c_W_commonDivisor 28 = .ok (.iload_n 3, 1) := by decide +kernel
theorem d_W_commonDivisor_29 : decode c_W_commonDivisor 29 = .ok (.bipush 24, 2) := by decide +kernel
theorem d_W_commonDivisor_31 : decode c_W_commonDivisor 31 = .ok (.if_icmp .gt 44, 3) := by decide +kernel
theorem d_W_commonDivisor_34 : decode c_W_commonDivisor 34 = .ok (.aload_n 2, 1) := by decide +kernel
theorem d_W_commonDivisor_35 : decode c_W_commonDivisor 35 = .ok (.getfield 94, 3) := by decide +kernel
theorem d_W_commonDivisor_38 : decode c_W_commonDivisor 38 = .ok (.ifCond .le 37, 3) := by decide +kernel
theorem d_W_commonDivisor_41 : decode c_W_commonDivisor 41 = .ok (.aload_n 2, 1) := by decide +kernel
theorem d_W_commonDivisor_42 : decode c_W_commonDivisor 42 = .ok (.aload_n 2, 1) := by decide +kernel
theorem d_W_commonDivisor_43 : decode c_W_commonDivisor 43 = .ok (.invokevirtual 101, 3) := by decide +kernel
theorem d_W_commonDivisor_46 : decode c_W_commonDivisor 46 = .ok (.invokestatic 104, 3) := by decide +kernel
theorem d_W_commonDivisor_49 : decode c_W_commonDivisor 49 = .ok (.invokevirtual 58, 3) := by decide +kernel
theorem d_W_commonDivisor_52 : decode c_W_commonDivisor 52 = .ok (.aload_n 1, 1) := by decide +kernel
theorem d_W_commonDivisor_53 : decode c_W_commonDivisor 53 = .ok (.aload_n 2, 1) := by decide +kernel
theorem d_W_commonDivisor_54 : decode c_W_commonDivisor 54 = .ok (.aload_n 0, 1) := by decide +kernel
theorem d_W_commonDivisor_55 : decode c_W_commonDivisor 55 = .ok (.getfield 35, 3) := by decide +kernel
theorem d_W_commonDivisor_58 : decode c_W_commonDivisor 58 = .ok (.invokevirtual 98, 3) := by decide +kernel
theorem d_W_commonDivisor_61 : decode c_W_commonDivisor 61 = .ok (.aload_n 1, 1) := by decide +kernel
theorem d_W_commonDivisor_62 : decode c_W_commonDivisor 62 = .ok (.astore 4, 2) := by decide +kernel
theorem d_W_commonDivisor_64 : decode c_W_commonDivisor 64 = .ok (.aload_n 2, 1) := by decide +kernel
theorem d_W_commonDivisor_65 : decode c_W_commonDivisor 65 = .ok (.astore_n 1, 1) := by decide +kernel
theorem d_W_commonDivisor_66 : decode c_W_commonDivisor 66 = .ok (.aload 4, 2) := by decide +kernel
theorem d_W_commonDivisor_68 : decode c_W_commonDivisor 68 = .ok (.astore_n 2, 1) := by decide +kernel
theorem d_W_commonDivisor_69 : decode c_W_commonDivisor 69 = .ok (.iinc 3 1, 3) := by decide +kernel
theorem d_W_commonDivisor_72 : decode c_W_commonDivisor 72 = .ok (.goto (-44), 3) := by decide +kernel
theorem d_W_commonDivisor_75 : decode c_W_commonDivisor 75 = .ok (.aload_n 2, 1) := by decide +kernel
theorem d_W_commonDivisor_76 : decode c_W_commonDivisor 76 = .ok (.invokevirtual 85, 3) := by decide +kernel
theorem d_W_commonDivisor_79 : decode c_W_commonDivisor 79 = .ok (.ifCond .eq 7, 3) := by decide +kernel
theorem d_W_commonDivisor_82 : decode c_W_commonDivisor 82 = .ok (.aload_n 1, 1) := by decide +kernel
theorem d_W_commonDivisor_83 : decode c_W_commonDivisor 83 = .ok (.goto 4, 3) := by decide +kernel
theorem d_W_commonDivisor_86 : decode c_W_commonDivisor 86 = .ok (.aload_n 2, 1) := by decide +kernel
theorem d_W_commonDivisor_87 : decode c_W_commonDivisor 87 = .ok (.areturn, 1) := by decide +kernel
theorem d_S_inverse_0 : decode c_S_inverse 0 = .ok (.iconst 1, 1) := by decide +kernel
theorem d_S_inverse_1 : decode c_S_inverse 1 = .ok (.istore_n 1, 1) := by decide +kernel
theorem d_S_inverse_2 : decode c_S_inverse 2 = .ok (.iload_n 0, 1) := by decide +kernel
theorem d_S_inverse_3 : decode c_S_inverse 3 = .ok (.istore_n 2, 1) := by decide +kernel
theorem d_S_inverse_4 : decode c_S_inverse 4 = .ok (.sipush 10005, 3) := by decide +kernel
theorem d_S_inverse_7 : decode c_S_inverse 7 = .ok (.istore_n 3, 1) := by decide +kernel
theorem d_S_inverse_8 : decode c_S_inverse 8 = .ok (.iload_n 3, 1) := by decide +kernel
theorem d_S_inverse_9 : decode c_S_inverse 9 = .ok (.ifCond .le 33, 3) := by decide +kernel
theorem d_S_inverse_12 : decode c_S_inverse 12 = .ok (.iload_n 3, 1) := by decide +kernel
theorem d_S_inverse_13 : decode c_S_inverse 13 = .ok (.iconst 2, 1) := by decide +kernel
theorem d_S_inverse_14 : decode c_S_inverse 14 = .ok (.irem, 1) := by decide +kernel
theorem d_S_inverse_15 : decode c_S_inverse 15 = .ok (.iconst 1, 1) := by decide +kernel
theorem d_S_inverse_16 : decode c_S_inverse 16 = .ok (.if_icmp .ne 11, 3) := by decide +kernel
theorem d_S_inverse_19 : decode c_S_inverse 19 = .ok (.iload_n 1, 1) := by decide +kernel
theorem d_S_inverse_20 : decode c_S_inverse 20 = .ok (.iload_n 2, 1) := by decide +kernel
theorem d_S_inverse_21 : decode c_S_inverse 21 = .ok (.imul, 1) := by decide +kernel
theorem d_S_inverse_22 : decode c_S_inverse 22 = .ok (.sipush 10007, 3) := by decide +kernel
theorem d_S_inverse_25 : decode c_S_inverse 25 = .ok (.irem, 1) := by decide +kernel
theorem d_S_inverse_26 : decode c_S_inverse 26 = .ok (.istore_n 1, 1) := by decide +kernel
theorem d_S_inverse_27 : decode c_S_inverse 27 = .ok (.iload_n 2, 1) := by decide +kernel
theorem d_S_inverse_28 : decode c_S_inverse 28 = .ok (.iload_n 2, 1) := by decide +kernel
theorem d_S_inverse_29 : decode c_S_inverse 29 = .ok (.imul, 1) := by decide +kernel
theorem d_S_inverse_30 : decode c_S_inverse 30 = .ok (.sipush 10007, 3) := by decide +kernel
theorem d_S_inverse_33 : decode c_S_inverse 33 = .ok (.irem, 1) := by decide +kernel
theorem d_S_inverse_34 : decode c_S_inverse 34 = .ok (.istore_n 2, 1) := by decide +kernel
theorem d_S_inverse_35 : decode c_S_inverse 35 = .ok (.iload_n 3, 1) := by decide +kernel
theorem d_S_inverse_36 : decode c_S_inverse 36 = .ok (.iconst 2, 1) := by decide +kernel
theorem d_S_inverse_37 : decode c_S_inverse 37 = .ok (.idiv, 1) := by decide +kernel
theorem d_S_inverse_38 : decode c_S_inverse 38 = .ok (.istore_n 3, 1) := by decide +kernel
theorem d_S_inverse_39 : decode c_S_inverse 39 = .ok (.goto (-31), 3) := by decide +kernel
theorem d_S_inverse_42 : decode c_S_inverse 42 = .ok (.iload_n 1, 1) := by decide +kernel
theorem d_S_inverse_43 : decode c_S_inverse 43 = .ok (.ireturn, 1) := by decide +kernel
theorem d_F_isSame_0 : decode c_F_isSame 0 = .ok (.aload_n 0, 1) := by decide +kernel
theorem d_F_isSame_1 : decode c_F_isSame 1 = .ok (.getfield 14, 3) := by decide +kernel
theorem d_F_isSame_4 : decode c_F_isSame 4 = .ok (.aload_n 1, 1) := by decide +kernel
theorem d_F_isSame_5 : decode c_F_isSame 5 = .ok (.getfield 14, 3) := by decide +kernel
theorem d_F_isSame_8 : decode c_F_isSame 8 = .ok (.invokevirtual 47, 3) := by decide +kernel
theorem d_F_isSame_11 : decode c_F_isSame 11 = .ok (.ifCond .eq 21, 3) := by decide +kernel
theorem d_F_isSame_14 : decode c_F_isSame 14 = .ok (.aload_n 0, 1) := by decide +kernel
theorem d_F_isSame_15 : decode c_F_isSame 15 = .ok (.getfield 20, 3) := by decide +kernel
theorem d_F_isSame_18 : decode c_F_isSame 18 = .ok (.aload_n 1, 1) := by decide +kernel
theorem d_F_isSame_19 : decode c_F_isSame 19 = .ok (.getfield 20, 3) := by decide +kernel
theorem d_F_isSame_22 : decode c_F_isSame 22 = .ok (.invokevirtual 47, 3) := by decide +kernel
theorem d_F_isSame_25 : decode c_F_isSame 25 = .ok (.ifCond .eq 7, 3) := by decide +kernel
theorem d_F_isSame_28 : decode c_F_isSame 28 = .ok (.iconst 1, 1) := by decide +kernel
theorem d_F_isSame_29 : decode c_F_isSame 29 = .ok (.goto 4, 3) := by decide +kernel
theorem d_F_isSame_32 : decode c_F_isSame 32 = .ok (.iconst 0, 1) := by decide +kernel
theorem d_F_isSame_33 : decode c_F_isSame 33 = .ok (.ireturn, 1) := by decide +kernel
theorem d_S_badPlace_0 : decode c_S_badPlace 0 = .ok (.aload_n 0, 1) := by decide +kernel
theorem d_S_badPlace_1 : decode c_S_badPlace 1 = .ok (.getfield 53, 3) := by decide +kernel
theorem d_S_badPlace_4 : decode c_S_badPlace 4 = .ok (.ireturn, 1) := by decide +kernel
theorem d_S_degree_0 : decode c_S_degree 0 = .ok (.aload_n 0, 1) := by decide +kernel
theorem d_S_degree_1 : decode c_S_degree 1 = .ok (.getfield 42, 3) := by decide +kernel
theorem d_S_degree_4 : decode c_S_degree 4 = .ok (.iload_n 1, 1) := by decide +kernel
theorem d_S_degree_5 : decode c_S_degree 5 = .ok (.invokevirtual 105, 3) := by decide +kernel
theorem d_S_degree_8 : decode c_S_degree 8 = .ok (.astore_n 3, 1) := by decide +kernel
theorem d_S_degree_9 : decode c_S_degree 9 = .ok (.aload_n 3, 1) := by decide +kernel
theorem d_S_degree_10 : decode c_S_degree 10 = .ok (.ifnonnull 7, 3) := by decide +kernel
theorem d_S_degree_13 : decode c_S_degree 13 = .ok (.iconst (-1), 1) := by decide +kernel
theorem d_S_degree_14 : decode c_S_degree 14 = .ok (.goto 11, 3) := by decide +kernel
theorem d_S_degree_17 : decode c_S_degree 17 = .ok (.aload_n 3, 1) := by decide +kernel
theorem d_S_degree_18 : decode c_S_degree 18 = .ok (.iload_n 2, 1) := by decide +kernel
theorem d_S_degree_19 : decode c_S_degree 19 = .ok (.invokevirtual 109, 3) := by decide +kernel
theorem d_S_degree_22 : decode c_S_degree 22 = .ok (.getfield 115, 3) := by decide +kernel
theorem d_S_degree_25 : decode c_S_degree 25 = .ok (.ireturn, 1) := by decide +kernel
theorem d_F_part_0 : decode c_F_part 0 = .ok (.iload_n 1, 1) := by decide +kernel
theorem d_F_part_1 : decode c_F_part 1 = .ok (.ifCond .eq 10, 3) := by decide +kernel
theorem d_F_part_4 : decode c_F_part 4 = .ok (.aload_n 0, 1) := by decide +kernel
theorem d_F_part_5 : decode c_F_part 5 = .ok (.getfield 20, 3) := by decide +kernel
theorem d_F_part_8 : decode c_F_part 8 = .ok (.goto 7, 3) := by decide +kernel
theorem d_F_part_11 : decode c_F_part 11 = .ok (.aload_n 0, 1) := by decide +kernel
theorem d_F_part_12 : decode c_F_part 12 = .ok (.getfield 14, 3) := by decide +kernel
theorem d_F_part_15 : decode c_F_part 15 = .ok (.areturn, 1) := by decide +kernel
theorem d_S_coefficient_0 : decode c_S_coefficient 0 = .ok (.aload_n 0, 1) := by decide +kernel
theorem d_S_coefficient_1 : decode c_S_coefficient 1 = .ok (.getfield 42, 3) := by decide +kernel
theorem d_S_coefficient_4 : decode c_S_coefficient 4 = .ok (.iload_n 1, 1) := by decide +kernel
theorem d_S_coefficient_5 : decode c_S_coefficient 5 = .ok (.invokevirtual 105, 3) := by decide +kernel
theorem d_S_coefficient_8 : decode c_S_coefficient 8 = .ok (.astore 4, 2) := by decide +kernel
theorem d_S_coefficient_10 : decode c_S_coefficient 10 = .ok (.aload 4, 2) := by decide +kernel
theorem d_S_coefficient_12 : decode c_S_coefficient 12 = .ok (.ifnull 13, 3) := by decide +kernel
theorem d_S_coefficient_15 : decode c_S_coefficient 15 = .ok (.iload_n 3, 1) := by decide +kernel
theorem d_S_coefficient_16 : decode c_S_coefficient 16 = .ok (.ifCond .lt 9, 3) := by decide +kernel
theorem d_S_coefficient_19 : decode c_S_coefficient 19 = .ok (.iload_n 3, 1) := by decide +kernel
theorem d_S_coefficient_20 : decode c_S_coefficient 20 = .ok (.bipush 12, 2) := by decide +kernel
theorem d_S_coefficient_22 : decode c_S_coefficient 22 = .ok (.if_icmp .le 5, 3) := by decide +kernel
theorem d_S_coefficient_25 : decode c_S_coefficient 25 = .ok (.iconst (-1), 1) := by decide +kernel
theorem d_S_coefficient_26 : decode c_S_coefficient 26 = .ok (.ireturn, 1) := by decide +kernel
theorem d_S_coefficient_27 : decode c_S_coefficient 27 = .ok (.aload 4, 2) := by decide +kernel
theorem d_S_coefficient_29 : decode c_S_coefficient 29 = .ok (.iload_n 2, 1) := by decide +kernel
theorem d_S_coefficient_30 : decode c_S_coefficient 30 = .ok (.invokevirtual 109, 3) := by decide +kernel
theorem d_S_coefficient_33 : decode c_S_coefficient 33 = .ok (.iload_n 3, 1) := by decide +kernel
theorem d_S_coefficient_34 : decode c_S_coefficient 34 = .ok (.invokevirtual 120, 3) := by decide +kernel
theorem d_S_coefficient_37 : decode c_S_coefficient 37 = .ok (.ireturn, 1) := by decide +kernel
theorem d_S_shape_0 : decode c_S_shape 0 = .ok (.aload_n 0, 1) := by decide +kernel
theorem d_S_shape_1 : decode c_S_shape 1 = .ok (.getfield 42, 3) := by decide +kernel
theorem d_S_shape_4 : decode c_S_shape 4 = .ok (.iload_n 1, 1) := by decide +kernel
theorem d_S_shape_5 : decode c_S_shape 5 = .ok (.invokevirtual 105, 3) := by decide +kernel
theorem d_S_shape_8 : decode c_S_shape 8 = .ok (.ifnonnull 7, 3) := by decide +kernel
theorem d_S_shape_11 : decode c_S_shape 11 = .ok (.iconst (-1), 1) := by decide +kernel
theorem d_S_shape_12 : decode c_S_shape 12 = .ok (.goto 11, 3) := by decide +kernel
theorem d_S_shape_15 : decode c_S_shape 15 = .ok (.aload_n 0, 1) := by decide +kernel
theorem d_S_shape_16 : decode c_S_shape 16 = .ok (.getfield 42, 3) := by decide +kernel
theorem d_S_shape_19 : decode c_S_shape 19 = .ok (.iload_n 1, 1) := by decide +kernel
theorem d_S_shape_20 : decode c_S_shape 20 = .ok (.invokevirtual 123, 3) := by decide +kernel
theorem d_S_shape_23 : decode c_S_shape 23 = .ok (.ireturn, 1) := by decide +kernel
theorem d_S_shapes_0 : decode c_S_shapes 0 = .ok (.aload_n 0, 1) := by decide +kernel
theorem d_S_shapes_1 : decode c_S_shapes 1 = .ok (.getfield 42, 3) := by decide +kernel
theorem d_S_shapes_4 : decode c_S_shapes 4 = .ok (.getfield 126, 3) := by decide +kernel
theorem d_S_shapes_7 : decode c_S_shapes 7 = .ok (.ireturn, 1) := by decide +kernel
theorem d_S_labels_0 : decode c_S_labels 0 = .ok (.aload_n 0, 1) := by decide +kernel
theorem d_S_labels_1 : decode c_S_labels 1 = .ok (.getfield 42, 3) := by decide +kernel
theorem d_S_labels_4 : decode c_S_labels 4 = .ok (.getfield 129, 3) := by decide +kernel
theorem d_S_labels_7 : decode c_S_labels 7 = .ok (.ireturn, 1) := by decide +kernel
theorem d_S_bound_0 : decode c_S_bound 0 = .ok (.iload_n 1, 1) := by decide +kernel
theorem d_S_bound_1 : decode c_S_bound 1 = .ok (.ifCond .lt 8, 3) := by decide +kernel
theorem d_S_bound_4 : decode c_S_bound 4 = .ok (.iload_n 1, 1) := by decide +kernel
theorem d_S_bound_5 : decode c_S_bound 5 = .ok (.iconst 3, 1) := by decide +kernel
theorem d_S_bound_6 : decode c_S_bound 6 = .ok (.if_icmp .lt 5, 3) := by decide +kernel
theorem d_S_bound_9 : decode c_S_bound 9 = .ok (.iconst (-1), 1) := by decide +kernel
theorem d_S_bound_10 : decode c_S_bound 10 = .ok (.ireturn, 1) := by decide +kernel
theorem d_S_bound_11 : decode c_S_bound 11 = .ok (.aload_n 0, 1) := by decide +kernel
theorem d_S_bound_12 : decode c_S_bound 12 = .ok (.getfield 42, 3) := by decide +kernel
theorem d_S_bound_15 : decode c_S_bound 15 = .ok (.aload_n 0, 1) := by decide +kernel
theorem d_S_bound_16 : decode c_S_bound 16 = .ok (.getfield 42, 3) := by decide +kernel
theorem d_S_bound_19 : decode c_S_bound 19 = .ok (.iload_n 1, 1) := by decide +kernel
theorem d_S_bound_20 : decode c_S_bound 20 = .ok (.invokevirtual 132, 3) := by decide +kernel
theorem d_S_bound_23 : decode c_S_bound 23 = .ok (.invokevirtual 123, 3) := by decide +kernel
theorem d_S_bound_26 : decode c_S_bound 26 = .ok (.ireturn, 1) := by decide +kernel
theorem d_S_value_0 : decode c_S_value 0 = .ok (.aload_n 0, 1) := by decide +kernel
theorem d_S_value_1 : decode c_S_value 1 = .ok (.getfield 42, 3) := by decide +kernel
theorem d_S_value_4 : decode c_S_value 4 = .ok (.iload_n 1, 1) := by decide +kernel
theorem d_S_value_5 : decode c_S_value 5 = .ok (.invokevirtual 105, 3) := by decide +kernel
theorem d_S_value_8 : decode c_S_value 8 = .ok (.astore_n 3, 1) := by decide +kernel
theorem d_S_value_9 : decode c_S_value 9 = .ok (.aload_n 3, 1) := by decide +kernel
theorem d_S_value_10 : decode c_S_value 10 = .ok (.ifnonnull 5, 3) := by decide +kernel
theorem d_S_value_13 : decode c_S_value 13 = .ok (.iconst (-1), 1) := by decide +kernel
theorem d_S_value_14 : decode c_S_value 14 = .ok (.ireturn, 1) := by decide +kernel
theorem d_S_value_15 : decode c_S_value 15 = .ok (.iload_n 2, 1) := by decide +kernel
theorem d_S_value_16 : decode c_S_value 16 = .ok (.sipush 10007, 3) := by decide +kernel
theorem d_S_value_19 : decode c_S_value 19 = .ok (.invokestatic 135, 3) := by decide +kernel
theorem d_S_value_22 : decode c_S_value 22 = .ok (.istore 4, 2) := by decide +kernel
theorem d_S_value_24 : decode c_S_value 24 = .ok (.aload_n 3, 1) := by decide +kernel
theorem d_S_value_25 : decode c_S_value 25 = .ok (.getfield 141, 3) := by decide +kernel
theorem d_S_value_28 : decode c_S_value 28 = .ok (.iload 4, 2) := by decide +kernel
theorem d_S_value_30 : decode c_S_value 30 = .ok (.invokevirtual 145, 3) := by decide +kernel
theorem d_S_value_33 : decode c_S_value 33 = .ok (.istore 5, 2) := by decide +kernel
theorem d_S_value_35 : decode c_S_value 35 = .ok (.iload 5, 2) := by decide +kernel
theorem d_S_value_37 : decode c_S_value 37 = .ok (.ifCond .ne 6, 3) := by decide +kernel
theorem d_S_value_40 : decode c_S_value 40 = .ok (.bipush (-7), 2) := by decide +kernel
theorem d_S_value_42 : decode c_S_value 42 = .ok (.ireturn, 1) := by decide +kernel
theorem d_S_value_43 : decode c_S_value 43 = .ok (.aload_n 3, 1) := by decide +kernel
theorem d_S_value_44 : decode c_S_value 44 = .ok (.getfield 148, 3) := by decide +kernel
theorem d_S_value_47 : decode c_S_value 47 = .ok (.iload 4, 2) := by decide +kernel
theorem d_S_value_49 : decode c_S_value 49 = .ok (.invokevirtual 145, 3) := by decide +kernel
theorem d_S_value_52 : decode c_S_value 52 = .ok (.iload 5, 2) := by decide +kernel
theorem d_S_value_54 : decode c_S_value 54 = .ok (.invokestatic 151, 3) := by decide +kernel
theorem d_S_value_57 : decode c_S_value 57 = .ok (.imul, 1) := by decide +kernel
theorem d_S_value_58 : decode c_S_value 58 = .ok (.sipush 10007, 3) := by decide +kernel
theorem d_S_value_61 : decode c_S_value 61 = .ok (.irem, 1) := by decide +kernel
theorem d_S_value_62 : decode c_S_value 62 = .ok (.ireturn, 1) := by decide +kernel
theorem d_S_text_0 : decode c_S_text 0 = .ok (.aload_n 0, 1) := by decide +kernel
theorem d_S_text_1 : decode c_S_text 1 = .ok (.getfield 42, 3) := by decide +kernel
theorem d_S_text_4 : decode c_S_text 4 = .ok (.iload_n 1, 1) := by decide +kernel
theorem d_S_text_5 : decode c_S_text 5 = .ok (.invokevirtual 105, 3) := by decide +kernel
theorem d_S_text_8 : decode c_S_text 8 = .ok (.astore_n 3, 1) := by decide +kernel
theorem d_S_text_9 : decode c_S_text 9 = .ok (.aload_n 3, 1) := by decide +kernel
theorem d_S_text_10 : decode c_S_text 10 = .ok (.ifnull 7, 3) := by decide +kernel
theorem d_S_text_13 : decode c_S_text 13 = .ok (.iload_n 2, 1) := by decide +kernel
theorem d_S_text_14 : decode c_S_text 14 = .ok (.ifCond .ge 5, 3) := by decide +kernel
theorem d_S_text_17 : decode c_S_text 17 = .ok (.iconst (-1), 1) := by decide +kernel
theorem d_S_text_18 : decode c_S_text 18 = .ok (.ireturn, 1) := by decide +kernel
theorem d_S_text_19 : decode c_S_text 19 = .ok (.aload_n 0, 1) := by decide +kernel
theorem d_S_text_20 : decode c_S_text 20 = .ok (.getfield 49, 3) := by decide +kernel
theorem d_S_text_23 : decode c_S_text 23 = .ok (.aload_n 3, 1) := by decide +kernel
theorem d_S_text_24 : decode c_S_text 24 = .ok (.iload_n 2, 1) := by decide +kernel
theorem d_S_text_25 : decode c_S_text 25 = .ok (.invokevirtual 154, 3) := by decide +kernel
theorem d_S_text_28 : decode c_S_text 28 = .ok (.ireturn, 1) := by decide +kernel
theorem d_S_line_0 : decode c_S_line 0 = .ok (.iload_n 1, 1) := by decide +kernel
theorem d_S_line_1 : decode c_S_line 1 = .ok (.ifCond .ge 11, 3) := by decide +kernel
theorem d_S_line_4 : decode c_S_line 4 = .ok (.aload_n 0, 1) := by decide +kernel
theorem d_S_line_5 : decode c_S_line 5 = .ok (.getfield 12, 3) := by decide +kernel
theorem d_S_line_8 : decode c_S_line 8 = .ok (.getfield 65, 3) := by decide +kernel
theorem d_S_line_11 : decode c_S_line 11 = .ok (.ireturn, 1) := by decide +kernel
theorem d_S_line_12 : decode c_S_line 12 = .ok (.iload_n 1, 1) := by decide +kernel
theorem d_S_line_13 : decode c_S_line 13 = .ok (.aload_n 0, 1) := by decide +kernel
theorem d_S_line_14 : decode c_S_line 14 = .ok (.getfield 12, 3) := by decide +kernel
theorem d_S_line_17 : decode c_S_line 17 = .ok (.getfield 65, 3) := by decide +kernel
theorem d_S_line_20 : decode c_S_line 20 = .ok (.if_icmp .ge 14, 3) := by decide +kernel
theorem d_S_line_23 : decode c_S_line 23 = .ok (.aload_n 0, 1) := by decide +kernel
theorem d_S_line_24 : decode c_S_line 24 = .ok (.getfield 12, 3) := by decide +kernel
theorem d_S_line_27 : decode c_S_line 27 = .ok (.iload_n 1, 1) := by decide +kernel
theorem d_S_line_28 : decode c_S_line 28 = .ok (.invokevirtual 158, 3) := by decide +kernel
theorem d_S_line_31 : decode c_S_line 31 = .ok (.goto 4, 3) := by decide +kernel
theorem d_S_line_34 : decode c_S_line 34 = .ok (.iconst (-1), 1) := by decide +kernel
theorem d_S_line_35 : decode c_S_line 35 = .ok (.ireturn, 1) := by decide +kernel
theorem d_S_reset_0 : decode c_S_reset 0 = .ok (.aload_n 0, 1) := by decide +kernel
theorem d_S_reset_1 : decode c_S_reset 1 = .ok (.getfield 12, 3) := by decide +kernel
theorem d_S_reset_4 : decode c_S_reset 4 = .ok (.invokevirtual 80, 3) := by decide +kernel
theorem d_S_reset_7 : decode c_S_reset 7 = .ok (.aload_n 0, 1) := by decide +kernel
theorem d_S_reset_8 : decode c_S_reset 8 = .ok (.getfield 42, 3) := by decide +kernel
theorem d_S_reset_11 : decode c_S_reset 11 = .ok (.invokevirtual 162, 3) := by decide +kernel
theorem d_S_reset_14 : decode c_S_reset 14 = .ok (.aload_n 0, 1) := by decide +kernel
theorem d_S_reset_15 : decode c_S_reset 15 = .ok (.iconst (-1), 1) := by decide +kernel
theorem d_S_reset_16 : decode c_S_reset 16 = .ok (.putfield 53, 3) := by decide +kernel
theorem d_S_reset_19 : decode c_S_reset 19 = .ok (.return_, 1) := by decide +kernel
