theorem d_R_init_0 : decode c_R_init 0 = .ok (.aload_n 0, 1) := by decide +kernel
theorem d_R_init_1 : decode c_R_init 1 = .ok (.invokespecial 3, 3) := by decide +kernel
theorem d_R_init_4 : decode c_R_init 4 = .ok (.aload_n 0, 1) := by decide +kernel
theorem d_R_init_5 : decode c_R_init 5 = .ok (.bipush 9, 2) := by decide +kernel
theorem d_R_init_7 : decode c_R_init 7 = .ok (.newarray .char, 2) := by decide +kernel
theorem d_R_init_9 : decode c_R_init 9 = .ok (.putfield 9, 3) := by decide +kernel
theorem d_R_init_12 : decode c_R_init 12 = .ok (.aload_n 0, 1) := by decide +kernel
theorem d_R_init_13 : decode c_R_init 13 = .ok (.bipush 9, 2) := by decide +kernel
theorem d_R_init_15 : decode c_R_init 15 = .ok (.newarray .int, 2) := by decide +kernel
theorem d_R_init_17 : decode c_R_init 17 = .ok (.putfield 15, 3) := by decide +kernel
theorem d_R_init_20 : decode c_R_init 20 = .ok (.aload_n 0, 1) := by decide +kernel
theorem d_R_init_21 : decode c_R_init 21 = .ok (.bipush 9, 2) := by decide +kernel
theorem d_R_init_23 : decode c_R_init 23 = .ok (.newarray .int, 2) := by decide +kernel
theorem d_R_init_25 : decode c_R_init 25 = .ok (.putfield 19, 3) := by decide +kernel
theorem d_R_init_28 : decode c_R_init 28 = .ok (.aload_n 0, 1) := by decide +kernel
theorem d_R_init_29 : decode c_R_init 29 = .ok (.aload_n 1, 1) := by decide +kernel
theorem d_R_init_30 : decode c_R_init 30 = .ok (.putfield 22, 3) := by decide +kernel
theorem d_R_init_33 : decode c_R_init 33 = .ok (.aload_n 0, 1) := by decide +kernel
theorem d_R_init_34 : decode c_R_init 34 = .ok (.aload_n 2, 1) := by decide +kernel
theorem d_R_init_35 : decode c_R_init 35 = .ok (.putfield 26, 3) := by decide +kernel
theorem d_R_init_38 : decode c_R_init 38 = .ok (.return_, 1) := by decide +kernel
theorem d_T_init_0 : decode c_T_init 0 = .ok (.aload_n 0, 1) := by decide +kernel
theorem d_T_init_1 : decode c_T_init 1 = .ok (.invokespecial 1, 3) := by decide +kernel
theorem d_T_init_4 : decode c_T_init 4 = .ok (.return_, 1) := by decide +kernel
theorem d_R_read_0 : decode c_R_read 0 = .ok (.aload_n 0, 1) := by decide +kernel
theorem d_R_read_1 : decode c_R_read 1 = .ok (.getfield 26, 3) := by decide +kernel
theorem d_R_read_4 : decode c_R_read 4 = .ok (.invokevirtual 30, 3) := by decide +kernel
theorem d_R_read_7 : decode c_R_read 7 = .ok (.aload_n 0, 1) := by decide +kernel
theorem d_R_read_8 : decode c_R_read 8 = .ok (.iconst 0, 1) := by decide +kernel
theorem d_R_read_9 : decode c_R_read 9 = .ok (.putfield 35, 3) := by decide +kernel
theorem d_R_read_12 : decode c_R_read 12 = .ok (.aload_n 0, 1) := by decide +kernel
theorem d_R_read_13 : decode c_R_read 13 = .ok (.iconst 0, 1) := by decide +kernel
theorem d_R_read_14 : decode c_R_read 14 = .ok (.putfield 39, 3) := by decide +kernel
theorem d_R_read_17 : decode c_R_read 17 = .ok (.aload_n 0, 1) := by decide +kernel
theorem d_R_read_18 : decode c_R_read 18 = .ok (.iconst 0, 1) := by decide +kernel
theorem d_R_read_19 : decode c_R_read 19 = .ok (.putfield 43, 3) := by decide +kernel
theorem d_R_read_22 : decode c_R_read 22 = .ok (.aload_n 0, 1) := by decide +kernel
theorem d_R_read_23 : decode c_R_read 23 = .ok (.invokevirtual 46, 3) := by decide +kernel
theorem d_R_read_26 : decode c_R_read 26 = .ok (.aload_n 0, 1) := by decide +kernel
theorem d_R_read_27 : decode c_R_read 27 = .ok (.invokevirtual 49, 3) := by decide +kernel
theorem d_R_read_30 : decode c_R_read 30 = .ok (.iconst 0, 1) := by decide +kernel
theorem d_R_read_31 : decode c_R_read 31 = .ok (.istore_n 1, 1) := by decide +kernel
theorem d_R_read_32 : decode c_R_read 32 = .ok (.iload_n 1, 1) := by decide +kernel
theorem d_R_read_33 : decode c_R_read 33 = .ok (.bipush 32, 2) := by decide +kernel
theorem d_R_read_35 : decode c_R_read 35 = .ok (.if_icmp .ge 70, 3) := by decide +kernel
theorem d_R_read_38 : decode c_R_read 38 = .ok (.aload_n 0, 1) := by decide +kernel
theorem d_R_read_39 : decode c_R_read 39 = .ok (.getfield 35, 3) := by decide +kernel
theorem d_R_read_42 : decode c_R_read 42 = .ok (.aload_n 0, 1) := by decide +kernel
theorem d_R_read_43 : decode c_R_read 43 = .ok (.getfield 22, 3) := by decide +kernel
theorem d_R_read_46 : decode c_R_read 46 = .ok (.getfield 52, 3) := by decide +kernel
theorem d_R_read_49 : decode c_R_read 49 = .ok (.if_icmp .ge 56, 3) := by decide +kernel
theorem d_R_read_52 : decode c_R_read 52 = .ok (.aload_n 0, 1) := by decide +kernel
theorem d_R_read_53 : decode c_R_read 53 = .ok (.getfield 39, 3) := by decide +kernel
theorem d_R_read_56 : decode c_R_read 56 = .ok (.ifCond .ne 49, 3) := by decide +kernel
theorem d_R_read_59 : decode c_R_read 59 = .ok (.aload_n 0, 1) := by decide +kernel
theorem d_R_read_60 : decode c_R_read 60 = .ok (.getfield 57, 3) := by decide +kernel
theorem d_R_read_63 : decode c_R_read 63 = .ok (.ifCond .eq 21, 3) := by decide +kernel
theorem d_R_read_66 : decode c_R_read 66 = .ok (.aload_n 0, 1) := by decide +kernel
theorem d_R_read_67 : decode c_R_read 67 = .ok (.aload_n 0, 1) := by decide +kernel
theorem d_R_read_68 : decode c_R_read 68 = .ok (.getfield 22, 3) := by decide +kernel
theorem d_R_read_71 : decode c_R_read 71 = .ok (.aload_n 0, 1) := by decide +kernel
theorem d_R_read_72 : decode c_R_read 72 = .ok (.getfield 35, 3) := by decide +kernel
theorem d_R_read_75 : decode c_R_read 75 = .ok (.invokevirtual 60, 3) := by decide +kernel
theorem d_R_read_78 : decode c_R_read 78 = .ok (.invokevirtual 64, 3) := by decide +kernel
theorem d_R_read_81 : decode c_R_read 81 = .ok (.goto 18, 3) := by decide +kernel
theorem d_R_read_84 : decode c_R_read 84 = .ok (.aload_n 0, 1) := by decide +kernel
theorem d_R_read_85 : decode c_R_read 85 = .ok (.aload_n 0, 1) := by decide +kernel
theorem d_R_read_86 : decode c_R_read 86 = .ok (.getfield 22, 3) := by decide +kernel
theorem d_R_read_89 : decode c_R_read 89 = .ok (.aload_n 0, 1) := by decide +kernel
theorem d_R_read_90 : decode c_R_read 90 = .ok (.getfield 35, 3) := by decide +kernel
theorem d_R_read_93 : decode c_R_read 93 = .ok (.invokevirtual 60, 3) := by decide +kernel
theorem d_R_read_96 : decode c_R_read 96 = .ok (.invokevirtual 68, 3) := by decide +kernel
theorem d_R_read_99 : decode c_R_read 99 = .ok (.iinc 1 1, 3) := by decide +kernel
theorem d_R_read_102 : decode c_R_read 102 = .ok (.goto (-70), 3) := by decide +kernel
theorem d_R_read_105 : decode c_R_read 105 = .ok (.aload_n 0, 1) := by decide +kernel
theorem d_R_read_106 : decode c_R_read 106 = .ok (.getfield 39, 3) := by decide +kernel
theorem d_R_read_109 : decode c_R_read 109 = .ok (.ifCond .ne 17, 3) := by decide +kernel
theorem d_R_read_112 : decode c_R_read 112 = .ok (.aload_n 0, 1) := by decide +kernel
theorem d_R_read_113 : decode c_R_read 113 = .ok (.getfield 57, 3) := by decide +kernel
theorem d_R_read_116 : decode c_R_read 116 = .ok (.ifCond .ne 10, 3) := by decide +kernel
theorem d_R_read_119 : decode c_R_read 119 = .ok (.aload_n 0, 1) := by decide +kernel
theorem d_R_read_120 : decode c_R_read 120 = .ok (.getfield 43, 3) := by decide +kernel
theorem d_R_read_123 : decode c_R_read 123 = .ok (.ifCond .le 8, 3) := by decide +kernel
theorem d_R_read_126 : decode c_R_read 126 = .ok (.aload_n 0, 1) := by decide +kernel
theorem d_R_read_127 : decode c_R_read 127 = .ok (.getfield 35, 3) := by decide +kernel
theorem d_R_read_130 : decode c_R_read 130 = .ok (.ireturn, 1) := by decide +kernel
theorem d_R_read_131 : decode c_R_read 131 = .ok (.aload_n 0, 1) := by decide +kernel
theorem d_R_read_132 : decode c_R_read 132 = .ok (.invokevirtual 71, 3) := by decide +kernel
theorem d_R_read_135 : decode c_R_read 135 = .ok (.iconst (-1), 1) := by decide +kernel
theorem d_R_read_136 : decode c_R_read 136 = .ok (.ireturn, 1) := by decide +kernel
theorem d_R_startSum_0 : decode c_R_startSum 0 = .ok (.aload_n 0, 1) := by decide +kernel
theorem d_R_startSum_1 : decode c_R_startSum 1 = .ok (.getfield 15, 3) := by decide +kernel
theorem d_R_startSum_4 : decode c_R_startSum 4 = .ok (.aload_n 0, 1) := by decide +kernel
theorem d_R_startSum_5 : decode c_R_startSum 5 = .ok (.getfield 43, 3) := by decide +kernel
theorem d_R_startSum_8 : decode c_R_startSum 8 = .ok (.iconst 0, 1) := by decide +kernel
theorem d_R_startSum_9 : decode c_R_startSum 9 = .ok (.iastore, 1) := by decide +kernel
theorem d_R_startSum_10 : decode c_R_startSum 10 = .ok (.aload_n 0, 1) := by decide +kernel
theorem d_R_startSum_11 : decode c_R_startSum 11 = .ok (.getfield 19, 3) := by decide +kernel
theorem d_R_startSum_14 : decode c_R_startSum 14 = .ok (.aload_n 0, 1) := by decide +kernel
theorem d_R_startSum_15 : decode c_R_startSum 15 = .ok (.getfield 43, 3) := by decide +kernel
theorem d_R_startSum_18 : decode c_R_startSum 18 = .ok (.iconst 0, 1) := by decide +kernel
theorem d_R_startSum_19 : decode c_R_startSum 19 = .ok (.iastore, 1) := by decide +kernel
theorem d_R_startSum_20 : decode c_R_startSum 20 = .ok (.aload_n 0, 1) := by decide +kernel
theorem d_R_startSum_21 : decode c_R_startSum 21 = .ok (.iconst 1, 1) := by decide +kernel
theorem d_R_startSum_22 : decode c_R_startSum 22 = .ok (.putfield 57, 3) := by decide +kernel
theorem d_R_startSum_25 : decode c_R_startSum 25 = .ok (.aload_n 0, 1) := by decide +kernel
theorem d_R_startSum_26 : decode c_R_startSum 26 = .ok (.iconst 1, 1) := by decide +kernel
theorem d_R_startSum_27 : decode c_R_startSum 27 = .ok (.putfield 81, 3) := by decide +kernel
theorem d_R_startSum_30 : decode c_R_startSum 30 = .ok (.return_, 1) := by decide +kernel
theorem d_R_readTarget_0 : decode c_R_readTarget 0 = .ok (.aload_n 0, 1) := by decide +kernel
theorem d_R_readTarget_1 : decode c_R_readTarget 1 = .ok (.getfield 22, 3) := by decide +kernel
theorem d_R_readTarget_4 : decode c_R_readTarget 4 = .ok (.iconst 0, 1) := by decide +kernel
theorem d_R_readTarget_5 : decode c_R_readTarget 5 = .ok (.invokevirtual 60, 3) := by decide +kernel
theorem d_R_readTarget_8 : decode c_R_readTarget 8 = .ok (.invokestatic 74, 3) := by decide +kernel
theorem d_R_readTarget_11 : decode c_R_readTarget 11 = .ok (.ifCond .eq 39, 3) := by decide +kernel
theorem d_R_readTarget_14 : decode c_R_readTarget 14 = .ok (.aload_n 0, 1) := by decide +kernel
theorem d_R_readTarget_15 : decode c_R_readTarget 15 = .ok (.getfield 22, 3) := by decide +kernel
theorem d_R_readTarget_18 : decode c_R_readTarget 18 = .ok (.iconst 1, 1) := by decide +kernel
theorem d_R_readTarget_19 : decode c_R_readTarget 19 = .ok (.invokevirtual 60, 3) := by decide +kernel
theorem d_R_readTarget_22 : decode c_R_readTarget 22 = .ok (.bipush 58, 2) := by decide +kernel
theorem d_R_readTarget_24 : decode c_R_readTarget 24 = .ok (.if_icmp .ne 26, 3) := by decide +kernel
theorem d_R_readTarget_27 : decode c_R_readTarget 27 = .ok (.aload_n 0, 1) := by decide +kernel
theorem d_R_readTarget_28 : decode c_R_readTarget 28 = .ok (.getfield 26, 3) := by decide +kernel
theorem d_R_readTarget_31 : decode c_R_readTarget 31 = .ok (.aload_n 0, 1) := by decide +kernel
theorem d_R_readTarget_32 : decode c_R_readTarget 32 = .ok (.getfield 22, 3) := by decide +kernel
theorem d_R_readTarget_35 : decode c_R_readTarget 35 = .ok (.iconst 0, 1) := by decide +kernel
theorem d_R_readTarget_36 : decode c_R_readTarget 36 = .ok (.invokevirtual 60, 3) := by decide +kernel
theorem d_R_readTarget_39 : decode c_R_readTarget 39 = .ok (.bipush 97, 2) := by decide +kernel
theorem d_R_readTarget_41 : decode c_R_readTarget 41 = .ok (.isub, 1) := by decide +kernel
theorem d_R_readTarget_42 : decode c_R_readTarget 42 = .ok (.putfield 78, 3) := by decide +kernel
theorem d_R_readTarget_45 : decode c_R_readTarget 45 = .ok (.aload_n 0, 1) := by decide +kernel
theorem d_R_readTarget_46 : decode c_R_readTarget 46 = .ok (.iconst 2, 1) := by decide +kernel
theorem d_R_readTarget_47 : decode c_R_readTarget 47 = .ok (.putfield 35, 3) := by decide +kernel
theorem d_R_readTarget_50 : decode c_R_readTarget 50 = .ok (.return_, 1) := by decide +kernel
theorem d_R_isName_0 : decode c_R_isName 0 = .ok (.iload_n 0, 1) := by decide +kernel
theorem d_R_isName_1 : decode c_R_isName 1 = .ok (.bipush 97, 2) := by decide +kernel
theorem d_R_isName_3 : decode c_R_isName 3 = .ok (.if_icmp .lt 13, 3) := by decide +kernel
theorem d_R_isName_6 : decode c_R_isName 6 = .ok (.iload_n 0, 1) := by decide +kernel
theorem d_R_isName_7 : decode c_R_isName 7 = .ok (.bipush 100, 2) := by decide +kernel
theorem d_R_isName_9 : decode c_R_isName 9 = .ok (.if_icmp .ge 7, 3) := by decide +kernel
theorem d_R_isName_12 : decode c_R_isName 12 = .ok (.iconst 1, 1) := by decide +kernel
theorem d_R_isName_13 : decode c_R_isName 13 = .ok (.goto 4, 3) := by decide +kernel
theorem d_R_isName_16 : decode c_R_isName 16 = .ok (.iconst 0, 1) := by decide +kernel
theorem d_R_isName_17 : decode c_R_isName 17 = .ok (.ireturn, 1) := by decide +kernel
theorem d_R_readBeforeAtom_0 : decode c_R_readBeforeAtom 0 = .ok (.aload_n 0, 1) := by decide +kernel
theorem d_R_readBeforeAtom_1 : decode c_R_readBeforeAtom 1 = .ok (.getfield 81, 3) := by decide +kernel
theorem d_R_readBeforeAtom_4 : decode c_R_readBeforeAtom 4 = .ok (.ifCond .eq 54, 3) := by decide +kernel
theorem d_R_readBeforeAtom_7 : decode c_R_readBeforeAtom 7 = .ok (.iload_n 1, 1) := by decide +kernel
theorem d_R_readBeforeAtom_8 : decode c_R_readBeforeAtom 8 = .ok (.bipush 43, 2) := by decide +kernel
theorem d_R_readBeforeAtom_10 : decode c_R_readBeforeAtom 10 = .ok (.if_icmp .eq 9, 3) := by decide +kernel
theorem d_R_readBeforeAtom_13 : decode c_R_readBeforeAtom 13 = .ok (.iload_n 1, 1) := by decide +kernel
theorem d_R_readBeforeAtom_14 : decode c_R_readBeforeAtom 14 = .ok (.bipush 45, 2) := by decide +kernel
theorem d_R_readBeforeAtom_16 : decode c_R_readBeforeAtom 16 = .ok (.if_icmp .ne 42, 3) := by decide +kernel
theorem d_R_readBeforeAtom_19 : decode c_R_readBeforeAtom 19 = .ok (.aload_n 0, 1) := by decide +kernel
theorem d_R_readBeforeAtom_20 : decode c_R_readBeforeAtom 20 = .ok (.getfield 15, 3) := by decide +kernel
theorem d_R_readBeforeAtom_23 : decode c_R_readBeforeAtom 23 = .ok (.aload_n 0, 1) := by decide +kernel
theorem d_R_readBeforeAtom_24 : decode c_R_readBeforeAtom 24 = .ok (.getfield 43, 3) := by decide +kernel
theorem d_R_readBeforeAtom_27 : decode c_R_readBeforeAtom 27 = .ok (.iload_n 1, 1) := by decide +kernel
theorem d_R_readBeforeAtom_28 : decode c_R_readBeforeAtom 28 = .ok (.bipush 45, 2) := by decide +kernel
theorem d_R_readBeforeAtom_30 : decode c_R_readBeforeAtom 30 = .ok (.if_icmp .ne 8, 3) := by decide +kernel
theorem d_R_readBeforeAtom_33 : decode c_R_readBeforeAtom 33 = .ok (.bipush 6, 2) := by decide +kernel
theorem d_R_readBeforeAtom_35 : decode c_R_readBeforeAtom 35 = .ok (.goto 4, 3) := by decide +kernel
theorem d_R_readBeforeAtom_38 : decode c_R_readBeforeAtom 38 = .ok (.iconst 0, 1) := by decide +kernel
theorem d_R_readBeforeAtom_39 : decode c_R_readBeforeAtom 39 = .ok (.iastore, 1) := by decide +kernel
theorem d_R_readBeforeAtom_40 : decode c_R_readBeforeAtom 40 = .ok (.aload_n 0, 1) := by decide +kernel
theorem d_R_readBeforeAtom_41 : decode c_R_readBeforeAtom 41 = .ok (.iconst 0, 1) := by decide +kernel
theorem d_R_readBeforeAtom_42 : decode c_R_readBeforeAtom 42 = .ok (.putfield 81, 3) := by decide +kernel
theorem d_R_readBeforeAtom_45 : decode c_R_readBeforeAtom 45 = .ok (.aload_n 0, 1) := by decide +kernel
theorem d_R_readBeforeAtom_46 : decode c_R_readBeforeAtom 46 = .ok (.dup, 1) := by decide +kernel
theorem d_R_readBeforeAtom_47 : decode c_R_readBeforeAtom 47 = .ok (.getfield 35, 3) := by decide +kernel
theorem d_R_readBeforeAtom_50 : decode c_R_readBeforeAtom 50 = .ok (.iconst 1, 1) := by decide +kernel
theorem d_R_readBeforeAtom_51 : decode c_R_readBeforeAtom 51 = .ok (.iadd, 1) := by decide +kernel
theorem d_R_readBeforeAtom_52 : decode c_R_readBeforeAtom 52 = .ok (.putfield 35, 3) := by decide +kernel
theorem d_R_readBeforeAtom_55 : decode c_R_readBeforeAtom 55 = .ok (.goto 141, 3) := by decide +kernel
theorem d_R_readBeforeAtom_58 : decode c_R_readBeforeAtom 58 = .ok (.iload_n 1, 1) := by decide +kernel
theorem d_R_readBeforeAtom_59 : decode c_R_readBeforeAtom 59 = .ok (.invokestatic 84, 3) := by decide +kernel
theorem d_R_readBeforeAtom_62 : decode c_R_readBeforeAtom 62 = .ok (.ifCond .eq 18, 3) := by decide +kernel
theorem d_R_readBeforeAtom_65 : decode c_R_readBeforeAtom 65 = .ok (.aload_n 0, 1) := by decide +kernel
theorem d_R_readBeforeAtom_66 : decode c_R_readBeforeAtom 66 = .ok (.iconst 1, 1) := by decide +kernel
theorem d_R_readBeforeAtom_67 : decode c_R_readBeforeAtom 67 = .ok (.aload_n 0, 1) := by decide +kernel
theorem d_R_readBeforeAtom_68 : decode c_R_readBeforeAtom 68 = .ok (.iconst 5, 1) := by decide +kernel
theorem d_R_readBeforeAtom_69 : decode c_R_readBeforeAtom 69 = .ok (.ldc 87, 2) := by decide +kernel
theorem d_R_readBeforeAtom_71 : decode c_R_readBeforeAtom 71 = .ok (.invokevirtual 88, 3) := by decide +kernel
theorem d_R_readBeforeAtom_74 : decode c_R_readBeforeAtom 74 = .ok (.invokevirtual 92, 3) := by decide +kernel
theorem d_R_readBeforeAtom_77 : decode c_R_readBeforeAtom 77 = .ok (.goto 119, 3) := by decide +kernel
theorem d_R_readBeforeAtom_80 : decode c_R_readBeforeAtom 80 = .ok (.iload_n 1, 1) := by decide +kernel
theorem d_R_readBeforeAtom_81 : decode c_R_readBeforeAtom 81 = .ok (.bipush 37, 2) := by decide +kernel
theorem d_R_readBeforeAtom_83 : decode c_R_readBeforeAtom 83 = .ok (.if_icmp .ne 28, 3) := by decide +kernel
theorem d_R_readBeforeAtom_86 : decode c_R_readBeforeAtom 86 = .ok (.aload_n 0, 1) := by decide +kernel
theorem d_R_readBeforeAtom_87 : decode c_R_readBeforeAtom 87 = .ok (.dup, 1) := by decide +kernel
theorem d_R_readBeforeAtom_88 : decode c_R_readBeforeAtom 88 = .ok (.getfield 35, 3) := by decide +kernel
theorem d_R_readBeforeAtom_91 : decode c_R_readBeforeAtom 91 = .ok (.iconst 1, 1) := by decide +kernel
theorem d_R_readBeforeAtom_92 : decode c_R_readBeforeAtom 92 = .ok (.iadd, 1) := by decide +kernel
theorem d_R_readBeforeAtom_93 : decode c_R_readBeforeAtom 93 = .ok (.putfield 35, 3) := by decide +kernel
theorem d_R_readBeforeAtom_96 : decode c_R_readBeforeAtom 96 = .ok (.aload_n 0, 1) := by decide +kernel
theorem d_R_readBeforeAtom_97 : decode c_R_readBeforeAtom 97 = .ok (.iconst 4, 1) := by decide +kernel
theorem d_R_readBeforeAtom_98 : decode c_R_readBeforeAtom 98 = .ok (.aload_n 0, 1) := by decide +kernel
theorem d_R_readBeforeAtom_99 : decode c_R_readBeforeAtom 99 = .ok (.iconst 2, 1) := by decide +kernel
theorem d_R_readBeforeAtom_100 : decode c_R_readBeforeAtom 100 = .ok (.bipush 99, 2) := by decide +kernel
theorem d_R_readBeforeAtom_102 : decode c_R_readBeforeAtom 102 = .ok (.invokevirtual 88, 3) := by decide +kernel
theorem d_R_readBeforeAtom_105 : decode c_R_readBeforeAtom 105 = .ok (.invokevirtual 92, 3) := by decide +kernel
theorem d_R_readBeforeAtom_108 : decode c_R_readBeforeAtom 108 = .ok (.goto 88, 3) := by decide +kernel
theorem d_R_readBeforeAtom_111 : decode c_R_readBeforeAtom 111 = .ok (.iload_n 1, 1) := by decide +kernel
theorem d_R_readBeforeAtom_112 : decode c_R_readBeforeAtom 112 = .ok (.bipush 120, 2) := by decide +kernel
theorem d_R_readBeforeAtom_114 : decode c_R_readBeforeAtom 114 = .ok (.if_icmp .ne 22, 3) := by decide +kernel
theorem d_R_readBeforeAtom_117 : decode c_R_readBeforeAtom 117 = .ok (.aload_n 0, 1) := by decide +kernel
theorem d_R_readBeforeAtom_118 : decode c_R_readBeforeAtom 118 = .ok (.dup, 1) := by decide +kernel
theorem d_R_readBeforeAtom_119 : decode c_R_readBeforeAtom 119 = .ok (.getfield 35, 3) := by decide +kernel
theorem d_R_readBeforeAtom_122 : decode c_R_readBeforeAtom 122 = .ok (.iconst 1, 1) := by decide +kernel
theorem d_R_readBeforeAtom_123 : decode c_R_readBeforeAtom 123 = .ok (.iadd, 1) := by decide +kernel
theorem d_R_readBeforeAtom_124 : decode c_R_readBeforeAtom 124 = .ok (.putfield 35, 3) := by decide +kernel
theorem d_R_readBeforeAtom_127 : decode c_R_readBeforeAtom 127 = .ok (.aload_n 0, 1) := by decide +kernel
theorem d_R_readBeforeAtom_128 : decode c_R_readBeforeAtom 128 = .ok (.iconst 2, 1) := by decide +kernel
theorem d_R_readBeforeAtom_129 : decode c_R_readBeforeAtom 129 = .ok (.iconst 0, 1) := by decide +kernel
theorem d_R_readBeforeAtom_130 : decode c_R_readBeforeAtom 130 = .ok (.invokevirtual 92, 3) := by decide +kernel
theorem d_R_readBeforeAtom_133 : decode c_R_readBeforeAtom 133 = .ok (.goto 63, 3) := by decide +kernel
theorem d_R_readBeforeAtom_136 : decode c_R_readBeforeAtom 136 = .ok (.iload_n 1, 1) := by decide +kernel
theorem d_R_readBeforeAtom_137 : decode c_R_readBeforeAtom 137 = .ok (.invokestatic 74, 3) := by decide +kernel
theorem d_R_readBeforeAtom_140 : decode c_R_readBeforeAtom 140 = .ok (.ifCond .eq 25, 3) := by decide +kernel
theorem d_R_readBeforeAtom_143 : decode c_R_readBeforeAtom 143 = .ok (.aload_n 0, 1) := by decide +kernel
theorem d_R_readBeforeAtom_144 : decode c_R_readBeforeAtom 144 = .ok (.dup, 1) := by decide +kernel
theorem d_R_readBeforeAtom_145 : decode c_R_readBeforeAtom 145 = .ok (.getfield 35, 3) := by decide +kernel
theorem d_R_readBeforeAtom_148 : decode c_R_readBeforeAtom 148 = .ok (.iconst 1, 1) := by decide +kernel
theorem d_R_readBeforeAtom_149 : decode c_R_readBeforeAtom 149 = .ok (.iadd, 1) := by decide +kernel
theorem d_R_readBeforeAtom_150 : decode c_R_readBeforeAtom 150 = .ok (.putfield 35, 3) := by decide +kernel
theorem d_R_readBeforeAtom_153 : decode c_R_readBeforeAtom 153 = .ok (.aload_n 0, 1) := by decide +kernel
theorem d_R_readBeforeAtom_154 : decode c_R_readBeforeAtom 154 = .ok (.iconst 3, 1) := by decide +kernel
theorem d_R_readBeforeAtom_155 : decode c_R_readBeforeAtom 155 = .ok (.iload_n 1, 1) := by decide +kernel
theorem d_R_readBeforeAtom_156 : decode c_R_readBeforeAtom 156 = .ok (.bipush 97, 2) := by decide +kernel
theorem d_R_readBeforeAtom_158 : decode c_R_readBeforeAtom 158 = .ok (.isub, 1) := by decide +kernel
theorem d_R_readBeforeAtom_159 : decode c_R_readBeforeAtom 159 = .ok (.invokevirtual 92, 3) := by decide +kernel
theorem d_R_readBeforeAtom_162 : decode c_R_readBeforeAtom 162 = .ok (.goto 34, 3) := by decide +kernel
theorem d_R_readBeforeAtom_165 : decode c_R_readBeforeAtom 165 = .ok (.iload_n 1, 1) := by decide +kernel
theorem d_R_readBeforeAtom_166 : decode c_R_readBeforeAtom 166 = .ok (.bipush 40, 2) := by decide +kernel
theorem d_R_readBeforeAtom_168 : decode c_R_readBeforeAtom 168 = .ok (.if_icmp .eq 15, 3) := by decide +kernel
theorem d_R_readBeforeAtom_171 : decode c_R_readBeforeAtom 171 = .ok (.iload_n 1, 1) := by decide +kernel
theorem d_R_readBeforeAtom_172 : decode c_R_readBeforeAtom 172 = .ok (.bipush 100, 2) := by decide +kernel
theorem d_R_readBeforeAtom_174 : decode c_R_readBeforeAtom 174 = .ok (.if_icmp .eq 9, 3) := by decide +kernel
theorem d_R_readBeforeAtom_177 : decode c_R_readBeforeAtom 177 = .ok (.iload_n 1, 1) := by decide +kernel
theorem d_R_readBeforeAtom_178 : decode c_R_readBeforeAtom 178 = .ok (.bipush 115, 2) := by decide +kernel
theorem d_R_readBeforeAtom_180 : decode c_R_readBeforeAtom 180 = .ok (.if_icmp .ne 11, 3) := by decide +kernel
theorem d_R_readBeforeAtom_183 : decode c_R_readBeforeAtom 183 = .ok (.aload_n 0, 1) := by decide +kernel
theorem d_R_readBeforeAtom_184 : decode c_R_readBeforeAtom 184 = .ok (.iload_n 1, 1) := by decide +kernel
theorem d_R_readBeforeAtom_185 : decode c_R_readBeforeAtom 185 = .ok (.invokevirtual 96, 3) := by decide +kernel
theorem d_R_readBeforeAtom_188 : decode c_R_readBeforeAtom 188 = .ok (.goto 8, 3) := by decide +kernel
theorem d_R_readBeforeAtom_191 : decode c_R_readBeforeAtom 191 = .ok (.aload_n 0, 1) := by decide +kernel
theorem d_R_readBeforeAtom_192 : decode c_R_readBeforeAtom 192 = .ok (.iconst 1, 1) := by decide +kernel
theorem d_R_readBeforeAtom_193 : decode c_R_readBeforeAtom 193 = .ok (.putfield 39, 3) := by decide +kernel
theorem d_R_readBeforeAtom_196 : decode c_R_readBeforeAtom 196 = .ok (.return_, 1) := by decide +kernel
theorem d_R_isDigit_0 : decode c_R_isDigit 0 = .ok (.iload_n 0, 1) := by decide +kernel
theorem d_R_isDigit_1 : decode c_R_isDigit 1 = .ok (.bipush 48, 2) := by decide +kernel
theorem d_R_isDigit_3 : decode c_R_isDigit 3 = .ok (.if_icmp .lt 13, 3) := by decide +kernel
theorem d_R_isDigit_6 : decode c_R_isDigit 6 = .ok (.iload_n 0, 1) := by decide +kernel
theorem d_R_isDigit_7 : decode c_R_isDigit 7 = .ok (.bipush 57, 2) := by decide +kernel
theorem d_R_isDigit_9 : decode c_R_isDigit 9 = .ok (.if_icmp .gt 7, 3) := by decide +kernel
theorem d_R_isDigit_12 : decode c_R_isDigit 12 = .ok (.iconst 1, 1) := by decide +kernel
theorem d_R_isDigit_13 : decode c_R_isDigit 13 = .ok (.goto 4, 3) := by decide +kernel
theorem d_R_isDigit_16 : decode c_R_isDigit 16 = .ok (.iconst 0, 1) := by decide +kernel
theorem d_R_isDigit_17 : decode c_R_isDigit 17 = .ok (.ireturn, 1) := by decide +kernel
theorem d_R_readNumber_0 : decode c_R_readNumber 0 = .ok (.iconst 0, 1) := by decide +kernel
theorem d_R_readNumber_1 : decode c_R_readNumber 1 = .ok (.istore_n 3, 1) := by decide +kernel
theorem d_R_readNumber_2 : decode c_R_readNumber 2 = .ok (.iconst 0, 1) := by decide +kernel
theorem d_R_readNumber_3 : decode c_R_readNumber 3 = .ok (.istore 4, 2) := by decide +kernel
theorem d_R_readNumber_5 : decode c_R_readNumber 5 = .ok (.iload 4, 2) := by decide +kernel
theorem d_R_readNumber_7 : decode c_R_readNumber 7 = .ok (.iload_n 1, 1) := by decide +kernel
theorem d_R_readNumber_8 : decode c_R_readNumber 8 = .ok (.if_icmp .ge 69, 3) := by decide +kernel
theorem d_R_readNumber_11 : decode c_R_readNumber 11 = .ok (.aload_n 0, 1) := by decide +kernel
theorem d_R_readNumber_12 : decode c_R_readNumber 12 = .ok (.getfield 22, 3) := by decide +kernel
theorem d_R_readNumber_15 : decode c_R_readNumber 15 = .ok (.aload_n 0, 1) := by decide +kernel
theorem d_R_readNumber_16 : decode c_R_readNumber 16 = .ok (.getfield 35, 3) := by decide +kernel
theorem d_R_readNumber_19 : decode c_R_readNumber 19 = .ok (.invokevirtual 60, 3) := by decide +kernel
theorem d_R_readNumber_22 : decode c_R_readNumber 22 = .ok (.invokestatic 84, 3) := by decide +kernel
theorem d_R_readNumber_25 : decode c_R_readNumber 25 = .ok (.ifCond .eq 52, 3) := by decide +kernel
theorem d_R_readNumber_28 : decode c_R_readNumber 28 = .ok (.iload_n 3, 1) := by decide +kernel
theorem d_R_readNumber_29 : decode c_R_readNumber 29 = .ok (.bipush 10, 2) := by decide +kernel
theorem d_R_readNumber_31 : decode c_R_readNumber 31 = .ok (.imul, 1) := by decide +kernel
theorem d_R_readNumber_32 : decode c_R_readNumber 32 = .ok (.aload_n 0, 1) := by decide +kernel
theorem d_R_readNumber_33 : decode c_R_readNumber 33 = .ok (.getfield 22, 3) := by decide +kernel
theorem d_R_readNumber_36 : decode c_R_readNumber 36 = .ok (.aload_n 0, 1) := by decide +kernel
theorem d_R_readNumber_37 : decode c_R_readNumber 37 = .ok (.getfield 35, 3) := by decide +kernel
theorem d_R_readNumber_40 : decode c_R_readNumber 40 = .ok (.invokevirtual 60, 3) := by decide +kernel
theorem d_R_readNumber_43 : decode c_R_readNumber 43 = .ok (.bipush 48, 2) := by decide +kernel
theorem d_R_readNumber_45 : decode c_R_readNumber 45 = .ok (.isub, 1) := by decide +kernel
theorem d_R_readNumber_46 : decode c_R_readNumber 46 = .ok (.iadd, 1) := by decide +kernel
theorem d_R_readNumber_47 : decode c_R_readNumber 47 = .ok (.istore 5, 2) := by decide +kernel
theorem d_R_readNumber_49 : decode c_R_readNumber 49 = .ok (.iload 5, 2) := by decide +kernel
theorem d_R_readNumber_51 : decode c_R_readNumber 51 = .ok (.iload_n 2, 1) := by decide +kernel
theorem d_R_readNumber_52 : decode c_R_readNumber 52 = .ok (.if_icmp .le 6, 3) := by decide +kernel
theorem d_R_readNumber_55 : decode c_R_readNumber 55 = .ok (.goto 22, 3) := by decide +kernel
theorem d_R_readNumber_58 : decode c_R_readNumber 58 = .ok (.iload 5, 2) := by decide +kernel
theorem d_R_readNumber_60 : decode c_R_readNumber 60 = .ok (.istore_n 3, 1) := by decide +kernel
theorem d_R_readNumber_61 : decode c_R_readNumber 61 = .ok (.iinc 4 1, 3) := by decide +kernel
theorem d_R_readNumber_64 : decode c_R_readNumber 64 = .ok (.aload_n 0, 1) := by decide +kernel
theorem d_R_readNumber_65 : decode c_R_readNumber 65 = .ok (.dup, 1) := by decide +kernel
theorem d_R_readNumber_66 : decode c_R_readNumber 66 = .ok (.getfield 35, 3) := by decide +kernel
theorem d_R_readNumber_69 : decode c_R_readNumber 69 = .ok (.iconst 1, 1) := by decide +kernel
theorem d_R_readNumber_70 : decode c_R_readNumber 70 = .ok (.iadd, 1) := by decide +kernel
theorem d_R_readNumber_71 : decode c_R_readNumber 71 = .ok (.putfield 35, 3) := by decide +kernel
theorem d_R_readNumber_74 : decode c_R_readNumber 74 = .ok (.goto (-69), 3) := by decide +kernel
theorem d_R_readNumber_77 : decode c_R_readNumber 77 = .ok (.iload 4, 2) := by decide +kernel
theorem d_R_readNumber_79 : decode c_R_readNumber 79 = .ok (.ifCond .ne 8, 3) := by decide +kernel
theorem d_R_readNumber_82 : decode c_R_readNumber 82 = .ok (.aload_n 0, 1) := by decide +kernel
theorem d_R_readNumber_83 : decode c_R_readNumber 83 = .ok (.iconst 1, 1) := by decide +kernel
theorem d_R_readNumber_84 : decode c_R_readNumber 84 = .ok (.putfield 39, 3) := by decide +kernel
theorem d_R_readNumber_87 : decode c_R_readNumber 87 = .ok (.iload_n 3, 1) := by decide +kernel
theorem d_R_readNumber_88 : decode c_R_readNumber 88 = .ok (.ireturn, 1) := by decide +kernel
theorem d_R_endAtom_0 : decode c_R_endAtom 0 = .ok (.aload_n 0, 1) := by decide +kernel
theorem d_R_endAtom_1 : decode c_R_endAtom 1 = .ok (.getfield 26, 3) := by decide +kernel
theorem d_R_endAtom_4 : decode c_R_endAtom 4 = .ok (.iload_n 1, 1) := by decide +kernel
theorem d_R_endAtom_5 : decode c_R_endAtom 5 = .ok (.iload_n 2, 1) := by decide +kernel
theorem d_R_endAtom_6 : decode c_R_endAtom 6 = .ok (.invokevirtual 114, 3) := by decide +kernel
theorem d_R_endAtom_9 : decode c_R_endAtom 9 = .ok (.aload_n 0, 1) := by decide +kernel
theorem d_R_endAtom_10 : decode c_R_endAtom 10 = .ok (.iconst 0, 1) := by decide +kernel
theorem d_R_endAtom_11 : decode c_R_endAtom 11 = .ok (.putfield 57, 3) := by decide +kernel
theorem d_R_endAtom_14 : decode c_R_endAtom 14 = .ok (.aload_n 0, 1) := by decide +kernel
theorem d_R_endAtom_15 : decode c_R_endAtom 15 = .ok (.iconst 1, 1) := by decide +kernel
theorem d_R_endAtom_16 : decode c_R_endAtom 16 = .ok (.putfield 99, 3) := by decide +kernel
theorem d_R_endAtom_19 : decode c_R_endAtom 19 = .ok (.return_, 1) := by decide +kernel
theorem d_R_readOpening_0 : decode c_R_readOpening 0 = .ok (.aload_n 0, 1) := by decide +kernel
theorem d_R_readOpening_1 : decode c_R_readOpening 1 = .ok (.getfield 43, 3) := by decide +kernel
theorem d_R_readOpening_4 : decode c_R_readOpening 4 = .ok (.bipush 8, 2) := by decide +kernel
theorem d_R_readOpening_6 : decode c_R_readOpening 6 = .ok (.if_icmp .lt 9, 3) := by decide +kernel
theorem d_R_readOpening_9 : decode c_R_readOpening 9 = .ok (.aload_n 0, 1) := by decide +kernel
theorem d_R_readOpening_10 : decode c_R_readOpening 10 = .ok (.iconst 1, 1) := by decide +kernel
theorem d_R_readOpening_11 : decode c_R_readOpening 11 = .ok (.putfield 39, 3) := by decide +kernel
theorem d_R_readOpening_14 : decode c_R_readOpening 14 = .ok (.return_, 1) := by decide +kernel
theorem d_R_readOpening_15 : decode c_R_readOpening 15 = .ok (.iload_n 1, 1) := by decide +kernel
theorem d_R_readOpening_16 : decode c_R_readOpening 16 = .ok (.bipush 40, 2) := by decide +kernel
theorem d_R_readOpening_18 : decode c_R_readOpening 18 = .ok (.if_icmp .eq 13, 3) := by decide +kernel
theorem d_R_readOpening_21 : decode c_R_readOpening 21 = .ok (.aload_n 0, 1) := by decide +kernel
theorem d_R_readOpening_22 : decode c_R_readOpening 22 = .ok (.dup, 1) := by decide +kernel
theorem d_R_readOpening_23 : decode c_R_readOpening 23 = .ok (.getfield 35, 3) := by decide +kernel
theorem d_R_readOpening_26 : decode c_R_readOpening 26 = .ok (.iconst 1, 1) := by decide +kernel
theorem d_R_readOpening_27 : decode c_R_readOpening 27 = .ok (.iadd, 1) := by decide +kernel
theorem d_R_readOpening_28 : decode c_R_readOpening 28 = .ok (.putfield 35, 3) := by decide +kernel
theorem d_R_readOpening_31 : decode c_R_readOpening 31 = .ok (.aload_n 0, 1) := by decide +kernel
theorem d_R_readOpening_32 : decode c_R_readOpening 32 = .ok (.getfield 22, 3) := by decide +kernel
theorem d_R_readOpening_35 : decode c_R_readOpening 35 = .ok (.aload_n 0, 1) := by decide +kernel
theorem d_R_readOpening_36 : decode c_R_readOpening 36 = .ok (.getfield 35, 3) := by decide +kernel
theorem d_R_readOpening_39 : decode c_R_readOpening 39 = .ok (.invokevirtual 60, 3) := by decide +kernel
theorem d_R_readOpening_42 : decode c_R_readOpening 42 = .ok (.bipush 40, 2) := by decide +kernel
theorem d_R_readOpening_44 : decode c_R_readOpening 44 = .ok (.if_icmp .eq 9, 3) := by decide +kernel
theorem d_R_readOpening_47 : decode c_R_readOpening 47 = .ok (.aload_n 0, 1) := by decide +kernel
theorem d_R_readOpening_48 : decode c_R_readOpening 48 = .ok (.iconst 1, 1) := by decide +kernel
theorem d_R_readOpening_49 : decode c_R_readOpening 49 = .ok (.putfield 39, 3) := by decide +kernel
theorem d_R_readOpening_52 : decode c_R_readOpening 52 = .ok (.return_, 1) := by decide +kernel
theorem d_R_readOpening_53 : decode c_R_readOpening 53 = .ok (.aload_n 0, 1) := by decide +kernel
theorem d_R_readOpening_54 : decode c_R_readOpening 54 = .ok (.dup, 1) := by decide +kernel
theorem d_R_readOpening_55 : decode c_R_readOpening 55 = .ok (.getfield 35, 3) := by decide +kernel
theorem d_R_readOpening_58 : decode c_R_readOpening 58 = .ok (.iconst 1, 1) := by decide +kernel
theorem d_R_readOpening_59 : decode c_R_readOpening 59 = .ok (.iadd, 1) := by decide +kernel
theorem d_R_readOpening_60 : decode c_R_readOpening 60 = .ok (.putfield 35, 3) := by decide +kernel
theorem d_R_readOpening_63 : decode c_R_readOpening 63 = .ok (.aload_n 0, 1) := by decide +kernel
theorem d_R_readOpening_64 : decode c_R_readOpening 64 = .ok (.dup, 1) := by decide +kernel
theorem d_R_readOpening_65 : decode c_R_readOpening 65 = .ok (.getfield 43, 3) := by decide +kernel
theorem d_R_readOpening_68 : decode c_R_readOpening 68 = .ok (.iconst 1, 1) := by decide +kernel
theorem d_R_readOpening_69 : decode c_R_readOpening 69 = .ok (.iadd, 1) := by decide +kernel
theorem d_R_readOpening_70 : decode c_R_readOpening 70 = .ok (.putfield 43, 3) := by decide +kernel
theorem d_R_readOpening_73 : decode c_R_readOpening 73 = .ok (.aload_n 0, 1) := by decide +kernel
theorem d_R_readOpening_74 : decode c_R_readOpening 74 = .ok (.getfield 9, 3) := by decide +kernel
theorem d_R_readOpening_77 : decode c_R_readOpening 77 = .ok (.aload_n 0, 1) := by decide +kernel
theorem d_R_readOpening_78 : decode c_R_readOpening 78 = .ok (.getfield 43, 3) := by decide +kernel
theorem d_R_readOpening_81 : decode c_R_readOpening 81 = .ok (.iload_n 1, 1) := by decide +kernel
theorem d_R_readOpening_82 : decode c_R_readOpening 82 = .ok (.castore, 1) := by decide +kernel
theorem d_R_readOpening_83 : decode c_R_readOpening 83 = .ok (.aload_n 0, 1) := by decide +kernel
theorem d_R_readOpening_84 : decode c_R_readOpening 84 = .ok (.invokevirtual 46, 3) := by decide +kernel
theorem d_R_readOpening_87 : decode c_R_readOpening 87 = .ok (.return_, 1) := by decide +kernel
theorem d_R_readAfterAtom_0 : decode c_R_readAfterAtom 0 = .ok (.iload_n 1, 1) := by decide +kernel
theorem d_R_readAfterAtom_1 : decode c_R_readAfterAtom 1 = .ok (.bipush 94, 2) := by decide +kernel
theorem d_R_readAfterAtom_3 : decode c_R_readAfterAtom 3 = .ok (.if_icmp .ne 27, 3) := by decide +kernel
theorem d_R_readAfterAtom_6 : decode c_R_readAfterAtom 6 = .ok (.aload_n 0, 1) := by decide +kernel
theorem d_R_readAfterAtom_7 : decode c_R_readAfterAtom 7 = .ok (.getfield 99, 3) := by decide +kernel
theorem d_R_readAfterAtom_10 : decode c_R_readAfterAtom 10 = .ok (.ifCond .eq 20, 3) := by decide +kernel
theorem d_R_readAfterAtom_13 : decode c_R_readAfterAtom 13 = .ok (.aload_n 0, 1) := by decide +kernel
theorem d_R_readAfterAtom_14 : decode c_R_readAfterAtom 14 = .ok (.dup, 1) := by decide +kernel
theorem d_R_readAfterAtom_15 : decode c_R_readAfterAtom 15 = .ok (.getfield 35, 3) := by decide +kernel
theorem d_R_readAfterAtom_18 : decode c_R_readAfterAtom 18 = .ok (.iconst 1, 1) := by decide +kernel
theorem d_R_readAfterAtom_19 : decode c_R_readAfterAtom 19 = .ok (.iadd, 1) := by decide +kernel
theorem d_R_readAfterAtom_20 : decode c_R_readAfterAtom 20 = .ok (.putfield 35, 3) := by decide +kernel
theorem d_R_readAfterAtom_23 : decode c_R_readAfterAtom 23 = .ok (.aload_n 0, 1) := by decide +kernel
theorem d_R_readAfterAtom_24 : decode c_R_readAfterAtom 24 = .ok (.invokevirtual 102, 3) := by decide +kernel
theorem d_R_readAfterAtom_27 : decode c_R_readAfterAtom 27 = .ok (.goto 201, 3) := by decide +kernel
theorem d_R_readAfterAtom_30 : decode c_R_readAfterAtom 30 = .ok (.iload_n 1, 1) := by decide +kernel
theorem d_R_readAfterAtom_31 : decode c_R_readAfterAtom 31 = .ok (.bipush 42, 2) := by decide +kernel
theorem d_R_readAfterAtom_33 : decode c_R_readAfterAtom 33 = .ok (.if_icmp .eq 9, 3) := by decide +kernel
theorem d_R_readAfterAtom_36 : decode c_R_readAfterAtom 36 = .ok (.iload_n 1, 1) := by decide +kernel
theorem d_R_readAfterAtom_37 : decode c_R_readAfterAtom 37 = .ok (.bipush 47, 2) := by decide +kernel
theorem d_R_readAfterAtom_39 : decode c_R_readAfterAtom 39 = .ok (.if_icmp .ne 36, 3) := by decide +kernel
theorem d_R_readAfterAtom_42 : decode c_R_readAfterAtom 42 = .ok (.aload_n 0, 1) := by decide +kernel
theorem d_R_readAfterAtom_43 : decode c_R_readAfterAtom 43 = .ok (.invokevirtual 105, 3) := by decide +kernel
theorem d_R_readAfterAtom_46 : decode c_R_readAfterAtom 46 = .ok (.aload_n 0, 1) := by decide +kernel
theorem d_R_readAfterAtom_47 : decode c_R_readAfterAtom 47 = .ok (.getfield 19, 3) := by decide +kernel
theorem d_R_readAfterAtom_50 : decode c_R_readAfterAtom 50 = .ok (.aload_n 0, 1) := by decide +kernel
theorem d_R_readAfterAtom_51 : decode c_R_readAfterAtom 51 = .ok (.getfield 43, 3) := by decide +kernel
theorem d_R_readAfterAtom_54 : decode c_R_readAfterAtom 54 = .ok (.iload_n 1, 1) := by decide +kernel
theorem d_R_readAfterAtom_55 : decode c_R_readAfterAtom 55 = .ok (.bipush 42, 2) := by decide +kernel
theorem d_R_readAfterAtom_57 : decode c_R_readAfterAtom 57 = .ok (.if_icmp .ne 8, 3) := by decide +kernel
theorem d_R_readAfterAtom_60 : decode c_R_readAfterAtom 60 = .ok (.bipush 10, 2) := by decide +kernel
theorem d_R_readAfterAtom_62 : decode c_R_readAfterAtom 62 = .ok (.goto 5, 3) := by decide +kernel
theorem d_R_readAfterAtom_65 : decode c_R_readAfterAtom 65 = .ok (.bipush 11, 2) := by decide +kernel
theorem d_R_readAfterAtom_67 : decode c_R_readAfterAtom 67 = .ok (.iastore, 1) := by decide +kernel
theorem d_R_readAfterAtom_68 : decode c_R_readAfterAtom 68 = .ok (.aload_n 0, 1) := by decide +kernel
theorem d_R_readAfterAtom_69 : decode c_R_readAfterAtom 69 = .ok (.invokevirtual 108, 3) := by decide +kernel
theorem d_R_readAfterAtom_72 : decode c_R_readAfterAtom 72 = .ok (.goto 156, 3) := by decide +kernel
theorem d_R_readAfterAtom_75 : decode c_R_readAfterAtom 75 = .ok (.iload_n 1, 1) := by decide +kernel
theorem d_R_readAfterAtom_76 : decode c_R_readAfterAtom 76 = .ok (.bipush 43, 2) := by decide +kernel
theorem d_R_readAfterAtom_78 : decode c_R_readAfterAtom 78 = .ok (.if_icmp .eq 9, 3) := by decide +kernel
theorem d_R_readAfterAtom_81 : decode c_R_readAfterAtom 81 = .ok (.iload_n 1, 1) := by decide +kernel
theorem d_R_readAfterAtom_82 : decode c_R_readAfterAtom 82 = .ok (.bipush 45, 2) := by decide +kernel
theorem d_R_readAfterAtom_84 : decode c_R_readAfterAtom 84 = .ok (.if_icmp .ne 36, 3) := by decide +kernel
theorem d_R_readAfterAtom_87 : decode c_R_readAfterAtom 87 = .ok (.aload_n 0, 1) := by decide +kernel
theorem d_R_readAfterAtom_88 : decode c_R_readAfterAtom 88 = .ok (.invokevirtual 71, 3) := by decide +kernel
theorem d_R_readAfterAtom_91 : decode c_R_readAfterAtom 91 = .ok (.aload_n 0, 1) := by decide +kernel
theorem d_R_readAfterAtom_92 : decode c_R_readAfterAtom 92 = .ok (.getfield 15, 3) := by decide +kernel
theorem d_R_readAfterAtom_95 : decode c_R_readAfterAtom 95 = .ok (.aload_n 0, 1) := by decide +kernel
theorem d_R_readAfterAtom_96 : decode c_R_readAfterAtom 96 = .ok (.getfield 43, 3) := by decide +kernel
theorem d_R_readAfterAtom_99 : decode c_R_readAfterAtom 99 = .ok (.iload_n 1, 1) := by decide +kernel
theorem d_R_readAfterAtom_100 : decode c_R_readAfterAtom 100 = .ok (.bipush 43, 2) := by decide +kernel
theorem d_R_readAfterAtom_102 : decode c_R_readAfterAtom 102 = .ok (.if_icmp .ne 8, 3) := by decide +kernel
theorem d_R_readAfterAtom_105 : decode c_R_readAfterAtom 105 = .ok (.bipush 8, 2) := by decide +kernel
theorem d_R_readAfterAtom_107 : decode c_R_readAfterAtom 107 = .ok (.goto 5, 3) := by decide +kernel
theorem d_R_readAfterAtom_110 : decode c_R_readAfterAtom 110 = .ok (.bipush 9, 2) := by decide +kernel
theorem d_R_readAfterAtom_112 : decode c_R_readAfterAtom 112 = .ok (.iastore, 1) := by decide +kernel
theorem d_R_readAfterAtom_113 : decode c_R_readAfterAtom 113 = .ok (.aload_n 0, 1) := by decide +kernel
theorem d_R_readAfterAtom_114 : decode c_R_readAfterAtom 114 = .ok (.invokevirtual 108, 3) := by decide +kernel
theorem d_R_readAfterAtom_117 : decode c_R_readAfterAtom 117 = .ok (.goto 111, 3) := by decide +kernel
theorem d_R_readAfterAtom_120 : decode c_R_readAfterAtom 120 = .ok (.iload_n 1, 1) := by decide +kernel
theorem d_R_readAfterAtom_121 : decode c_R_readAfterAtom 121 = .ok (.bipush 44, 2) := by decide +kernel
theorem d_R_readAfterAtom_123 : decode c_R_readAfterAtom 123 = .ok (.if_icmp .ne 56, 3) := by decide +kernel
theorem d_R_readAfterAtom_126 : decode c_R_readAfterAtom 126 = .ok (.aload_n 0, 1) := by decide +kernel
theorem d_R_readAfterAtom_127 : decode c_R_readAfterAtom 127 = .ok (.getfield 43, 3) := by decide +kernel
theorem d_R_readAfterAtom_130 : decode c_R_readAfterAtom 130 = .ok (.ifCond .le 49, 3) := by decide +kernel
theorem d_R_readAfterAtom_133 : decode c_R_readAfterAtom 133 = .ok (.aload_n 0, 1) := by decide +kernel
theorem d_R_readAfterAtom_134 : decode c_R_readAfterAtom 134 = .ok (.getfield 9, 3) := by decide +kernel
theorem d_R_readAfterAtom_137 : decode c_R_readAfterAtom 137 = .ok (.aload_n 0, 1) := by decide +kernel
theorem d_R_readAfterAtom_138 : decode c_R_readAfterAtom 138 = .ok (.getfield 43, 3) := by decide +kernel
theorem d_R_readAfterAtom_141 : decode c_R_readAfterAtom 141 = .ok (.caload, 1) := by decide +kernel
theorem d_R_readAfterAtom_142 : decode c_R_readAfterAtom 142 = .ok (.bipush 115, 2) := by decide +kernel
theorem d_R_readAfterAtom_144 : decode c_R_readAfterAtom 144 = .ok (.if_icmp .ne 35, 3) := by decide +kernel
theorem d_R_readAfterAtom_147 : decode c_R_readAfterAtom 147 = .ok (.aload_n 0, 1) := by decide +kernel
theorem d_R_readAfterAtom_148 : decode c_R_readAfterAtom 148 = .ok (.dup, 1) := by decide +kernel
theorem d_R_readAfterAtom_149 : decode c_R_readAfterAtom 149 = .ok (.getfield 35, 3) := by decide +kernel
theorem d_R_readAfterAtom_152 : decode c_R_readAfterAtom 152 = .ok (.iconst 1, 1) := by decide +kernel
theorem d_R_readAfterAtom_153 : decode c_R_readAfterAtom 153 = .ok (.iadd, 1) := by decide +kernel
theorem d_R_readAfterAtom_154 : decode c_R_readAfterAtom 154 = .ok (.putfield 35, 3) := by decide +kernel
theorem d_R_readAfterAtom_157 : decode c_R_readAfterAtom 157 = .ok (.aload_n 0, 1) := by decide +kernel
theorem d_R_readAfterAtom_158 : decode c_R_readAfterAtom 158 = .ok (.invokevirtual 71, 3) := by decide +kernel
theorem d_R_readAfterAtom_161 : decode c_R_readAfterAtom 161 = .ok (.aload_n 0, 1) := by decide +kernel
theorem d_R_readAfterAtom_162 : decode c_R_readAfterAtom 162 = .ok (.getfield 9, 3) := by decide +kernel
theorem d_R_readAfterAtom_165 : decode c_R_readAfterAtom 165 = .ok (.aload_n 0, 1) := by decide +kernel
theorem d_R_readAfterAtom_166 : decode c_R_readAfterAtom 166 = .ok (.getfield 43, 3) := by decide +kernel
theorem d_R_readAfterAtom_169 : decode c_R_readAfterAtom 169 = .ok (.bipush 44, 2) := by decide +kernel
theorem d_R_readAfterAtom_171 : decode c_R_readAfterAtom 171 = .ok (.castore, 1) := by decide +kernel
theorem d_R_readAfterAtom_172 : decode c_R_readAfterAtom 172 = .ok (.aload_n 0, 1) := by decide +kernel
theorem d_R_readAfterAtom_173 : decode c_R_readAfterAtom 173 = .ok (.invokevirtual 46, 3) := by decide +kernel
theorem d_R_readAfterAtom_176 : decode c_R_readAfterAtom 176 = .ok (.goto 52, 3) := by decide +kernel
theorem d_R_readAfterAtom_179 : decode c_R_readAfterAtom 179 = .ok (.iload_n 1, 1) := by decide +kernel
theorem d_R_readAfterAtom_180 : decode c_R_readAfterAtom 180 = .ok (.bipush 41, 2) := by decide +kernel
theorem d_R_readAfterAtom_182 : decode c_R_readAfterAtom 182 = .ok (.if_icmp .ne 41, 3) := by decide +kernel
theorem d_R_readAfterAtom_185 : decode c_R_readAfterAtom 185 = .ok (.aload_n 0, 1) := by decide +kernel
theorem d_R_readAfterAtom_186 : decode c_R_readAfterAtom 186 = .ok (.getfield 43, 3) := by decide +kernel
theorem d_R_readAfterAtom_189 : decode c_R_readAfterAtom 189 = .ok (.ifCond .le 34, 3) := by decide +kernel
theorem d_R_readAfterAtom_192 : decode c_R_readAfterAtom 192 = .ok (.aload_n 0, 1) := by decide +kernel
theorem d_R_readAfterAtom_193 : decode c_R_readAfterAtom 193 = .ok (.getfield 9, 3) := by decide +kernel
theorem d_R_readAfterAtom_196 : decode c_R_readAfterAtom 196 = .ok (.aload_n 0, 1) := by decide +kernel
theorem d_R_readAfterAtom_197 : decode c_R_readAfterAtom 197 = .ok (.getfield 43, 3) := by decide +kernel
theorem d_R_readAfterAtom_200 : decode c_R_readAfterAtom 200 = .ok (.caload, 1) := by decide +kernel
theorem d_R_readAfterAtom_201 : decode c_R_readAfterAtom 201 = .ok (.bipush 115, 2) := by decide +kernel
theorem d_R_readAfterAtom_203 : decode c_R_readAfterAtom 203 = .ok (.if_icmp .eq 20, 3) := by decide +kernel
theorem d_R_readAfterAtom_206 : decode c_R_readAfterAtom 206 = .ok (.aload_n 0, 1) := by decide +kernel
theorem d_R_readAfterAtom_207 : decode c_R_readAfterAtom 207 = .ok (.dup, 1) := by decide +kernel
theorem d_R_readAfterAtom_208 : decode c_R_readAfterAtom 208 = .ok (.getfield 35, 3) := by decide +kernel
theorem d_R_readAfterAtom_211 : decode c_R_readAfterAtom 211 = .ok (.iconst 1, 1) := by decide +kernel
theorem d_R_readAfterAtom_212 : decode c_R_readAfterAtom 212 = .ok (.iadd, 1) := by decide +kernel
theorem d_R_readAfterAtom_213 : decode c_R_readAfterAtom 213 = .ok (.putfield 35, 3) := by decide +kernel
theorem d_R_readAfterAtom_216 : decode c_R_readAfterAtom 216 = .ok (.aload_n 0, 1) := by decide +kernel
theorem d_R_readAfterAtom_217 : decode c_R_readAfterAtom 217 = .ok (.invokevirtual 111, 3) := by decide +kernel
theorem d_R_readAfterAtom_220 : decode c_R_readAfterAtom 220 = .ok (.goto 8, 3) := by decide +kernel
theorem d_R_readAfterAtom_223 : decode c_R_readAfterAtom 223 = .ok (.aload_n 0, 1) := by decide +kernel
theorem d_R_readAfterAtom_224 : decode c_R_readAfterAtom 224 = .ok (.iconst 1, 1) := by decide +kernel
theorem d_R_readAfterAtom_225 : decode c_R_readAfterAtom 225 = .ok (.putfield 39, 3) := by decide +kernel
theorem d_R_readAfterAtom_228 : decode c_R_readAfterAtom 228 = .ok (.return_, 1) := by decide +kernel
theorem d_R_readExponent_0 : decode c_R_readExponent 0 = .ok (.aload_n 0, 1) := by decide +kernel
theorem d_R_readExponent_1 : decode c_R_readExponent 1 = .ok (.getfield 22, 3) := by decide +kernel
theorem d_R_readExponent_4 : decode c_R_readExponent 4 = .ok (.aload_n 0, 1) := by decide +kernel
theorem d_R_readExponent_5 : decode c_R_readExponent 5 = .ok (.getfield 35, 3) := by decide +kernel
theorem d_R_readExponent_8 : decode c_R_readExponent 8 = .ok (.invokevirtual 60, 3) := by decide +kernel
theorem d_R_readExponent_11 : decode c_R_readExponent 11 = .ok (.bipush 45, 2) := by decide +kernel
theorem d_R_readExponent_13 : decode c_R_readExponent 13 = .ok (.if_icmp .ne 7, 3) := by decide +kernel
theorem d_R_readExponent_16 : decode c_R_readExponent 16 = .ok (.iconst 1, 1) := by decide +kernel
theorem d_R_readExponent_17 : decode c_R_readExponent 17 = .ok (.goto 4, 3) := by decide +kernel
theorem d_R_readExponent_20 : decode c_R_readExponent 20 = .ok (.iconst 0, 1) := by decide +kernel
theorem d_R_readExponent_21 : decode c_R_readExponent 21 = .ok (.istore_n 1, 1) := by decide +kernel
theorem d_R_readExponent_22 : decode c_R_readExponent 22 = .ok (.iload_n 1, 1) := by decide +kernel
theorem d_R_readExponent_23 : decode c_R_readExponent 23 = .ok (.ifCond .eq 13, 3) := by decide +kernel
theorem d_R_readExponent_26 : decode c_R_readExponent 26 = .ok (.aload_n 0, 1) := by decide +kernel
theorem d_R_readExponent_27 : decode c_R_readExponent 27 = .ok (.dup, 1) := by decide +kernel
theorem d_R_readExponent_28 : decode c_R_readExponent 28 = .ok (.getfield 35, 3) := by decide +kernel
theorem d_R_readExponent_31 : decode c_R_readExponent 31 = .ok (.iconst 1, 1) := by decide +kernel
theorem d_R_readExponent_32 : decode c_R_readExponent 32 = .ok (.iadd, 1) := by decide +kernel
theorem d_R_readExponent_33 : decode c_R_readExponent 33 = .ok (.putfield 35, 3) := by decide +kernel
theorem d_R_readExponent_36 : decode c_R_readExponent 36 = .ok (.aload_n 0, 1) := by decide +kernel
theorem d_R_readExponent_37 : decode c_R_readExponent 37 = .ok (.iconst 2, 1) := by decide +kernel
theorem d_R_readExponent_38 : decode c_R_readExponent 38 = .ok (.bipush 12, 2) := by decide +kernel
theorem d_R_readExponent_40 : decode c_R_readExponent 40 = .ok (.invokevirtual 88, 3) := by decide +kernel
theorem d_R_readExponent_43 : decode c_R_readExponent 43 = .ok (.istore_n 2, 1) := by decide +kernel
theorem d_R_readExponent_44 : decode c_R_readExponent 44 = .ok (.aload_n 0, 1) := by decide +kernel
theorem d_R_readExponent_45 : decode c_R_readExponent 45 = .ok (.getfield 26, 3) := by decide +kernel
theorem d_R_readExponent_48 : decode c_R_readExponent 48 = .ok (.iconst 5, 1) := by decide +kernel
theorem d_R_readExponent_49 : decode c_R_readExponent 49 = .ok (.iload_n 1, 1) := by decide +kernel
theorem d_R_readExponent_50 : decode c_R_readExponent 50 = .ok (.ifCond .eq 8, 3) := by decide +kernel
theorem d_R_readExponent_53 : decode c_R_readExponent 53 = .ok (.iload_n 2, 1) := by decide +kernel
theorem d_R_readExponent_54 : decode c_R_readExponent 54 = .ok (.ineg, 1) := by decide +kernel
theorem d_R_readExponent_55 : decode c_R_readExponent 55 = .ok (.goto 4, 3) := by decide +kernel
theorem d_R_readExponent_58 : decode c_R_readExponent 58 = .ok (.iload_n 2, 1) := by decide +kernel
theorem d_R_readExponent_59 : decode c_R_readExponent 59 = .ok (.invokevirtual 114, 3) := by decide +kernel
theorem d_R_readExponent_62 : decode c_R_readExponent 62 = .ok (.aload_n 0, 1) := by decide +kernel
theorem d_R_readExponent_63 : decode c_R_readExponent 63 = .ok (.iconst 0, 1) := by decide +kernel
theorem d_R_readExponent_64 : decode c_R_readExponent 64 = .ok (.putfield 99, 3) := by decide +kernel
theorem d_R_readExponent_67 : decode c_R_readExponent 67 = .ok (.return_, 1) := by decide +kernel
theorem d_R_finishPower_0 : decode c_R_finishPower 0 = .ok (.aload_n 0, 1) := by decide +kernel
theorem d_R_finishPower_1 : decode c_R_finishPower 1 = .ok (.getfield 19, 3) := by decide +kernel
theorem d_R_finishPower_4 : decode c_R_finishPower 4 = .ok (.aload_n 0, 1) := by decide +kernel
theorem d_R_finishPower_5 : decode c_R_finishPower 5 = .ok (.getfield 43, 3) := by decide +kernel
theorem d_R_finishPower_8 : decode c_R_finishPower 8 = .ok (.iaload, 1) := by decide +kernel
theorem d_R_finishPower_9 : decode c_R_finishPower 9 = .ok (.ifCond .eq 30, 3) := by decide +kernel
theorem d_R_finishPower_12 : decode c_R_finishPower 12 = .ok (.aload_n 0, 1) := by decide +kernel
theorem d_R_finishPower_13 : decode c_R_finishPower 13 = .ok (.getfield 26, 3) := by decide +kernel
theorem d_R_finishPower_16 : decode c_R_finishPower 16 = .ok (.aload_n 0, 1) := by decide +kernel
theorem d_R_finishPower_17 : decode c_R_finishPower 17 = .ok (.getfield 19, 3) := by decide +kernel
theorem d_R_finishPower_20 : decode c_R_finishPower 20 = .ok (.aload_n 0, 1) := by decide +kernel
theorem d_R_finishPower_21 : decode c_R_finishPower 21 = .ok (.getfield 43, 3) := by decide +kernel
theorem d_R_finishPower_24 : decode c_R_finishPower 24 = .ok (.iaload, 1) := by decide +kernel
theorem d_R_finishPower_25 : decode c_R_finishPower 25 = .ok (.iconst 0, 1) := by decide +kernel
theorem d_R_finishPower_26 : decode c_R_finishPower 26 = .ok (.invokevirtual 114, 3) := by decide +kernel
theorem d_R_finishPower_29 : decode c_R_finishPower 29 = .ok (.aload_n 0, 1) := by decide +kernel
theorem d_R_finishPower_30 : decode c_R_finishPower 30 = .ok (.getfield 19, 3) := by decide +kernel
theorem d_R_finishPower_33 : decode c_R_finishPower 33 = .ok (.aload_n 0, 1) := by decide +kernel
theorem d_R_finishPower_34 : decode c_R_finishPower 34 = .ok (.getfield 43, 3) := by decide +kernel
theorem d_R_finishPower_37 : decode c_R_finishPower 37 = .ok (.iconst 0, 1) := by decide +kernel
theorem d_R_finishPower_38 : decode c_R_finishPower 38 = .ok (.iastore, 1) := by decide +kernel
theorem d_R_finishPower_39 : decode c_R_finishPower 39 = .ok (.return_, 1) := by decide +kernel
theorem d_R_startAtom_0 : decode c_R_startAtom 0 = .ok (.aload_n 0, 1) := by decide +kernel
theorem d_R_startAtom_1 : decode c_R_startAtom 1 = .ok (.dup, 1) := by decide +kernel
theorem d_R_startAtom_2 : decode c_R_startAtom 2 = .ok (.getfield 35, 3) := by decide +kernel
theorem d_R_startAtom_5 : decode c_R_startAtom 5 = .ok (.iconst 1, 1) := by decide +kernel
theorem d_R_startAtom_6 : decode c_R_startAtom 6 = .ok (.iadd, 1) := by decide +kernel
theorem d_R_startAtom_7 : decode c_R_startAtom 7 = .ok (.putfield 35, 3) := by decide +kernel
theorem d_R_startAtom_10 : decode c_R_startAtom 10 = .ok (.aload_n 0, 1) := by decide +kernel
theorem d_R_startAtom_11 : decode c_R_startAtom 11 = .ok (.iconst 1, 1) := by decide +kernel
theorem d_R_startAtom_12 : decode c_R_startAtom 12 = .ok (.putfield 57, 3) := by decide +kernel
theorem d_R_startAtom_15 : decode c_R_startAtom 15 = .ok (.aload_n 0, 1) := by decide +kernel
theorem d_R_startAtom_16 : decode c_R_startAtom 16 = .ok (.iconst 0, 1) := by decide +kernel
theorem d_R_startAtom_17 : decode c_R_startAtom 17 = .ok (.putfield 81, 3) := by decide +kernel
theorem d_R_startAtom_20 : decode c_R_startAtom 20 = .ok (.return_, 1) := by decide +kernel
theorem d_R_finishTerm_0 : decode c_R_finishTerm 0 = .ok (.aload_n 0, 1) := by decide +kernel
theorem d_R_finishTerm_1 : decode c_R_finishTerm 1 = .ok (.invokevirtual 105, 3) := by decide +kernel
theorem d_R_finishTerm_4 : decode c_R_finishTerm 4 = .ok (.aload_n 0, 1) := by decide +kernel
theorem d_R_finishTerm_5 : decode c_R_finishTerm 5 = .ok (.getfield 15, 3) := by decide +kernel
theorem d_R_finishTerm_8 : decode c_R_finishTerm 8 = .ok (.aload_n 0, 1) := by decide +kernel
theorem d_R_finishTerm_9 : decode c_R_finishTerm 9 = .ok (.getfield 43, 3) := by decide +kernel
theorem d_R_finishTerm_12 : decode c_R_finishTerm 12 = .ok (.iaload, 1) := by decide +kernel
theorem d_R_finishTerm_13 : decode c_R_finishTerm 13 = .ok (.ifCond .eq 30, 3) := by decide +kernel
theorem d_R_finishTerm_16 : decode c_R_finishTerm 16 = .ok (.aload_n 0, 1) := by decide +kernel
theorem d_R_finishTerm_17 : decode c_R_finishTerm 17 = .ok (.getfield 26, 3) := by decide +kernel
theorem d_R_finishTerm_20 : decode c_R_finishTerm 20 = .ok (.aload_n 0, 1) := by decide +kernel
theorem d_R_finishTerm_21 : decode c_R_finishTerm 21 = .ok (.getfield 15, 3) := by decide +kernel
theorem d_R_finishTerm_24 : decode c_R_finishTerm 24 = .ok (.aload_n 0, 1) := by decide +kernel
theorem d_R_finishTerm_25 : decode c_R_finishTerm 25 = .ok (.getfield 43, 3) := by decide +kernel
theorem d_R_finishTerm_28 : decode c_R_finishTerm 28 = .ok (.iaload, 1) := by decide +kernel
theorem d_R_finishTerm_29 : decode c_R_finishTerm 29 = .ok (.iconst 0, 1) := by decide +kernel
theorem d_R_finishTerm_30 : decode c_R_finishTerm 30 = .ok (.invokevirtual 114, 3) := by decide +kernel
theorem d_R_finishTerm_33 : decode c_R_finishTerm 33 = .ok (.aload_n 0, 1) := by decide +kernel
theorem d_R_finishTerm_34 : decode c_R_finishTerm 34 = .ok (.getfield 15, 3) := by decide +kernel
theorem d_R_finishTerm_37 : decode c_R_finishTerm 37 = .ok (.aload_n 0, 1) := by decide +kernel
theorem d_R_finishTerm_38 : decode c_R_finishTerm 38 = .ok (.getfield 43, 3) := by decide +kernel
theorem d_R_finishTerm_41 : decode c_R_finishTerm 41 = .ok (.iconst 0, 1) := by decide +kernel
theorem d_R_finishTerm_42 : decode c_R_finishTerm 42 = .ok (.iastore, 1) := by decide +kernel
theorem d_R_finishTerm_43 : decode c_R_finishTerm 43 = .ok (.return_, 1) := by decide +kernel
theorem d_R_closeOpening_0 : decode c_R_closeOpening 0 = .ok (.aload_n 0, 1) := by decide +kernel
theorem d_R_closeOpening_1 : decode c_R_closeOpening 1 = .ok (.invokevirtual 71, 3) := by decide +kernel
theorem d_R_closeOpening_4 : decode c_R_closeOpening 4 = .ok (.aload_n 0, 1) := by decide +kernel
theorem d_R_closeOpening_5 : decode c_R_closeOpening 5 = .ok (.getfield 9, 3) := by decide +kernel
theorem d_R_closeOpening_8 : decode c_R_closeOpening 8 = .ok (.aload_n 0, 1) := by decide +kernel
theorem d_R_closeOpening_9 : decode c_R_closeOpening 9 = .ok (.getfield 43, 3) := by decide +kernel
theorem d_R_closeOpening_12 : decode c_R_closeOpening 12 = .ok (.caload, 1) := by decide +kernel
theorem d_R_closeOpening_13 : decode c_R_closeOpening 13 = .ok (.istore_n 1, 1) := by decide +kernel
theorem d_R_closeOpening_14 : decode c_R_closeOpening 14 = .ok (.aload_n 0, 1) := by decide +kernel
theorem d_R_closeOpening_15 : decode c_R_closeOpening 15 = .ok (.dup, 1) := by decide +kernel
theorem d_R_closeOpening_16 : decode c_R_closeOpening 16 = .ok (.getfield 43, 3) := by decide +kernel
theorem d_R_closeOpening_19 : decode c_R_closeOpening 19 = .ok (.iconst 1, 1) := by decide +kernel
theorem d_R_closeOpening_20 : decode c_R_closeOpening 20 = .ok (.isub, 1) := by decide +kernel
theorem d_R_closeOpening_21 : decode c_R_closeOpening 21 = .ok (.putfield 43, 3) := by decide +kernel
theorem d_R_closeOpening_24 : decode c_R_closeOpening 24 = .ok (.iload_n 1, 1) := by decide +kernel
theorem d_R_closeOpening_25 : decode c_R_closeOpening 25 = .ok (.bipush 100, 2) := by decide +kernel
theorem d_R_closeOpening_27 : decode c_R_closeOpening 27 = .ok (.if_icmp .ne 16, 3) := by decide +kernel
theorem d_R_closeOpening_30 : decode c_R_closeOpening 30 = .ok (.aload_n 0, 1) := by decide +kernel
theorem d_R_closeOpening_31 : decode c_R_closeOpening 31 = .ok (.getfield 26, 3) := by decide +kernel
theorem d_R_closeOpening_34 : decode c_R_closeOpening 34 = .ok (.bipush 7, 2) := by decide +kernel
theorem d_R_closeOpening_36 : decode c_R_closeOpening 36 = .ok (.iconst 0, 1) := by decide +kernel
theorem d_R_closeOpening_37 : decode c_R_closeOpening 37 = .ok (.invokevirtual 114, 3) := by decide +kernel
theorem d_R_closeOpening_40 : decode c_R_closeOpening 40 = .ok (.goto 19, 3) := by decide +kernel
theorem d_R_closeOpening_43 : decode c_R_closeOpening 43 = .ok (.iload_n 1, 1) := by decide +kernel
theorem d_R_closeOpening_44 : decode c_R_closeOpening 44 = .ok (.bipush 44, 2) := by decide +kernel
theorem d_R_closeOpening_46 : decode c_R_closeOpening 46 = .ok (.if_icmp .ne 13, 3) := by decide +kernel
theorem d_R_closeOpening_49 : decode c_R_closeOpening 49 = .ok (.aload_n 0, 1) := by decide +kernel
theorem d_R_closeOpening_50 : decode c_R_closeOpening 50 = .ok (.getfield 26, 3) := by decide +kernel
theorem d_R_closeOpening_53 : decode c_R_closeOpening 53 = .ok (.bipush 12, 2) := by decide +kernel
theorem d_R_closeOpening_55 : decode c_R_closeOpening 55 = .ok (.iconst 0, 1) := by decide +kernel
theorem d_R_closeOpening_56 : decode c_R_closeOpening 56 = .ok (.invokevirtual 114, 3) := by decide +kernel
theorem d_R_closeOpening_59 : decode c_R_closeOpening 59 = .ok (.aload_n 0, 1) := by decide +kernel
theorem d_R_closeOpening_60 : decode c_R_closeOpening 60 = .ok (.iconst 0, 1) := by decide +kernel
theorem d_R_closeOpening_61 : decode c_R_closeOpening 61 = .ok (.putfield 57, 3) := by decide +kernel
theorem d_R_closeOpening_64 : decode c_R_closeOpening 64 = .ok (.aload_n 0, 1) := by decide +kernel
theorem d_R_closeOpening_65 : decode c_R_closeOpening 65 = .ok (.iconst 1, 1) := by decide +kernel
theorem d_R_closeOpening_66 : decode c_R_closeOpening 66 = .ok (.putfield 99, 3) := by decide +kernel
theorem d_R_closeOpening_69 : decode c_R_closeOpening 69 = .ok (.return_, 1) := by decide +kernel
theorem d_T_seek_0 : decode c_T_seek 0 = .ok (.aload_n 0, 1) := by decide +kernel
theorem d_T_seek_1 : decode c_T_seek 1 = .ok (.iload_n 2, 1) := by decide +kernel
theorem d_T_seek_2 : decode c_T_seek 2 = .ok (.putfield 7, 3) := by decide +kernel
theorem d_T_seek_5 : decode c_T_seek 5 = .ok (.aload_n 0, 1) := by decide +kernel
theorem d_T_seek_6 : decode c_T_seek 6 = .ok (.iconst 0, 1) := by decide +kernel
theorem d_T_seek_7 : decode c_T_seek 7 = .ok (.putfield 13, 3) := by decide +kernel
theorem d_T_seek_10 : decode c_T_seek 10 = .ok (.aload_n 0, 1) := by decide +kernel
theorem d_T_seek_11 : decode c_T_seek 11 = .ok (.iconst 0, 1) := by decide +kernel
theorem d_T_seek_12 : decode c_T_seek 12 = .ok (.putfield 16, 3) := by decide +kernel
theorem d_T_seek_15 : decode c_T_seek 15 = .ok (.aload_n 1, 1) := by decide +kernel
theorem d_T_seek_16 : decode c_T_seek 16 = .ok (.getfield 19, 3) := by decide +kernel
theorem d_T_seek_19 : decode c_T_seek 19 = .ok (.getfield 25, 3) := by decide +kernel
theorem d_T_seek_22 : decode c_T_seek 22 = .ok (.ifCond .ne 14, 3) := by decide +kernel
theorem d_T_seek_25 : decode c_T_seek 25 = .ok (.aload_n 0, 1) := by decide +kernel
theorem d_T_seek_26 : decode c_T_seek 26 = .ok (.aload_n 1, 1) := by decide +kernel
theorem d_T_seek_27 : decode c_T_seek 27 = .ok (.getfield 30, 3) := by decide +kernel
theorem d_T_seek_30 : decode c_T_seek 30 = .ok (.invokevirtual 33, 3) := by decide +kernel
theorem d_T_seek_33 : decode c_T_seek 33 = .ok (.goto 49, 3) := by decide +kernel
theorem d_T_seek_36 : decode c_T_seek 36 = .ok (.aload_n 0, 1) := by decide +kernel
theorem d_T_seek_37 : decode c_T_seek 37 = .ok (.bipush 40, 2) := by decide +kernel
theorem d_T_seek_39 : decode c_T_seek 39 = .ok (.invokevirtual 37, 3) := by decide +kernel
theorem d_T_seek_42 : decode c_T_seek 42 = .ok (.aload_n 0, 1) := by decide +kernel
theorem d_T_seek_43 : decode c_T_seek 43 = .ok (.aload_n 1, 1) := by decide +kernel
theorem d_T_seek_44 : decode c_T_seek 44 = .ok (.getfield 30, 3) := by decide +kernel
theorem d_T_seek_47 : decode c_T_seek 47 = .ok (.invokevirtual 33, 3) := by decide +kernel
theorem d_T_seek_50 : decode c_T_seek 50 = .ok (.aload_n 0, 1) := by decide +kernel
theorem d_T_seek_51 : decode c_T_seek 51 = .ok (.bipush 41, 2) := by decide +kernel
theorem d_T_seek_53 : decode c_T_seek 53 = .ok (.invokevirtual 37, 3) := by decide +kernel
theorem d_T_seek_56 : decode c_T_seek 56 = .ok (.aload_n 0, 1) := by decide +kernel
theorem d_T_seek_57 : decode c_T_seek 57 = .ok (.bipush 47, 2) := by decide +kernel
theorem d_T_seek_59 : decode c_T_seek 59 = .ok (.invokevirtual 37, 3) := by decide +kernel
theorem d_T_seek_62 : decode c_T_seek 62 = .ok (.aload_n 0, 1) := by decide +kernel
theorem d_T_seek_63 : decode c_T_seek 63 = .ok (.bipush 40, 2) := by decide +kernel
theorem d_T_seek_65 : decode c_T_seek 65 = .ok (.invokevirtual 37, 3) := by decide +kernel
theorem d_T_seek_68 : decode c_T_seek 68 = .ok (.aload_n 0, 1) := by decide +kernel
theorem d_T_seek_69 : decode c_T_seek 69 = .ok (.aload_n 1, 1) := by decide +kernel
theorem d_T_seek_70 : decode c_T_seek 70 = .ok (.getfield 19, 3) := by decide +kernel
theorem d_T_seek_73 : decode c_T_seek 73 = .ok (.invokevirtual 33, 3) := by decide +kernel
theorem d_T_seek_76 : decode c_T_seek 76 = .ok (.aload_n 0, 1) := by decide +kernel
theorem d_T_seek_77 : decode c_T_seek 77 = .ok (.bipush 41, 2) := by decide +kernel
theorem d_T_seek_79 : decode c_T_seek 79 = .ok (.invokevirtual 37, 3) := by decide +kernel
theorem d_T_seek_82 : decode c_T_seek 82 = .ok (.aload_n 0, 1) := by decide +kernel
theorem d_T_seek_83 : decode c_T_seek 83 = .ok (.getfield 16, 3) := by decide +kernel
theorem d_T_seek_86 : decode c_T_seek 86 = .ok (.ireturn, 1) := by decide +kernel
theorem d_T_spell_0 : decode c_T_spell 0 = .ok (.aload_n 1, 1) := by decide +kernel
theorem d_T_spell_1 : decode c_T_spell 1 = .ok (.invokevirtual 41, 3) := by decide +kernel
theorem d_T_spell_4 : decode c_T_spell 4 = .ok (.ifCond .eq 9, 3) := by decide +kernel
theorem d_T_spell_7 : decode c_T_spell 7 = .ok (.aload_n 0, 1) := by decide +kernel
theorem d_T_spell_8 : decode c_T_spell 8 = .ok (.bipush 48, 2) := by decide +kernel
theorem d_T_spell_10 : decode c_T_spell 10 = .ok (.invokevirtual 37, 3) := by decide +kernel
theorem d_T_spell_13 : decode c_T_spell 13 = .ok (.aload_n 1, 1) := by decide +kernel
theorem d_T_spell_14 : decode c_T_spell 14 = .ok (.getfield 25, 3) := by decide +kernel
theorem d_T_spell_17 : decode c_T_spell 17 = .ok (.istore_n 2, 1) := by decide +kernel
theorem d_T_spell_18 : decode c_T_spell 18 = .ok (.iload_n 2, 1) := by decide +kernel
theorem d_T_spell_19 : decode c_T_spell 19 = .ok (.ifCond .lt 39, 3) := by decide +kernel
theorem d_T_spell_22 : decode c_T_spell 22 = .ok (.aload_n 1, 1) := by decide +kernel
theorem d_T_spell_23 : decode c_T_spell 23 = .ok (.iload_n 2, 1) := by decide +kernel
theorem d_T_spell_24 : decode c_T_spell 24 = .ok (.invokevirtual 45, 3) := by decide +kernel
theorem d_T_spell_27 : decode c_T_spell 27 = .ok (.istore_n 3, 1) := by decide +kernel
theorem d_T_spell_28 : decode c_T_spell 28 = .ok (.iload_n 3, 1) := by decide +kernel
theorem d_T_spell_29 : decode c_T_spell 29 = .ok (.ifCond .eq 23, 3) := by decide +kernel
theorem d_T_spell_32 : decode c_T_spell 32 = .ok (.iload_n 2, 1) := by decide +kernel
theorem d_T_spell_33 : decode c_T_spell 33 = .ok (.aload_n 1, 1) := by decide +kernel
theorem d_T_spell_34 : decode c_T_spell 34 = .ok (.getfield 25, 3) := by decide +kernel
theorem d_T_spell_37 : decode c_T_spell 37 = .ok (.if_icmp .ge 9, 3) := by decide +kernel
theorem d_T_spell_40 : decode c_T_spell 40 = .ok (.aload_n 0, 1) := by decide +kernel
theorem d_T_spell_41 : decode c_T_spell 41 = .ok (.bipush 43, 2) := by decide +kernel
theorem d_T_spell_43 : decode c_T_spell 43 = .ok (.invokevirtual 37, 3) := by decide +kernel
theorem d_T_spell_46 : decode c_T_spell 46 = .ok (.aload_n 0, 1) := by decide +kernel
theorem d_T_spell_47 : decode c_T_spell 47 = .ok (.iload_n 3, 1) := by decide +kernel
theorem d_T_spell_48 : decode c_T_spell 48 = .ok (.iload_n 2, 1) := by decide +kernel
theorem d_T_spell_49 : decode c_T_spell 49 = .ok (.invokevirtual 49, 3) := by decide +kernel
theorem d_T_spell_52 : decode c_T_spell 52 = .ok (.iinc 2 (-1), 3) := by decide +kernel
theorem d_T_spell_55 : decode c_T_spell 55 = .ok (.goto (-37), 3) := by decide +kernel
theorem d_T_spell_58 : decode c_T_spell 58 = .ok (.return_, 1) := by decide +kernel
theorem d_T_put_0 : decode c_T_put 0 = .ok (.aload_n 0, 1) := by decide +kernel
theorem d_T_put_1 : decode c_T_put 1 = .ok (.getfield 13, 3) := by decide +kernel
theorem d_T_put_4 : decode c_T_put 4 = .ok (.aload_n 0, 1) := by decide +kernel
theorem d_T_put_5 : decode c_T_put 5 = .ok (.getfield 7, 3) := by decide +kernel
theorem d_T_put_8 : decode c_T_put 8 = .ok (.if_icmp .ne 8, 3) := by decide +kernel
theorem d_T_put_11 : decode c_T_put 11 = .ok (.aload_n 0, 1) := by decide +kernel
theorem d_T_put_12 : decode c_T_put 12 = .ok (.iload_n 1, 1) := by decide +kernel
theorem d_T_put_13 : decode c_T_put 13 = .ok (.putfield 16, 3) := by decide +kernel
theorem d_T_put_16 : decode c_T_put 16 = .ok (.aload_n 0, 1) := by decide +kernel
theorem d_T_put_17 : decode c_T_put 17 = .ok (.dup, 1) := by decide +kernel
theorem d_T_put_18 : decode c_T_put 18 = .ok (.getfield 13, 3) := by decide +kernel
theorem d_T_put_21 : decode c_T_put 21 = .ok (.iconst 1, 1) := by decide +kernel
theorem d_T_put_22 : decode c_T_put 22 = .ok (.iadd, 1) := by decide +kernel
theorem d_T_put_23 : decode c_T_put 23 = .ok (.putfield 13, 3) := by decide +kernel
theorem d_T_put_26 : decode c_T_put 26 = .ok (.return_, 1) := by decide +kernel
theorem d_T_spellPart_0 : decode c_T_spellPart 0 = .ok (.iload_n 2, 1) := by decide +kernel
theorem d_T_spellPart_1 : decode c_T_spellPart 1 = .ok (.ifCond .ne 9, 3) := by decide +kernel
theorem d_T_spellPart_4 : decode c_T_spellPart 4 = .ok (.aload_n 0, 1) := by decide +kernel
theorem d_T_spellPart_5 : decode c_T_spellPart 5 = .ok (.iload_n 1, 1) := by decide +kernel
theorem d_T_spellPart_6 : decode c_T_spellPart 6 = .ok (.invokevirtual 53, 3) := by decide +kernel
theorem d_T_spellPart_9 : decode c_T_spellPart 9 = .ok (.return_, 1) := by decide +kernel
theorem d_T_spellPart_10 : decode c_T_spellPart 10 = .ok (.iload_n 1, 1) := by decide +kernel
theorem d_T_spellPart_11 : decode c_T_spellPart 11 = .ok (.iconst 1, 1) := by decide +kernel
theorem d_T_spellPart_12 : decode c_T_spellPart 12 = .ok (.if_icmp .eq 14, 3) := by decide +kernel
theorem d_T_spellPart_15 : decode c_T_spellPart 15 = .ok (.aload_n 0, 1) := by decide +kernel
theorem d_T_spellPart_16 : decode c_T_spellPart 16 = .ok (.iload_n 1, 1) := by decide +kernel
theorem d_T_spellPart_17 : decode c_T_spellPart 17 = .ok (.invokevirtual 53, 3) := by decide +kernel
theorem d_T_spellPart_20 : decode c_T_spellPart 20 = .ok (.aload_n 0, 1) := by decide +kernel
theorem d_T_spellPart_21 : decode c_T_spellPart 21 = .ok (.bipush 42, 2) := by decide +kernel
theorem d_T_spellPart_23 : decode c_T_spellPart 23 = .ok (.invokevirtual 37, 3) := by decide +kernel
theorem d_T_spellPart_26 : decode c_T_spellPart 26 = .ok (.aload_n 0, 1) := by decide +kernel
theorem d_T_spellPart_27 : decode c_T_spellPart 27 = .ok (.bipush 120, 2) := by decide +kernel
theorem d_T_spellPart_29 : decode c_T_spellPart 29 = .ok (.invokevirtual 37, 3) := by decide +kernel
theorem d_T_spellPart_32 : decode c_T_spellPart 32 = .ok (.iload_n 2, 1) := by decide +kernel
theorem d_T_spellPart_33 : decode c_T_spellPart 33 = .ok (.iconst 1, 1) := by decide +kernel
theorem d_T_spellPart_34 : decode c_T_spellPart 34 = .ok (.if_icmp .le 14, 3) := by decide +kernel
theorem d_T_spellPart_37 : decode c_T_spellPart 37 = .ok (.aload_n 0, 1) := by decide +kernel
theorem d_T_spellPart_38 : decode c_T_spellPart 38 = .ok (.bipush 94, 2) := by decide +kernel
theorem d_T_spellPart_40 : decode c_T_spellPart 40 = .ok (.invokevirtual 37, 3) := by decide +kernel
theorem d_T_spellPart_43 : decode c_T_spellPart 43 = .ok (.aload_n 0, 1) := by decide +kernel
theorem d_T_spellPart_44 : decode c_T_spellPart 44 = .ok (.iload_n 2, 1) := by decide +kernel
theorem d_T_spellPart_45 : decode c_T_spellPart 45 = .ok (.invokevirtual 53, 3) := by decide +kernel
theorem d_T_spellPart_48 : decode c_T_spellPart 48 = .ok (.return_, 1) := by decide +kernel
theorem d_T_spellNumber_0 : decode c_T_spellNumber 0 = .ok (.sipush 10000, 3) := by decide +kernel
theorem d_T_spellNumber_3 : decode c_T_spellNumber 3 = .ok (.istore_n 2, 1) := by decide +kernel
theorem d_T_spellNumber_4 : decode c_T_spellNumber 4 = .ok (.iload_n 2, 1) := by decide +kernel
theorem d_T_spellNumber_5 : decode c_T_spellNumber 5 = .ok (.ifCond .le 30, 3) := by decide +kernel
theorem d_T_spellNumber_8 : decode c_T_spellNumber 8 = .ok (.iload_n 1, 1) := by decide +kernel
theorem d_T_spellNumber_9 : decode c_T_spellNumber 9 = .ok (.iload_n 2, 1) := by decide +kernel
theorem d_T_spellNumber_10 : decode c_T_spellNumber 10 = .ok (.if_icmp .lt 17, 3) := by decide +kernel
theorem d_T_spellNumber_13 : decode c_T_spellNumber 13 = .ok (.aload_n 0, 1) := by decide +kernel
theorem d_T_spellNumber_14 : decode c_T_spellNumber 14 = .ok (.bipush 48, 2) := by decide +kernel
theorem d_T_spellNumber_16 : decode c_T_spellNumber 16 = .ok (.iload_n 1, 1) := by decide +kernel
theorem d_T_spellNumber_17 : decode c_T_spellNumber 17 = .ok (.iload_n 2, 1) := by decide +kernel
theorem d_T_spellNumber_18 : decode c_T_spellNumber 18 = .ok (.idiv, 1) := by decide +kernel
theorem d_T_spellNumber_19 : decode c_T_spellNumber 19 = .ok (.bipush 10, 2) := by decide +kernel
theorem d_T_spellNumber_21 : decode c_T_spellNumber 21 = .ok (.irem, 1) := by decide +kernel
theorem d_T_spellNumber_22 : decode c_T_spellNumber 22 = .ok (.iadd, 1) := by decide +kernel
theorem d_T_spellNumber_23 : decode c_T_spellNumber 23 = .ok (.i2c, 1) := by decide +kernel
theorem d_T_spellNumber_24 : decode c_T_spellNumber 24 = .ok (.invokevirtual 37, 3) := by decide +kernel
theorem d_T_spellNumber_27 : decode c_T_spellNumber 27 = .ok (.iload_n 2, 1) := by decide +kernel
theorem d_T_spellNumber_28 : decode c_T_spellNumber 28 = .ok (.bipush 10, 2) := by decide +kernel
theorem d_T_spellNumber_30 : decode c_T_spellNumber 30 = .ok (.idiv, 1) := by decide +kernel
theorem d_T_spellNumber_31 : decode c_T_spellNumber 31 = .ok (.istore_n 2, 1) := by decide +kernel
theorem d_T_spellNumber_32 : decode c_T_spellNumber 32 = .ok (.goto (-28), 3) := by decide +kernel
theorem d_T_spellNumber_35 : decode c_T_spellNumber 35 = .ok (.return_, 1) := by decide +kernel
