theorem d_P_init_0 : decode c_P_init 0 = .ok (.aload_n 0, 1) := by decide +kernel
theorem d_P_init_1 : decode c_P_init 1 = .ok (.invokespecial 3, 3) := by decide +kernel
theorem d_P_init_4 : decode c_P_init 4 = .ok (.aload_n 0, 1) := by decide +kernel
theorem d_P_init_5 : decode c_P_init 5 = .ok (.iconst (-1), 1) := by decide +kernel
theorem d_P_init_6 : decode c_P_init 6 = .ok (.putfield 9, 3) := by decide +kernel
theorem d_P_init_9 : decode c_P_init 9 = .ok (.aload_n 0, 1) := by decide +kernel
theorem d_P_init_10 : decode c_P_init 10 = .ok (.iload_n 1, 1) := by decide +kernel
theorem d_P_init_11 : decode c_P_init 11 = .ok (.iconst 1, 1) := by decide +kernel
theorem d_P_init_12 : decode c_P_init 12 = .ok (.iadd, 1) := by decide +kernel
theorem d_P_init_13 : decode c_P_init 13 = .ok (.newarray .int, 2) := by decide +kernel
theorem d_P_init_15 : decode c_P_init 15 = .ok (.putfield 15, 3) := by decide +kernel
theorem d_P_init_18 : decode c_P_init 18 = .ok (.return_, 1) := by decide +kernel
theorem d_P_setConstant_0 : decode c_P_setConstant 0 = .ok (.aload_n 0, 1) := by decide +kernel
theorem d_P_setConstant_1 : decode c_P_setConstant 1 = .ok (.getfield 15, 3) := by decide +kernel
theorem d_P_setConstant_4 : decode c_P_setConstant 4 = .ok (.iconst 0, 1) := by decide +kernel
theorem d_P_setConstant_5 : decode c_P_setConstant 5 = .ok (.iload_n 1, 1) := by decide +kernel
theorem d_P_setConstant_6 : decode c_P_setConstant 6 = .ok (.iastore, 1) := by decide +kernel
theorem d_P_setConstant_7 : decode c_P_setConstant 7 = .ok (.aload_n 0, 1) := by decide +kernel
theorem d_P_setConstant_8 : decode c_P_setConstant 8 = .ok (.iload_n 1, 1) := by decide +kernel
theorem d_P_setConstant_9 : decode c_P_setConstant 9 = .ok (.ifCond .ne 7, 3) := by decide +kernel
theorem d_P_setConstant_12 : decode c_P_setConstant 12 = .ok (.iconst (-1), 1) := by decide +kernel
theorem d_P_setConstant_13 : decode c_P_setConstant 13 = .ok (.goto 4, 3) := by decide +kernel
theorem d_P_setConstant_16 : decode c_P_setConstant 16 = .ok (.iconst 0, 1) := by decide +kernel
theorem d_P_setConstant_17 : decode c_P_setConstant 17 = .ok (.putfield 9, 3) := by decide +kernel
theorem d_P_setConstant_20 : decode c_P_setConstant 20 = .ok (.return_, 1) := by decide +kernel
theorem d_P_setLetter_0 : decode c_P_setLetter 0 = .ok (.aload_n 0, 1) := by decide +kernel
theorem d_P_setLetter_1 : decode c_P_setLetter 1 = .ok (.getfield 15, 3) := by decide +kernel
theorem d_P_setLetter_4 : decode c_P_setLetter 4 = .ok (.iconst 0, 1) := by decide +kernel
theorem d_P_setLetter_5 : decode c_P_setLetter 5 = .ok (.iconst 0, 1) := by decide +kernel
theorem d_P_setLetter_6 : decode c_P_setLetter 6 = .ok (.iastore, 1) := by decide +kernel
theorem d_P_setLetter_7 : decode c_P_setLetter 7 = .ok (.aload_n 0, 1) := by decide +kernel
theorem d_P_setLetter_8 : decode c_P_setLetter 8 = .ok (.getfield 15, 3) := by decide +kernel
theorem d_P_setLetter_11 : decode c_P_setLetter 11 = .ok (.iconst 1, 1) := by decide +kernel
theorem d_P_setLetter_12 : decode c_P_setLetter 12 = .ok (.iconst 1, 1) := by decide +kernel
theorem d_P_setLetter_13 : decode c_P_setLetter 13 = .ok (.iastore, 1) := by decide +kernel
theorem d_P_setLetter_14 : decode c_P_setLetter 14 = .ok (.aload_n 0, 1) := by decide +kernel
theorem d_P_setLetter_15 : decode c_P_setLetter 15 = .ok (.iconst 1, 1) := by decide +kernel
theorem d_P_setLetter_16 : decode c_P_setLetter 16 = .ok (.putfield 9, 3) := by decide +kernel
theorem d_P_setLetter_19 : decode c_P_setLetter 19 = .ok (.return_, 1) := by decide +kernel
theorem d_P_copy_0 : decode c_P_copy 0 = .ok (.aload_n 0, 1) := by decide +kernel
theorem d_P_copy_1 : decode c_P_copy 1 = .ok (.aload_n 1, 1) := by decide +kernel
theorem d_P_copy_2 : decode c_P_copy 2 = .ok (.getfield 9, 3) := by decide +kernel
theorem d_P_copy_5 : decode c_P_copy 5 = .ok (.aload_n 0, 1) := by decide +kernel
theorem d_P_copy_6 : decode c_P_copy 6 = .ok (.getfield 15, 3) := by decide +kernel
theorem d_P_copy_9 : decode c_P_copy 9 = .ok (.arraylength, 1) := by decide +kernel
theorem d_P_copy_10 : decode c_P_copy 10 = .ok (.iconst 1, 1) := by decide +kernel
theorem d_P_copy_11 : decode c_P_copy 11 = .ok (.isub, 1) := by decide +kernel
theorem d_P_copy_12 : decode c_P_copy 12 = .ok (.invokestatic 23, 3) := by decide +kernel
theorem d_P_copy_15 : decode c_P_copy 15 = .ok (.putfield 9, 3) := by decide +kernel
theorem d_P_copy_18 : decode c_P_copy 18 = .ok (.iconst 0, 1) := by decide +kernel
theorem d_P_copy_19 : decode c_P_copy 19 = .ok (.istore_n 2, 1) := by decide +kernel
theorem d_P_copy_20 : decode c_P_copy 20 = .ok (.iload_n 2, 1) := by decide +kernel
theorem d_P_copy_21 : decode c_P_copy 21 = .ok (.aload_n 0, 1) := by decide +kernel
theorem d_P_copy_22 : decode c_P_copy 22 = .ok (.getfield 9, 3) := by decide +kernel
theorem d_P_copy_25 : decode c_P_copy 25 = .ok (.if_icmp .gt 21, 3) := by decide +kernel
theorem d_P_copy_28 : decode c_P_copy 28 = .ok (.aload_n 0, 1) := by decide +kernel
theorem d_P_copy_29 : decode c_P_copy 29 = .ok (.getfield 15, 3) := by decide +kernel
theorem d_P_copy_32 : decode c_P_copy 32 = .ok (.iload_n 2, 1) := by decide +kernel
theorem d_P_copy_33 : decode c_P_copy 33 = .ok (.aload_n 1, 1) := by decide +kernel
theorem d_P_copy_34 : decode c_P_copy 34 = .ok (.getfield 15, 3) := by decide +kernel
theorem d_P_copy_37 : decode c_P_copy 37 = .ok (.iload_n 2, 1) := by decide +kernel
theorem d_P_copy_38 : decode c_P_copy 38 = .ok (.iaload, 1) := by decide +kernel
theorem d_P_copy_39 : decode c_P_copy 39 = .ok (.iastore, 1) := by decide +kernel
theorem d_P_copy_40 : decode c_P_copy 40 = .ok (.iinc 2 1, 3) := by decide +kernel
theorem d_P_copy_43 : decode c_P_copy 43 = .ok (.goto (-23), 3) := by decide +kernel
theorem d_P_copy_46 : decode c_P_copy 46 = .ok (.return_, 1) := by decide +kernel
theorem d_P_setProduct_0 : decode c_P_setProduct 0 = .ok (.aload_n 0, 1) := by decide +kernel
theorem d_P_setProduct_1 : decode c_P_setProduct 1 = .ok (.iconst (-1), 1) := by decide +kernel
theorem d_P_setProduct_2 : decode c_P_setProduct 2 = .ok (.putfield 9, 3) := by decide +kernel
theorem d_P_setProduct_5 : decode c_P_setProduct 5 = .ok (.aload_n 1, 1) := by decide +kernel
theorem d_P_setProduct_6 : decode c_P_setProduct 6 = .ok (.invokevirtual 29, 3) := by decide +kernel
theorem d_P_setProduct_9 : decode c_P_setProduct 9 = .ok (.ifCond .ne 10, 3) := by decide +kernel
theorem d_P_setProduct_12 : decode c_P_setProduct 12 = .ok (.aload_n 2, 1) := by decide +kernel
theorem d_P_setProduct_13 : decode c_P_setProduct 13 = .ok (.invokevirtual 29, 3) := by decide +kernel
theorem d_P_setProduct_16 : decode c_P_setProduct 16 = .ok (.ifCond .eq 4, 3) := by decide +kernel
theorem d_P_setProduct_19 : decode c_P_setProduct 19 = .ok (.return_, 1) := by decide +kernel
theorem d_P_setProduct_20 : decode c_P_setProduct 20 = .ok (.aload_n 0, 1) := by decide +kernel
theorem d_P_setProduct_21 : decode c_P_setProduct 21 = .ok (.aload_n 1, 1) := by decide +kernel
theorem d_P_setProduct_22 : decode c_P_setProduct 22 = .ok (.getfield 9, 3) := by decide +kernel
theorem d_P_setProduct_25 : decode c_P_setProduct 25 = .ok (.aload_n 2, 1) := by decide +kernel
theorem d_P_setProduct_26 : decode c_P_setProduct 26 = .ok (.getfield 9, 3) := by decide +kernel
theorem d_P_setProduct_29 : decode c_P_setProduct 29 = .ok (.iadd, 1) := by decide +kernel
theorem d_P_setProduct_30 : decode c_P_setProduct 30 = .ok (.aload_n 0, 1) := by decide +kernel
theorem d_P_setProduct_31 : decode c_P_setProduct 31 = .ok (.getfield 15, 3) := by decide +kernel
theorem d_P_setProduct_34 : decode c_P_setProduct 34 = .ok (.arraylength, 1) := by decide +kernel
theorem d_P_setProduct_35 : decode c_P_setProduct 35 = .ok (.iconst 1, 1) := by decide +kernel
theorem d_P_setProduct_36 : decode c_P_setProduct 36 = .ok (.isub, 1) := by decide +kernel
theorem d_P_setProduct_37 : decode c_P_setProduct 37 = .ok (.invokestatic 23, 3) := by decide +kernel
theorem d_P_setProduct_40 : decode c_P_setProduct 40 = .ok (.putfield 9, 3) := by decide +kernel
theorem d_P_setProduct_43 : decode c_P_setProduct 43 = .ok (.iconst 0, 1) := by decide +kernel
theorem d_P_setProduct_44 : decode c_P_setProduct 44 = .ok (.istore_n 3, 1) := by decide +kernel
theorem d_P_setProduct_45 : decode c_P_setProduct 45 = .ok (.iload_n 3, 1) := by decide +kernel
theorem d_P_setProduct_46 : decode c_P_setProduct 46 = .ok (.aload_n 0, 1) := by decide +kernel
theorem d_P_setProduct_47 : decode c_P_setProduct 47 = .ok (.getfield 9, 3) := by decide +kernel
theorem d_P_setProduct_50 : decode c_P_setProduct 50 = .ok (.if_icmp .gt 16, 3) := by decide +kernel
theorem d_P_setProduct_53 : decode c_P_setProduct 53 = .ok (.aload_n 0, 1) := by decide +kernel
theorem d_P_setProduct_54 : decode c_P_setProduct 54 = .ok (.getfield 15, 3) := by decide +kernel
theorem d_P_setProduct_57 : decode c_P_setProduct 57 = .ok (.iload_n 3, 1) := by decide +kernel
theorem d_P_setProduct_58 : decode c_P_setProduct 58 = .ok (.iconst 0, 1) := by decide +kernel
theorem d_P_setProduct_59 : decode c_P_setProduct 59 = .ok (.iastore, 1) := by decide +kernel
theorem d_P_setProduct_60 : decode c_P_setProduct 60 = .ok (.iinc 3 1, 3) := by decide +kernel
theorem d_P_setProduct_63 : decode c_P_setProduct 63 = .ok (.goto (-18), 3) := by decide +kernel
theorem d_P_setProduct_66 : decode c_P_setProduct 66 = .ok (.iconst 0, 1) := by decide +kernel
theorem d_P_setProduct_67 : decode c_P_setProduct 67 = .ok (.istore_n 3, 1) := by decide +kernel
theorem d_P_setProduct_68 : decode c_P_setProduct 68 = .ok (.iload_n 3, 1) := by decide +kernel
theorem d_P_setProduct_69 : decode c_P_setProduct 69 = .ok (.aload_n 1, 1) := by decide +kernel
theorem d_P_setProduct_70 : decode c_P_setProduct 70 = .ok (.getfield 9, 3) := by decide +kernel
theorem d_P_setProduct_73 : decode c_P_setProduct 73 = .ok (.if_icmp .gt 84, 3) := by decide +kernel
theorem d_P_setProduct_76 : decode c_P_setProduct 76 = .ok (.aload_n 1, 1) := by decide +kernel
theorem d_P_setProduct_77 : decode c_P_setProduct 77 = .ok (.getfield 15, 3) := by decide +kernel
theorem d_P_setProduct_80 : decode c_P_setProduct 80 = .ok (.iload_n 3, 1) := by decide +kernel
theorem d_P_setProduct_81 : decode c_P_setProduct 81 = .ok (.iaload, 1) := by decide +kernel
theorem d_P_setProduct_82 : decode c_P_setProduct 82 = .ok (.istore 4, 2) := by decide +kernel
theorem d_P_setProduct_84 : decode c_P_setProduct 84 = .ok (.iconst 0, 1) := by decide +kernel
theorem d_P_setProduct_85 : decode c_P_setProduct 85 = .ok (.istore 5, 2) := by decide +kernel
theorem d_P_setProduct_87 : decode c_P_setProduct 87 = .ok (.iload 4, 2) := by decide +kernel
theorem d_P_setProduct_89 : decode c_P_setProduct 89 = .ok (.ifCond .eq 62, 3) := by decide +kernel
theorem d_P_setProduct_92 : decode c_P_setProduct 92 = .ok (.iload 5, 2) := by decide +kernel
theorem d_P_setProduct_94 : decode c_P_setProduct 94 = .ok (.aload_n 2, 1) := by decide +kernel
theorem d_P_setProduct_95 : decode c_P_setProduct 95 = .ok (.getfield 9, 3) := by decide +kernel
theorem d_P_setProduct_98 : decode c_P_setProduct 98 = .ok (.if_icmp .gt 53, 3) := by decide +kernel
theorem d_P_setProduct_101 : decode c_P_setProduct 101 = .ok (.iload_n 3, 1) := by decide +kernel
theorem d_P_setProduct_102 : decode c_P_setProduct 102 = .ok (.iload 5, 2) := by decide +kernel
theorem d_P_setProduct_104 : decode c_P_setProduct 104 = .ok (.iadd, 1) := by decide +kernel
theorem d_P_setProduct_105 : decode c_P_setProduct 105 = .ok (.aload_n 0, 1) := by decide +kernel
theorem d_P_setProduct_106 : decode c_P_setProduct 106 = .ok (.getfield 9, 3) := by decide +kernel
theorem d_P_setProduct_109 : decode c_P_setProduct 109 = .ok (.if_icmp .gt 42, 3) := by decide +kernel
theorem d_P_setProduct_112 : decode c_P_setProduct 112 = .ok (.aload_n 0, 1) := by decide +kernel
theorem d_P_setProduct_113 : decode c_P_setProduct 113 = .ok (.getfield 15, 3) := by decide +kernel
theorem d_P_setProduct_116 : decode c_P_setProduct 116 = .ok (.iload_n 3, 1) := by decide +kernel
theorem d_P_setProduct_117 : decode c_P_setProduct 117 = .ok (.iload 5, 2) := by decide +kernel
theorem d_P_setProduct_119 : decode c_P_setProduct 119 = .ok (.iadd, 1) := by decide +kernel
theorem d_P_setProduct_120 : decode c_P_setProduct 120 = .ok (.aload_n 0, 1) := by decide +kernel
theorem d_P_setProduct_121 : decode c_P_setProduct 121 = .ok (.getfield 15, 3) := by decide +kernel
theorem d_P_setProduct_124 : decode c_P_setProduct 124 = .ok (.iload_n 3, 1) := by decide +kernel
theorem d_P_setProduct_125 : decode c_P_setProduct 125 = .ok (.iload 5, 2) := by decide +kernel
theorem d_P_setProduct_127 : decode c_P_setProduct 127 = .ok (.iadd, 1) := by decide +kernel
theorem d_P_setProduct_128 : decode c_P_setProduct 128 = .ok (.iaload, 1) := by decide +kernel
theorem d_P_setProduct_129 : decode c_P_setProduct 129 = .ok (.iload 4, 2) := by decide +kernel
theorem d_P_setProduct_131 : decode c_P_setProduct 131 = .ok (.aload_n 2, 1) := by decide +kernel
theorem d_P_setProduct_132 : decode c_P_setProduct 132 = .ok (.getfield 15, 3) := by decide +kernel
theorem d_P_setProduct_135 : decode c_P_setProduct 135 = .ok (.iload 5, 2) := by decide +kernel
theorem d_P_setProduct_137 : decode c_P_setProduct 137 = .ok (.iaload, 1) := by decide +kernel
theorem d_P_setProduct_138 : decode c_P_setProduct 138 = .ok (.imul, 1) := by decide +kernel
theorem d_P_setProduct_139 : decode c_P_setProduct 139 = .ok (.iadd, 1) := by decide +kernel
theorem d_P_setProduct_140 : decode c_P_setProduct 140 = .ok (.sipush 10007, 3) := by decide +kernel
theorem d_P_setProduct_143 : decode c_P_setProduct 143 = .ok (.irem, 1) := by decide +kernel
theorem d_P_setProduct_144 : decode c_P_setProduct 144 = .ok (.iastore, 1) := by decide +kernel
theorem d_P_setProduct_145 : decode c_P_setProduct 145 = .ok (.iinc 5 1, 3) := by decide +kernel
theorem d_P_setProduct_148 : decode c_P_setProduct 148 = .ok (.goto (-61), 3) := by decide +kernel
theorem d_P_setProduct_151 : decode c_P_setProduct 151 = .ok (.iinc 3 1, 3) := by decide +kernel
theorem d_P_setProduct_154 : decode c_P_setProduct 154 = .ok (.goto (-86), 3) := by decide +kernel
theorem d_P_setProduct_157 : decode c_P_setProduct 157 = .ok (.return_, 1) := by decide +kernel
theorem d_P_isZero_0 : decode c_P_isZero 0 = .ok (.aload_n 0, 1) := by decide +kernel
theorem d_P_isZero_1 : decode c_P_isZero 1 = .ok (.getfield 9, 3) := by decide +kernel
theorem d_P_isZero_4 : decode c_P_isZero 4 = .ok (.ifCond .ge 7, 3) := by decide +kernel
theorem d_P_isZero_7 : decode c_P_isZero 7 = .ok (.iconst 1, 1) := by decide +kernel
theorem d_P_isZero_8 : decode c_P_isZero 8 = .ok (.goto 4, 3) := by decide +kernel
theorem d_P_isZero_11 : decode c_P_isZero 11 = .ok (.iconst 0, 1) := by decide +kernel
theorem d_P_isZero_12 : decode c_P_isZero 12 = .ok (.ireturn, 1) := by decide +kernel
theorem d_P_addMultiple_0 : decode c_P_addMultiple 0 = .ok (.aload_n 0, 1) := by decide +kernel
theorem d_P_addMultiple_1 : decode c_P_addMultiple 1 = .ok (.getfield 9, 3) := by decide +kernel
theorem d_P_addMultiple_4 : decode c_P_addMultiple 4 = .ok (.aload_n 1, 1) := by decide +kernel
theorem d_P_addMultiple_5 : decode c_P_addMultiple 5 = .ok (.getfield 9, 3) := by decide +kernel
theorem d_P_addMultiple_8 : decode c_P_addMultiple 8 = .ok (.invokestatic 37, 3) := by decide +kernel
theorem d_P_addMultiple_11 : decode c_P_addMultiple 11 = .ok (.aload_n 0, 1) := by decide +kernel
theorem d_P_addMultiple_12 : decode c_P_addMultiple 12 = .ok (.getfield 15, 3) := by decide +kernel
theorem d_P_addMultiple_15 : decode c_P_addMultiple 15 = .ok (.arraylength, 1) := by decide +kernel
theorem d_P_addMultiple_16 : decode c_P_addMultiple 16 = .ok (.iconst 1, 1) := by decide +kernel
theorem d_P_addMultiple_17 : decode c_P_addMultiple 17 = .ok (.isub, 1) := by decide +kernel
theorem d_P_addMultiple_18 : decode c_P_addMultiple 18 = .ok (.invokestatic 23, 3) := by decide +kernel
theorem d_P_addMultiple_21 : decode c_P_addMultiple 21 = .ok (.istore_n 3, 1) := by decide +kernel
theorem d_P_addMultiple_22 : decode c_P_addMultiple 22 = .ok (.iconst 0, 1) := by decide +kernel
theorem d_P_addMultiple_23 : decode c_P_addMultiple 23 = .ok (.istore 4, 2) := by decide +kernel
theorem d_P_addMultiple_25 : decode c_P_addMultiple 25 = .ok (.iload 4, 2) := by decide +kernel
theorem d_P_addMultiple_27 : decode c_P_addMultiple 27 = .ok (.iload_n 3, 1) := by decide +kernel
theorem d_P_addMultiple_28 : decode c_P_addMultiple 28 = .ok (.if_icmp .gt 35, 3) := by decide +kernel
theorem d_P_addMultiple_31 : decode c_P_addMultiple 31 = .ok (.aload_n 0, 1) := by decide +kernel
theorem d_P_addMultiple_32 : decode c_P_addMultiple 32 = .ok (.getfield 15, 3) := by decide +kernel
theorem d_P_addMultiple_35 : decode c_P_addMultiple 35 = .ok (.iload 4, 2) := by decide +kernel
theorem d_P_addMultiple_37 : decode c_P_addMultiple 37 = .ok (.aload_n 0, 1) := by decide +kernel
theorem d_P_addMultiple_38 : decode c_P_addMultiple 38 = .ok (.iload 4, 2) := by decide +kernel
theorem d_P_addMultiple_40 : decode c_P_addMultiple 40 = .ok (.invokevirtual 19, 3) := by decide +kernel
theorem d_P_addMultiple_43 : decode c_P_addMultiple 43 = .ok (.aload_n 1, 1) := by decide +kernel
theorem d_P_addMultiple_44 : decode c_P_addMultiple 44 = .ok (.iload 4, 2) := by decide +kernel
theorem d_P_addMultiple_46 : decode c_P_addMultiple 46 = .ok (.invokevirtual 19, 3) := by decide +kernel
theorem d_P_addMultiple_49 : decode c_P_addMultiple 49 = .ok (.iload_n 2, 1) := by decide +kernel
theorem d_P_addMultiple_50 : decode c_P_addMultiple 50 = .ok (.imul, 1) := by decide +kernel
theorem d_P_addMultiple_51 : decode c_P_addMultiple 51 = .ok (.iadd, 1) := by decide +kernel
theorem d_P_addMultiple_52 : decode c_P_addMultiple 52 = .ok (.sipush 10007, 3) := by decide +kernel
theorem d_P_addMultiple_55 : decode c_P_addMultiple 55 = .ok (.irem, 1) := by decide +kernel
theorem d_P_addMultiple_56 : decode c_P_addMultiple 56 = .ok (.iastore, 1) := by decide +kernel
theorem d_P_addMultiple_57 : decode c_P_addMultiple 57 = .ok (.iinc 4 1, 3) := by decide +kernel
theorem d_P_addMultiple_60 : decode c_P_addMultiple 60 = .ok (.goto (-35), 3) := by decide +kernel
theorem d_P_addMultiple_63 : decode c_P_addMultiple 63 = .ok (.aload_n 0, 1) := by decide +kernel
theorem d_P_addMultiple_64 : decode c_P_addMultiple 64 = .ok (.iload_n 3, 1) := by decide +kernel
theorem d_P_addMultiple_65 : decode c_P_addMultiple 65 = .ok (.invokevirtual 33, 3) := by decide +kernel
theorem d_P_addMultiple_68 : decode c_P_addMultiple 68 = .ok (.return_, 1) := by decide +kernel
theorem d_P_get_0 : decode c_P_get 0 = .ok (.iload_n 1, 1) := by decide +kernel
theorem d_P_get_1 : decode c_P_get 1 = .ok (.ifCond .lt 29, 3) := by decide +kernel
theorem d_P_get_4 : decode c_P_get 4 = .ok (.iload_n 1, 1) := by decide +kernel
theorem d_P_get_5 : decode c_P_get 5 = .ok (.aload_n 0, 1) := by decide +kernel
theorem d_P_get_6 : decode c_P_get 6 = .ok (.getfield 9, 3) := by decide +kernel
theorem d_P_get_9 : decode c_P_get 9 = .ok (.if_icmp .gt 21, 3) := by decide +kernel
theorem d_P_get_12 : decode c_P_get 12 = .ok (.iload_n 1, 1) := by decide +kernel
theorem d_P_get_13 : decode c_P_get 13 = .ok (.aload_n 0, 1) := by decide +kernel
theorem d_P_get_14 : decode c_P_get 14 = .ok (.getfield 15, 3) := by decide +kernel
theorem d_P_get_17 : decode c_P_get 17 = .ok (.arraylength, 1) := by decide +kernel
theorem d_P_get_18 : decode c_P_get 18 = .ok (.if_icmp .ge 12, 3) := by decide +kernel
theorem d_P_get_21 : decode c_P_get 21 = .ok (.aload_n 0, 1) := by decide +kernel
theorem d_P_get_22 : decode c_P_get 22 = .ok (.getfield 15, 3) := by decide +kernel
theorem d_P_get_25 : decode c_P_get 25 = .ok (.iload_n 1, 1) := by decide +kernel
theorem d_P_get_26 : decode c_P_get 26 = .ok (.iaload, 1) := by decide +kernel
theorem d_P_get_27 : decode c_P_get 27 = .ok (.goto 4, 3) := by decide +kernel
theorem d_P_get_30 : decode c_P_get 30 = .ok (.iconst 0, 1) := by decide +kernel
theorem d_P_get_31 : decode c_P_get 31 = .ok (.ireturn, 1) := by decide +kernel
theorem d_P_trimFrom_0 : decode c_P_trimFrom 0 = .ok (.aload_n 0, 1) := by decide +kernel
theorem d_P_trimFrom_1 : decode c_P_trimFrom 1 = .ok (.iconst (-1), 1) := by decide +kernel
theorem d_P_trimFrom_2 : decode c_P_trimFrom 2 = .ok (.putfield 9, 3) := by decide +kernel
theorem d_P_trimFrom_5 : decode c_P_trimFrom 5 = .ok (.iload_n 1, 1) := by decide +kernel
theorem d_P_trimFrom_6 : decode c_P_trimFrom 6 = .ok (.istore_n 2, 1) := by decide +kernel
theorem d_P_trimFrom_7 : decode c_P_trimFrom 7 = .ok (.iload_n 2, 1) := by decide +kernel
theorem d_P_trimFrom_8 : decode c_P_trimFrom 8 = .ok (.ifCond .lt 30, 3) := by decide +kernel
theorem d_P_trimFrom_11 : decode c_P_trimFrom 11 = .ok (.aload_n 0, 1) := by decide +kernel
theorem d_P_trimFrom_12 : decode c_P_trimFrom 12 = .ok (.getfield 9, 3) := by decide +kernel
theorem d_P_trimFrom_15 : decode c_P_trimFrom 15 = .ok (.ifCond .ge 23, 3) := by decide +kernel
theorem d_P_trimFrom_18 : decode c_P_trimFrom 18 = .ok (.aload_n 0, 1) := by decide +kernel
theorem d_P_trimFrom_19 : decode c_P_trimFrom 19 = .ok (.getfield 15, 3) := by decide +kernel
theorem d_P_trimFrom_22 : decode c_P_trimFrom 22 = .ok (.iload_n 2, 1) := by decide +kernel
theorem d_P_trimFrom_23 : decode c_P_trimFrom 23 = .ok (.iaload, 1) := by decide +kernel
theorem d_P_trimFrom_24 : decode c_P_trimFrom 24 = .ok (.ifCond .eq 8, 3) := by decide +kernel
theorem d_P_trimFrom_27 : decode c_P_trimFrom 27 = .ok (.aload_n 0, 1) := by decide +kernel
theorem d_P_trimFrom_28 : decode c_P_trimFrom 28 = .ok (.iload_n 2, 1) := by decide +kernel
theorem d_P_trimFrom_29 : decode c_P_trimFrom 29 = .ok (.putfield 9, 3) := by decide +kernel
theorem d_P_trimFrom_32 : decode c_P_trimFrom 32 = .ok (.iinc 2 (-1), 3) := by decide +kernel
theorem d_P_trimFrom_35 : decode c_P_trimFrom 35 = .ok (.goto (-28), 3) := by decide +kernel
theorem d_P_trimFrom_38 : decode c_P_trimFrom 38 = .ok (.return_, 1) := by decide +kernel
theorem d_P_setDerivative_0 : decode c_P_setDerivative 0 = .ok (.aload_n 1, 1) := by decide +kernel
theorem d_P_setDerivative_1 : decode c_P_setDerivative 1 = .ok (.getfield 9, 3) := by decide +kernel
theorem d_P_setDerivative_4 : decode c_P_setDerivative 4 = .ok (.iconst 1, 1) := by decide +kernel
theorem d_P_setDerivative_5 : decode c_P_setDerivative 5 = .ok (.isub, 1) := by decide +kernel
theorem d_P_setDerivative_6 : decode c_P_setDerivative 6 = .ok (.aload_n 0, 1) := by decide +kernel
theorem d_P_setDerivative_7 : decode c_P_setDerivative 7 = .ok (.getfield 15, 3) := by decide +kernel
theorem d_P_setDerivative_10 : decode c_P_setDerivative 10 = .ok (.arraylength, 1) := by decide +kernel
theorem d_P_setDerivative_11 : decode c_P_setDerivative 11 = .ok (.iconst 1, 1) := by decide +kernel
theorem d_P_setDerivative_12 : decode c_P_setDerivative 12 = .ok (.isub, 1) := by decide +kernel
theorem d_P_setDerivative_13 : decode c_P_setDerivative 13 = .ok (.invokestatic 23, 3) := by decide +kernel
theorem d_P_setDerivative_16 : decode c_P_setDerivative 16 = .ok (.istore_n 2, 1) := by decide +kernel
theorem d_P_setDerivative_17 : decode c_P_setDerivative 17 = .ok (.iconst 0, 1) := by decide +kernel
theorem d_P_setDerivative_18 : decode c_P_setDerivative 18 = .ok (.istore_n 3, 1) := by decide +kernel
theorem d_P_setDerivative_19 : decode c_P_setDerivative 19 = .ok (.iload_n 3, 1) := by decide +kernel
theorem d_P_setDerivative_20 : decode c_P_setDerivative 20 = .ok (.iload_n 2, 1) := by decide +kernel
theorem d_P_setDerivative_21 : decode c_P_setDerivative 21 = .ok (.if_icmp .gt 30, 3) := by decide +kernel
theorem d_P_setDerivative_24 : decode c_P_setDerivative 24 = .ok (.aload_n 0, 1) := by decide +kernel
theorem d_P_setDerivative_25 : decode c_P_setDerivative 25 = .ok (.getfield 15, 3) := by decide +kernel
theorem d_P_setDerivative_28 : decode c_P_setDerivative 28 = .ok (.iload_n 3, 1) := by decide +kernel
theorem d_P_setDerivative_29 : decode c_P_setDerivative 29 = .ok (.aload_n 1, 1) := by decide +kernel
theorem d_P_setDerivative_30 : decode c_P_setDerivative 30 = .ok (.iload_n 3, 1) := by decide +kernel
theorem d_P_setDerivative_31 : decode c_P_setDerivative 31 = .ok (.iconst 1, 1) := by decide +kernel
theorem d_P_setDerivative_32 : decode c_P_setDerivative 32 = .ok (.iadd, 1) := by decide +kernel
theorem d_P_setDerivative_33 : decode c_P_setDerivative 33 = .ok (.invokevirtual 19, 3) := by decide +kernel
theorem d_P_setDerivative_36 : decode c_P_setDerivative 36 = .ok (.iload_n 3, 1) := by decide +kernel
theorem d_P_setDerivative_37 : decode c_P_setDerivative 37 = .ok (.iconst 1, 1) := by decide +kernel
theorem d_P_setDerivative_38 : decode c_P_setDerivative 38 = .ok (.iadd, 1) := by decide +kernel
theorem d_P_setDerivative_39 : decode c_P_setDerivative 39 = .ok (.imul, 1) := by decide +kernel
theorem d_P_setDerivative_40 : decode c_P_setDerivative 40 = .ok (.sipush 10007, 3) := by decide +kernel
theorem d_P_setDerivative_43 : decode c_P_setDerivative 43 = .ok (.irem, 1) := by decide +kernel
theorem d_P_setDerivative_44 : decode c_P_setDerivative 44 = .ok (.iastore, 1) := by decide +kernel
theorem d_P_setDerivative_45 : decode c_P_setDerivative 45 = .ok (.iinc 3 1, 3) := by decide +kernel
theorem d_P_setDerivative_48 : decode c_P_setDerivative 48 = .ok (.goto (-29), 3) := by decide +kernel
theorem d_P_setDerivative_51 : decode c_P_setDerivative 51 = .ok (.aload_n 0, 1) := by decide +kernel
theorem d_P_setDerivative_52 : decode c_P_setDerivative 52 = .ok (.iload_n 2, 1) := by decide +kernel
theorem d_P_setDerivative_53 : decode c_P_setDerivative 53 = .ok (.invokevirtual 33, 3) := by decide +kernel
theorem d_P_setDerivative_56 : decode c_P_setDerivative 56 = .ok (.return_, 1) := by decide +kernel
theorem d_P_scale_0 : decode c_P_scale 0 = .ok (.iconst 0, 1) := by decide +kernel
theorem d_P_scale_1 : decode c_P_scale 1 = .ok (.istore_n 2, 1) := by decide +kernel
theorem d_P_scale_2 : decode c_P_scale 2 = .ok (.iload_n 2, 1) := by decide +kernel
theorem d_P_scale_3 : decode c_P_scale 3 = .ok (.aload_n 0, 1) := by decide +kernel
theorem d_P_scale_4 : decode c_P_scale 4 = .ok (.getfield 9, 3) := by decide +kernel
theorem d_P_scale_7 : decode c_P_scale 7 = .ok (.if_icmp .gt 27, 3) := by decide +kernel
theorem d_P_scale_10 : decode c_P_scale 10 = .ok (.aload_n 0, 1) := by decide +kernel
theorem d_P_scale_11 : decode c_P_scale 11 = .ok (.getfield 15, 3) := by decide +kernel
theorem d_P_scale_14 : decode c_P_scale 14 = .ok (.iload_n 2, 1) := by decide +kernel
theorem d_P_scale_15 : decode c_P_scale 15 = .ok (.aload_n 0, 1) := by decide +kernel
theorem d_P_scale_16 : decode c_P_scale 16 = .ok (.getfield 15, 3) := by decide +kernel
theorem d_P_scale_19 : decode c_P_scale 19 = .ok (.iload_n 2, 1) := by decide +kernel
theorem d_P_scale_20 : decode c_P_scale 20 = .ok (.iaload, 1) := by decide +kernel
theorem d_P_scale_21 : decode c_P_scale 21 = .ok (.iload_n 1, 1) := by decide +kernel
theorem d_P_scale_22 : decode c_P_scale 22 = .ok (.imul, 1) := by decide +kernel
theorem d_P_scale_23 : decode c_P_scale 23 = .ok (.sipush 10007, 3) := by decide +kernel
theorem d_P_scale_26 : decode c_P_scale 26 = .ok (.irem, 1) := by decide +kernel
theorem d_P_scale_27 : decode c_P_scale 27 = .ok (.iastore, 1) := by decide +kernel
theorem d_P_scale_28 : decode c_P_scale 28 = .ok (.iinc 2 1, 3) := by decide +kernel
theorem d_P_scale_31 : decode c_P_scale 31 = .ok (.goto (-29), 3) := by decide +kernel
theorem d_P_scale_34 : decode c_P_scale 34 = .ok (.aload_n 0, 1) := by decide +kernel
theorem d_P_scale_35 : decode c_P_scale 35 = .ok (.aload_n 0, 1) := by decide +kernel
theorem d_P_scale_36 : decode c_P_scale 36 = .ok (.getfield 9, 3) := by decide +kernel
theorem d_P_scale_39 : decode c_P_scale 39 = .ok (.invokevirtual 33, 3) := by decide +kernel
theorem d_P_scale_42 : decode c_P_scale 42 = .ok (.return_, 1) := by decide +kernel
theorem d_P_lead_0 : decode c_P_lead 0 = .ok (.aload_n 0, 1) := by decide +kernel
theorem d_P_lead_1 : decode c_P_lead 1 = .ok (.aload_n 0, 1) := by decide +kernel
theorem d_P_lead_2 : decode c_P_lead 2 = .ok (.getfield 9, 3) := by decide +kernel
theorem d_P_lead_5 : decode c_P_lead 5 = .ok (.invokevirtual 19, 3) := by decide +kernel
theorem d_P_lead_8 : decode c_P_lead 8 = .ok (.ireturn, 1) := by decide +kernel
theorem d_P_divideBy_0 : decode c_P_divideBy 0 = .ok (.aload_n 1, 1) := by decide +kernel
theorem d_P_divideBy_1 : decode c_P_divideBy 1 = .ok (.getfield 9, 3) := by decide +kernel
theorem d_P_divideBy_4 : decode c_P_divideBy 4 = .ok (.istore_n 3, 1) := by decide +kernel
theorem d_P_divideBy_5 : decode c_P_divideBy 5 = .ok (.iload_n 3, 1) := by decide +kernel
theorem d_P_divideBy_6 : decode c_P_divideBy 6 = .ok (.ifCond .lt 11, 3) := by decide +kernel
theorem d_P_divideBy_9 : decode c_P_divideBy 9 = .ok (.aload_n 0, 1) := by decide +kernel
theorem d_P_divideBy_10 : decode c_P_divideBy 10 = .ok (.getfield 9, 3) := by decide +kernel
theorem d_P_divideBy_13 : decode c_P_divideBy 13 = .ok (.iload_n 3, 1) := by decide +kernel
theorem d_P_divideBy_14 : decode c_P_divideBy 14 = .ok (.if_icmp .ge 9, 3) := by decide +kernel
theorem d_P_divideBy_17 : decode c_P_divideBy 17 = .ok (.aload_n 2, 1) := by decide +kernel
theorem d_P_divideBy_18 : decode c_P_divideBy 18 = .ok (.iconst (-1), 1) := by decide +kernel
theorem d_P_divideBy_19 : decode c_P_divideBy 19 = .ok (.putfield 9, 3) := by decide +kernel
theorem d_P_divideBy_22 : decode c_P_divideBy 22 = .ok (.return_, 1) := by decide +kernel
theorem d_P_divideBy_23 : decode c_P_divideBy 23 = .ok (.aload_n 2, 1) := by decide +kernel
theorem d_P_divideBy_24 : decode c_P_divideBy 24 = .ok (.aload_n 0, 1) := by decide +kernel
theorem d_P_divideBy_25 : decode c_P_divideBy 25 = .ok (.getfield 9, 3) := by decide +kernel
theorem d_P_divideBy_28 : decode c_P_divideBy 28 = .ok (.iload_n 3, 1) := by decide +kernel
theorem d_P_divideBy_29 : decode c_P_divideBy 29 = .ok (.isub, 1) := by decide +kernel
theorem d_P_divideBy_30 : decode c_P_divideBy 30 = .ok (.aload_n 2, 1) := by decide +kernel
theorem d_P_divideBy_31 : decode c_P_divideBy 31 = .ok (.getfield 15, 3) := by decide +kernel
theorem d_P_divideBy_34 : decode c_P_divideBy 34 = .ok (.arraylength, 1) := by decide +kernel
theorem d_P_divideBy_35 : decode c_P_divideBy 35 = .ok (.iconst 1, 1) := by decide +kernel
theorem d_P_divideBy_36 : decode c_P_divideBy 36 = .ok (.isub, 1) := by decide +kernel
theorem d_P_divideBy_37 : decode c_P_divideBy 37 = .ok (.invokestatic 23, 3) := by decide +kernel
theorem d_P_divideBy_40 : decode c_P_divideBy 40 = .ok (.putfield 9, 3) := by decide +kernel
theorem d_P_divideBy_43 : decode c_P_divideBy 43 = .ok (.aload_n 2, 1) := by decide +kernel
theorem d_P_divideBy_44 : decode c_P_divideBy 44 = .ok (.getfield 9, 3) := by decide +kernel
theorem d_P_divideBy_47 : decode c_P_divideBy 47 = .ok (.istore 4, 2) := by decide +kernel
theorem d_P_divideBy_49 : decode c_P_divideBy 49 = .ok (.iload 4, 2) := by decide +kernel
theorem d_P_divideBy_51 : decode c_P_divideBy 51 = .ok (.ifCond .lt 88, 3) := by decide +kernel
theorem d_P_divideBy_54 : decode c_P_divideBy 54 = .ok (.aload_n 0, 1) := by decide +kernel
theorem d_P_divideBy_55 : decode c_P_divideBy 55 = .ok (.getfield 15, 3) := by decide +kernel
theorem d_P_divideBy_58 : decode c_P_divideBy 58 = .ok (.iload 4, 2) := by decide +kernel
theorem d_P_divideBy_60 : decode c_P_divideBy 60 = .ok (.iload_n 3, 1) := by decide +kernel
theorem d_P_divideBy_61 : decode c_P_divideBy 61 = .ok (.iadd, 1) := by decide +kernel
theorem d_P_divideBy_62 : decode c_P_divideBy 62 = .ok (.iaload, 1) := by decide +kernel
theorem d_P_divideBy_63 : decode c_P_divideBy 63 = .ok (.istore 5, 2) := by decide +kernel
theorem d_P_divideBy_65 : decode c_P_divideBy 65 = .ok (.aload_n 2, 1) := by decide +kernel
theorem d_P_divideBy_66 : decode c_P_divideBy 66 = .ok (.getfield 15, 3) := by decide +kernel
theorem d_P_divideBy_69 : decode c_P_divideBy 69 = .ok (.iload 4, 2) := by decide +kernel
theorem d_P_divideBy_71 : decode c_P_divideBy 71 = .ok (.iload 5, 2) := by decide +kernel
theorem d_P_divideBy_73 : decode c_P_divideBy 73 = .ok (.iastore, 1) := by decide +kernel
theorem d_P_divideBy_74 : decode c_P_divideBy 74 = .ok (.iconst 0, 1) := by decide +kernel
theorem d_P_divideBy_75 : decode c_P_divideBy 75 = .ok (.istore 6, 2) := by decide +kernel
theorem d_P_divideBy_77 : decode c_P_divideBy 77 = .ok (.iload 5, 2) := by decide +kernel
theorem d_P_divideBy_79 : decode c_P_divideBy 79 = .ok (.ifCond .eq 54, 3) := by decide +kernel
theorem d_P_divideBy_82 : decode c_P_divideBy 82 = .ok (.iload 6, 2) := by decide +kernel
theorem d_P_divideBy_84 : decode c_P_divideBy 84 = .ok (.iload_n 3, 1) := by decide +kernel
theorem d_P_divideBy_85 : decode c_P_divideBy 85 = .ok (.if_icmp .gt 48, 3) := by decide +kernel
theorem d_P_divideBy_88 : decode c_P_divideBy 88 = .ok (.aload_n 0, 1) := by decide +kernel
theorem d_P_divideBy_89 : decode c_P_divideBy 89 = .ok (.getfield 15, 3) := by decide +kernel
theorem d_P_divideBy_92 : decode c_P_divideBy 92 = .ok (.iload 4, 2) := by decide +kernel
theorem d_P_divideBy_94 : decode c_P_divideBy 94 = .ok (.iload 6, 2) := by decide +kernel
theorem d_P_divideBy_96 : decode c_P_divideBy 96 = .ok (.iadd, 1) := by decide +kernel
theorem d_P_divideBy_97 : decode c_P_divideBy 97 = .ok (.aload_n 0, 1) := by decide +kernel
theorem d_P_divideBy_98 : decode c_P_divideBy 98 = .ok (.getfield 15, 3) := by decide +kernel
theorem d_P_divideBy_101 : decode c_P_divideBy 101 = .ok (.iload 4, 2) := by decide +kernel
theorem d_P_divideBy_103 : decode c_P_divideBy 103 = .ok (.iload 6, 2) := by decide +kernel
theorem d_P_divideBy_105 : decode c_P_divideBy 105 = .ok (.iadd, 1) := by decide +kernel
theorem d_P_divideBy_106 : decode c_P_divideBy 106 = .ok (.iaload, 1) := by decide +kernel
theorem d_P_divideBy_107 : decode c_P_divideBy 107 = .ok (.sipush 10007, 3) := by decide +kernel
theorem d_P_divideBy_110 : decode c_P_divideBy 110 = .ok (.iload 5, 2) := by decide +kernel
theorem d_P_divideBy_112 : decode c_P_divideBy 112 = .ok (.isub, 1) := by decide +kernel
theorem d_P_divideBy_113 : decode c_P_divideBy 113 = .ok (.aload_n 1, 1) := by decide +kernel
theorem d_P_divideBy_114 : decode c_P_divideBy 114 = .ok (.getfield 15, 3) := by decide +kernel
theorem d_P_divideBy_117 : decode c_P_divideBy 117 = .ok (.iload 6, 2) := by decide +kernel
theorem d_P_divideBy_119 : decode c_P_divideBy 119 = .ok (.iaload, 1) := by decide +kernel
theorem d_P_divideBy_120 : decode c_P_divideBy 120 = .ok (.imul, 1) := by decide +kernel
theorem d_P_divideBy_121 : decode c_P_divideBy 121 = .ok (.iadd, 1) := by decide +kernel
theorem d_P_divideBy_122 : decode c_P_divideBy 122 = .ok (.sipush 10007, 3) := by decide +kernel
theorem d_P_divideBy_125 : decode c_P_divideBy 125 = .ok (.irem, 1) := by decide +kernel
theorem d_P_divideBy_126 : decode c_P_divideBy 126 = .ok (.iastore, 1) := by decide +kernel
theorem d_P_divideBy_127 : decode c_P_divideBy 127 = .ok (.iinc 6 1, 3) := by decide +kernel
theorem d_P_divideBy_130 : decode c_P_divideBy 130 = .ok (.goto (-53), 3) := by decide +kernel
theorem d_P_divideBy_133 : decode c_P_divideBy 133 = .ok (.iinc 4 (-1), 3) := by decide +kernel
theorem d_P_divideBy_136 : decode c_P_divideBy 136 = .ok (.goto (-87), 3) := by decide +kernel
theorem d_P_divideBy_139 : decode c_P_divideBy 139 = .ok (.aload_n 0, 1) := by decide +kernel
theorem d_P_divideBy_140 : decode c_P_divideBy 140 = .ok (.iload_n 3, 1) := by decide +kernel
theorem d_P_divideBy_141 : decode c_P_divideBy 141 = .ok (.iconst 1, 1) := by decide +kernel
theorem d_P_divideBy_142 : decode c_P_divideBy 142 = .ok (.isub, 1) := by decide +kernel
theorem d_P_divideBy_143 : decode c_P_divideBy 143 = .ok (.invokevirtual 33, 3) := by decide +kernel
theorem d_P_divideBy_146 : decode c_P_divideBy 146 = .ok (.return_, 1) := by decide +kernel
theorem d_P_isSame_0 : decode c_P_isSame 0 = .ok (.aload_n 0, 1) := by decide +kernel
theorem d_P_isSame_1 : decode c_P_isSame 1 = .ok (.getfield 9, 3) := by decide +kernel
theorem d_P_isSame_4 : decode c_P_isSame 4 = .ok (.aload_n 1, 1) := by decide +kernel
theorem d_P_isSame_5 : decode c_P_isSame 5 = .ok (.getfield 9, 3) := by decide +kernel
theorem d_P_isSame_8 : decode c_P_isSame 8 = .ok (.if_icmp .eq 5, 3) := by decide +kernel
theorem d_P_isSame_11 : decode c_P_isSame 11 = .ok (.iconst 0, 1) := by decide +kernel
theorem d_P_isSame_12 : decode c_P_isSame 12 = .ok (.ireturn, 1) := by decide +kernel
theorem d_P_isSame_13 : decode c_P_isSame 13 = .ok (.iconst 0, 1) := by decide +kernel
theorem d_P_isSame_14 : decode c_P_isSame 14 = .ok (.istore_n 2, 1) := by decide +kernel
theorem d_P_isSame_15 : decode c_P_isSame 15 = .ok (.iload_n 2, 1) := by decide +kernel
theorem d_P_isSame_16 : decode c_P_isSame 16 = .ok (.aload_n 0, 1) := by decide +kernel
theorem d_P_isSame_17 : decode c_P_isSame 17 = .ok (.getfield 9, 3) := by decide +kernel
theorem d_P_isSame_20 : decode c_P_isSame 20 = .ok (.if_icmp .gt 25, 3) := by decide +kernel
theorem d_P_isSame_23 : decode c_P_isSame 23 = .ok (.aload_n 0, 1) := by decide +kernel
theorem d_P_isSame_24 : decode c_P_isSame 24 = .ok (.getfield 15, 3) := by decide +kernel
theorem d_P_isSame_27 : decode c_P_isSame 27 = .ok (.iload_n 2, 1) := by decide +kernel
theorem d_P_isSame_28 : decode c_P_isSame 28 = .ok (.iaload, 1) := by decide +kernel
theorem d_P_isSame_29 : decode c_P_isSame 29 = .ok (.aload_n 1, 1) := by decide +kernel
theorem d_P_isSame_30 : decode c_P_isSame 30 = .ok (.iload_n 2, 1) := by decide +kernel
theorem d_P_isSame_31 : decode c_P_isSame 31 = .ok (.invokevirtual 19, 3) := by decide +kernel
theorem d_P_isSame_34 : decode c_P_isSame 34 = .ok (.if_icmp .eq 5, 3) := by decide +kernel
theorem d_P_isSame_37 : decode c_P_isSame 37 = .ok (.iconst 0, 1) := by decide +kernel
theorem d_P_isSame_38 : decode c_P_isSame 38 = .ok (.ireturn, 1) := by decide +kernel
theorem d_P_isSame_39 : decode c_P_isSame 39 = .ok (.iinc 2 1, 3) := by decide +kernel
theorem d_P_isSame_42 : decode c_P_isSame 42 = .ok (.goto (-27), 3) := by decide +kernel
theorem d_P_isSame_45 : decode c_P_isSame 45 = .ok (.iconst 1, 1) := by decide +kernel
theorem d_P_isSame_46 : decode c_P_isSame 46 = .ok (.ireturn, 1) := by decide +kernel
theorem d_P_valueAt_0 : decode c_P_valueAt 0 = .ok (.iconst 0, 1) := by decide +kernel
theorem d_P_valueAt_1 : decode c_P_valueAt 1 = .ok (.istore_n 2, 1) := by decide +kernel
theorem d_P_valueAt_2 : decode c_P_valueAt 2 = .ok (.aload_n 0, 1) := by decide +kernel
theorem d_P_valueAt_3 : decode c_P_valueAt 3 = .ok (.getfield 9, 3) := by decide +kernel
theorem d_P_valueAt_6 : decode c_P_valueAt 6 = .ok (.istore_n 3, 1) := by decide +kernel
theorem d_P_valueAt_7 : decode c_P_valueAt 7 = .ok (.iload_n 3, 1) := by decide +kernel
theorem d_P_valueAt_8 : decode c_P_valueAt 8 = .ok (.ifCond .lt 24, 3) := by decide +kernel
theorem d_P_valueAt_11 : decode c_P_valueAt 11 = .ok (.iload_n 2, 1) := by decide +kernel
theorem d_P_valueAt_12 : decode c_P_valueAt 12 = .ok (.iload_n 1, 1) := by decide +kernel
theorem d_P_valueAt_13 : decode c_P_valueAt 13 = .ok (.imul, 1) := by decide +kernel
theorem d_P_valueAt_14 : decode c_P_valueAt 14 = .ok (.aload_n 0, 1) := by decide +kernel
theorem d_P_valueAt_15 : decode c_P_valueAt 15 = .ok (.getfield 15, 3) := by decide +kernel
theorem d_P_valueAt_18 : decode c_P_valueAt 18 = .ok (.iload_n 3, 1) := by decide +kernel
theorem d_P_valueAt_19 : decode c_P_valueAt 19 = .ok (.iaload, 1) := by decide +kernel
theorem d_P_valueAt_20 : decode c_P_valueAt 20 = .ok (.iadd, 1) := by decide +kernel
theorem d_P_valueAt_21 : decode c_P_valueAt 21 = .ok (.sipush 10007, 3) := by decide +kernel
theorem d_P_valueAt_24 : decode c_P_valueAt 24 = .ok (.irem, 1) := by decide +kernel
theorem d_P_valueAt_25 : decode c_P_valueAt 25 = .ok (.istore_n 2, 1) := by decide +kernel
theorem d_P_valueAt_26 : decode c_P_valueAt 26 = .ok (.iinc 3 (-1), 3) := by decide +kernel
theorem d_P_valueAt_29 : decode c_P_valueAt 29 = .ok (.goto (-22), 3) := by decide +kernel
theorem d_P_valueAt_32 : decode c_P_valueAt 32 = .ok (.iload_n 2, 1) := by decide +kernel
theorem d_P_valueAt_33 : decode c_P_valueAt 33 = .ok (.ireturn, 1) := by decide +kernel
