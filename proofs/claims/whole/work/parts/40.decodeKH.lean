theorem d_L_init_0 : decode c_L_init 0 = .ok (.aload_n 0, 1) := by decide +kernel
theorem d_L_init_1 : decode c_L_init 1 = .ok (.invokespecial 3, 3) := by decide +kernel
theorem d_L_init_4 : decode c_L_init 4 = .ok (.aload_n 0, 1) := by decide +kernel
theorem d_L_init_5 : decode c_L_init 5 = .ok (.bipush 32, 2) := by decide +kernel
theorem d_L_init_7 : decode c_L_init 7 = .ok (.newarray .char, 2) := by decide +kernel
theorem d_L_init_9 : decode c_L_init 9 = .ok (.putfield 9, 3) := by decide +kernel
theorem d_L_init_12 : decode c_L_init 12 = .ok (.aload_n 0, 1) := by decide +kernel
theorem d_L_init_13 : decode c_L_init 13 = .ok (.iconst 0, 1) := by decide +kernel
theorem d_L_init_14 : decode c_L_init 14 = .ok (.putfield 15, 3) := by decide +kernel
theorem d_L_init_17 : decode c_L_init 17 = .ok (.return_, 1) := by decide +kernel
theorem d_G_init_0 : decode c_G_init 0 = .ok (.aload_n 0, 1) := by decide +kernel
theorem d_G_init_1 : decode c_G_init 1 = .ok (.invokespecial 3, 3) := by decide +kernel
theorem d_G_init_4 : decode c_G_init 4 = .ok (.aload_n 0, 1) := by decide +kernel
theorem d_G_init_5 : decode c_G_init 5 = .ok (.bipush 32, 2) := by decide +kernel
theorem d_G_init_7 : decode c_G_init 7 = .ok (.newarray .int, 2) := by decide +kernel
theorem d_G_init_9 : decode c_G_init 9 = .ok (.putfield 9, 3) := by decide +kernel
theorem d_G_init_12 : decode c_G_init 12 = .ok (.aload_n 0, 1) := by decide +kernel
theorem d_G_init_13 : decode c_G_init 13 = .ok (.bipush 32, 2) := by decide +kernel
theorem d_G_init_15 : decode c_G_init 15 = .ok (.newarray .int, 2) := by decide +kernel
theorem d_G_init_17 : decode c_G_init 17 = .ok (.putfield 15, 3) := by decide +kernel
theorem d_G_init_20 : decode c_G_init 20 = .ok (.aload_n 0, 1) := by decide +kernel
theorem d_G_init_21 : decode c_G_init 21 = .ok (.iconst 0, 1) := by decide +kernel
theorem d_G_init_22 : decode c_G_init 22 = .ok (.putfield 18, 3) := by decide +kernel
theorem d_G_init_25 : decode c_G_init 25 = .ok (.aload_n 0, 1) := by decide +kernel
theorem d_G_init_26 : decode c_G_init 26 = .ok (.iconst (-1), 1) := by decide +kernel
theorem d_G_init_27 : decode c_G_init 27 = .ok (.putfield 22, 3) := by decide +kernel
theorem d_G_init_30 : decode c_G_init 30 = .ok (.return_, 1) := by decide +kernel
theorem d_K_init_0 : decode c_K_init 0 = .ok (.aload_n 0, 1) := by decide +kernel
theorem d_K_init_1 : decode c_K_init 1 = .ok (.invokespecial 3, 3) := by decide +kernel
theorem d_K_init_4 : decode c_K_init 4 = .ok (.aload_n 0, 1) := by decide +kernel
theorem d_K_init_5 : decode c_K_init 5 = .ok (.new 9, 3) := by decide +kernel
theorem d_K_init_8 : decode c_K_init 8 = .ok (.dup, 1) := by decide +kernel
theorem d_K_init_9 : decode c_K_init 9 = .ok (.invokespecial 11, 3) := by decide +kernel
theorem d_K_init_12 : decode c_K_init 12 = .ok (.putfield 12, 3) := by decide +kernel
theorem d_K_init_15 : decode c_K_init 15 = .ok (.aload_n 0, 1) := by decide +kernel
theorem d_K_init_16 : decode c_K_init 16 = .ok (.bipush 16, 2) := by decide +kernel
theorem d_K_init_18 : decode c_K_init 18 = .ok (.anewarray 18, 3) := by decide +kernel
theorem d_K_init_21 : decode c_K_init 21 = .ok (.putfield 20, 3) := by decide +kernel
theorem d_K_init_24 : decode c_K_init 24 = .ok (.aload_n 0, 1) := by decide +kernel
theorem d_K_init_25 : decode c_K_init 25 = .ok (.iconst 0, 1) := by decide +kernel
theorem d_K_init_26 : decode c_K_init 26 = .ok (.putfield 24, 3) := by decide +kernel
theorem d_K_init_29 : decode c_K_init 29 = .ok (.iconst 0, 1) := by decide +kernel
theorem d_K_init_30 : decode c_K_init 30 = .ok (.istore_n 1, 1) := by decide +kernel
theorem d_K_init_31 : decode c_K_init 31 = .ok (.iload_n 1, 1) := by decide +kernel
theorem d_K_init_32 : decode c_K_init 32 = .ok (.bipush 16, 2) := by decide +kernel
theorem d_K_init_34 : decode c_K_init 34 = .ok (.if_icmp .ge 22, 3) := by decide +kernel
theorem d_K_init_37 : decode c_K_init 37 = .ok (.aload_n 0, 1) := by decide +kernel
theorem d_K_init_38 : decode c_K_init 38 = .ok (.getfield 20, 3) := by decide +kernel
theorem d_K_init_41 : decode c_K_init 41 = .ok (.iload_n 1, 1) := by decide +kernel
theorem d_K_init_42 : decode c_K_init 42 = .ok (.new 18, 3) := by decide +kernel
theorem d_K_init_45 : decode c_K_init 45 = .ok (.dup, 1) := by decide +kernel
theorem d_K_init_46 : decode c_K_init 46 = .ok (.invokespecial 28, 3) := by decide +kernel
theorem d_K_init_49 : decode c_K_init 49 = .ok (.aastore, 1) := by decide +kernel
theorem d_K_init_50 : decode c_K_init 50 = .ok (.iinc 1 1, 3) := by decide +kernel
theorem d_K_init_53 : decode c_K_init 53 = .ok (.goto (-22), 3) := by decide +kernel
theorem d_K_init_56 : decode c_K_init 56 = .ok (.return_, 1) := by decide +kernel
theorem d_H_init_0 : decode c_H_init 0 = .ok (.aload_n 0, 1) := by decide +kernel
theorem d_H_init_1 : decode c_H_init 1 = .ok (.invokespecial 3, 3) := by decide +kernel
theorem d_H_init_4 : decode c_H_init 4 = .ok (.aload_n 0, 1) := by decide +kernel
theorem d_H_init_5 : decode c_H_init 5 = .ok (.bipush 40, 2) := by decide +kernel
theorem d_H_init_7 : decode c_H_init 7 = .ok (.anewarray 9, 3) := by decide +kernel
theorem d_H_init_10 : decode c_H_init 10 = .ok (.putfield 11, 3) := by decide +kernel
theorem d_H_init_13 : decode c_H_init 13 = .ok (.aload_n 0, 1) := by decide +kernel
theorem d_H_init_14 : decode c_H_init 14 = .ok (.bipush 40, 2) := by decide +kernel
theorem d_H_init_16 : decode c_H_init 16 = .ok (.newarray .int, 2) := by decide +kernel
theorem d_H_init_18 : decode c_H_init 18 = .ok (.putfield 17, 3) := by decide +kernel
theorem d_H_init_21 : decode c_H_init 21 = .ok (.aload_n 0, 1) := by decide +kernel
theorem d_H_init_22 : decode c_H_init 22 = .ok (.iconst 3, 1) := by decide +kernel
theorem d_H_init_23 : decode c_H_init 23 = .ok (.newarray .int, 2) := by decide +kernel
theorem d_H_init_25 : decode c_H_init 25 = .ok (.putfield 21, 3) := by decide +kernel
theorem d_H_init_28 : decode c_H_init 28 = .ok (.aload_n 0, 1) := by decide +kernel
theorem d_H_init_29 : decode c_H_init 29 = .ok (.iconst 0, 1) := by decide +kernel
theorem d_H_init_30 : decode c_H_init 30 = .ok (.putfield 24, 3) := by decide +kernel
theorem d_H_init_33 : decode c_H_init 33 = .ok (.aload_n 0, 1) := by decide +kernel
theorem d_H_init_34 : decode c_H_init 34 = .ok (.iconst 0, 1) := by decide +kernel
theorem d_H_init_35 : decode c_H_init 35 = .ok (.putfield 28, 3) := by decide +kernel
theorem d_H_init_38 : decode c_H_init 38 = .ok (.iconst 0, 1) := by decide +kernel
theorem d_H_init_39 : decode c_H_init 39 = .ok (.istore_n 1, 1) := by decide +kernel
theorem d_H_init_40 : decode c_H_init 40 = .ok (.iload_n 1, 1) := by decide +kernel
theorem d_H_init_41 : decode c_H_init 41 = .ok (.bipush 40, 2) := by decide +kernel
theorem d_H_init_43 : decode c_H_init 43 = .ok (.if_icmp .ge 22, 3) := by decide +kernel
theorem d_H_init_46 : decode c_H_init 46 = .ok (.aload_n 0, 1) := by decide +kernel
theorem d_H_init_47 : decode c_H_init 47 = .ok (.getfield 11, 3) := by decide +kernel
theorem d_H_init_50 : decode c_H_init 50 = .ok (.iload_n 1, 1) := by decide +kernel
theorem d_H_init_51 : decode c_H_init 51 = .ok (.new 9, 3) := by decide +kernel
theorem d_H_init_54 : decode c_H_init 54 = .ok (.dup, 1) := by decide +kernel
theorem d_H_init_55 : decode c_H_init 55 = .ok (.invokespecial 31, 3) := by decide +kernel
theorem d_H_init_58 : decode c_H_init 58 = .ok (.aastore, 1) := by decide +kernel
theorem d_H_init_59 : decode c_H_init 59 = .ok (.iinc 1 1, 3) := by decide +kernel
theorem d_H_init_62 : decode c_H_init 62 = .ok (.goto (-22), 3) := by decide +kernel
theorem d_H_init_65 : decode c_H_init 65 = .ok (.return_, 1) := by decide +kernel
theorem d_L_mayHold_0 : decode c_L_mayHold 0 = .ok (.iload_n 0, 1) := by decide +kernel
theorem d_L_mayHold_1 : decode c_L_mayHold 1 = .ok (.ifCond .le 24, 3) := by decide +kernel
theorem d_L_mayHold_4 : decode c_L_mayHold 4 = .ok (.iload_n 0, 1) := by decide +kernel
theorem d_L_mayHold_5 : decode c_L_mayHold 5 = .ok (.sipush 128, 3) := by decide +kernel
theorem d_L_mayHold_8 : decode c_L_mayHold 8 = .ok (.if_icmp .ge 17, 3) := by decide +kernel
theorem d_L_mayHold_11 : decode c_L_mayHold 11 = .ok (.ldc 19, 2) := by decide +kernel
theorem d_L_mayHold_13 : decode c_L_mayHold 13 = .ok (.iload_n 0, 1) := by decide +kernel
theorem d_L_mayHold_14 : decode c_L_mayHold 14 = .ok (.i2c, 1) := by decide +kernel
theorem d_L_mayHold_15 : decode c_L_mayHold 15 = .ok (.invokevirtual 21, 3) := by decide +kernel
theorem d_L_mayHold_18 : decode c_L_mayHold 18 = .ok (.ifCond .lt 7, 3) := by decide +kernel
theorem d_L_mayHold_21 : decode c_L_mayHold 21 = .ok (.iconst 1, 1) := by decide +kernel
theorem d_L_mayHold_22 : decode c_L_mayHold 22 = .ok (.goto 4, 3) := by decide +kernel
theorem d_L_mayHold_25 : decode c_L_mayHold 25 = .ok (.iconst 0, 1) := by decide +kernel
theorem d_L_mayHold_26 : decode c_L_mayHold 26 = .ok (.ireturn, 1) := by decide +kernel
theorem d_L_add_0 : decode c_L_add 0 = .ok (.aload_n 0, 1) := by decide +kernel
theorem d_L_add_1 : decode c_L_add 1 = .ok (.getfield 15, 3) := by decide +kernel
theorem d_L_add_4 : decode c_L_add 4 = .ok (.bipush 32, 2) := by decide +kernel
theorem d_L_add_6 : decode c_L_add 6 = .ok (.if_icmp .lt 5, 3) := by decide +kernel
theorem d_L_add_9 : decode c_L_add 9 = .ok (.iconst 0, 1) := by decide +kernel
theorem d_L_add_10 : decode c_L_add 10 = .ok (.ireturn, 1) := by decide +kernel
theorem d_L_add_11 : decode c_L_add 11 = .ok (.aload_n 0, 1) := by decide +kernel
theorem d_L_add_12 : decode c_L_add 12 = .ok (.getfield 9, 3) := by decide +kernel
theorem d_L_add_15 : decode c_L_add 15 = .ok (.aload_n 0, 1) := by decide +kernel
theorem d_L_add_16 : decode c_L_add 16 = .ok (.getfield 15, 3) := by decide +kernel
theorem d_L_add_19 : decode c_L_add 19 = .ok (.iload_n 1, 1) := by decide +kernel
theorem d_L_add_20 : decode c_L_add 20 = .ok (.castore, 1) := by decide +kernel
theorem d_L_add_21 : decode c_L_add 21 = .ok (.aload_n 0, 1) := by decide +kernel
theorem d_L_add_22 : decode c_L_add 22 = .ok (.dup, 1) := by decide +kernel
theorem d_L_add_23 : decode c_L_add 23 = .ok (.getfield 15, 3) := by decide +kernel
theorem d_L_add_26 : decode c_L_add 26 = .ok (.iconst 1, 1) := by decide +kernel
theorem d_L_add_27 : decode c_L_add 27 = .ok (.iadd, 1) := by decide +kernel
theorem d_L_add_28 : decode c_L_add 28 = .ok (.putfield 15, 3) := by decide +kernel
theorem d_L_add_31 : decode c_L_add 31 = .ok (.iconst 1, 1) := by decide +kernel
theorem d_L_add_32 : decode c_L_add 32 = .ok (.ireturn, 1) := by decide +kernel
theorem d_L_dropLast_0 : decode c_L_dropLast 0 = .ok (.aload_n 0, 1) := by decide +kernel
theorem d_L_dropLast_1 : decode c_L_dropLast 1 = .ok (.getfield 15, 3) := by decide +kernel
theorem d_L_dropLast_4 : decode c_L_dropLast 4 = .ok (.ifCond .ne 5, 3) := by decide +kernel
theorem d_L_dropLast_7 : decode c_L_dropLast 7 = .ok (.iconst 0, 1) := by decide +kernel
theorem d_L_dropLast_8 : decode c_L_dropLast 8 = .ok (.ireturn, 1) := by decide +kernel
theorem d_L_dropLast_9 : decode c_L_dropLast 9 = .ok (.aload_n 0, 1) := by decide +kernel
theorem d_L_dropLast_10 : decode c_L_dropLast 10 = .ok (.dup, 1) := by decide +kernel
theorem d_L_dropLast_11 : decode c_L_dropLast 11 = .ok (.getfield 15, 3) := by decide +kernel
theorem d_L_dropLast_14 : decode c_L_dropLast 14 = .ok (.iconst 1, 1) := by decide +kernel
theorem d_L_dropLast_15 : decode c_L_dropLast 15 = .ok (.isub, 1) := by decide +kernel
theorem d_L_dropLast_16 : decode c_L_dropLast 16 = .ok (.putfield 15, 3) := by decide +kernel
theorem d_L_dropLast_19 : decode c_L_dropLast 19 = .ok (.iconst 1, 1) := by decide +kernel
theorem d_L_dropLast_20 : decode c_L_dropLast 20 = .ok (.ireturn, 1) := by decide +kernel
theorem d_G_clear_0 : decode c_G_clear 0 = .ok (.aload_n 0, 1) := by decide +kernel
theorem d_G_clear_1 : decode c_G_clear 1 = .ok (.iconst 0, 1) := by decide +kernel
theorem d_G_clear_2 : decode c_G_clear 2 = .ok (.putfield 18, 3) := by decide +kernel
theorem d_G_clear_5 : decode c_G_clear 5 = .ok (.aload_n 0, 1) := by decide +kernel
theorem d_G_clear_6 : decode c_G_clear 6 = .ok (.iconst (-1), 1) := by decide +kernel
theorem d_G_clear_7 : decode c_G_clear 7 = .ok (.putfield 22, 3) := by decide +kernel
theorem d_G_clear_10 : decode c_G_clear 10 = .ok (.return_, 1) := by decide +kernel
theorem d_L_at_0 : decode c_L_at 0 = .ok (.iload_n 1, 1) := by decide +kernel
theorem d_L_at_1 : decode c_L_at 1 = .ok (.ifCond .lt 20, 3) := by decide +kernel
theorem d_L_at_4 : decode c_L_at 4 = .ok (.iload_n 1, 1) := by decide +kernel
theorem d_L_at_5 : decode c_L_at 5 = .ok (.aload_n 0, 1) := by decide +kernel
theorem d_L_at_6 : decode c_L_at 6 = .ok (.getfield 15, 3) := by decide +kernel
theorem d_L_at_9 : decode c_L_at 9 = .ok (.if_icmp .ge 12, 3) := by decide +kernel
theorem d_L_at_12 : decode c_L_at 12 = .ok (.aload_n 0, 1) := by decide +kernel
theorem d_L_at_13 : decode c_L_at 13 = .ok (.getfield 9, 3) := by decide +kernel
theorem d_L_at_16 : decode c_L_at 16 = .ok (.iload_n 1, 1) := by decide +kernel
theorem d_L_at_17 : decode c_L_at 17 = .ok (.caload, 1) := by decide +kernel
theorem d_L_at_18 : decode c_L_at 18 = .ok (.goto 4, 3) := by decide +kernel
theorem d_L_at_21 : decode c_L_at 21 = .ok (.iconst 0, 1) := by decide +kernel
theorem d_L_at_22 : decode c_L_at 22 = .ok (.ireturn, 1) := by decide +kernel
theorem d_G_add_0 : decode c_G_add 0 = .ok (.aload_n 0, 1) := by decide +kernel
theorem d_G_add_1 : decode c_G_add 1 = .ok (.getfield 18, 3) := by decide +kernel
theorem d_G_add_4 : decode c_G_add 4 = .ok (.bipush 32, 2) := by decide +kernel
theorem d_G_add_6 : decode c_G_add 6 = .ok (.if_icmp .ge 33, 3) := by decide +kernel
theorem d_G_add_9 : decode c_G_add 9 = .ok (.aload_n 0, 1) := by decide +kernel
theorem d_G_add_10 : decode c_G_add 10 = .ok (.getfield 9, 3) := by decide +kernel
theorem d_G_add_13 : decode c_G_add 13 = .ok (.aload_n 0, 1) := by decide +kernel
theorem d_G_add_14 : decode c_G_add 14 = .ok (.getfield 18, 3) := by decide +kernel
theorem d_G_add_17 : decode c_G_add 17 = .ok (.iload_n 1, 1) := by decide +kernel
theorem d_G_add_18 : decode c_G_add 18 = .ok (.iastore, 1) := by decide +kernel
theorem d_G_add_19 : decode c_G_add 19 = .ok (.aload_n 0, 1) := by decide +kernel
theorem d_G_add_20 : decode c_G_add 20 = .ok (.getfield 15, 3) := by decide +kernel
theorem d_G_add_23 : decode c_G_add 23 = .ok (.aload_n 0, 1) := by decide +kernel
theorem d_G_add_24 : decode c_G_add 24 = .ok (.getfield 18, 3) := by decide +kernel
theorem d_G_add_27 : decode c_G_add 27 = .ok (.iload_n 2, 1) := by decide +kernel
theorem d_G_add_28 : decode c_G_add 28 = .ok (.iastore, 1) := by decide +kernel
theorem d_G_add_29 : decode c_G_add 29 = .ok (.aload_n 0, 1) := by decide +kernel
theorem d_G_add_30 : decode c_G_add 30 = .ok (.dup, 1) := by decide +kernel
theorem d_G_add_31 : decode c_G_add 31 = .ok (.getfield 18, 3) := by decide +kernel
theorem d_G_add_34 : decode c_G_add 34 = .ok (.iconst 1, 1) := by decide +kernel
theorem d_G_add_35 : decode c_G_add 35 = .ok (.iadd, 1) := by decide +kernel
theorem d_G_add_36 : decode c_G_add 36 = .ok (.putfield 18, 3) := by decide +kernel
theorem d_G_add_39 : decode c_G_add 39 = .ok (.return_, 1) := by decide +kernel
theorem d_L_clear_0 : decode c_L_clear 0 = .ok (.aload_n 0, 1) := by decide +kernel
theorem d_L_clear_1 : decode c_L_clear 1 = .ok (.iconst 0, 1) := by decide +kernel
theorem d_L_clear_2 : decode c_L_clear 2 = .ok (.putfield 15, 3) := by decide +kernel
theorem d_L_clear_5 : decode c_L_clear 5 = .ok (.return_, 1) := by decide +kernel
theorem d_H_isFull_0 : decode c_H_isFull 0 = .ok (.aload_n 0, 1) := by decide +kernel
theorem d_H_isFull_1 : decode c_H_isFull 1 = .ok (.getfield 24, 3) := by decide +kernel
theorem d_H_isFull_4 : decode c_H_isFull 4 = .ok (.bipush 40, 2) := by decide +kernel
theorem d_H_isFull_6 : decode c_H_isFull 6 = .ok (.if_icmp .lt 7, 3) := by decide +kernel
theorem d_H_isFull_9 : decode c_H_isFull 9 = .ok (.iconst 1, 1) := by decide +kernel
theorem d_H_isFull_10 : decode c_H_isFull 10 = .ok (.goto 4, 3) := by decide +kernel
theorem d_H_isFull_13 : decode c_H_isFull 13 = .ok (.iconst 0, 1) := by decide +kernel
theorem d_H_isFull_14 : decode c_H_isFull 14 = .ok (.ireturn, 1) := by decide +kernel
theorem d_K_run_0 : decode c_K_run 0 = .ok (.iconst 0, 1) := by decide +kernel
theorem d_K_run_1 : decode c_K_run 1 = .ok (.istore_n 3, 1) := by decide +kernel
theorem d_K_run_2 : decode c_K_run 2 = .ok (.aload_n 0, 1) := by decide +kernel
theorem d_K_run_3 : decode c_K_run 3 = .ok (.iconst 0, 1) := by decide +kernel
theorem d_K_run_4 : decode c_K_run 4 = .ok (.putfield 24, 3) := by decide +kernel
theorem d_K_run_7 : decode c_K_run 7 = .ok (.iconst 0, 1) := by decide +kernel
theorem d_K_run_8 : decode c_K_run 8 = .ok (.istore 4, 2) := by decide +kernel
theorem d_K_run_10 : decode c_K_run 10 = .ok (.iload 4, 2) := by decide +kernel
theorem d_K_run_12 : decode c_K_run 12 = .ok (.aload_n 1, 1) := by decide +kernel
theorem d_K_run_13 : decode c_K_run 13 = .ok (.getfield 29, 3) := by decide +kernel
theorem d_K_run_16 : decode c_K_run 16 = .ok (.if_icmp .ge 62, 3) := by decide +kernel
theorem d_K_run_19 : decode c_K_run 19 = .ok (.iload_n 3, 1) := by decide +kernel
theorem d_K_run_20 : decode c_K_run 20 = .ok (.ifCond .ne 58, 3) := by decide +kernel
theorem d_K_run_23 : decode c_K_run 23 = .ok (.aload_n 1, 1) := by decide +kernel
theorem d_K_run_24 : decode c_K_run 24 = .ok (.getfield 34, 3) := by decide +kernel
theorem d_K_run_27 : decode c_K_run 27 = .ok (.iload 4, 2) := by decide +kernel
theorem d_K_run_29 : decode c_K_run 29 = .ok (.iaload, 1) := by decide +kernel
theorem d_K_run_30 : decode c_K_run 30 = .ok (.istore 5, 2) := by decide +kernel
theorem d_K_run_32 : decode c_K_run 32 = .ok (.iload 5, 2) := by decide +kernel
theorem d_K_run_34 : decode c_K_run 34 = .ok (.invokestatic 38, 3) := by decide +kernel
theorem d_K_run_37 : decode c_K_run 37 = .ok (.ifCond .eq 21, 3) := by decide +kernel
theorem d_K_run_40 : decode c_K_run 40 = .ok (.aload_n 0, 1) := by decide +kernel
theorem d_K_run_41 : decode c_K_run 41 = .ok (.iload 5, 2) := by decide +kernel
theorem d_K_run_43 : decode c_K_run 43 = .ok (.aload_n 1, 1) := by decide +kernel
theorem d_K_run_44 : decode c_K_run 44 = .ok (.getfield 42, 3) := by decide +kernel
theorem d_K_run_47 : decode c_K_run 47 = .ok (.iload 4, 2) := by decide +kernel
theorem d_K_run_49 : decode c_K_run 49 = .ok (.iaload, 1) := by decide +kernel
theorem d_K_run_50 : decode c_K_run 50 = .ok (.aload_n 2, 1) := by decide +kernel
theorem d_K_run_51 : decode c_K_run 51 = .ok (.invokevirtual 45, 3) := by decide +kernel
theorem d_K_run_54 : decode c_K_run 54 = .ok (.istore_n 3, 1) := by decide +kernel
theorem d_K_run_55 : decode c_K_run 55 = .ok (.goto 17, 3) := by decide +kernel
theorem d_K_run_58 : decode c_K_run 58 = .ok (.aload_n 0, 1) := by decide +kernel
theorem d_K_run_59 : decode c_K_run 59 = .ok (.iload 5, 2) := by decide +kernel
theorem d_K_run_61 : decode c_K_run 61 = .ok (.aload_n 1, 1) := by decide +kernel
theorem d_K_run_62 : decode c_K_run 62 = .ok (.getfield 42, 3) := by decide +kernel
theorem d_K_run_65 : decode c_K_run 65 = .ok (.iload 4, 2) := by decide +kernel
theorem d_K_run_67 : decode c_K_run 67 = .ok (.iaload, 1) := by decide +kernel
theorem d_K_run_68 : decode c_K_run 68 = .ok (.invokevirtual 49, 3) := by decide +kernel
theorem d_K_run_71 : decode c_K_run 71 = .ok (.istore_n 3, 1) := by decide +kernel
theorem d_K_run_72 : decode c_K_run 72 = .ok (.iinc 4 1, 3) := by decide +kernel
theorem d_K_run_75 : decode c_K_run 75 = .ok (.goto (-65), 3) := by decide +kernel
theorem d_K_run_78 : decode c_K_run 78 = .ok (.iload_n 3, 1) := by decide +kernel
theorem d_K_run_79 : decode c_K_run 79 = .ok (.ireturn, 1) := by decide +kernel
theorem d_G_loads_0 : decode c_G_loads 0 = .ok (.iload_n 0, 1) := by decide +kernel
theorem d_G_loads_1 : decode c_G_loads 1 = .ok (.iconst 4, 1) := by decide +kernel
theorem d_G_loads_2 : decode c_G_loads 2 = .ok (.if_icmp .gt 7, 3) := by decide +kernel
theorem d_G_loads_5 : decode c_G_loads 5 = .ok (.iconst 1, 1) := by decide +kernel
theorem d_G_loads_6 : decode c_G_loads 6 = .ok (.goto 4, 3) := by decide +kernel
theorem d_G_loads_9 : decode c_G_loads 9 = .ok (.iconst 0, 1) := by decide +kernel
theorem d_G_loads_10 : decode c_G_loads 10 = .ok (.ireturn, 1) := by decide +kernel
theorem d_K_load_0 : decode c_K_load 0 = .ok (.aload_n 0, 1) := by decide +kernel
theorem d_K_load_1 : decode c_K_load 1 = .ok (.getfield 24, 3) := by decide +kernel
theorem d_K_load_4 : decode c_K_load 4 = .ok (.bipush 16, 2) := by decide +kernel
theorem d_K_load_6 : decode c_K_load 6 = .ok (.if_icmp .lt 6, 3) := by decide +kernel
theorem d_K_load_9 : decode c_K_load 9 = .ok (.bipush (-6), 2) := by decide +kernel
theorem d_K_load_11 : decode c_K_load 11 = .ok (.ireturn, 1) := by decide +kernel
theorem d_K_load_12 : decode c_K_load 12 = .ok (.aload_n 0, 1) := by decide +kernel
theorem d_K_load_13 : decode c_K_load 13 = .ok (.getfield 20, 3) := by decide +kernel
theorem d_K_load_16 : decode c_K_load 16 = .ok (.aload_n 0, 1) := by decide +kernel
theorem d_K_load_17 : decode c_K_load 17 = .ok (.getfield 24, 3) := by decide +kernel
theorem d_K_load_20 : decode c_K_load 20 = .ok (.aaload, 1) := by decide +kernel
theorem d_K_load_21 : decode c_K_load 21 = .ok (.astore 4, 2) := by decide +kernel
theorem d_K_load_23 : decode c_K_load 23 = .ok (.aload_n 0, 1) := by decide +kernel
theorem d_K_load_24 : decode c_K_load 24 = .ok (.dup, 1) := by decide +kernel
theorem d_K_load_25 : decode c_K_load 25 = .ok (.getfield 24, 3) := by decide +kernel
theorem d_K_load_28 : decode c_K_load 28 = .ok (.iconst 1, 1) := by decide +kernel
theorem d_K_load_29 : decode c_K_load 29 = .ok (.iadd, 1) := by decide +kernel
theorem d_K_load_30 : decode c_K_load 30 = .ok (.putfield 24, 3) := by decide +kernel
theorem d_K_load_33 : decode c_K_load 33 = .ok (.iload_n 1, 1) := by decide +kernel
theorem d_K_load_34 : decode c_K_load 34 = .ok (.iconst 1, 1) := by decide +kernel
theorem d_K_load_35 : decode c_K_load 35 = .ok (.if_icmp .ne 16, 3) := by decide +kernel
theorem d_K_load_38 : decode c_K_load 38 = .ok (.aload 4, 2) := by decide +kernel
theorem d_K_load_40 : decode c_K_load 40 = .ok (.iload_n 2, 1) := by decide +kernel
theorem d_K_load_41 : decode c_K_load 41 = .ok (.sipush 10007, 3) := by decide +kernel
theorem d_K_load_44 : decode c_K_load 44 = .ok (.irem, 1) := by decide +kernel
theorem d_K_load_45 : decode c_K_load 45 = .ok (.invokevirtual 53, 3) := by decide +kernel
theorem d_K_load_48 : decode c_K_load 48 = .ok (.goto 51, 3) := by decide +kernel
theorem d_K_load_51 : decode c_K_load 51 = .ok (.iload_n 1, 1) := by decide +kernel
theorem d_K_load_52 : decode c_K_load 52 = .ok (.iconst 2, 1) := by decide +kernel
theorem d_K_load_53 : decode c_K_load 53 = .ok (.if_icmp .ne 11, 3) := by decide +kernel
theorem d_K_load_56 : decode c_K_load 56 = .ok (.aload 4, 2) := by decide +kernel
theorem d_K_load_58 : decode c_K_load 58 = .ok (.invokevirtual 57, 3) := by decide +kernel
theorem d_K_load_61 : decode c_K_load 61 = .ok (.goto 38, 3) := by decide +kernel
theorem d_K_load_64 : decode c_K_load 64 = .ok (.aload_n 3, 1) := by decide +kernel
theorem d_K_load_65 : decode c_K_load 65 = .ok (.iload_n 1, 1) := by decide +kernel
theorem d_K_load_66 : decode c_K_load 66 = .ok (.iconst 3, 1) := by decide +kernel
theorem d_K_load_67 : decode c_K_load 67 = .ok (.if_icmp .ne 11, 3) := by decide +kernel
theorem d_K_load_70 : decode c_K_load 70 = .ok (.aload_n 3, 1) := by decide +kernel
theorem d_K_load_71 : decode c_K_load 71 = .ok (.iload_n 2, 1) := by decide +kernel
theorem d_K_load_72 : decode c_K_load 72 = .ok (.invokevirtual 60, 3) := by decide +kernel
theorem d_K_load_75 : decode c_K_load 75 = .ok (.goto 4, 3) := by decide +kernel
theorem d_K_load_78 : decode c_K_load 78 = .ok (.iload_n 2, 1) := by decide +kernel
theorem d_K_load_79 : decode c_K_load 79 = .ok (.invokevirtual 66, 3) := by decide +kernel
theorem d_K_load_82 : decode c_K_load 82 = .ok (.astore 5, 2) := by decide +kernel
theorem d_K_load_84 : decode c_K_load 84 = .ok (.aload 5, 2) := by decide +kernel
theorem d_K_load_86 : decode c_K_load 86 = .ok (.ifnonnull 6, 3) := by decide +kernel
theorem d_K_load_89 : decode c_K_load 89 = .ok (.bipush (-4), 2) := by decide +kernel
theorem d_K_load_91 : decode c_K_load 91 = .ok (.ireturn, 1) := by decide +kernel
theorem d_K_load_92 : decode c_K_load 92 = .ok (.aload 4, 2) := by decide +kernel
theorem d_K_load_94 : decode c_K_load 94 = .ok (.aload 5, 2) := by decide +kernel
theorem d_K_load_96 : decode c_K_load 96 = .ok (.invokevirtual 70, 3) := by decide +kernel
theorem d_K_load_99 : decode c_K_load 99 = .ok (.iconst 0, 1) := by decide +kernel
theorem d_K_load_100 : decode c_K_load 100 = .ok (.ireturn, 1) := by decide +kernel
theorem d_H_labelBoundTo_0 : decode c_H_labelBoundTo 0 = .ok (.iload_n 1, 1) := by decide +kernel
theorem d_H_labelBoundTo_1 : decode c_H_labelBoundTo 1 = .ok (.ifCond .lt 17, 3) := by decide +kernel
theorem d_H_labelBoundTo_4 : decode c_H_labelBoundTo 4 = .ok (.iload_n 1, 1) := by decide +kernel
theorem d_H_labelBoundTo_5 : decode c_H_labelBoundTo 5 = .ok (.iconst 3, 1) := by decide +kernel
theorem d_H_labelBoundTo_6 : decode c_H_labelBoundTo 6 = .ok (.if_icmp .ge 12, 3) := by decide +kernel
theorem d_H_labelBoundTo_9 : decode c_H_labelBoundTo 9 = .ok (.aload_n 0, 1) := by decide +kernel
theorem d_H_labelBoundTo_10 : decode c_H_labelBoundTo 10 = .ok (.getfield 21, 3) := by decide +kernel
theorem d_H_labelBoundTo_13 : decode c_H_labelBoundTo 13 = .ok (.iload_n 1, 1) := by decide +kernel
theorem d_H_labelBoundTo_14 : decode c_H_labelBoundTo 14 = .ok (.iaload, 1) := by decide +kernel
theorem d_H_labelBoundTo_15 : decode c_H_labelBoundTo 15 = .ok (.goto 4, 3) := by decide +kernel
theorem d_H_labelBoundTo_18 : decode c_H_labelBoundTo 18 = .ok (.iconst 0, 1) := by decide +kernel
theorem d_H_labelBoundTo_19 : decode c_H_labelBoundTo 19 = .ok (.ireturn, 1) := by decide +kernel
theorem d_H_find_0 : decode c_H_find 0 = .ok (.iload_n 1, 1) := by decide +kernel
theorem d_H_find_1 : decode c_H_find 1 = .ok (.iconst 1, 1) := by decide +kernel
theorem d_H_find_2 : decode c_H_find 2 = .ok (.if_icmp .lt 22, 3) := by decide +kernel
theorem d_H_find_5 : decode c_H_find 5 = .ok (.iload_n 1, 1) := by decide +kernel
theorem d_H_find_6 : decode c_H_find 6 = .ok (.aload_n 0, 1) := by decide +kernel
theorem d_H_find_7 : decode c_H_find 7 = .ok (.getfield 24, 3) := by decide +kernel
theorem d_H_find_10 : decode c_H_find 10 = .ok (.if_icmp .gt 14, 3) := by decide +kernel
theorem d_H_find_13 : decode c_H_find 13 = .ok (.aload_n 0, 1) := by decide +kernel
theorem d_H_find_14 : decode c_H_find 14 = .ok (.getfield 11, 3) := by decide +kernel
theorem d_H_find_17 : decode c_H_find 17 = .ok (.iload_n 1, 1) := by decide +kernel
theorem d_H_find_18 : decode c_H_find 18 = .ok (.iconst 1, 1) := by decide +kernel
theorem d_H_find_19 : decode c_H_find 19 = .ok (.isub, 1) := by decide +kernel
theorem d_H_find_20 : decode c_H_find 20 = .ok (.aaload, 1) := by decide +kernel
theorem d_H_find_21 : decode c_H_find 21 = .ok (.goto 4, 3) := by decide +kernel
theorem d_H_find_24 : decode c_H_find 24 = .ok (.aconst_null, 1) := by decide +kernel
theorem d_H_find_25 : decode c_H_find 25 = .ok (.areturn, 1) := by decide +kernel
theorem d_K_operate_0 : decode c_K_operate 0 = .ok (.iload_n 1, 1) := by decide +kernel
theorem d_K_operate_1 : decode c_K_operate 1 = .ok (.invokestatic 74, 3) := by decide +kernel
theorem d_K_operate_4 : decode c_K_operate 4 = .ok (.ifCond .eq 7, 3) := by decide +kernel
theorem d_K_operate_7 : decode c_K_operate 7 = .ok (.iconst 2, 1) := by decide +kernel
theorem d_K_operate_8 : decode c_K_operate 8 = .ok (.goto 4, 3) := by decide +kernel
theorem d_K_operate_11 : decode c_K_operate 11 = .ok (.iconst 1, 1) := by decide +kernel
theorem d_K_operate_12 : decode c_K_operate 12 = .ok (.istore_n 3, 1) := by decide +kernel
theorem d_K_operate_13 : decode c_K_operate 13 = .ok (.aload_n 0, 1) := by decide +kernel
theorem d_K_operate_14 : decode c_K_operate 14 = .ok (.getfield 24, 3) := by decide +kernel
theorem d_K_operate_17 : decode c_K_operate 17 = .ok (.iload_n 3, 1) := by decide +kernel
theorem d_K_operate_18 : decode c_K_operate 18 = .ok (.if_icmp .ge 6, 3) := by decide +kernel
theorem d_K_operate_21 : decode c_K_operate 21 = .ok (.bipush (-6), 2) := by decide +kernel
theorem d_K_operate_23 : decode c_K_operate 23 = .ok (.ireturn, 1) := by decide +kernel
theorem d_K_operate_24 : decode c_K_operate 24 = .ok (.aload_n 0, 1) := by decide +kernel
theorem d_K_operate_25 : decode c_K_operate 25 = .ok (.getfield 20, 3) := by decide +kernel
theorem d_K_operate_28 : decode c_K_operate 28 = .ok (.aload_n 0, 1) := by decide +kernel
theorem d_K_operate_29 : decode c_K_operate 29 = .ok (.getfield 24, 3) := by decide +kernel
theorem d_K_operate_32 : decode c_K_operate 32 = .ok (.iconst 1, 1) := by decide +kernel
theorem d_K_operate_33 : decode c_K_operate 33 = .ok (.isub, 1) := by decide +kernel
theorem d_K_operate_34 : decode c_K_operate 34 = .ok (.aaload, 1) := by decide +kernel
theorem d_K_operate_35 : decode c_K_operate 35 = .ok (.astore 4, 2) := by decide +kernel
theorem d_K_operate_37 : decode c_K_operate 37 = .ok (.aload_n 0, 1) := by decide +kernel
theorem d_K_operate_38 : decode c_K_operate 38 = .ok (.getfield 20, 3) := by decide +kernel
theorem d_K_operate_41 : decode c_K_operate 41 = .ok (.aload_n 0, 1) := by decide +kernel
theorem d_K_operate_42 : decode c_K_operate 42 = .ok (.getfield 24, 3) := by decide +kernel
theorem d_K_operate_45 : decode c_K_operate 45 = .ok (.iload_n 3, 1) := by decide +kernel
theorem d_K_operate_46 : decode c_K_operate 46 = .ok (.isub, 1) := by decide +kernel
theorem d_K_operate_47 : decode c_K_operate 47 = .ok (.aaload, 1) := by decide +kernel
theorem d_K_operate_48 : decode c_K_operate 48 = .ok (.astore 5, 2) := by decide +kernel
theorem d_K_operate_50 : decode c_K_operate 50 = .ok (.aload_n 0, 1) := by decide +kernel
theorem d_K_operate_51 : decode c_K_operate 51 = .ok (.aload_n 0, 1) := by decide +kernel
theorem d_K_operate_52 : decode c_K_operate 52 = .ok (.getfield 24, 3) := by decide +kernel
theorem d_K_operate_55 : decode c_K_operate 55 = .ok (.iload_n 3, 1) := by decide +kernel
theorem d_K_operate_56 : decode c_K_operate 56 = .ok (.isub, 1) := by decide +kernel
theorem d_K_operate_57 : decode c_K_operate 57 = .ok (.iconst 1, 1) := by decide +kernel
theorem d_K_operate_58 : decode c_K_operate 58 = .ok (.iadd, 1) := by decide +kernel
theorem d_K_operate_59 : decode c_K_operate 59 = .ok (.putfield 24, 3) := by decide +kernel
theorem d_K_operate_62 : decode c_K_operate 62 = .ok (.iconst 0, 1) := by decide +kernel
theorem d_K_operate_63 : decode c_K_operate 63 = .ok (.istore 6, 2) := by decide +kernel
theorem d_K_operate_65 : decode c_K_operate 65 = .ok (.iload_n 1, 1) := by decide +kernel
theorem d_K_operate_66 : decode c_K_operate 66 = .ok (.tableswitch 151 5 12 #[124, 151, 139, 46, 61, 78, 92, 108], 46) := by decide +kernel
theorem d_K_operate_112 : decode c_K_operate 112 = .ok (.aload_n 0, 1) := by decide +kernel
theorem d_K_operate_113 : decode c_K_operate 113 = .ok (.getfield 12, 3) := by decide +kernel
theorem d_K_operate_116 : decode c_K_operate 116 = .ok (.aload 5, 2) := by decide +kernel
theorem d_K_operate_118 : decode c_K_operate 118 = .ok (.aload 4, 2) := by decide +kernel
theorem d_K_operate_120 : decode c_K_operate 120 = .ok (.iconst 1, 1) := by decide +kernel
theorem d_K_operate_121 : decode c_K_operate 121 = .ok (.invokevirtual 77, 3) := by decide +kernel
theorem d_K_operate_124 : decode c_K_operate 124 = .ok (.goto 102, 3) := by decide +kernel
theorem d_K_operate_127 : decode c_K_operate 127 = .ok (.aload_n 0, 1) := by decide +kernel
theorem d_K_operate_128 : decode c_K_operate 128 = .ok (.getfield 12, 3) := by decide +kernel
theorem d_K_operate_131 : decode c_K_operate 131 = .ok (.aload 5, 2) := by decide +kernel
theorem d_K_operate_133 : decode c_K_operate 133 = .ok (.aload 4, 2) := by decide +kernel
theorem d_K_operate_135 : decode c_K_operate 135 = .ok (.sipush 10006, 3) := by decide +kernel
theorem d_K_operate_138 : decode c_K_operate 138 = .ok (.invokevirtual 77, 3) := by decide +kernel
theorem d_K_operate_141 : decode c_K_operate 141 = .ok (.goto 85, 3) := by decide +kernel
theorem d_K_operate_144 : decode c_K_operate 144 = .ok (.aload_n 0, 1) := by decide +kernel
theorem d_K_operate_145 : decode c_K_operate 145 = .ok (.getfield 12, 3) := by decide +kernel
theorem d_K_operate_148 : decode c_K_operate 148 = .ok (.aload 5, 2) := by decide +kernel
theorem d_K_operate_150 : decode c_K_operate 150 = .ok (.aload 4, 2) := by decide +kernel
theorem d_K_operate_152 : decode c_K_operate 152 = .ok (.invokevirtual 81, 3) := by decide +kernel
theorem d_K_operate_155 : decode c_K_operate 155 = .ok (.goto 71, 3) := by decide +kernel
theorem d_K_operate_158 : decode c_K_operate 158 = .ok (.aload_n 0, 1) := by decide +kernel
theorem d_K_operate_159 : decode c_K_operate 159 = .ok (.getfield 12, 3) := by decide +kernel
theorem d_K_operate_162 : decode c_K_operate 162 = .ok (.aload 5, 2) := by decide +kernel
theorem d_K_operate_164 : decode c_K_operate 164 = .ok (.aload 4, 2) := by decide +kernel
theorem d_K_operate_166 : decode c_K_operate 166 = .ok (.invokevirtual 85, 3) := by decide +kernel
theorem d_K_operate_169 : decode c_K_operate 169 = .ok (.istore 6, 2) := by decide +kernel
theorem d_K_operate_171 : decode c_K_operate 171 = .ok (.goto 55, 3) := by decide +kernel
theorem d_K_operate_174 : decode c_K_operate 174 = .ok (.aload_n 0, 1) := by decide +kernel
theorem d_K_operate_175 : decode c_K_operate 175 = .ok (.getfield 12, 3) := by decide +kernel
theorem d_K_operate_178 : decode c_K_operate 178 = .ok (.aload 5, 2) := by decide +kernel
theorem d_K_operate_180 : decode c_K_operate 180 = .ok (.aload 4, 2) := by decide +kernel
theorem d_K_operate_182 : decode c_K_operate 182 = .ok (.invokevirtual 89, 3) := by decide +kernel
theorem d_K_operate_185 : decode c_K_operate 185 = .ok (.istore 6, 2) := by decide +kernel
theorem d_K_operate_187 : decode c_K_operate 187 = .ok (.goto 39, 3) := by decide +kernel
theorem d_K_operate_190 : decode c_K_operate 190 = .ok (.aload_n 0, 1) := by decide +kernel
theorem d_K_operate_191 : decode c_K_operate 191 = .ok (.getfield 12, 3) := by decide +kernel
theorem d_K_operate_194 : decode c_K_operate 194 = .ok (.aload 5, 2) := by decide +kernel
theorem d_K_operate_196 : decode c_K_operate 196 = .ok (.iload_n 2, 1) := by decide +kernel
theorem d_K_operate_197 : decode c_K_operate 197 = .ok (.invokevirtual 92, 3) := by decide +kernel
theorem d_K_operate_200 : decode c_K_operate 200 = .ok (.istore 6, 2) := by decide +kernel
theorem d_K_operate_202 : decode c_K_operate 202 = .ok (.goto 24, 3) := by decide +kernel
theorem d_K_operate_205 : decode c_K_operate 205 = .ok (.aload_n 0, 1) := by decide +kernel
theorem d_K_operate_206 : decode c_K_operate 206 = .ok (.getfield 12, 3) := by decide +kernel
theorem d_K_operate_209 : decode c_K_operate 209 = .ok (.aload 5, 2) := by decide +kernel
theorem d_K_operate_211 : decode c_K_operate 211 = .ok (.invokevirtual 96, 3) := by decide +kernel
theorem d_K_operate_214 : decode c_K_operate 214 = .ok (.goto 12, 3) := by decide +kernel
theorem d_K_operate_217 : decode c_K_operate 217 = .ok (.aload_n 0, 1) := by decide +kernel
theorem d_K_operate_218 : decode c_K_operate 218 = .ok (.getfield 12, 3) := by decide +kernel
theorem d_K_operate_221 : decode c_K_operate 221 = .ok (.aload 5, 2) := by decide +kernel
theorem d_K_operate_223 : decode c_K_operate 223 = .ok (.invokevirtual 99, 3) := by decide +kernel
theorem d_K_operate_226 : decode c_K_operate 226 = .ok (.iload 6, 2) := by decide +kernel
theorem d_K_operate_228 : decode c_K_operate 228 = .ok (.ifCond .ne 15, 3) := by decide +kernel
theorem d_K_operate_231 : decode c_K_operate 231 = .ok (.aload_n 0, 1) := by decide +kernel
theorem d_K_operate_232 : decode c_K_operate 232 = .ok (.getfield 12, 3) := by decide +kernel
theorem d_K_operate_235 : decode c_K_operate 235 = .ok (.aload 5, 2) := by decide +kernel
theorem d_K_operate_237 : decode c_K_operate 237 = .ok (.invokevirtual 102, 3) := by decide +kernel
theorem d_K_operate_240 : decode c_K_operate 240 = .ok (.goto 5, 3) := by decide +kernel
theorem d_K_operate_243 : decode c_K_operate 243 = .ok (.iload 6, 2) := by decide +kernel
theorem d_K_operate_245 : decode c_K_operate 245 = .ok (.ireturn, 1) := by decide +kernel
theorem d_G_hasTwoSides_0 : decode c_G_hasTwoSides 0 = .ok (.iload_n 0, 1) := by decide +kernel
theorem d_G_hasTwoSides_1 : decode c_G_hasTwoSides 1 = .ok (.bipush 8, 2) := by decide +kernel
theorem d_G_hasTwoSides_3 : decode c_G_hasTwoSides 3 = .ok (.if_icmp .lt 7, 3) := by decide +kernel
theorem d_G_hasTwoSides_6 : decode c_G_hasTwoSides 6 = .ok (.iconst 1, 1) := by decide +kernel
theorem d_G_hasTwoSides_7 : decode c_G_hasTwoSides 7 = .ok (.goto 4, 3) := by decide +kernel
theorem d_G_hasTwoSides_10 : decode c_G_hasTwoSides 10 = .ok (.iconst 0, 1) := by decide +kernel
theorem d_G_hasTwoSides_11 : decode c_G_hasTwoSides 11 = .ok (.ireturn, 1) := by decide +kernel
theorem d_K_result_0 : decode c_K_result 0 = .ok (.aload_n 0, 1) := by decide +kernel
theorem d_K_result_1 : decode c_K_result 1 = .ok (.getfield 20, 3) := by decide +kernel
theorem d_K_result_4 : decode c_K_result 4 = .ok (.iconst 0, 1) := by decide +kernel
theorem d_K_result_5 : decode c_K_result 5 = .ok (.aaload, 1) := by decide +kernel
theorem d_K_result_6 : decode c_K_result 6 = .ok (.areturn, 1) := by decide +kernel
theorem d_H_keep_0 : decode c_H_keep 0 = .ok (.aload_n 0, 1) := by decide +kernel
theorem d_H_keep_1 : decode c_H_keep 1 = .ok (.invokevirtual 32, 3) := by decide +kernel
theorem d_H_keep_4 : decode c_H_keep 4 = .ok (.ifCond .eq 6, 3) := by decide +kernel
theorem d_H_keep_7 : decode c_H_keep 7 = .ok (.bipush (-2), 2) := by decide +kernel
theorem d_H_keep_9 : decode c_H_keep 9 = .ok (.ireturn, 1) := by decide +kernel
theorem d_H_keep_10 : decode c_H_keep 10 = .ok (.aload_n 0, 1) := by decide +kernel
theorem d_H_keep_11 : decode c_H_keep 11 = .ok (.getfield 11, 3) := by decide +kernel
theorem d_H_keep_14 : decode c_H_keep 14 = .ok (.aload_n 0, 1) := by decide +kernel
theorem d_H_keep_15 : decode c_H_keep 15 = .ok (.getfield 24, 3) := by decide +kernel
theorem d_H_keep_18 : decode c_H_keep 18 = .ok (.aaload, 1) := by decide +kernel
theorem d_H_keep_19 : decode c_H_keep 19 = .ok (.aload_n 1, 1) := by decide +kernel
theorem d_H_keep_20 : decode c_H_keep 20 = .ok (.invokevirtual 36, 3) := by decide +kernel
theorem d_H_keep_23 : decode c_H_keep 23 = .ok (.aload_n 0, 1) := by decide +kernel
theorem d_H_keep_24 : decode c_H_keep 24 = .ok (.getfield 17, 3) := by decide +kernel
theorem d_H_keep_27 : decode c_H_keep 27 = .ok (.aload_n 0, 1) := by decide +kernel
theorem d_H_keep_28 : decode c_H_keep 28 = .ok (.getfield 24, 3) := by decide +kernel
theorem d_H_keep_31 : decode c_H_keep 31 = .ok (.aload_n 0, 1) := by decide +kernel
theorem d_H_keep_32 : decode c_H_keep 32 = .ok (.aload_n 1, 1) := by decide +kernel
theorem d_H_keep_33 : decode c_H_keep 33 = .ok (.invokevirtual 40, 3) := by decide +kernel
theorem d_H_keep_36 : decode c_H_keep 36 = .ok (.iastore, 1) := by decide +kernel
theorem d_H_keep_37 : decode c_H_keep 37 = .ok (.aload_n 0, 1) := by decide +kernel
theorem d_H_keep_38 : decode c_H_keep 38 = .ok (.dup, 1) := by decide +kernel
theorem d_H_keep_39 : decode c_H_keep 39 = .ok (.getfield 24, 3) := by decide +kernel
theorem d_H_keep_42 : decode c_H_keep 42 = .ok (.iconst 1, 1) := by decide +kernel
theorem d_H_keep_43 : decode c_H_keep 43 = .ok (.iadd, 1) := by decide +kernel
theorem d_H_keep_44 : decode c_H_keep 44 = .ok (.putfield 24, 3) := by decide +kernel
theorem d_H_keep_47 : decode c_H_keep 47 = .ok (.aload_n 0, 1) := by decide +kernel
theorem d_H_keep_48 : decode c_H_keep 48 = .ok (.getfield 24, 3) := by decide +kernel
theorem d_H_keep_51 : decode c_H_keep 51 = .ok (.ireturn, 1) := by decide +kernel
theorem d_H_shapeNumberFor_0 : decode c_H_shapeNumberFor 0 = .ok (.iconst 0, 1) := by decide +kernel
theorem d_H_shapeNumberFor_1 : decode c_H_shapeNumberFor 1 = .ok (.istore_n 2, 1) := by decide +kernel
theorem d_H_shapeNumberFor_2 : decode c_H_shapeNumberFor 2 = .ok (.iload_n 2, 1) := by decide +kernel
theorem d_H_shapeNumberFor_3 : decode c_H_shapeNumberFor 3 = .ok (.aload_n 0, 1) := by decide +kernel
theorem d_H_shapeNumberFor_4 : decode c_H_shapeNumberFor 4 = .ok (.getfield 24, 3) := by decide +kernel
theorem d_H_shapeNumberFor_7 : decode c_H_shapeNumberFor 7 = .ok (.if_icmp .ge 29, 3) := by decide +kernel
theorem d_H_shapeNumberFor_10 : decode c_H_shapeNumberFor 10 = .ok (.aload_n 0, 1) := by decide +kernel
theorem d_H_shapeNumberFor_11 : decode c_H_shapeNumberFor 11 = .ok (.getfield 11, 3) := by decide +kernel
theorem d_H_shapeNumberFor_14 : decode c_H_shapeNumberFor 14 = .ok (.iload_n 2, 1) := by decide +kernel
theorem d_H_shapeNumberFor_15 : decode c_H_shapeNumberFor 15 = .ok (.aaload, 1) := by decide +kernel
theorem d_H_shapeNumberFor_16 : decode c_H_shapeNumberFor 16 = .ok (.aload_n 1, 1) := by decide +kernel
theorem d_H_shapeNumberFor_17 : decode c_H_shapeNumberFor 17 = .ok (.invokevirtual 44, 3) := by decide +kernel
theorem d_H_shapeNumberFor_20 : decode c_H_shapeNumberFor 20 = .ok (.ifCond .eq 10, 3) := by decide +kernel
theorem d_H_shapeNumberFor_23 : decode c_H_shapeNumberFor 23 = .ok (.aload_n 0, 1) := by decide +kernel
theorem d_H_shapeNumberFor_24 : decode c_H_shapeNumberFor 24 = .ok (.getfield 17, 3) := by decide +kernel
theorem d_H_shapeNumberFor_27 : decode c_H_shapeNumberFor 27 = .ok (.iload_n 2, 1) := by decide +kernel
theorem d_H_shapeNumberFor_28 : decode c_H_shapeNumberFor 28 = .ok (.iaload, 1) := by decide +kernel
theorem d_H_shapeNumberFor_29 : decode c_H_shapeNumberFor 29 = .ok (.ireturn, 1) := by decide +kernel
theorem d_H_shapeNumberFor_30 : decode c_H_shapeNumberFor 30 = .ok (.iinc 2 1, 3) := by decide +kernel
theorem d_H_shapeNumberFor_33 : decode c_H_shapeNumberFor 33 = .ok (.goto (-31), 3) := by decide +kernel
theorem d_H_shapeNumberFor_36 : decode c_H_shapeNumberFor 36 = .ok (.aload_n 0, 1) := by decide +kernel
theorem d_H_shapeNumberFor_37 : decode c_H_shapeNumberFor 37 = .ok (.dup, 1) := by decide +kernel
theorem d_H_shapeNumberFor_38 : decode c_H_shapeNumberFor 38 = .ok (.getfield 28, 3) := by decide +kernel
theorem d_H_shapeNumberFor_41 : decode c_H_shapeNumberFor 41 = .ok (.iconst 1, 1) := by decide +kernel
theorem d_H_shapeNumberFor_42 : decode c_H_shapeNumberFor 42 = .ok (.iadd, 1) := by decide +kernel
theorem d_H_shapeNumberFor_43 : decode c_H_shapeNumberFor 43 = .ok (.putfield 28, 3) := by decide +kernel
theorem d_H_shapeNumberFor_46 : decode c_H_shapeNumberFor 46 = .ok (.aload_n 0, 1) := by decide +kernel
theorem d_H_shapeNumberFor_47 : decode c_H_shapeNumberFor 47 = .ok (.getfield 28, 3) := by decide +kernel
theorem d_H_shapeNumberFor_50 : decode c_H_shapeNumberFor 50 = .ok (.ireturn, 1) := by decide +kernel
theorem d_H_bind_0 : decode c_H_bind 0 = .ok (.iload_n 1, 1) := by decide +kernel
theorem d_H_bind_1 : decode c_H_bind 1 = .ok (.ifCond .lt 15, 3) := by decide +kernel
theorem d_H_bind_4 : decode c_H_bind 4 = .ok (.iload_n 1, 1) := by decide +kernel
theorem d_H_bind_5 : decode c_H_bind 5 = .ok (.iconst 3, 1) := by decide +kernel
theorem d_H_bind_6 : decode c_H_bind 6 = .ok (.if_icmp .ge 10, 3) := by decide +kernel
theorem d_H_bind_9 : decode c_H_bind 9 = .ok (.aload_n 0, 1) := by decide +kernel
theorem d_H_bind_10 : decode c_H_bind 10 = .ok (.getfield 21, 3) := by decide +kernel
theorem d_H_bind_13 : decode c_H_bind 13 = .ok (.iload_n 1, 1) := by decide +kernel
theorem d_H_bind_14 : decode c_H_bind 14 = .ok (.iload_n 2, 1) := by decide +kernel
theorem d_H_bind_15 : decode c_H_bind 15 = .ok (.iastore, 1) := by decide +kernel
theorem d_H_bind_16 : decode c_H_bind 16 = .ok (.return_, 1) := by decide +kernel
theorem d_H_shapeOf_0 : decode c_H_shapeOf 0 = .ok (.iload_n 1, 1) := by decide +kernel
theorem d_H_shapeOf_1 : decode c_H_shapeOf 1 = .ok (.iconst 1, 1) := by decide +kernel
theorem d_H_shapeOf_2 : decode c_H_shapeOf 2 = .ok (.if_icmp .lt 22, 3) := by decide +kernel
theorem d_H_shapeOf_5 : decode c_H_shapeOf 5 = .ok (.iload_n 1, 1) := by decide +kernel
theorem d_H_shapeOf_6 : decode c_H_shapeOf 6 = .ok (.aload_n 0, 1) := by decide +kernel
theorem d_H_shapeOf_7 : decode c_H_shapeOf 7 = .ok (.getfield 24, 3) := by decide +kernel
theorem d_H_shapeOf_10 : decode c_H_shapeOf 10 = .ok (.if_icmp .gt 14, 3) := by decide +kernel
theorem d_H_shapeOf_13 : decode c_H_shapeOf 13 = .ok (.aload_n 0, 1) := by decide +kernel
theorem d_H_shapeOf_14 : decode c_H_shapeOf 14 = .ok (.getfield 17, 3) := by decide +kernel
theorem d_H_shapeOf_17 : decode c_H_shapeOf 17 = .ok (.iload_n 1, 1) := by decide +kernel
theorem d_H_shapeOf_18 : decode c_H_shapeOf 18 = .ok (.iconst 1, 1) := by decide +kernel
theorem d_H_shapeOf_19 : decode c_H_shapeOf 19 = .ok (.isub, 1) := by decide +kernel
theorem d_H_shapeOf_20 : decode c_H_shapeOf 20 = .ok (.iaload, 1) := by decide +kernel
theorem d_H_shapeOf_21 : decode c_H_shapeOf 21 = .ok (.goto 4, 3) := by decide +kernel
theorem d_H_shapeOf_24 : decode c_H_shapeOf 24 = .ok (.iconst 0, 1) := by decide +kernel
theorem d_H_shapeOf_25 : decode c_H_shapeOf 25 = .ok (.ireturn, 1) := by decide +kernel
theorem d_H_clear_0 : decode c_H_clear 0 = .ok (.aload_n 0, 1) := by decide +kernel
theorem d_H_clear_1 : decode c_H_clear 1 = .ok (.iconst 0, 1) := by decide +kernel
theorem d_H_clear_2 : decode c_H_clear 2 = .ok (.putfield 24, 3) := by decide +kernel
theorem d_H_clear_5 : decode c_H_clear 5 = .ok (.aload_n 0, 1) := by decide +kernel
theorem d_H_clear_6 : decode c_H_clear 6 = .ok (.iconst 0, 1) := by decide +kernel
theorem d_H_clear_7 : decode c_H_clear 7 = .ok (.putfield 28, 3) := by decide +kernel
theorem d_H_clear_10 : decode c_H_clear 10 = .ok (.iconst 0, 1) := by decide +kernel
theorem d_H_clear_11 : decode c_H_clear 11 = .ok (.istore_n 1, 1) := by decide +kernel
theorem d_H_clear_12 : decode c_H_clear 12 = .ok (.iload_n 1, 1) := by decide +kernel
theorem d_H_clear_13 : decode c_H_clear 13 = .ok (.iconst 3, 1) := by decide +kernel
theorem d_H_clear_14 : decode c_H_clear 14 = .ok (.if_icmp .ge 16, 3) := by decide +kernel
theorem d_H_clear_17 : decode c_H_clear 17 = .ok (.aload_n 0, 1) := by decide +kernel
theorem d_H_clear_18 : decode c_H_clear 18 = .ok (.getfield 21, 3) := by decide +kernel
theorem d_H_clear_21 : decode c_H_clear 21 = .ok (.iload_n 1, 1) := by decide +kernel
theorem d_H_clear_22 : decode c_H_clear 22 = .ok (.iconst 0, 1) := by decide +kernel
theorem d_H_clear_23 : decode c_H_clear 23 = .ok (.iastore, 1) := by decide +kernel
theorem d_H_clear_24 : decode c_H_clear 24 = .ok (.iinc 1 1, 3) := by decide +kernel
theorem d_H_clear_27 : decode c_H_clear 27 = .ok (.goto (-15), 3) := by decide +kernel
theorem d_H_clear_30 : decode c_H_clear 30 = .ok (.return_, 1) := by decide +kernel
