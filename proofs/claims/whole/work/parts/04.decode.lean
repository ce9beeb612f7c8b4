theorem dX5_init_0 : decode cX5_init 0 = .ok (.aload_n 0, 1) := by decide +kernel
theorem dX5_init_1 : decode cX5_init 1 = .ok (.invokespecial 1, 3) := by decide +kernel
theorem dX5_init_4 : decode cX5_init 4 = .ok (.aload_n 0, 1) := by decide +kernel
theorem dX5_init_5 : decode cX5_init 5 = .ok (.new 7, 3) := by decide +kernel
theorem dX5_init_8 : decode cX5_init 8 = .ok (.dup, 1) := by decide +kernel
theorem dX5_init_9 : decode cX5_init 9 = .ok (.invokespecial 9, 3) := by decide +kernel
theorem dX5_init_12 : decode cX5_init 12 = .ok (.putfield 10, 3) := by decide +kernel
theorem dX5_init_15 : decode cX5_init 15 = .ok (.aload_n 0, 1) := by decide +kernel
theorem dX5_init_16 : decode cX5_init 16 = .ok (.new 16, 3) := by decide +kernel
theorem dX5_init_19 : decode cX5_init 19 = .ok (.dup, 1) := by decide +kernel
theorem dX5_init_20 : decode cX5_init 20 = .ok (.new 18, 3) := by decide +kernel
theorem dX5_init_23 : decode cX5_init 23 = .ok (.dup, 1) := by decide +kernel
theorem dX5_init_24 : decode cX5_init 24 = .ok (.invokespecial 20, 3) := by decide +kernel
theorem dX5_init_27 : decode cX5_init 27 = .ok (.invokespecial 21, 3) := by decide +kernel
theorem dX5_init_30 : decode cX5_init 30 = .ok (.putfield 24, 3) := by decide +kernel
theorem dX5_init_33 : decode cX5_init 33 = .ok (.aload_n 0, 1) := by decide +kernel
theorem dX5_init_34 : decode cX5_init 34 = .ok (.new 16, 3) := by decide +kernel
theorem dX5_init_37 : decode cX5_init 37 = .ok (.dup, 1) := by decide +kernel
theorem dX5_init_38 : decode cX5_init 38 = .ok (.new 28, 3) := by decide +kernel
theorem dX5_init_41 : decode cX5_init 41 = .ok (.dup, 1) := by decide +kernel
theorem dX5_init_42 : decode cX5_init 42 = .ok (.invokespecial 30, 3) := by decide +kernel
theorem dX5_init_45 : decode cX5_init 45 = .ok (.invokespecial 21, 3) := by decide +kernel
theorem dX5_init_48 : decode cX5_init 48 = .ok (.putfield 31, 3) := by decide +kernel
theorem dX5_init_51 : decode cX5_init 51 = .ok (.return_, 1) := by decide +kernel
theorem dX2_init_0 : decode cX2_init 0 = .ok (.aload_n 0, 1) := by decide +kernel
theorem dX2_init_1 : decode cX2_init 1 = .ok (.invokespecial 3, 3) := by decide +kernel
theorem dX2_init_4 : decode cX2_init 4 = .ok (.aload_n 0, 1) := by decide +kernel
theorem dX2_init_5 : decode cX2_init 5 = .ok (.sipush 1000, 3) := by decide +kernel
theorem dX2_init_8 : decode cX2_init 8 = .ok (.newarray .int, 2) := by decide +kernel
theorem dX2_init_10 : decode cX2_init 10 = .ok (.putfield 9, 3) := by decide +kernel
theorem dX2_init_13 : decode cX2_init 13 = .ok (.aload_n 0, 1) := by decide +kernel
theorem dX2_init_14 : decode cX2_init 14 = .ok (.sipush 1000, 3) := by decide +kernel
theorem dX2_init_17 : decode cX2_init 17 = .ok (.newarray .int, 2) := by decide +kernel
theorem dX2_init_19 : decode cX2_init 19 = .ok (.putfield 15, 3) := by decide +kernel
theorem dX2_init_22 : decode cX2_init 22 = .ok (.aload_n 0, 1) := by decide +kernel
theorem dX2_init_23 : decode cX2_init 23 = .ok (.sipush 1000, 3) := by decide +kernel
theorem dX2_init_26 : decode cX2_init 26 = .ok (.newarray .boolean, 2) := by decide +kernel
theorem dX2_init_28 : decode cX2_init 28 = .ok (.putfield 18, 3) := by decide +kernel
theorem dX2_init_31 : decode cX2_init 31 = .ok (.aload_n 0, 1) := by decide +kernel
theorem dX2_init_32 : decode cX2_init 32 = .ok (.iconst 0, 1) := by decide +kernel
theorem dX2_init_33 : decode cX2_init 33 = .ok (.putfield 22, 3) := by decide +kernel
theorem dX2_init_36 : decode cX2_init 36 = .ok (.return_, 1) := by decide +kernel
theorem dX1_init_0 : decode cX1_init 0 = .ok (.aload_n 0, 1) := by decide +kernel
theorem dX1_init_1 : decode cX1_init 1 = .ok (.invokespecial 3, 3) := by decide +kernel
theorem dX1_init_4 : decode cX1_init 4 = .ok (.aload_n 0, 1) := by decide +kernel
theorem dX1_init_5 : decode cX1_init 5 = .ok (.iconst (-1), 1) := by decide +kernel
theorem dX1_init_6 : decode cX1_init 6 = .ok (.putfield 9, 3) := by decide +kernel
theorem dX1_init_9 : decode cX1_init 9 = .ok (.aload_n 0, 1) := by decide +kernel
theorem dX1_init_10 : decode cX1_init 10 = .ok (.iconst 0, 1) := by decide +kernel
theorem dX1_init_11 : decode cX1_init 11 = .ok (.putfield 15, 3) := by decide +kernel
theorem dX1_init_14 : decode cX1_init 14 = .ok (.aload_n 0, 1) := by decide +kernel
theorem dX1_init_15 : decode cX1_init 15 = .ok (.iconst 0, 1) := by decide +kernel
theorem dX1_init_16 : decode cX1_init 16 = .ok (.putfield 19, 3) := by decide +kernel
theorem dX1_init_19 : decode cX1_init 19 = .ok (.aload_n 0, 1) := by decide +kernel
theorem dX1_init_20 : decode cX1_init 20 = .ok (.iconst 0, 1) := by decide +kernel
theorem dX1_init_21 : decode cX1_init 21 = .ok (.putfield 22, 3) := by decide +kernel
theorem dX1_init_24 : decode cX1_init 24 = .ok (.return_, 1) := by decide +kernel
theorem dX3_init_0 : decode cX3_init 0 = .ok (.aload_n 0, 1) := by decide +kernel
theorem dX3_init_1 : decode cX3_init 1 = .ok (.invokespecial 1, 3) := by decide +kernel
theorem dX3_init_4 : decode cX3_init 4 = .ok (.return_, 1) := by decide +kernel
theorem dX0_init_0 : decode cX0_init 0 = .ok (.aload_n 0, 1) := by decide +kernel
theorem dX0_init_1 : decode cX0_init 1 = .ok (.invokespecial 3, 3) := by decide +kernel
theorem dX0_init_4 : decode cX0_init 4 = .ok (.aload_n 0, 1) := by decide +kernel
theorem dX0_init_5 : decode cX0_init 5 = .ok (.sipush 1001, 3) := by decide +kernel
theorem dX0_init_8 : decode cX0_init 8 = .ok (.newarray .boolean, 2) := by decide +kernel
theorem dX0_init_10 : decode cX0_init 10 = .ok (.putfield 9, 3) := by decide +kernel
theorem dX0_init_13 : decode cX0_init 13 = .ok (.aload_n 0, 1) := by decide +kernel
theorem dX0_init_14 : decode cX0_init 14 = .ok (.iconst 1, 1) := by decide +kernel
theorem dX0_init_15 : decode cX0_init 15 = .ok (.putfield 15, 3) := by decide +kernel
theorem dX0_init_18 : decode cX0_init 18 = .ok (.aload_n 0, 1) := by decide +kernel
theorem dX0_init_19 : decode cX0_init 19 = .ok (.aload_n 1, 1) := by decide +kernel
theorem dX0_init_20 : decode cX0_init 20 = .ok (.putfield 19, 3) := by decide +kernel
theorem dX0_init_23 : decode cX0_init 23 = .ok (.return_, 1) := by decide +kernel
theorem dX4_init_0 : decode cX4_init 0 = .ok (.aload_n 0, 1) := by decide +kernel
theorem dX4_init_1 : decode cX4_init 1 = .ok (.invokespecial 3, 3) := by decide +kernel
theorem dX4_init_4 : decode cX4_init 4 = .ok (.aload_n 0, 1) := by decide +kernel
theorem dX4_init_5 : decode cX4_init 5 = .ok (.iconst (-1), 1) := by decide +kernel
theorem dX4_init_6 : decode cX4_init 6 = .ok (.putfield 9, 3) := by decide +kernel
theorem dX4_init_9 : decode cX4_init 9 = .ok (.aload_n 0, 1) := by decide +kernel
theorem dX4_init_10 : decode cX4_init 10 = .ok (.iconst (-1), 1) := by decide +kernel
theorem dX4_init_11 : decode cX4_init 11 = .ok (.putfield 15, 3) := by decide +kernel
theorem dX4_init_14 : decode cX4_init 14 = .ok (.aload_n 0, 1) := by decide +kernel
theorem dX4_init_15 : decode cX4_init 15 = .ok (.iconst (-1), 1) := by decide +kernel
theorem dX4_init_16 : decode cX4_init 16 = .ok (.putfield 18, 3) := by decide +kernel
theorem dX4_init_19 : decode cX4_init 19 = .ok (.aload_n 0, 1) := by decide +kernel
theorem dX4_init_20 : decode cX4_init 20 = .ok (.iconst 0, 1) := by decide +kernel
theorem dX4_init_21 : decode cX4_init 21 = .ok (.putfield 21, 3) := by decide +kernel
theorem dX4_init_24 : decode cX4_init 24 = .ok (.return_, 1) := by decide +kernel
theorem dL_add_0 : decode cL_add 0 = .ok (.aload 4, 2) := by decide +kernel
theorem dL_add_2 : decode cL_add 2 = .ok (.iconst 0, 1) := by decide +kernel
theorem dL_add_3 : decode cL_add 3 = .ok (.aload_n 0, 1) := by decide +kernel
theorem dL_add_4 : decode cL_add 4 = .ok (.iload_n 1, 1) := by decide +kernel
theorem dL_add_5 : decode cL_add 5 = .ok (.iload_n 2, 1) := by decide +kernel
theorem dL_add_6 : decode cL_add 6 = .ok (.iload_n 3, 1) := by decide +kernel
theorem dL_add_7 : decode cL_add 7 = .ok (.invokevirtual 7, 3) := by decide +kernel
theorem dL_add_10 : decode cL_add 10 = .ok (.i2l, 1) := by decide +kernel
theorem dL_add_11 : decode cL_add 11 = .ok (.lastore, 1) := by decide +kernel
theorem dL_add_12 : decode cL_add 12 = .ok (.goto 11, 3) := by decide +kernel
theorem dL_add_15 : decode cL_add 15 = .ok (.astore 5, 2) := by decide +kernel
theorem dL_add_17 : decode cL_add 17 = .ok (.iconst 1, 1) := by decide +kernel
theorem dL_add_18 : decode cL_add 18 = .ok (.ireturn, 1) := by decide +kernel
theorem dL_add_19 : decode cL_add 19 = .ok (.astore 5, 2) := by decide +kernel
theorem dL_add_21 : decode cL_add 21 = .ok (.iconst 2, 1) := by decide +kernel
theorem dL_add_22 : decode cL_add 22 = .ok (.ireturn, 1) := by decide +kernel
theorem dL_add_23 : decode cL_add 23 = .ok (.iconst 0, 1) := by decide +kernel
theorem dL_add_24 : decode cL_add 24 = .ok (.ireturn, 1) := by decide +kernel
theorem dX5_add_0 : decode cX5_add 0 = .ok (.iload_n 1, 1) := by decide +kernel
theorem dX5_add_1 : decode cX5_add 1 = .ok (.bipush 13, 2) := by decide +kernel
theorem dX5_add_3 : decode cX5_add 3 = .ok (.invokestatic 34, 3) := by decide +kernel
theorem dX5_add_6 : decode cX5_add 6 = .ok (.iload_n 2, 1) := by decide +kernel
theorem dX5_add_7 : decode cX5_add 7 = .ok (.bipush 18, 2) := by decide +kernel
theorem dX5_add_9 : decode cX5_add 9 = .ok (.invokestatic 34, 3) := by decide +kernel
theorem dX5_add_12 : decode cX5_add 12 = .ok (.aload_n 0, 1) := by decide +kernel
theorem dX5_add_13 : decode cX5_add 13 = .ok (.getfield 10, 3) := by decide +kernel
theorem dX5_add_16 : decode cX5_add 16 = .ok (.getfield 38, 3) := by decide +kernel
theorem dX5_add_19 : decode cX5_add 19 = .ok (.sipush 1000, 3) := by decide +kernel
theorem dX5_add_22 : decode cX5_add 22 = .ok (.if_icmp .lt 13, 3) := by decide +kernel
theorem dX5_add_25 : decode cX5_add 25 = .ok (.new 42, 3) := by decide +kernel
theorem dX5_add_28 : decode cX5_add 28 = .ok (.dup, 1) := by decide +kernel
theorem dX5_add_29 : decode cX5_add 29 = .ok (.ldc 44, 2) := by decide +kernel
theorem dX5_add_31 : decode cX5_add 31 = .ok (.invokespecial 46, 3) := by decide +kernel
theorem dX5_add_34 : decode cX5_add 34 = .ok (.athrow, 1) := by decide +kernel
theorem dX5_add_35 : decode cX5_add 35 = .ok (.aload_n 0, 1) := by decide +kernel
theorem dX5_add_36 : decode cX5_add 36 = .ok (.getfield 10, 3) := by decide +kernel
theorem dX5_add_39 : decode cX5_add 39 = .ok (.dup, 1) := by decide +kernel
theorem dX5_add_40 : decode cX5_add 40 = .ok (.getfield 38, 3) := by decide +kernel
theorem dX5_add_43 : decode cX5_add 43 = .ok (.iconst 1, 1) := by decide +kernel
theorem dX5_add_44 : decode cX5_add 44 = .ok (.iadd, 1) := by decide +kernel
theorem dX5_add_45 : decode cX5_add 45 = .ok (.putfield 38, 3) := by decide +kernel
theorem dX5_add_48 : decode cX5_add 48 = .ok (.aload_n 0, 1) := by decide +kernel
theorem dX5_add_49 : decode cX5_add 49 = .ok (.getfield 10, 3) := by decide +kernel
theorem dX5_add_52 : decode cX5_add 52 = .ok (.aload_n 0, 1) := by decide +kernel
theorem dX5_add_53 : decode cX5_add 53 = .ok (.getfield 10, 3) := by decide +kernel
theorem dX5_add_56 : decode cX5_add 56 = .ok (.getfield 38, 3) := by decide +kernel
theorem dX5_add_59 : decode cX5_add 59 = .ok (.iconst 1, 1) := by decide +kernel
theorem dX5_add_60 : decode cX5_add 60 = .ok (.isub, 1) := by decide +kernel
theorem dX5_add_61 : decode cX5_add 61 = .ok (.iload_n 1, 1) := by decide +kernel
theorem dX5_add_62 : decode cX5_add 62 = .ok (.iload_n 2, 1) := by decide +kernel
theorem dX5_add_63 : decode cX5_add 63 = .ok (.iload_n 3, 1) := by decide +kernel
theorem dX5_add_64 : decode cX5_add 64 = .ok (.invokevirtual 49, 3) := by decide +kernel
theorem dX5_add_67 : decode cX5_add 67 = .ok (.aload_n 0, 1) := by decide +kernel
theorem dX5_add_68 : decode cX5_add 68 = .ok (.invokevirtual 53, 3) := by decide +kernel
theorem dX5_add_71 : decode cX5_add 71 = .ok (.aload_n 0, 1) := by decide +kernel
theorem dX5_add_72 : decode cX5_add 72 = .ok (.getfield 10, 3) := by decide +kernel
theorem dX5_add_75 : decode cX5_add 75 = .ok (.getfield 38, 3) := by decide +kernel
theorem dX5_add_78 : decode cX5_add 78 = .ok (.ireturn, 1) := by decide +kernel
theorem dX5_requireUpTo_0 : decode cX5_requireUpTo 0 = .ok (.iload_n 0, 1) := by decide +kernel
theorem dX5_requireUpTo_1 : decode cX5_requireUpTo 1 = .ok (.ifCond .lt 8, 3) := by decide +kernel
theorem dX5_requireUpTo_4 : decode cX5_requireUpTo 4 = .ok (.iload_n 0, 1) := by decide +kernel
theorem dX5_requireUpTo_5 : decode cX5_requireUpTo 5 = .ok (.iload_n 1, 1) := by decide +kernel
theorem dX5_requireUpTo_6 : decode cX5_requireUpTo 6 = .ok (.if_icmp .le 13, 3) := by decide +kernel
theorem dX5_requireUpTo_9 : decode cX5_requireUpTo 9 = .ok (.new 78, 3) := by decide +kernel
theorem dX5_requireUpTo_12 : decode cX5_requireUpTo 12 = .ok (.dup, 1) := by decide +kernel
theorem dX5_requireUpTo_13 : decode cX5_requireUpTo 13 = .ok (.ldc 80, 2) := by decide +kernel
theorem dX5_requireUpTo_15 : decode cX5_requireUpTo 15 = .ok (.invokespecial 82, 3) := by decide +kernel
theorem dX5_requireUpTo_18 : decode cX5_requireUpTo 18 = .ok (.athrow, 1) := by decide +kernel
theorem dX5_requireUpTo_19 : decode cX5_requireUpTo 19 = .ok (.return_, 1) := by decide +kernel
theorem dX2_write_0 : decode cX2_write 0 = .ok (.aload_n 0, 1) := by decide +kernel
theorem dX2_write_1 : decode cX2_write 1 = .ok (.getfield 9, 3) := by decide +kernel
theorem dX2_write_4 : decode cX2_write 4 = .ok (.iload_n 1, 1) := by decide +kernel
theorem dX2_write_5 : decode cX2_write 5 = .ok (.iload_n 2, 1) := by decide +kernel
theorem dX2_write_6 : decode cX2_write 6 = .ok (.iastore, 1) := by decide +kernel
theorem dX2_write_7 : decode cX2_write 7 = .ok (.aload_n 0, 1) := by decide +kernel
theorem dX2_write_8 : decode cX2_write 8 = .ok (.getfield 15, 3) := by decide +kernel
theorem dX2_write_11 : decode cX2_write 11 = .ok (.iload_n 1, 1) := by decide +kernel
theorem dX2_write_12 : decode cX2_write 12 = .ok (.iload_n 3, 1) := by decide +kernel
theorem dX2_write_13 : decode cX2_write 13 = .ok (.iastore, 1) := by decide +kernel
theorem dX2_write_14 : decode cX2_write 14 = .ok (.aload_n 0, 1) := by decide +kernel
theorem dX2_write_15 : decode cX2_write 15 = .ok (.getfield 18, 3) := by decide +kernel
theorem dX2_write_18 : decode cX2_write 18 = .ok (.iload_n 1, 1) := by decide +kernel
theorem dX2_write_19 : decode cX2_write 19 = .ok (.iload 4, 2) := by decide +kernel
theorem dX2_write_21 : decode cX2_write 21 = .ok (.bastore, 1) := by decide +kernel
theorem dX2_write_22 : decode cX2_write 22 = .ok (.return_, 1) := by decide +kernel
theorem dX5_forgetEdges_0 : decode cX5_forgetEdges 0 = .ok (.aload_n 0, 1) := by decide +kernel
theorem dX5_forgetEdges_1 : decode cX5_forgetEdges 1 = .ok (.getfield 24, 3) := by decide +kernel
theorem dX5_forgetEdges_4 : decode cX5_forgetEdges 4 = .ok (.iconst 1, 1) := by decide +kernel
theorem dX5_forgetEdges_5 : decode cX5_forgetEdges 5 = .ok (.putfield 83, 3) := by decide +kernel
theorem dX5_forgetEdges_8 : decode cX5_forgetEdges 8 = .ok (.aload_n 0, 1) := by decide +kernel
theorem dX5_forgetEdges_9 : decode cX5_forgetEdges 9 = .ok (.getfield 31, 3) := by decide +kernel
theorem dX5_forgetEdges_12 : decode cX5_forgetEdges 12 = .ok (.iconst 1, 1) := by decide +kernel
theorem dX5_forgetEdges_13 : decode cX5_forgetEdges 13 = .ok (.putfield 83, 3) := by decide +kernel
theorem dX5_forgetEdges_16 : decode cX5_forgetEdges 16 = .ok (.return_, 1) := by decide +kernel
theorem dL_set_0 : decode cL_set 0 = .ok (.aload_n 0, 1) := by decide +kernel
theorem dL_set_1 : decode cL_set 1 = .ok (.iload_n 1, 1) := by decide +kernel
theorem dL_set_2 : decode cL_set 2 = .ok (.iload_n 2, 1) := by decide +kernel
theorem dL_set_3 : decode cL_set 3 = .ok (.iload_n 3, 1) := by decide +kernel
theorem dL_set_4 : decode cL_set 4 = .ok (.iload 4, 2) := by decide +kernel
theorem dL_set_6 : decode cL_set 6 = .ok (.invokevirtual 17, 3) := by decide +kernel
theorem dL_set_9 : decode cL_set 9 = .ok (.goto 7, 3) := by decide +kernel
theorem dL_set_12 : decode cL_set 12 = .ok (.astore 5, 2) := by decide +kernel
theorem dL_set_14 : decode cL_set 14 = .ok (.iconst 1, 1) := by decide +kernel
theorem dL_set_15 : decode cL_set 15 = .ok (.ireturn, 1) := by decide +kernel
theorem dL_set_16 : decode cL_set 16 = .ok (.iconst 0, 1) := by decide +kernel
theorem dL_set_17 : decode cL_set 17 = .ok (.ireturn, 1) := by decide +kernel
theorem dX5_set_0 : decode cX5_set 0 = .ok (.iload_n 1, 1) := by decide +kernel
theorem dX5_set_1 : decode cX5_set 1 = .ok (.aload_n 0, 1) := by decide +kernel
theorem dX5_set_2 : decode cX5_set 2 = .ok (.getfield 10, 3) := by decide +kernel
theorem dX5_set_5 : decode cX5_set 5 = .ok (.getfield 38, 3) := by decide +kernel
theorem dX5_set_8 : decode cX5_set 8 = .ok (.iconst 1, 1) := by decide +kernel
theorem dX5_set_9 : decode cX5_set 9 = .ok (.isub, 1) := by decide +kernel
theorem dX5_set_10 : decode cX5_set 10 = .ok (.invokestatic 34, 3) := by decide +kernel
theorem dX5_set_13 : decode cX5_set 13 = .ok (.iload_n 2, 1) := by decide +kernel
theorem dX5_set_14 : decode cX5_set 14 = .ok (.bipush 13, 2) := by decide +kernel
theorem dX5_set_16 : decode cX5_set 16 = .ok (.invokestatic 34, 3) := by decide +kernel
theorem dX5_set_19 : decode cX5_set 19 = .ok (.iload_n 3, 1) := by decide +kernel
theorem dX5_set_20 : decode cX5_set 20 = .ok (.bipush 18, 2) := by decide +kernel
theorem dX5_set_22 : decode cX5_set 22 = .ok (.invokestatic 34, 3) := by decide +kernel
theorem dX5_set_25 : decode cX5_set 25 = .ok (.aload_n 0, 1) := by decide +kernel
theorem dX5_set_26 : decode cX5_set 26 = .ok (.getfield 10, 3) := by decide +kernel
theorem dX5_set_29 : decode cX5_set 29 = .ok (.iload_n 1, 1) := by decide +kernel
theorem dX5_set_30 : decode cX5_set 30 = .ok (.iload_n 2, 1) := by decide +kernel
theorem dX5_set_31 : decode cX5_set 31 = .ok (.iload_n 3, 1) := by decide +kernel
theorem dX5_set_32 : decode cX5_set 32 = .ok (.iload 4, 2) := by decide +kernel
theorem dX5_set_34 : decode cX5_set 34 = .ok (.invokevirtual 49, 3) := by decide +kernel
theorem dX5_set_37 : decode cX5_set 37 = .ok (.aload_n 0, 1) := by decide +kernel
theorem dX5_set_38 : decode cX5_set 38 = .ok (.invokevirtual 53, 3) := by decide +kernel
theorem dX5_set_41 : decode cX5_set 41 = .ok (.return_, 1) := by decide +kernel
theorem dL_cut_0 : decode cL_cut 0 = .ok (.aload_n 2, 1) := by decide +kernel
theorem dL_cut_1 : decode cL_cut 1 = .ok (.iconst 0, 1) := by decide +kernel
theorem dL_cut_2 : decode cL_cut 2 = .ok (.aload_n 0, 1) := by decide +kernel
theorem dL_cut_3 : decode cL_cut 3 = .ok (.iload_n 1, 1) := by decide +kernel
theorem dL_cut_4 : decode cL_cut 4 = .ok (.invokevirtual 21, 3) := by decide +kernel
theorem dL_cut_7 : decode cL_cut 7 = .ok (.i2l, 1) := by decide +kernel
theorem dL_cut_8 : decode cL_cut 8 = .ok (.lastore, 1) := by decide +kernel
theorem dL_cut_9 : decode cL_cut 9 = .ok (.goto 6, 3) := by decide +kernel
theorem dL_cut_12 : decode cL_cut 12 = .ok (.astore_n 3, 1) := by decide +kernel
theorem dL_cut_13 : decode cL_cut 13 = .ok (.iconst 1, 1) := by decide +kernel
theorem dL_cut_14 : decode cL_cut 14 = .ok (.ireturn, 1) := by decide +kernel
theorem dL_cut_15 : decode cL_cut 15 = .ok (.iconst 0, 1) := by decide +kernel
theorem dL_cut_16 : decode cL_cut 16 = .ok (.ireturn, 1) := by decide +kernel
theorem dX5_cut_0 : decode cX5_cut 0 = .ok (.iload_n 1, 1) := by decide +kernel
theorem dX5_cut_1 : decode cX5_cut 1 = .ok (.aload_n 0, 1) := by decide +kernel
theorem dX5_cut_2 : decode cX5_cut 2 = .ok (.getfield 10, 3) := by decide +kernel
theorem dX5_cut_5 : decode cX5_cut 5 = .ok (.getfield 38, 3) := by decide +kernel
theorem dX5_cut_8 : decode cX5_cut 8 = .ok (.invokestatic 34, 3) := by decide +kernel
theorem dX5_cut_11 : decode cX5_cut 11 = .ok (.aload_n 0, 1) := by decide +kernel
theorem dX5_cut_12 : decode cX5_cut 12 = .ok (.getfield 10, 3) := by decide +kernel
theorem dX5_cut_15 : decode cX5_cut 15 = .ok (.getfield 38, 3) := by decide +kernel
theorem dX5_cut_18 : decode cX5_cut 18 = .ok (.istore_n 2, 1) := by decide +kernel
theorem dX5_cut_19 : decode cX5_cut 19 = .ok (.aload_n 0, 1) := by decide +kernel
theorem dX5_cut_20 : decode cX5_cut 20 = .ok (.getfield 10, 3) := by decide +kernel
theorem dX5_cut_23 : decode cX5_cut 23 = .ok (.iload_n 1, 1) := by decide +kernel
theorem dX5_cut_24 : decode cX5_cut 24 = .ok (.putfield 38, 3) := by decide +kernel
theorem dX5_cut_27 : decode cX5_cut 27 = .ok (.aload_n 0, 1) := by decide +kernel
theorem dX5_cut_28 : decode cX5_cut 28 = .ok (.invokevirtual 53, 3) := by decide +kernel
theorem dX5_cut_31 : decode cX5_cut 31 = .ok (.iload_n 2, 1) := by decide +kernel
theorem dX5_cut_32 : decode cX5_cut 32 = .ok (.ireturn, 1) := by decide +kernel
theorem dL_edge_0 : decode cL_edge 0 = .ok (.aload_n 3, 1) := by decide +kernel
theorem dL_edge_1 : decode cL_edge 1 = .ok (.iconst 0, 1) := by decide +kernel
theorem dL_edge_2 : decode cL_edge 2 = .ok (.aload_n 0, 1) := by decide +kernel
theorem dL_edge_3 : decode cL_edge 3 = .ok (.iload_n 1, 1) := by decide +kernel
theorem dL_edge_4 : decode cL_edge 4 = .ok (.iload_n 2, 1) := by decide +kernel
theorem dL_edge_5 : decode cL_edge 5 = .ok (.invokevirtual 25, 3) := by decide +kernel
theorem dL_edge_8 : decode cL_edge 8 = .ok (.ifCond .eq 7, 3) := by decide +kernel
theorem dL_edge_11 : decode cL_edge 11 = .ok (.lconst 1, 1) := by decide +kernel
theorem dL_edge_12 : decode cL_edge 12 = .ok (.goto 4, 3) := by decide +kernel
theorem dL_edge_15 : decode cL_edge 15 = .ok (.lconst 0, 1) := by decide +kernel
theorem dL_edge_16 : decode cL_edge 16 = .ok (.lastore, 1) := by decide +kernel
theorem dL_edge_17 : decode cL_edge 17 = .ok (.goto 7, 3) := by decide +kernel
theorem dL_edge_20 : decode cL_edge 20 = .ok (.astore 4, 2) := by decide +kernel
theorem dL_edge_22 : decode cL_edge 22 = .ok (.iconst 1, 1) := by decide +kernel
theorem dL_edge_23 : decode cL_edge 23 = .ok (.ireturn, 1) := by decide +kernel
theorem dL_edge_24 : decode cL_edge 24 = .ok (.iconst 0, 1) := by decide +kernel
theorem dL_edge_25 : decode cL_edge 25 = .ok (.ireturn, 1) := by decide +kernel
theorem dX5_edge_0 : decode cX5_edge 0 = .ok (.iload_n 1, 1) := by decide +kernel
theorem dX5_edge_1 : decode cX5_edge 1 = .ok (.iconst 1, 1) := by decide +kernel
theorem dX5_edge_2 : decode cX5_edge 2 = .ok (.invokestatic 34, 3) := by decide +kernel
theorem dX5_edge_5 : decode cX5_edge 5 = .ok (.iload_n 2, 1) := by decide +kernel
theorem dX5_edge_6 : decode cX5_edge 6 = .ok (.aload_n 0, 1) := by decide +kernel
theorem dX5_edge_7 : decode cX5_edge 7 = .ok (.getfield 10, 3) := by decide +kernel
theorem dX5_edge_10 : decode cX5_edge 10 = .ok (.getfield 38, 3) := by decide +kernel
theorem dX5_edge_13 : decode cX5_edge 13 = .ok (.invokestatic 34, 3) := by decide +kernel
theorem dX5_edge_16 : decode cX5_edge 16 = .ok (.aload_n 0, 1) := by decide +kernel
theorem dX5_edge_17 : decode cX5_edge 17 = .ok (.iload_n 1, 1) := by decide +kernel
theorem dX5_edge_18 : decode cX5_edge 18 = .ok (.invokevirtual 56, 3) := by decide +kernel
theorem dX5_edge_21 : decode cX5_edge 21 = .ok (.getfield 60, 3) := by decide +kernel
theorem dX5_edge_24 : decode cX5_edge 24 = .ok (.iload_n 2, 1) := by decide +kernel
theorem dX5_edge_25 : decode cX5_edge 25 = .ok (.baload, 1) := by decide +kernel
theorem dX5_edge_26 : decode cX5_edge 26 = .ok (.ireturn, 1) := by decide +kernel
theorem dX5_edgesOf_0 : decode cX5_edgesOf 0 = .ok (.iload_n 1, 1) := by decide +kernel
theorem dX5_edgesOf_1 : decode cX5_edgesOf 1 = .ok (.ifCond .ne 10, 3) := by decide +kernel
theorem dX5_edgesOf_4 : decode cX5_edgesOf 4 = .ok (.aload_n 0, 1) := by decide +kernel
theorem dX5_edgesOf_5 : decode cX5_edgesOf 5 = .ok (.getfield 24, 3) := by decide +kernel
theorem dX5_edgesOf_8 : decode cX5_edgesOf 8 = .ok (.goto 7, 3) := by decide +kernel
theorem dX5_edgesOf_11 : decode cX5_edgesOf 11 = .ok (.aload_n 0, 1) := by decide +kernel
theorem dX5_edgesOf_12 : decode cX5_edgesOf 12 = .ok (.getfield 31, 3) := by decide +kernel
theorem dX5_edgesOf_15 : decode cX5_edgesOf 15 = .ok (.astore_n 2, 1) := by decide +kernel
theorem dX5_edgesOf_16 : decode cX5_edgesOf 16 = .ok (.aload_n 2, 1) := by decide +kernel
theorem dX5_edgesOf_17 : decode cX5_edgesOf 17 = .ok (.getfield 83, 3) := by decide +kernel
theorem dX5_edgesOf_20 : decode cX5_edgesOf 20 = .ok (.ifCond .eq 11, 3) := by decide +kernel
theorem dX5_edgesOf_23 : decode cX5_edgesOf 23 = .ok (.aload_n 2, 1) := by decide +kernel
theorem dX5_edgesOf_24 : decode cX5_edgesOf 24 = .ok (.aload_n 0, 1) := by decide +kernel
theorem dX5_edgesOf_25 : decode cX5_edgesOf 25 = .ok (.getfield 10, 3) := by decide +kernel
theorem dX5_edgesOf_28 : decode cX5_edgesOf 28 = .ok (.invokevirtual 87, 3) := by decide +kernel
theorem dX5_edgesOf_31 : decode cX5_edgesOf 31 = .ok (.aload_n 2, 1) := by decide +kernel
theorem dX5_edgesOf_32 : decode cX5_edgesOf 32 = .ok (.areturn, 1) := by decide +kernel
theorem dX0_find_0 : decode cX0_find 0 = .ok (.aload_n 0, 1) := by decide +kernel
theorem dX0_find_1 : decode cX0_find 1 = .ok (.getfield 19, 3) := by decide +kernel
theorem dX0_find_4 : decode cX0_find 4 = .ok (.invokevirtual 23, 3) := by decide +kernel
theorem dX0_find_7 : decode cX0_find 7 = .ok (.iconst 0, 1) := by decide +kernel
theorem dX0_find_8 : decode cX0_find 8 = .ok (.istore_n 2, 1) := by decide +kernel
theorem dX0_find_9 : decode cX0_find 9 = .ok (.iload_n 2, 1) := by decide +kernel
theorem dX0_find_10 : decode cX0_find 10 = .ok (.aload_n 1, 1) := by decide +kernel
theorem dX0_find_11 : decode cX0_find 11 = .ok (.getfield 28, 3) := by decide +kernel
theorem dX0_find_14 : decode cX0_find 14 = .ok (.if_icmp .ge 45, 3) := by decide +kernel
theorem dX0_find_17 : decode cX0_find 17 = .ok (.aload_n 0, 1) := by decide +kernel
theorem dX0_find_18 : decode cX0_find 18 = .ok (.getfield 9, 3) := by decide +kernel
theorem dX0_find_21 : decode cX0_find 21 = .ok (.iload_n 2, 1) := by decide +kernel
theorem dX0_find_22 : decode cX0_find 22 = .ok (.iload_n 2, 1) := by decide +kernel
theorem dX0_find_23 : decode cX0_find 23 = .ok (.ifCond .eq 15, 3) := by decide +kernel
theorem dX0_find_26 : decode cX0_find 26 = .ok (.aload_n 0, 1) := by decide +kernel
theorem dX0_find_27 : decode cX0_find 27 = .ok (.getfield 19, 3) := by decide +kernel
theorem dX0_find_30 : decode cX0_find 30 = .ok (.aload_n 1, 1) := by decide +kernel
theorem dX0_find_31 : decode cX0_find 31 = .ok (.iload_n 2, 1) := by decide +kernel
theorem dX0_find_32 : decode cX0_find 32 = .ok (.invokevirtual 34, 3) := by decide +kernel
theorem dX0_find_35 : decode cX0_find 35 = .ok (.ifCond .eq 7, 3) := by decide +kernel
theorem dX0_find_38 : decode cX0_find 38 = .ok (.iconst 1, 1) := by decide +kernel
theorem dX0_find_39 : decode cX0_find 39 = .ok (.goto 4, 3) := by decide +kernel
theorem dX0_find_42 : decode cX0_find 42 = .ok (.iconst 0, 1) := by decide +kernel
theorem dX0_find_43 : decode cX0_find 43 = .ok (.bastore, 1) := by decide +kernel
theorem dX0_find_44 : decode cX0_find 44 = .ok (.aload_n 0, 1) := by decide +kernel
theorem dX0_find_45 : decode cX0_find 45 = .ok (.getfield 19, 3) := by decide +kernel
theorem dX0_find_48 : decode cX0_find 48 = .ok (.aload_n 1, 1) := by decide +kernel
theorem dX0_find_49 : decode cX0_find 49 = .ok (.iload_n 2, 1) := by decide +kernel
theorem dX0_find_50 : decode cX0_find 50 = .ok (.invokevirtual 38, 3) := by decide +kernel
theorem dX0_find_53 : decode cX0_find 53 = .ok (.iinc 2 1, 3) := by decide +kernel
theorem dX0_find_56 : decode cX0_find 56 = .ok (.goto (-47), 3) := by decide +kernel
theorem dX0_find_59 : decode cX0_find 59 = .ok (.aload_n 0, 1) := by decide +kernel
theorem dX0_find_60 : decode cX0_find 60 = .ok (.getfield 9, 3) := by decide +kernel
theorem dX0_find_63 : decode cX0_find 63 = .ok (.aload_n 1, 1) := by decide +kernel
theorem dX0_find_64 : decode cX0_find 64 = .ok (.getfield 28, 3) := by decide +kernel
theorem dX0_find_67 : decode cX0_find 67 = .ok (.aload_n 1, 1) := by decide +kernel
theorem dX0_find_68 : decode cX0_find 68 = .ok (.getfield 28, 3) := by decide +kernel
theorem dX0_find_71 : decode cX0_find 71 = .ok (.ifCond .le 7, 3) := by decide +kernel
theorem dX0_find_74 : decode cX0_find 74 = .ok (.iconst 1, 1) := by decide +kernel
theorem dX0_find_75 : decode cX0_find 75 = .ok (.goto 4, 3) := by decide +kernel
theorem dX0_find_78 : decode cX0_find 78 = .ok (.iconst 0, 1) := by decide +kernel
theorem dX0_find_79 : decode cX0_find 79 = .ok (.bastore, 1) := by decide +kernel
theorem dX0_find_80 : decode cX0_find 80 = .ok (.aload_n 0, 1) := by decide +kernel
theorem dX0_find_81 : decode cX0_find 81 = .ok (.iconst 0, 1) := by decide +kernel
theorem dX0_find_82 : decode cX0_find 82 = .ok (.putfield 15, 3) := by decide +kernel
theorem dX0_find_85 : decode cX0_find 85 = .ok (.return_, 1) := by decide +kernel
theorem dX1_begin_0 : decode cX1_begin 0 = .ok (.aload_n 0, 1) := by decide +kernel
theorem dX1_begin_1 : decode cX1_begin 1 = .ok (.iconst (-1), 1) := by decide +kernel
theorem dX1_begin_2 : decode cX1_begin 2 = .ok (.putfield 9, 3) := by decide +kernel
theorem dX1_begin_5 : decode cX1_begin 5 = .ok (.aload_n 0, 1) := by decide +kernel
theorem dX1_begin_6 : decode cX1_begin 6 = .ok (.iconst 0, 1) := by decide +kernel
theorem dX1_begin_7 : decode cX1_begin 7 = .ok (.putfield 15, 3) := by decide +kernel
theorem dX1_begin_10 : decode cX1_begin 10 = .ok (.aload_n 0, 1) := by decide +kernel
theorem dX1_begin_11 : decode cX1_begin 11 = .ok (.iconst 0, 1) := by decide +kernel
theorem dX1_begin_12 : decode cX1_begin 12 = .ok (.putfield 19, 3) := by decide +kernel
theorem dX1_begin_15 : decode cX1_begin 15 = .ok (.aload_n 0, 1) := by decide +kernel
theorem dX1_begin_16 : decode cX1_begin 16 = .ok (.iconst 0, 1) := by decide +kernel
theorem dX1_begin_17 : decode cX1_begin 17 = .ok (.putfield 22, 3) := by decide +kernel
theorem dX1_begin_20 : decode cX1_begin 20 = .ok (.return_, 1) := by decide +kernel
theorem dX4_begin_0 : decode cX4_begin 0 = .ok (.aload_n 0, 1) := by decide +kernel
theorem dX4_begin_1 : decode cX4_begin 1 = .ok (.iconst (-1), 1) := by decide +kernel
theorem dX4_begin_2 : decode cX4_begin 2 = .ok (.putfield 9, 3) := by decide +kernel
theorem dX4_begin_5 : decode cX4_begin 5 = .ok (.aload_n 0, 1) := by decide +kernel
theorem dX4_begin_6 : decode cX4_begin 6 = .ok (.iconst (-1), 1) := by decide +kernel
theorem dX4_begin_7 : decode cX4_begin 7 = .ok (.putfield 15, 3) := by decide +kernel
theorem dX4_begin_10 : decode cX4_begin 10 = .ok (.aload_n 0, 1) := by decide +kernel
theorem dX4_begin_11 : decode cX4_begin 11 = .ok (.iconst (-1), 1) := by decide +kernel
theorem dX4_begin_12 : decode cX4_begin 12 = .ok (.putfield 18, 3) := by decide +kernel
theorem dX4_begin_15 : decode cX4_begin 15 = .ok (.aload_n 0, 1) := by decide +kernel
theorem dX4_begin_16 : decode cX4_begin 16 = .ok (.iconst 0, 1) := by decide +kernel
theorem dX4_begin_17 : decode cX4_begin 17 = .ok (.putfield 21, 3) := by decide +kernel
theorem dX4_begin_20 : decode cX4_begin 20 = .ok (.return_, 1) := by decide +kernel
theorem dX1_part_0 : decode cX1_part 0 = .ok (.aload_n 1, 1) := by decide +kernel
theorem dX1_part_1 : decode cX1_part 1 = .ok (.getfield 25, 3) := by decide +kernel
theorem dX1_part_4 : decode cX1_part 4 = .ok (.iload_n 2, 1) := by decide +kernel
theorem dX1_part_5 : decode cX1_part 5 = .ok (.iaload, 1) := by decide +kernel
theorem dX1_part_6 : decode cX1_part 6 = .ok (.istore_n 3, 1) := by decide +kernel
theorem dX1_part_7 : decode cX1_part 7 = .ok (.aload_n 0, 1) := by decide +kernel
theorem dX1_part_8 : decode cX1_part 8 = .ok (.getfield 9, 3) := by decide +kernel
theorem dX1_part_11 : decode cX1_part 11 = .ok (.iconst 1, 1) := by decide +kernel
theorem dX1_part_12 : decode cX1_part 12 = .ok (.if_icmp .ne 10, 3) := by decide +kernel
theorem dX1_part_15 : decode cX1_part 15 = .ok (.iload_n 3, 1) := by decide +kernel
theorem dX1_part_16 : decode cX1_part 16 = .ok (.iconst 2, 1) := by decide +kernel
theorem dX1_part_17 : decode cX1_part 17 = .ok (.if_icmp .ne 5, 3) := by decide +kernel
theorem dX1_part_20 : decode cX1_part 20 = .ok (.iconst 0, 1) := by decide +kernel
theorem dX1_part_21 : decode cX1_part 21 = .ok (.ireturn, 1) := by decide +kernel
theorem dX1_part_22 : decode cX1_part 22 = .ok (.aload_n 0, 1) := by decide +kernel
theorem dX1_part_23 : decode cX1_part 23 = .ok (.getfield 9, 3) := by decide +kernel
theorem dX1_part_26 : decode cX1_part 26 = .ok (.invokestatic 31, 3) := by decide +kernel
theorem dX1_part_29 : decode cX1_part 29 = .ok (.ifCond .ne 10, 3) := by decide +kernel
theorem dX1_part_32 : decode cX1_part 32 = .ok (.iload_n 3, 1) := by decide +kernel
theorem dX1_part_33 : decode cX1_part 33 = .ok (.invokestatic 31, 3) := by decide +kernel
theorem dX1_part_36 : decode cX1_part 36 = .ok (.ifCond .eq 5, 3) := by decide +kernel
theorem dX1_part_39 : decode cX1_part 39 = .ok (.iconst 1, 1) := by decide +kernel
theorem dX1_part_40 : decode cX1_part 40 = .ok (.ireturn, 1) := by decide +kernel
theorem dX1_part_41 : decode cX1_part 41 = .ok (.aload_n 0, 1) := by decide +kernel
theorem dX1_part_42 : decode cX1_part 42 = .ok (.iload_n 3, 1) := by decide +kernel
theorem dX1_part_43 : decode cX1_part 43 = .ok (.invokevirtual 35, 3) := by decide +kernel
theorem dX1_part_46 : decode cX1_part 46 = .ok (.ifCond .ne 61, 3) := by decide +kernel
theorem dX1_part_49 : decode cX1_part 49 = .ok (.iload_n 3, 1) := by decide +kernel
theorem dX1_part_50 : decode cX1_part 50 = .ok (.iconst 4, 1) := by decide +kernel
theorem dX1_part_51 : decode cX1_part 51 = .ok (.if_icmp .eq 56, 3) := by decide +kernel
theorem dX1_part_54 : decode cX1_part 54 = .ok (.iload_n 3, 1) := by decide +kernel
theorem dX1_part_55 : decode cX1_part 55 = .ok (.iconst 5, 1) := by decide +kernel
theorem dX1_part_56 : decode cX1_part 56 = .ok (.if_icmp .eq 51, 3) := by decide +kernel
theorem dX1_part_59 : decode cX1_part 59 = .ok (.iload_n 3, 1) := by decide +kernel
theorem dX1_part_60 : decode cX1_part 60 = .ok (.bipush 8, 2) := by decide +kernel
theorem dX1_part_62 : decode cX1_part 62 = .ok (.if_icmp .eq 45, 3) := by decide +kernel
theorem dX1_part_65 : decode cX1_part 65 = .ok (.aload_n 0, 1) := by decide +kernel
theorem dX1_part_66 : decode cX1_part 66 = .ok (.getfield 9, 3) := by decide +kernel
theorem dX1_part_69 : decode cX1_part 69 = .ok (.bipush 7, 2) := by decide +kernel
theorem dX1_part_71 : decode cX1_part 71 = .ok (.if_icmp .eq 36, 3) := by decide +kernel
theorem dX1_part_74 : decode cX1_part 74 = .ok (.aload_n 0, 1) := by decide +kernel
theorem dX1_part_75 : decode cX1_part 75 = .ok (.getfield 22, 3) := by decide +kernel
theorem dX1_part_78 : decode cX1_part 78 = .ok (.ifCond .eq 12, 3) := by decide +kernel
theorem dX1_part_81 : decode cX1_part 81 = .ok (.aload_n 1, 1) := by decide +kernel
theorem dX1_part_82 : decode cX1_part 82 = .ok (.getfield 38, 3) := by decide +kernel
theorem dX1_part_85 : decode cX1_part 85 = .ok (.iload_n 2, 1) := by decide +kernel
theorem dX1_part_86 : decode cX1_part 86 = .ok (.baload, 1) := by decide +kernel
theorem dX1_part_87 : decode cX1_part 87 = .ok (.ifCond .ne 20, 3) := by decide +kernel
theorem dX1_part_90 : decode cX1_part 90 = .ok (.aload_n 0, 1) := by decide +kernel
theorem dX1_part_91 : decode cX1_part 91 = .ok (.getfield 15, 3) := by decide +kernel
theorem dX1_part_94 : decode cX1_part 94 = .ok (.ifCond .eq 9, 3) := by decide +kernel
theorem dX1_part_97 : decode cX1_part 97 = .ok (.iload_n 3, 1) := by decide +kernel
theorem dX1_part_98 : decode cX1_part 98 = .ok (.bipush 6, 2) := by decide +kernel
theorem dX1_part_100 : decode cX1_part 100 = .ok (.if_icmp .eq 7, 3) := by decide +kernel
theorem dX1_part_103 : decode cX1_part 103 = .ok (.iconst 1, 1) := by decide +kernel
theorem dX1_part_104 : decode cX1_part 104 = .ok (.goto 4, 3) := by decide +kernel
theorem dX1_part_107 : decode cX1_part 107 = .ok (.iconst 0, 1) := by decide +kernel
theorem dX1_part_108 : decode cX1_part 108 = .ok (.ireturn, 1) := by decide +kernel
theorem dX1_isControl_0 : decode cX1_isControl 0 = .ok (.iload_n 0, 1) := by decide +kernel
theorem dX1_isControl_1 : decode cX1_isControl 1 = .ok (.iconst 1, 1) := by decide +kernel
theorem dX1_isControl_2 : decode cX1_isControl 2 = .ok (.if_icmp .eq 13, 3) := by decide +kernel
theorem dX1_isControl_5 : decode cX1_isControl 5 = .ok (.iload_n 0, 1) := by decide +kernel
theorem dX1_isControl_6 : decode cX1_isControl 6 = .ok (.iconst 2, 1) := by decide +kernel
theorem dX1_isControl_7 : decode cX1_isControl 7 = .ok (.if_icmp .eq 8, 3) := by decide +kernel
theorem dX1_isControl_10 : decode cX1_isControl 10 = .ok (.iload_n 0, 1) := by decide +kernel
theorem dX1_isControl_11 : decode cX1_isControl 11 = .ok (.iconst 3, 1) := by decide +kernel
theorem dX1_isControl_12 : decode cX1_isControl 12 = .ok (.if_icmp .ne 7, 3) := by decide +kernel
theorem dX1_isControl_15 : decode cX1_isControl 15 = .ok (.iconst 1, 1) := by decide +kernel
theorem dX1_isControl_16 : decode cX1_isControl 16 = .ok (.goto 4, 3) := by decide +kernel
theorem dX1_isControl_19 : decode cX1_isControl 19 = .ok (.iconst 0, 1) := by decide +kernel
theorem dX1_isControl_20 : decode cX1_isControl 20 = .ok (.ireturn, 1) := by decide +kernel
theorem dX1_isSyllable_0 : decode cX1_isSyllable 0 = .ok (.aload_n 0, 1) := by decide +kernel
theorem dX1_isSyllable_1 : decode cX1_isSyllable 1 = .ok (.getfield 9, 3) := by decide +kernel
theorem dX1_isSyllable_4 : decode cX1_isSyllable 4 = .ok (.tableswitch 96 9 13 #[36, 66, 84, 66, 84], 36) := by decide +kernel
theorem dX1_isSyllable_40 : decode cX1_isSyllable 40 = .ok (.iload_n 1, 1) := by decide +kernel
theorem dX1_isSyllable_41 : decode cX1_isSyllable 41 = .ok (.bipush 9, 2) := by decide +kernel
theorem dX1_isSyllable_43 : decode cX1_isSyllable 43 = .ok (.if_icmp .eq 21, 3) := by decide +kernel
theorem dX1_isSyllable_46 : decode cX1_isSyllable 46 = .ok (.iload_n 1, 1) := by decide +kernel
theorem dX1_isSyllable_47 : decode cX1_isSyllable 47 = .ok (.bipush 10, 2) := by decide +kernel
theorem dX1_isSyllable_49 : decode cX1_isSyllable 49 = .ok (.if_icmp .eq 15, 3) := by decide +kernel
theorem dX1_isSyllable_52 : decode cX1_isSyllable 52 = .ok (.iload_n 1, 1) := by decide +kernel
theorem dX1_isSyllable_53 : decode cX1_isSyllable 53 = .ok (.bipush 12, 2) := by decide +kernel
theorem dX1_isSyllable_55 : decode cX1_isSyllable 55 = .ok (.if_icmp .eq 9, 3) := by decide +kernel
theorem dX1_isSyllable_58 : decode cX1_isSyllable 58 = .ok (.iload_n 1, 1) := by decide +kernel
theorem dX1_isSyllable_59 : decode cX1_isSyllable 59 = .ok (.bipush 13, 2) := by decide +kernel
theorem dX1_isSyllable_61 : decode cX1_isSyllable 61 = .ok (.if_icmp .ne 7, 3) := by decide +kernel
theorem dX1_isSyllable_64 : decode cX1_isSyllable 64 = .ok (.iconst 1, 1) := by decide +kernel
theorem dX1_isSyllable_65 : decode cX1_isSyllable 65 = .ok (.goto 4, 3) := by decide +kernel
theorem dX1_isSyllable_68 : decode cX1_isSyllable 68 = .ok (.iconst 0, 1) := by decide +kernel
theorem dX1_isSyllable_69 : decode cX1_isSyllable 69 = .ok (.ireturn, 1) := by decide +kernel
theorem dX1_isSyllable_70 : decode cX1_isSyllable 70 = .ok (.iload_n 1, 1) := by decide +kernel
theorem dX1_isSyllable_71 : decode cX1_isSyllable 71 = .ok (.bipush 10, 2) := by decide +kernel
theorem dX1_isSyllable_73 : decode cX1_isSyllable 73 = .ok (.if_icmp .eq 9, 3) := by decide +kernel
theorem dX1_isSyllable_76 : decode cX1_isSyllable 76 = .ok (.iload_n 1, 1) := by decide +kernel
theorem dX1_isSyllable_77 : decode cX1_isSyllable 77 = .ok (.bipush 11, 2) := by decide +kernel
theorem dX1_isSyllable_79 : decode cX1_isSyllable 79 = .ok (.if_icmp .ne 7, 3) := by decide +kernel
theorem dX1_isSyllable_82 : decode cX1_isSyllable 82 = .ok (.iconst 1, 1) := by decide +kernel
theorem dX1_isSyllable_83 : decode cX1_isSyllable 83 = .ok (.goto 4, 3) := by decide +kernel
theorem dX1_isSyllable_86 : decode cX1_isSyllable 86 = .ok (.iconst 0, 1) := by decide +kernel
theorem dX1_isSyllable_87 : decode cX1_isSyllable 87 = .ok (.ireturn, 1) := by decide +kernel
theorem dX1_isSyllable_88 : decode cX1_isSyllable 88 = .ok (.iload_n 1, 1) := by decide +kernel
theorem dX1_isSyllable_89 : decode cX1_isSyllable 89 = .ok (.bipush 11, 2) := by decide +kernel
theorem dX1_isSyllable_91 : decode cX1_isSyllable 91 = .ok (.if_icmp .ne 7, 3) := by decide +kernel
theorem dX1_isSyllable_94 : decode cX1_isSyllable 94 = .ok (.iconst 1, 1) := by decide +kernel
theorem dX1_isSyllable_95 : decode cX1_isSyllable 95 = .ok (.goto 4, 3) := by decide +kernel
theorem dX1_isSyllable_98 : decode cX1_isSyllable 98 = .ok (.iconst 0, 1) := by decide +kernel
theorem dX1_isSyllable_99 : decode cX1_isSyllable 99 = .ok (.ireturn, 1) := by decide +kernel
theorem dX1_isSyllable_100 : decode cX1_isSyllable 100 = .ok (.iconst 0, 1) := by decide +kernel
theorem dX1_isSyllable_101 : decode cX1_isSyllable 101 = .ok (.ireturn, 1) := by decide +kernel
theorem dX4_part_0 : decode cX4_part 0 = .ok (.aload_n 1, 1) := by decide +kernel
theorem dX4_part_1 : decode cX4_part 1 = .ok (.getfield 25, 3) := by decide +kernel
theorem dX4_part_4 : decode cX4_part 4 = .ok (.iload_n 2, 1) := by decide +kernel
theorem dX4_part_5 : decode cX4_part 5 = .ok (.iaload, 1) := by decide +kernel
theorem dX4_part_6 : decode cX4_part 6 = .ok (.istore_n 3, 1) := by decide +kernel
theorem dX4_part_7 : decode cX4_part 7 = .ok (.aload_n 0, 1) := by decide +kernel
theorem dX4_part_8 : decode cX4_part 8 = .ok (.getfield 9, 3) := by decide +kernel
theorem dX4_part_11 : decode cX4_part 11 = .ok (.iconst 1, 1) := by decide +kernel
theorem dX4_part_12 : decode cX4_part 12 = .ok (.if_icmp .ne 10, 3) := by decide +kernel
theorem dX4_part_15 : decode cX4_part 15 = .ok (.iload_n 3, 1) := by decide +kernel
theorem dX4_part_16 : decode cX4_part 16 = .ok (.iconst 2, 1) := by decide +kernel
theorem dX4_part_17 : decode cX4_part 17 = .ok (.if_icmp .ne 5, 3) := by decide +kernel
theorem dX4_part_20 : decode cX4_part 20 = .ok (.iconst 0, 1) := by decide +kernel
theorem dX4_part_21 : decode cX4_part 21 = .ok (.ireturn, 1) := by decide +kernel
theorem dX4_part_22 : decode cX4_part 22 = .ok (.aload_n 0, 1) := by decide +kernel
theorem dX4_part_23 : decode cX4_part 23 = .ok (.getfield 9, 3) := by decide +kernel
theorem dX4_part_26 : decode cX4_part 26 = .ok (.invokestatic 31, 3) := by decide +kernel
theorem dX4_part_29 : decode cX4_part 29 = .ok (.ifCond .ne 10, 3) := by decide +kernel
theorem dX4_part_32 : decode cX4_part 32 = .ok (.iload_n 3, 1) := by decide +kernel
theorem dX4_part_33 : decode cX4_part 33 = .ok (.invokestatic 31, 3) := by decide +kernel
theorem dX4_part_36 : decode cX4_part 36 = .ok (.ifCond .eq 5, 3) := by decide +kernel
theorem dX4_part_39 : decode cX4_part 39 = .ok (.iconst 1, 1) := by decide +kernel
theorem dX4_part_40 : decode cX4_part 40 = .ok (.ireturn, 1) := by decide +kernel
theorem dX4_part_41 : decode cX4_part 41 = .ok (.aload_n 0, 1) := by decide +kernel
theorem dX4_part_42 : decode cX4_part 42 = .ok (.getfield 9, 3) := by decide +kernel
theorem dX4_part_45 : decode cX4_part 45 = .ok (.iconst 5, 1) := by decide +kernel
theorem dX4_part_46 : decode cX4_part 46 = .ok (.if_icmp .ne 12, 3) := by decide +kernel
theorem dX4_part_49 : decode cX4_part 49 = .ok (.aload_n 1, 1) := by decide +kernel
theorem dX4_part_50 : decode cX4_part 50 = .ok (.getfield 35, 3) := by decide +kernel
theorem dX4_part_53 : decode cX4_part 53 = .ok (.iload_n 2, 1) := by decide +kernel
theorem dX4_part_54 : decode cX4_part 54 = .ok (.baload, 1) := by decide +kernel
theorem dX4_part_55 : decode cX4_part 55 = .ok (.ifCond .ne 25, 3) := by decide +kernel
theorem dX4_part_58 : decode cX4_part 58 = .ok (.aload_n 0, 1) := by decide +kernel
theorem dX4_part_59 : decode cX4_part 59 = .ok (.getfield 9, 3) := by decide +kernel
theorem dX4_part_62 : decode cX4_part 62 = .ok (.bipush 18, 2) := by decide +kernel
theorem dX4_part_64 : decode cX4_part 64 = .ok (.if_icmp .ne 9, 3) := by decide +kernel
theorem dX4_part_67 : decode cX4_part 67 = .ok (.iload_n 3, 1) := by decide +kernel
theorem dX4_part_68 : decode cX4_part 68 = .ok (.bipush 18, 2) := by decide +kernel
theorem dX4_part_70 : decode cX4_part 70 = .ok (.if_icmp .eq 10, 3) := by decide +kernel
theorem dX4_part_73 : decode cX4_part 73 = .ok (.iload_n 3, 1) := by decide +kernel
theorem dX4_part_74 : decode cX4_part 74 = .ok (.invokestatic 39, 3) := by decide +kernel
theorem dX4_part_77 : decode cX4_part 77 = .ok (.ifCond .eq 5, 3) := by decide +kernel
theorem dX4_part_80 : decode cX4_part 80 = .ok (.iconst 0, 1) := by decide +kernel
theorem dX4_part_81 : decode cX4_part 81 = .ok (.ireturn, 1) := by decide +kernel
theorem dX4_part_82 : decode cX4_part 82 = .ok (.aload_n 1, 1) := by decide +kernel
theorem dX4_part_83 : decode cX4_part 83 = .ok (.iload_n 2, 1) := by decide +kernel
theorem dX4_part_84 : decode cX4_part 84 = .ok (.invokestatic 42, 3) := by decide +kernel
theorem dX4_part_87 : decode cX4_part 87 = .ok (.istore 4, 2) := by decide +kernel
theorem dX4_part_89 : decode cX4_part 89 = .ok (.aload_n 0, 1) := by decide +kernel
theorem dX4_part_90 : decode cX4_part 90 = .ok (.iload_n 3, 1) := by decide +kernel
theorem dX4_part_91 : decode cX4_part 91 = .ok (.iload 4, 2) := by decide +kernel
theorem dX4_part_93 : decode cX4_part 93 = .ok (.invokevirtual 46, 3) := by decide +kernel
theorem dX4_part_96 : decode cX4_part 96 = .ok (.ifCond .ne 48, 3) := by decide +kernel
theorem dX4_part_99 : decode cX4_part 99 = .ok (.aload_n 0, 1) := by decide +kernel
theorem dX4_part_100 : decode cX4_part 100 = .ok (.iload_n 3, 1) := by decide +kernel
theorem dX4_part_101 : decode cX4_part 101 = .ok (.iload 4, 2) := by decide +kernel
theorem dX4_part_103 : decode cX4_part 103 = .ok (.invokevirtual 50, 3) := by decide +kernel
theorem dX4_part_106 : decode cX4_part 106 = .ok (.ifCond .ne 38, 3) := by decide +kernel
theorem dX4_part_109 : decode cX4_part 109 = .ok (.aload_n 0, 1) := by decide +kernel
theorem dX4_part_110 : decode cX4_part 110 = .ok (.iload_n 3, 1) := by decide +kernel
theorem dX4_part_111 : decode cX4_part 111 = .ok (.iload 4, 2) := by decide +kernel
theorem dX4_part_113 : decode cX4_part 113 = .ok (.invokevirtual 53, 3) := by decide +kernel
theorem dX4_part_116 : decode cX4_part 116 = .ok (.ifCond .ne 28, 3) := by decide +kernel
theorem dX4_part_119 : decode cX4_part 119 = .ok (.aload_n 0, 1) := by decide +kernel
theorem dX4_part_120 : decode cX4_part 120 = .ok (.iload_n 3, 1) := by decide +kernel
theorem dX4_part_121 : decode cX4_part 121 = .ok (.invokevirtual 56, 3) := by decide +kernel
theorem dX4_part_124 : decode cX4_part 124 = .ok (.ifCond .ne 20, 3) := by decide +kernel
theorem dX4_part_127 : decode cX4_part 127 = .ok (.aload_n 0, 1) := by decide +kernel
theorem dX4_part_128 : decode cX4_part 128 = .ok (.getfield 21, 3) := by decide +kernel
theorem dX4_part_131 : decode cX4_part 131 = .ok (.ifCond .eq 9, 3) := by decide +kernel
theorem dX4_part_134 : decode cX4_part 134 = .ok (.iload_n 3, 1) := by decide +kernel
theorem dX4_part_135 : decode cX4_part 135 = .ok (.bipush 6, 2) := by decide +kernel
theorem dX4_part_137 : decode cX4_part 137 = .ok (.if_icmp .eq 7, 3) := by decide +kernel
theorem dX4_part_140 : decode cX4_part 140 = .ok (.iconst 1, 1) := by decide +kernel
theorem dX4_part_141 : decode cX4_part 141 = .ok (.goto 4, 3) := by decide +kernel
theorem dX4_part_144 : decode cX4_part 144 = .ok (.iconst 0, 1) := by decide +kernel
theorem dX4_part_145 : decode cX4_part 145 = .ok (.ireturn, 1) := by decide +kernel
theorem dX4_isLineEnd_0 : decode cX4_isLineEnd 0 = .ok (.iload_n 0, 1) := by decide +kernel
theorem dX4_isLineEnd_1 : decode cX4_isLineEnd 1 = .ok (.iconst 1, 1) := by decide +kernel
theorem dX4_isLineEnd_2 : decode cX4_isLineEnd 2 = .ok (.if_icmp .eq 13, 3) := by decide +kernel
theorem dX4_isLineEnd_5 : decode cX4_isLineEnd 5 = .ok (.iload_n 0, 1) := by decide +kernel
theorem dX4_isLineEnd_6 : decode cX4_isLineEnd 6 = .ok (.iconst 2, 1) := by decide +kernel
theorem dX4_isLineEnd_7 : decode cX4_isLineEnd 7 = .ok (.if_icmp .eq 8, 3) := by decide +kernel
theorem dX4_isLineEnd_10 : decode cX4_isLineEnd 10 = .ok (.iload_n 0, 1) := by decide +kernel
theorem dX4_isLineEnd_11 : decode cX4_isLineEnd 11 = .ok (.iconst 3, 1) := by decide +kernel
theorem dX4_isLineEnd_12 : decode cX4_isLineEnd 12 = .ok (.if_icmp .ne 7, 3) := by decide +kernel
theorem dX4_isLineEnd_15 : decode cX4_isLineEnd 15 = .ok (.iconst 1, 1) := by decide +kernel
theorem dX4_isLineEnd_16 : decode cX4_isLineEnd 16 = .ok (.goto 4, 3) := by decide +kernel
theorem dX4_isLineEnd_19 : decode cX4_isLineEnd 19 = .ok (.iconst 0, 1) := by decide +kernel
theorem dX4_isLineEnd_20 : decode cX4_isLineEnd 20 = .ok (.ireturn, 1) := by decide +kernel
theorem dX4_isAttached_0 : decode cX4_isAttached 0 = .ok (.iload_n 0, 1) := by decide +kernel
theorem dX4_isAttached_1 : decode cX4_isAttached 1 = .ok (.iconst 4, 1) := by decide +kernel
theorem dX4_isAttached_2 : decode cX4_isAttached 2 = .ok (.if_icmp .eq 14, 3) := by decide +kernel
theorem dX4_isAttached_5 : decode cX4_isAttached 5 = .ok (.iload_n 0, 1) := by decide +kernel
theorem dX4_isAttached_6 : decode cX4_isAttached 6 = .ok (.bipush 7, 2) := by decide +kernel
theorem dX4_isAttached_8 : decode cX4_isAttached 8 = .ok (.if_icmp .eq 8, 3) := by decide +kernel
theorem dX4_isAttached_11 : decode cX4_isAttached 11 = .ok (.iload_n 0, 1) := by decide +kernel
theorem dX4_isAttached_12 : decode cX4_isAttached 12 = .ok (.iconst 5, 1) := by decide +kernel
theorem dX4_isAttached_13 : decode cX4_isAttached 13 = .ok (.if_icmp .ne 7, 3) := by decide +kernel
theorem dX4_isAttached_16 : decode cX4_isAttached 16 = .ok (.iconst 1, 1) := by decide +kernel
theorem dX4_isAttached_17 : decode cX4_isAttached 17 = .ok (.goto 4, 3) := by decide +kernel
theorem dX4_isAttached_20 : decode cX4_isAttached 20 = .ok (.iconst 0, 1) := by decide +kernel
theorem dX4_isAttached_21 : decode cX4_isAttached 21 = .ok (.ireturn, 1) := by decide +kernel
theorem dX4_classAhead_0 : decode cX4_classAhead 0 = .ok (.iload_n 1, 1) := by decide +kernel
theorem dX4_classAhead_1 : decode cX4_classAhead 1 = .ok (.iconst 1, 1) := by decide +kernel
theorem dX4_classAhead_2 : decode cX4_classAhead 2 = .ok (.iadd, 1) := by decide +kernel
theorem dX4_classAhead_3 : decode cX4_classAhead 3 = .ok (.istore_n 2, 1) := by decide +kernel
theorem dX4_classAhead_4 : decode cX4_classAhead 4 = .ok (.iload_n 2, 1) := by decide +kernel
theorem dX4_classAhead_5 : decode cX4_classAhead 5 = .ok (.aload_n 0, 1) := by decide +kernel
theorem dX4_classAhead_6 : decode cX4_classAhead 6 = .ok (.getfield 59, 3) := by decide +kernel
theorem dX4_classAhead_9 : decode cX4_classAhead 9 = .ok (.if_icmp .ge 28, 3) := by decide +kernel
theorem dX4_classAhead_12 : decode cX4_classAhead 12 = .ok (.aload_n 0, 1) := by decide +kernel
theorem dX4_classAhead_13 : decode cX4_classAhead 13 = .ok (.getfield 25, 3) := by decide +kernel
theorem dX4_classAhead_16 : decode cX4_classAhead 16 = .ok (.iload_n 2, 1) := by decide +kernel
theorem dX4_classAhead_17 : decode cX4_classAhead 17 = .ok (.iaload, 1) := by decide +kernel
theorem dX4_classAhead_18 : decode cX4_classAhead 18 = .ok (.invokestatic 39, 3) := by decide +kernel
theorem dX4_classAhead_21 : decode cX4_classAhead 21 = .ok (.ifCond .ne 10, 3) := by decide +kernel
theorem dX4_classAhead_24 : decode cX4_classAhead 24 = .ok (.aload_n 0, 1) := by decide +kernel
theorem dX4_classAhead_25 : decode cX4_classAhead 25 = .ok (.getfield 25, 3) := by decide +kernel
theorem dX4_classAhead_28 : decode cX4_classAhead 28 = .ok (.iload_n 2, 1) := by decide +kernel
theorem dX4_classAhead_29 : decode cX4_classAhead 29 = .ok (.iaload, 1) := by decide +kernel
theorem dX4_classAhead_30 : decode cX4_classAhead 30 = .ok (.ireturn, 1) := by decide +kernel
theorem dX4_classAhead_31 : decode cX4_classAhead 31 = .ok (.iinc 2 1, 3) := by decide +kernel
theorem dX4_classAhead_34 : decode cX4_classAhead 34 = .ok (.goto (-30), 3) := by decide +kernel
theorem dX4_classAhead_37 : decode cX4_classAhead 37 = .ok (.iconst (-1), 1) := by decide +kernel
theorem dX4_classAhead_38 : decode cX4_classAhead 38 = .ok (.ireturn, 1) := by decide +kernel
theorem dX4_joinsLetters_0 : decode cX4_joinsLetters 0 = .ok (.aload_n 0, 1) := by decide +kernel
theorem dX4_joinsLetters_1 : decode cX4_joinsLetters 1 = .ok (.getfield 15, 3) := by decide +kernel
theorem dX4_joinsLetters_4 : decode cX4_joinsLetters 4 = .ok (.invokestatic 62, 3) := by decide +kernel
theorem dX4_joinsLetters_7 : decode cX4_joinsLetters 7 = .ok (.ifCond .eq 30, 3) := by decide +kernel
theorem dX4_joinsLetters_10 : decode cX4_joinsLetters 10 = .ok (.iload_n 1, 1) := by decide +kernel
theorem dX4_joinsLetters_11 : decode cX4_joinsLetters 11 = .ok (.invokestatic 62, 3) := by decide +kernel
theorem dX4_joinsLetters_14 : decode cX4_joinsLetters 14 = .ok (.ifCond .ne 17, 3) := by decide +kernel
theorem dX4_joinsLetters_17 : decode cX4_joinsLetters 17 = .ok (.iload_n 1, 1) := by decide +kernel
theorem dX4_joinsLetters_18 : decode cX4_joinsLetters 18 = .ok (.invokestatic 65, 3) := by decide +kernel
theorem dX4_joinsLetters_21 : decode cX4_joinsLetters 21 = .ok (.ifCond .eq 14, 3) := by decide +kernel
theorem dX4_joinsLetters_24 : decode cX4_joinsLetters 24 = .ok (.iload_n 2, 1) := by decide +kernel
theorem dX4_joinsLetters_25 : decode cX4_joinsLetters 25 = .ok (.invokestatic 62, 3) := by decide +kernel
theorem dX4_joinsLetters_28 : decode cX4_joinsLetters 28 = .ok (.ifCond .eq 7, 3) := by decide +kernel
theorem dX4_joinsLetters_31 : decode cX4_joinsLetters 31 = .ok (.iconst 1, 1) := by decide +kernel
theorem dX4_joinsLetters_32 : decode cX4_joinsLetters 32 = .ok (.goto 4, 3) := by decide +kernel
theorem dX4_joinsLetters_35 : decode cX4_joinsLetters 35 = .ok (.iconst 0, 1) := by decide +kernel
theorem dX4_joinsLetters_36 : decode cX4_joinsLetters 36 = .ok (.ireturn, 1) := by decide +kernel
theorem dX4_joinsLetters_37 : decode cX4_joinsLetters 37 = .ok (.aload_n 0, 1) := by decide +kernel
theorem dX4_joinsLetters_38 : decode cX4_joinsLetters 38 = .ok (.getfield 18, 3) := by decide +kernel
theorem dX4_joinsLetters_41 : decode cX4_joinsLetters 41 = .ok (.invokestatic 62, 3) := by decide +kernel
theorem dX4_joinsLetters_44 : decode cX4_joinsLetters 44 = .ok (.ifCond .eq 24, 3) := by decide +kernel
theorem dX4_joinsLetters_47 : decode cX4_joinsLetters 47 = .ok (.aload_n 0, 1) := by decide +kernel
theorem dX4_joinsLetters_48 : decode cX4_joinsLetters 48 = .ok (.getfield 15, 3) := by decide +kernel
theorem dX4_joinsLetters_51 : decode cX4_joinsLetters 51 = .ok (.invokestatic 65, 3) := by decide +kernel
theorem dX4_joinsLetters_54 : decode cX4_joinsLetters 54 = .ok (.ifCond .eq 14, 3) := by decide +kernel
theorem dX4_joinsLetters_57 : decode cX4_joinsLetters 57 = .ok (.iload_n 1, 1) := by decide +kernel
theorem dX4_joinsLetters_58 : decode cX4_joinsLetters 58 = .ok (.invokestatic 62, 3) := by decide +kernel
theorem dX4_joinsLetters_61 : decode cX4_joinsLetters 61 = .ok (.ifCond .eq 7, 3) := by decide +kernel
theorem dX4_joinsLetters_64 : decode cX4_joinsLetters 64 = .ok (.iconst 1, 1) := by decide +kernel
theorem dX4_joinsLetters_65 : decode cX4_joinsLetters 65 = .ok (.goto 4, 3) := by decide +kernel
theorem dX4_joinsLetters_68 : decode cX4_joinsLetters 68 = .ok (.iconst 0, 1) := by decide +kernel
theorem dX4_joinsLetters_69 : decode cX4_joinsLetters 69 = .ok (.ireturn, 1) := by decide +kernel
theorem dX4_isLetter_0 : decode cX4_isLetter 0 = .ok (.iload_n 0, 1) := by decide +kernel
theorem dX4_isLetter_1 : decode cX4_isLetter 1 = .ok (.bipush 10, 2) := by decide +kernel
theorem dX4_isLetter_3 : decode cX4_isLetter 3 = .ok (.if_icmp .eq 9, 3) := by decide +kernel
theorem dX4_isLetter_6 : decode cX4_isLetter 6 = .ok (.iload_n 0, 1) := by decide +kernel
theorem dX4_isLetter_7 : decode cX4_isLetter 7 = .ok (.bipush 9, 2) := by decide +kernel
theorem dX4_isLetter_9 : decode cX4_isLetter 9 = .ok (.if_icmp .ne 7, 3) := by decide +kernel
theorem dX4_isLetter_12 : decode cX4_isLetter 12 = .ok (.iconst 1, 1) := by decide +kernel
theorem dX4_isLetter_13 : decode cX4_isLetter 13 = .ok (.goto 4, 3) := by decide +kernel
theorem dX4_isLetter_16 : decode cX4_isLetter 16 = .ok (.iconst 0, 1) := by decide +kernel
theorem dX4_isLetter_17 : decode cX4_isLetter 17 = .ok (.ireturn, 1) := by decide +kernel
theorem dX4_isMidLetter_0 : decode cX4_isMidLetter 0 = .ok (.iload_n 0, 1) := by decide +kernel
theorem dX4_isMidLetter_1 : decode cX4_isMidLetter 1 = .ok (.bipush 11, 2) := by decide +kernel
theorem dX4_isMidLetter_3 : decode cX4_isMidLetter 3 = .ok (.if_icmp .eq 10, 3) := by decide +kernel
theorem dX4_isMidLetter_6 : decode cX4_isMidLetter 6 = .ok (.iload_n 0, 1) := by decide +kernel
theorem dX4_isMidLetter_7 : decode cX4_isMidLetter 7 = .ok (.invokestatic 74, 3) := by decide +kernel
theorem dX4_isMidLetter_10 : decode cX4_isMidLetter 10 = .ok (.ifCond .eq 7, 3) := by decide +kernel
theorem dX4_isMidLetter_13 : decode cX4_isMidLetter 13 = .ok (.iconst 1, 1) := by decide +kernel
theorem dX4_isMidLetter_14 : decode cX4_isMidLetter 14 = .ok (.goto 4, 3) := by decide +kernel
theorem dX4_isMidLetter_17 : decode cX4_isMidLetter 17 = .ok (.iconst 0, 1) := by decide +kernel
theorem dX4_isMidLetter_18 : decode cX4_isMidLetter 18 = .ok (.ireturn, 1) := by decide +kernel
theorem dX4_isMidOfBoth_0 : decode cX4_isMidOfBoth 0 = .ok (.iload_n 0, 1) := by decide +kernel
theorem dX4_isMidOfBoth_1 : decode cX4_isMidOfBoth 1 = .ok (.bipush 13, 2) := by decide +kernel
theorem dX4_isMidOfBoth_3 : decode cX4_isMidOfBoth 3 = .ok (.if_icmp .eq 9, 3) := by decide +kernel
theorem dX4_isMidOfBoth_6 : decode cX4_isMidOfBoth 6 = .ok (.iload_n 0, 1) := by decide +kernel
theorem dX4_isMidOfBoth_7 : decode cX4_isMidOfBoth 7 = .ok (.bipush 14, 2) := by decide +kernel
theorem dX4_isMidOfBoth_9 : decode cX4_isMidOfBoth 9 = .ok (.if_icmp .ne 7, 3) := by decide +kernel
theorem dX4_isMidOfBoth_12 : decode cX4_isMidOfBoth 12 = .ok (.iconst 1, 1) := by decide +kernel
theorem dX4_isMidOfBoth_13 : decode cX4_isMidOfBoth 13 = .ok (.goto 4, 3) := by decide +kernel
theorem dX4_isMidOfBoth_16 : decode cX4_isMidOfBoth 16 = .ok (.iconst 0, 1) := by decide +kernel
theorem dX4_isMidOfBoth_17 : decode cX4_isMidOfBoth 17 = .ok (.ireturn, 1) := by decide +kernel
theorem dX4_joinsHebrew_0 : decode cX4_joinsHebrew 0 = .ok (.aload_n 0, 1) := by decide +kernel
theorem dX4_joinsHebrew_1 : decode cX4_joinsHebrew 1 = .ok (.getfield 15, 3) := by decide +kernel
theorem dX4_joinsHebrew_4 : decode cX4_joinsHebrew 4 = .ok (.bipush 9, 2) := by decide +kernel
theorem dX4_joinsHebrew_6 : decode cX4_joinsHebrew 6 = .ok (.if_icmp .ne 27, 3) := by decide +kernel
theorem dX4_joinsHebrew_9 : decode cX4_joinsHebrew 9 = .ok (.iload_n 1, 1) := by decide +kernel
theorem dX4_joinsHebrew_10 : decode cX4_joinsHebrew 10 = .ok (.bipush 14, 2) := by decide +kernel
theorem dX4_joinsHebrew_12 : decode cX4_joinsHebrew 12 = .ok (.if_icmp .eq 15, 3) := by decide +kernel
theorem dX4_joinsHebrew_15 : decode cX4_joinsHebrew 15 = .ok (.iload_n 1, 1) := by decide +kernel
theorem dX4_joinsHebrew_16 : decode cX4_joinsHebrew 16 = .ok (.bipush 15, 2) := by decide +kernel
theorem dX4_joinsHebrew_18 : decode cX4_joinsHebrew 18 = .ok (.if_icmp .ne 13, 3) := by decide +kernel
theorem dX4_joinsHebrew_21 : decode cX4_joinsHebrew 21 = .ok (.iload_n 2, 1) := by decide +kernel
theorem dX4_joinsHebrew_22 : decode cX4_joinsHebrew 22 = .ok (.bipush 9, 2) := by decide +kernel
theorem dX4_joinsHebrew_24 : decode cX4_joinsHebrew 24 = .ok (.if_icmp .ne 7, 3) := by decide +kernel
theorem dX4_joinsHebrew_27 : decode cX4_joinsHebrew 27 = .ok (.iconst 1, 1) := by decide +kernel
theorem dX4_joinsHebrew_28 : decode cX4_joinsHebrew 28 = .ok (.goto 4, 3) := by decide +kernel
theorem dX4_joinsHebrew_31 : decode cX4_joinsHebrew 31 = .ok (.iconst 0, 1) := by decide +kernel
theorem dX4_joinsHebrew_32 : decode cX4_joinsHebrew 32 = .ok (.ireturn, 1) := by decide +kernel
theorem dX4_joinsHebrew_33 : decode cX4_joinsHebrew 33 = .ok (.aload_n 0, 1) := by decide +kernel
theorem dX4_joinsHebrew_34 : decode cX4_joinsHebrew 34 = .ok (.getfield 18, 3) := by decide +kernel
theorem dX4_joinsHebrew_37 : decode cX4_joinsHebrew 37 = .ok (.bipush 9, 2) := by decide +kernel
theorem dX4_joinsHebrew_39 : decode cX4_joinsHebrew 39 = .ok (.if_icmp .ne 22, 3) := by decide +kernel
theorem dX4_joinsHebrew_42 : decode cX4_joinsHebrew 42 = .ok (.aload_n 0, 1) := by decide +kernel
theorem dX4_joinsHebrew_43 : decode cX4_joinsHebrew 43 = .ok (.getfield 15, 3) := by decide +kernel
theorem dX4_joinsHebrew_46 : decode cX4_joinsHebrew 46 = .ok (.bipush 15, 2) := by decide +kernel
theorem dX4_joinsHebrew_48 : decode cX4_joinsHebrew 48 = .ok (.if_icmp .ne 13, 3) := by decide +kernel
theorem dX4_joinsHebrew_51 : decode cX4_joinsHebrew 51 = .ok (.iload_n 1, 1) := by decide +kernel
theorem dX4_joinsHebrew_52 : decode cX4_joinsHebrew 52 = .ok (.bipush 9, 2) := by decide +kernel
theorem dX4_joinsHebrew_54 : decode cX4_joinsHebrew 54 = .ok (.if_icmp .ne 7, 3) := by decide +kernel
theorem dX4_joinsHebrew_57 : decode cX4_joinsHebrew 57 = .ok (.iconst 1, 1) := by decide +kernel
theorem dX4_joinsHebrew_58 : decode cX4_joinsHebrew 58 = .ok (.goto 4, 3) := by decide +kernel
theorem dX4_joinsHebrew_61 : decode cX4_joinsHebrew 61 = .ok (.iconst 0, 1) := by decide +kernel
theorem dX4_joinsHebrew_62 : decode cX4_joinsHebrew 62 = .ok (.ireturn, 1) := by decide +kernel
theorem dX4_joinsNumbers_0 : decode cX4_joinsNumbers 0 = .ok (.aload_n 0, 1) := by decide +kernel
theorem dX4_joinsNumbers_1 : decode cX4_joinsNumbers 1 = .ok (.getfield 15, 3) := by decide +kernel
theorem dX4_joinsNumbers_4 : decode cX4_joinsNumbers 4 = .ok (.bipush 16, 2) := by decide +kernel
theorem dX4_joinsNumbers_6 : decode cX4_joinsNumbers 6 = .ok (.if_icmp .ne 35, 3) := by decide +kernel
theorem dX4_joinsNumbers_9 : decode cX4_joinsNumbers 9 = .ok (.iload_n 1, 1) := by decide +kernel
theorem dX4_joinsNumbers_10 : decode cX4_joinsNumbers 10 = .ok (.bipush 16, 2) := by decide +kernel
theorem dX4_joinsNumbers_12 : decode cX4_joinsNumbers 12 = .ok (.if_icmp .eq 23, 3) := by decide +kernel
theorem dX4_joinsNumbers_15 : decode cX4_joinsNumbers 15 = .ok (.iload_n 1, 1) := by decide +kernel
theorem dX4_joinsNumbers_16 : decode cX4_joinsNumbers 16 = .ok (.invokestatic 62, 3) := by decide +kernel
theorem dX4_joinsNumbers_19 : decode cX4_joinsNumbers 19 = .ok (.ifCond .ne 16, 3) := by decide +kernel
theorem dX4_joinsNumbers_22 : decode cX4_joinsNumbers 22 = .ok (.iload_n 1, 1) := by decide +kernel
theorem dX4_joinsNumbers_23 : decode cX4_joinsNumbers 23 = .ok (.invokestatic 68, 3) := by decide +kernel
theorem dX4_joinsNumbers_26 : decode cX4_joinsNumbers 26 = .ok (.ifCond .eq 13, 3) := by decide +kernel
theorem dX4_joinsNumbers_29 : decode cX4_joinsNumbers 29 = .ok (.iload_n 2, 1) := by decide +kernel
theorem dX4_joinsNumbers_30 : decode cX4_joinsNumbers 30 = .ok (.bipush 16, 2) := by decide +kernel
theorem dX4_joinsNumbers_32 : decode cX4_joinsNumbers 32 = .ok (.if_icmp .ne 7, 3) := by decide +kernel
theorem dX4_joinsNumbers_35 : decode cX4_joinsNumbers 35 = .ok (.iconst 1, 1) := by decide +kernel
theorem dX4_joinsNumbers_36 : decode cX4_joinsNumbers 36 = .ok (.goto 4, 3) := by decide +kernel
theorem dX4_joinsNumbers_39 : decode cX4_joinsNumbers 39 = .ok (.iconst 0, 1) := by decide +kernel
theorem dX4_joinsNumbers_40 : decode cX4_joinsNumbers 40 = .ok (.ireturn, 1) := by decide +kernel
theorem dX4_joinsNumbers_41 : decode cX4_joinsNumbers 41 = .ok (.aload_n 0, 1) := by decide +kernel
theorem dX4_joinsNumbers_42 : decode cX4_joinsNumbers 42 = .ok (.getfield 15, 3) := by decide +kernel
theorem dX4_joinsNumbers_45 : decode cX4_joinsNumbers 45 = .ok (.invokestatic 62, 3) := by decide +kernel
theorem dX4_joinsNumbers_48 : decode cX4_joinsNumbers 48 = .ok (.ifCond .eq 15, 3) := by decide +kernel
theorem dX4_joinsNumbers_51 : decode cX4_joinsNumbers 51 = .ok (.iload_n 1, 1) := by decide +kernel
theorem dX4_joinsNumbers_52 : decode cX4_joinsNumbers 52 = .ok (.bipush 16, 2) := by decide +kernel
theorem dX4_joinsNumbers_54 : decode cX4_joinsNumbers 54 = .ok (.if_icmp .ne 7, 3) := by decide +kernel
theorem dX4_joinsNumbers_57 : decode cX4_joinsNumbers 57 = .ok (.iconst 1, 1) := by decide +kernel
theorem dX4_joinsNumbers_58 : decode cX4_joinsNumbers 58 = .ok (.goto 4, 3) := by decide +kernel
theorem dX4_joinsNumbers_61 : decode cX4_joinsNumbers 61 = .ok (.iconst 0, 1) := by decide +kernel
theorem dX4_joinsNumbers_62 : decode cX4_joinsNumbers 62 = .ok (.ireturn, 1) := by decide +kernel
theorem dX4_joinsNumbers_63 : decode cX4_joinsNumbers 63 = .ok (.aload_n 0, 1) := by decide +kernel
theorem dX4_joinsNumbers_64 : decode cX4_joinsNumbers 64 = .ok (.getfield 18, 3) := by decide +kernel
theorem dX4_joinsNumbers_67 : decode cX4_joinsNumbers 67 = .ok (.bipush 16, 2) := by decide +kernel
theorem dX4_joinsNumbers_69 : decode cX4_joinsNumbers 69 = .ok (.if_icmp .ne 23, 3) := by decide +kernel
theorem dX4_joinsNumbers_72 : decode cX4_joinsNumbers 72 = .ok (.aload_n 0, 1) := by decide +kernel
theorem dX4_joinsNumbers_73 : decode cX4_joinsNumbers 73 = .ok (.getfield 15, 3) := by decide +kernel
theorem dX4_joinsNumbers_76 : decode cX4_joinsNumbers 76 = .ok (.invokestatic 68, 3) := by decide +kernel
theorem dX4_joinsNumbers_79 : decode cX4_joinsNumbers 79 = .ok (.ifCond .eq 13, 3) := by decide +kernel
theorem dX4_joinsNumbers_82 : decode cX4_joinsNumbers 82 = .ok (.iload_n 1, 1) := by decide +kernel
theorem dX4_joinsNumbers_83 : decode cX4_joinsNumbers 83 = .ok (.bipush 16, 2) := by decide +kernel
theorem dX4_joinsNumbers_85 : decode cX4_joinsNumbers 85 = .ok (.if_icmp .ne 7, 3) := by decide +kernel
theorem dX4_joinsNumbers_88 : decode cX4_joinsNumbers 88 = .ok (.iconst 1, 1) := by decide +kernel
theorem dX4_joinsNumbers_89 : decode cX4_joinsNumbers 89 = .ok (.goto 4, 3) := by decide +kernel
theorem dX4_joinsNumbers_92 : decode cX4_joinsNumbers 92 = .ok (.iconst 0, 1) := by decide +kernel
theorem dX4_joinsNumbers_93 : decode cX4_joinsNumbers 93 = .ok (.ireturn, 1) := by decide +kernel
theorem dX4_isMidNumber_0 : decode cX4_isMidNumber 0 = .ok (.iload_n 0, 1) := by decide +kernel
theorem dX4_isMidNumber_1 : decode cX4_isMidNumber 1 = .ok (.bipush 12, 2) := by decide +kernel
theorem dX4_isMidNumber_3 : decode cX4_isMidNumber 3 = .ok (.if_icmp .eq 10, 3) := by decide +kernel
theorem dX4_isMidNumber_6 : decode cX4_isMidNumber 6 = .ok (.iload_n 0, 1) := by decide +kernel
theorem dX4_isMidNumber_7 : decode cX4_isMidNumber 7 = .ok (.invokestatic 74, 3) := by decide +kernel
theorem dX4_isMidNumber_10 : decode cX4_isMidNumber 10 = .ok (.ifCond .eq 7, 3) := by decide +kernel
theorem dX4_isMidNumber_13 : decode cX4_isMidNumber 13 = .ok (.iconst 1, 1) := by decide +kernel
theorem dX4_isMidNumber_14 : decode cX4_isMidNumber 14 = .ok (.goto 4, 3) := by decide +kernel
theorem dX4_isMidNumber_17 : decode cX4_isMidNumber 17 = .ok (.iconst 0, 1) := by decide +kernel
theorem dX4_isMidNumber_18 : decode cX4_isMidNumber 18 = .ok (.ireturn, 1) := by decide +kernel
theorem dX4_joinsRuns_0 : decode cX4_joinsRuns 0 = .ok (.iload_n 1, 1) := by decide +kernel
theorem dX4_joinsRuns_1 : decode cX4_joinsRuns 1 = .ok (.bipush 17, 2) := by decide +kernel
theorem dX4_joinsRuns_3 : decode cX4_joinsRuns 3 = .ok (.if_icmp .ne 28, 3) := by decide +kernel
theorem dX4_joinsRuns_6 : decode cX4_joinsRuns 6 = .ok (.aload_n 0, 1) := by decide +kernel
theorem dX4_joinsRuns_7 : decode cX4_joinsRuns 7 = .ok (.getfield 15, 3) := by decide +kernel
theorem dX4_joinsRuns_10 : decode cX4_joinsRuns 10 = .ok (.invokestatic 71, 3) := by decide +kernel
theorem dX4_joinsRuns_13 : decode cX4_joinsRuns 13 = .ok (.ifCond .ne 12, 3) := by decide +kernel
theorem dX4_joinsRuns_16 : decode cX4_joinsRuns 16 = .ok (.aload_n 0, 1) := by decide +kernel
theorem dX4_joinsRuns_17 : decode cX4_joinsRuns 17 = .ok (.getfield 15, 3) := by decide +kernel
theorem dX4_joinsRuns_20 : decode cX4_joinsRuns 20 = .ok (.bipush 17, 2) := by decide +kernel
theorem dX4_joinsRuns_22 : decode cX4_joinsRuns 22 = .ok (.if_icmp .ne 7, 3) := by decide +kernel
theorem dX4_joinsRuns_25 : decode cX4_joinsRuns 25 = .ok (.iconst 1, 1) := by decide +kernel
theorem dX4_joinsRuns_26 : decode cX4_joinsRuns 26 = .ok (.goto 4, 3) := by decide +kernel
theorem dX4_joinsRuns_29 : decode cX4_joinsRuns 29 = .ok (.iconst 0, 1) := by decide +kernel
theorem dX4_joinsRuns_30 : decode cX4_joinsRuns 30 = .ok (.ireturn, 1) := by decide +kernel
theorem dX4_joinsRuns_31 : decode cX4_joinsRuns 31 = .ok (.aload_n 0, 1) := by decide +kernel
theorem dX4_joinsRuns_32 : decode cX4_joinsRuns 32 = .ok (.getfield 15, 3) := by decide +kernel
theorem dX4_joinsRuns_35 : decode cX4_joinsRuns 35 = .ok (.bipush 17, 2) := by decide +kernel
theorem dX4_joinsRuns_37 : decode cX4_joinsRuns 37 = .ok (.if_icmp .ne 8, 3) := by decide +kernel
theorem dX4_joinsRuns_40 : decode cX4_joinsRuns 40 = .ok (.iload_n 1, 1) := by decide +kernel
theorem dX4_joinsRuns_41 : decode cX4_joinsRuns 41 = .ok (.invokestatic 71, 3) := by decide +kernel
theorem dX4_joinsRuns_44 : decode cX4_joinsRuns 44 = .ok (.ireturn, 1) := by decide +kernel
theorem dX4_joinsRuns_45 : decode cX4_joinsRuns 45 = .ok (.aload_n 0, 1) := by decide +kernel
theorem dX4_joinsRuns_46 : decode cX4_joinsRuns 46 = .ok (.getfield 15, 3) := by decide +kernel
theorem dX4_joinsRuns_49 : decode cX4_joinsRuns 49 = .ok (.bipush 8, 2) := by decide +kernel
theorem dX4_joinsRuns_51 : decode cX4_joinsRuns 51 = .ok (.if_icmp .ne 13, 3) := by decide +kernel
theorem dX4_joinsRuns_54 : decode cX4_joinsRuns 54 = .ok (.iload_n 1, 1) := by decide +kernel
theorem dX4_joinsRuns_55 : decode cX4_joinsRuns 55 = .ok (.bipush 8, 2) := by decide +kernel
theorem dX4_joinsRuns_57 : decode cX4_joinsRuns 57 = .ok (.if_icmp .ne 7, 3) := by decide +kernel
theorem dX4_joinsRuns_60 : decode cX4_joinsRuns 60 = .ok (.iconst 1, 1) := by decide +kernel
theorem dX4_joinsRuns_61 : decode cX4_joinsRuns 61 = .ok (.goto 4, 3) := by decide +kernel
theorem dX4_joinsRuns_64 : decode cX4_joinsRuns 64 = .ok (.iconst 0, 1) := by decide +kernel
theorem dX4_joinsRuns_65 : decode cX4_joinsRuns 65 = .ok (.ireturn, 1) := by decide +kernel
theorem dX4_isRunPart_0 : decode cX4_isRunPart 0 = .ok (.iload_n 0, 1) := by decide +kernel
theorem dX4_isRunPart_1 : decode cX4_isRunPart 1 = .ok (.invokestatic 62, 3) := by decide +kernel
theorem dX4_isRunPart_4 : decode cX4_isRunPart 4 = .ok (.ifCond .ne 15, 3) := by decide +kernel
theorem dX4_isRunPart_7 : decode cX4_isRunPart 7 = .ok (.iload_n 0, 1) := by decide +kernel
theorem dX4_isRunPart_8 : decode cX4_isRunPart 8 = .ok (.bipush 16, 2) := by decide +kernel
theorem dX4_isRunPart_10 : decode cX4_isRunPart 10 = .ok (.if_icmp .eq 9, 3) := by decide +kernel
theorem dX4_isRunPart_13 : decode cX4_isRunPart 13 = .ok (.iload_n 0, 1) := by decide +kernel
theorem dX4_isRunPart_14 : decode cX4_isRunPart 14 = .ok (.bipush 8, 2) := by decide +kernel
theorem dX4_isRunPart_16 : decode cX4_isRunPart 16 = .ok (.if_icmp .ne 7, 3) := by decide +kernel
theorem dX4_isRunPart_19 : decode cX4_isRunPart 19 = .ok (.iconst 1, 1) := by decide +kernel
theorem dX4_isRunPart_20 : decode cX4_isRunPart 20 = .ok (.goto 4, 3) := by decide +kernel
theorem dX4_isRunPart_23 : decode cX4_isRunPart 23 = .ok (.iconst 0, 1) := by decide +kernel
theorem dX4_isRunPart_24 : decode cX4_isRunPart 24 = .ok (.ireturn, 1) := by decide +kernel
theorem dX1_pass_0 : decode cX1_pass 0 = .ok (.aload_n 1, 1) := by decide +kernel
theorem dX1_pass_1 : decode cX1_pass 1 = .ok (.getfield 25, 3) := by decide +kernel
theorem dX1_pass_4 : decode cX1_pass 4 = .ok (.iload_n 2, 1) := by decide +kernel
theorem dX1_pass_5 : decode cX1_pass 5 = .ok (.iaload, 1) := by decide +kernel
theorem dX1_pass_6 : decode cX1_pass 6 = .ok (.istore_n 3, 1) := by decide +kernel
theorem dX1_pass_7 : decode cX1_pass 7 = .ok (.aload_n 0, 1) := by decide +kernel
theorem dX1_pass_8 : decode cX1_pass 8 = .ok (.aload_n 0, 1) := by decide +kernel
theorem dX1_pass_9 : decode cX1_pass 9 = .ok (.getfield 19, 3) := by decide +kernel
theorem dX1_pass_12 : decode cX1_pass 12 = .ok (.ifCond .eq 12, 3) := by decide +kernel
theorem dX1_pass_15 : decode cX1_pass 15 = .ok (.iload_n 3, 1) := by decide +kernel
theorem dX1_pass_16 : decode cX1_pass 16 = .ok (.iconst 5, 1) := by decide +kernel
theorem dX1_pass_17 : decode cX1_pass 17 = .ok (.if_icmp .ne 7, 3) := by decide +kernel
theorem dX1_pass_20 : decode cX1_pass 20 = .ok (.iconst 1, 1) := by decide +kernel
theorem dX1_pass_21 : decode cX1_pass 21 = .ok (.goto 4, 3) := by decide +kernel
theorem dX1_pass_24 : decode cX1_pass 24 = .ok (.iconst 0, 1) := by decide +kernel
theorem dX1_pass_25 : decode cX1_pass 25 = .ok (.putfield 22, 3) := by decide +kernel
theorem dX1_pass_28 : decode cX1_pass 28 = .ok (.aload_n 0, 1) := by decide +kernel
theorem dX1_pass_29 : decode cX1_pass 29 = .ok (.aload_n 1, 1) := by decide +kernel
theorem dX1_pass_30 : decode cX1_pass 30 = .ok (.getfield 38, 3) := by decide +kernel
theorem dX1_pass_33 : decode cX1_pass 33 = .ok (.iload_n 2, 1) := by decide +kernel
theorem dX1_pass_34 : decode cX1_pass 34 = .ok (.baload, 1) := by decide +kernel
theorem dX1_pass_35 : decode cX1_pass 35 = .ok (.ifCond .ne 15, 3) := by decide +kernel
theorem dX1_pass_38 : decode cX1_pass 38 = .ok (.aload_n 0, 1) := by decide +kernel
theorem dX1_pass_39 : decode cX1_pass 39 = .ok (.getfield 19, 3) := by decide +kernel
theorem dX1_pass_42 : decode cX1_pass 42 = .ok (.ifCond .eq 12, 3) := by decide +kernel
theorem dX1_pass_45 : decode cX1_pass 45 = .ok (.iload_n 3, 1) := by decide +kernel
theorem dX1_pass_46 : decode cX1_pass 46 = .ok (.iconst 4, 1) := by decide +kernel
theorem dX1_pass_47 : decode cX1_pass 47 = .ok (.if_icmp .ne 7, 3) := by decide +kernel
theorem dX1_pass_50 : decode cX1_pass 50 = .ok (.iconst 1, 1) := by decide +kernel
theorem dX1_pass_51 : decode cX1_pass 51 = .ok (.goto 4, 3) := by decide +kernel
theorem dX1_pass_54 : decode cX1_pass 54 = .ok (.iconst 0, 1) := by decide +kernel
theorem dX1_pass_55 : decode cX1_pass 55 = .ok (.putfield 19, 3) := by decide +kernel
theorem dX1_pass_58 : decode cX1_pass 58 = .ok (.aload_n 0, 1) := by decide +kernel
theorem dX1_pass_59 : decode cX1_pass 59 = .ok (.iload_n 3, 1) := by decide +kernel
theorem dX1_pass_60 : decode cX1_pass 60 = .ok (.bipush 6, 2) := by decide +kernel
theorem dX1_pass_62 : decode cX1_pass 62 = .ok (.if_icmp .ne 14, 3) := by decide +kernel
theorem dX1_pass_65 : decode cX1_pass 65 = .ok (.aload_n 0, 1) := by decide +kernel
theorem dX1_pass_66 : decode cX1_pass 66 = .ok (.getfield 15, 3) := by decide +kernel
theorem dX1_pass_69 : decode cX1_pass 69 = .ok (.ifCond .ne 7, 3) := by decide +kernel
theorem dX1_pass_72 : decode cX1_pass 72 = .ok (.iconst 1, 1) := by decide +kernel
theorem dX1_pass_73 : decode cX1_pass 73 = .ok (.goto 4, 3) := by decide +kernel
theorem dX1_pass_76 : decode cX1_pass 76 = .ok (.iconst 0, 1) := by decide +kernel
theorem dX1_pass_77 : decode cX1_pass 77 = .ok (.putfield 15, 3) := by decide +kernel
theorem dX1_pass_80 : decode cX1_pass 80 = .ok (.aload_n 0, 1) := by decide +kernel
theorem dX1_pass_81 : decode cX1_pass 81 = .ok (.iload_n 3, 1) := by decide +kernel
theorem dX1_pass_82 : decode cX1_pass 82 = .ok (.putfield 9, 3) := by decide +kernel
theorem dX1_pass_85 : decode cX1_pass 85 = .ok (.return_, 1) := by decide +kernel
theorem dX4_pass_0 : decode cX4_pass 0 = .ok (.aload_n 1, 1) := by decide +kernel
theorem dX4_pass_1 : decode cX4_pass 1 = .ok (.getfield 25, 3) := by decide +kernel
theorem dX4_pass_4 : decode cX4_pass 4 = .ok (.iload_n 2, 1) := by decide +kernel
theorem dX4_pass_5 : decode cX4_pass 5 = .ok (.iaload, 1) := by decide +kernel
theorem dX4_pass_6 : decode cX4_pass 6 = .ok (.istore_n 3, 1) := by decide +kernel
theorem dX4_pass_7 : decode cX4_pass 7 = .ok (.iload_n 3, 1) := by decide +kernel
theorem dX4_pass_8 : decode cX4_pass 8 = .ok (.invokestatic 39, 3) := by decide +kernel
theorem dX4_pass_11 : decode cX4_pass 11 = .ok (.ifCond .eq 21, 3) := by decide +kernel
theorem dX4_pass_14 : decode cX4_pass 14 = .ok (.aload_n 0, 1) := by decide +kernel
theorem dX4_pass_15 : decode cX4_pass 15 = .ok (.getfield 9, 3) := by decide +kernel
theorem dX4_pass_18 : decode cX4_pass 18 = .ok (.iconst (-1), 1) := by decide +kernel
theorem dX4_pass_19 : decode cX4_pass 19 = .ok (.if_icmp .eq 13, 3) := by decide +kernel
theorem dX4_pass_22 : decode cX4_pass 22 = .ok (.aload_n 0, 1) := by decide +kernel
theorem dX4_pass_23 : decode cX4_pass 23 = .ok (.getfield 9, 3) := by decide +kernel
theorem dX4_pass_26 : decode cX4_pass 26 = .ok (.invokestatic 31, 3) := by decide +kernel
theorem dX4_pass_29 : decode cX4_pass 29 = .ok (.ifCond .eq 7, 3) := by decide +kernel
theorem dX4_pass_32 : decode cX4_pass 32 = .ok (.iconst 1, 1) := by decide +kernel
theorem dX4_pass_33 : decode cX4_pass 33 = .ok (.goto 4, 3) := by decide +kernel
theorem dX4_pass_36 : decode cX4_pass 36 = .ok (.iconst 0, 1) := by decide +kernel
theorem dX4_pass_37 : decode cX4_pass 37 = .ok (.istore 4, 2) := by decide +kernel
theorem dX4_pass_39 : decode cX4_pass 39 = .ok (.iload 4, 2) := by decide +kernel
theorem dX4_pass_41 : decode cX4_pass 41 = .ok (.ifCond .eq 38, 3) := by decide +kernel
theorem dX4_pass_44 : decode cX4_pass 44 = .ok (.aload_n 0, 1) := by decide +kernel
theorem dX4_pass_45 : decode cX4_pass 45 = .ok (.aload_n 0, 1) := by decide +kernel
theorem dX4_pass_46 : decode cX4_pass 46 = .ok (.getfield 15, 3) := by decide +kernel
theorem dX4_pass_49 : decode cX4_pass 49 = .ok (.putfield 18, 3) := by decide +kernel
theorem dX4_pass_52 : decode cX4_pass 52 = .ok (.aload_n 0, 1) := by decide +kernel
theorem dX4_pass_53 : decode cX4_pass 53 = .ok (.iload_n 3, 1) := by decide +kernel
theorem dX4_pass_54 : decode cX4_pass 54 = .ok (.putfield 15, 3) := by decide +kernel
theorem dX4_pass_57 : decode cX4_pass 57 = .ok (.aload_n 0, 1) := by decide +kernel
theorem dX4_pass_58 : decode cX4_pass 58 = .ok (.iload_n 3, 1) := by decide +kernel
theorem dX4_pass_59 : decode cX4_pass 59 = .ok (.bipush 6, 2) := by decide +kernel
theorem dX4_pass_61 : decode cX4_pass 61 = .ok (.if_icmp .ne 14, 3) := by decide +kernel
theorem dX4_pass_64 : decode cX4_pass 64 = .ok (.aload_n 0, 1) := by decide +kernel
theorem dX4_pass_65 : decode cX4_pass 65 = .ok (.getfield 21, 3) := by decide +kernel
theorem dX4_pass_68 : decode cX4_pass 68 = .ok (.ifCond .ne 7, 3) := by decide +kernel
theorem dX4_pass_71 : decode cX4_pass 71 = .ok (.iconst 1, 1) := by decide +kernel
theorem dX4_pass_72 : decode cX4_pass 72 = .ok (.goto 4, 3) := by decide +kernel
theorem dX4_pass_75 : decode cX4_pass 75 = .ok (.iconst 0, 1) := by decide +kernel
theorem dX4_pass_76 : decode cX4_pass 76 = .ok (.putfield 21, 3) := by decide +kernel
theorem dX4_pass_79 : decode cX4_pass 79 = .ok (.aload_n 0, 1) := by decide +kernel
theorem dX4_pass_80 : decode cX4_pass 80 = .ok (.iload_n 3, 1) := by decide +kernel
theorem dX4_pass_81 : decode cX4_pass 81 = .ok (.putfield 9, 3) := by decide +kernel
theorem dX4_pass_84 : decode cX4_pass 84 = .ok (.return_, 1) := by decide +kernel
theorem dL_next_0 : decode cL_next 0 = .ok (.aload 4, 2) := by decide +kernel
theorem dL_next_2 : decode cL_next 2 = .ok (.iconst 0, 1) := by decide +kernel
theorem dL_next_3 : decode cL_next 3 = .ok (.aload_n 0, 1) := by decide +kernel
theorem dL_next_4 : decode cL_next 4 = .ok (.iload_n 1, 1) := by decide +kernel
theorem dL_next_5 : decode cL_next 5 = .ok (.iload_n 2, 1) := by decide +kernel
theorem dL_next_6 : decode cL_next 6 = .ok (.iload_n 3, 1) := by decide +kernel
theorem dL_next_7 : decode cL_next 7 = .ok (.invokevirtual 29, 3) := by decide +kernel
theorem dL_next_10 : decode cL_next 10 = .ok (.i2l, 1) := by decide +kernel
theorem dL_next_11 : decode cL_next 11 = .ok (.lastore, 1) := by decide +kernel
theorem dL_next_12 : decode cL_next 12 = .ok (.goto 7, 3) := by decide +kernel
theorem dL_next_15 : decode cL_next 15 = .ok (.astore 5, 2) := by decide +kernel
theorem dL_next_17 : decode cL_next 17 = .ok (.iconst 1, 1) := by decide +kernel
theorem dL_next_18 : decode cL_next 18 = .ok (.ireturn, 1) := by decide +kernel
theorem dL_next_19 : decode cL_next 19 = .ok (.iconst 0, 1) := by decide +kernel
theorem dL_next_20 : decode cL_next 20 = .ok (.ireturn, 1) := by decide +kernel
theorem dX5_next_0 : decode cX5_next 0 = .ok (.iload_n 1, 1) := by decide +kernel
theorem dX5_next_1 : decode cX5_next 1 = .ok (.iconst 1, 1) := by decide +kernel
theorem dX5_next_2 : decode cX5_next 2 = .ok (.invokestatic 34, 3) := by decide +kernel
theorem dX5_next_5 : decode cX5_next 5 = .ok (.iload_n 2, 1) := by decide +kernel
theorem dX5_next_6 : decode cX5_next 6 = .ok (.aload_n 0, 1) := by decide +kernel
theorem dX5_next_7 : decode cX5_next 7 = .ok (.getfield 10, 3) := by decide +kernel
theorem dX5_next_10 : decode cX5_next 10 = .ok (.getfield 38, 3) := by decide +kernel
theorem dX5_next_13 : decode cX5_next 13 = .ok (.invokestatic 34, 3) := by decide +kernel
theorem dX5_next_16 : decode cX5_next 16 = .ok (.aload_n 0, 1) := by decide +kernel
theorem dX5_next_17 : decode cX5_next 17 = .ok (.iload_n 1, 1) := by decide +kernel
theorem dX5_next_18 : decode cX5_next 18 = .ok (.invokevirtual 56, 3) := by decide +kernel
theorem dX5_next_21 : decode cX5_next 21 = .ok (.astore 4, 2) := by decide +kernel
theorem dX5_next_23 : decode cX5_next 23 = .ok (.iload_n 3, 1) := by decide +kernel
theorem dX5_next_24 : decode cX5_next 24 = .ok (.ifCond .eq 12, 3) := by decide +kernel
theorem dX5_next_27 : decode cX5_next 27 = .ok (.aload 4, 2) := by decide +kernel
theorem dX5_next_29 : decode cX5_next 29 = .ok (.iload_n 2, 1) := by decide +kernel
theorem dX5_next_30 : decode cX5_next 30 = .ok (.invokevirtual 64, 3) := by decide +kernel
theorem dX5_next_33 : decode cX5_next 33 = .ok (.goto 16, 3) := by decide +kernel
theorem dX5_next_36 : decode cX5_next 36 = .ok (.aload 4, 2) := by decide +kernel
theorem dX5_next_38 : decode cX5_next 38 = .ok (.iload_n 2, 1) := by decide +kernel
theorem dX5_next_39 : decode cX5_next 39 = .ok (.aload_n 0, 1) := by decide +kernel
theorem dX5_next_40 : decode cX5_next 40 = .ok (.getfield 10, 3) := by decide +kernel
theorem dX5_next_43 : decode cX5_next 43 = .ok (.getfield 38, 3) := by decide +kernel
theorem dX5_next_46 : decode cX5_next 46 = .ok (.invokevirtual 68, 3) := by decide +kernel
theorem dX5_next_49 : decode cX5_next 49 = .ok (.ireturn, 1) := by decide +kernel
theorem dX0_lastBefore_0 : decode cX0_lastBefore 0 = .ok (.iload_n 1, 1) := by decide +kernel
theorem dX0_lastBefore_1 : decode cX0_lastBefore 1 = .ok (.iconst 1, 1) := by decide +kernel
theorem dX0_lastBefore_2 : decode cX0_lastBefore 2 = .ok (.isub, 1) := by decide +kernel
theorem dX0_lastBefore_3 : decode cX0_lastBefore 3 = .ok (.istore_n 2, 1) := by decide +kernel
theorem dX0_lastBefore_4 : decode cX0_lastBefore 4 = .ok (.iload_n 2, 1) := by decide +kernel
theorem dX0_lastBefore_5 : decode cX0_lastBefore 5 = .ok (.ifCond .lt 20, 3) := by decide +kernel
theorem dX0_lastBefore_8 : decode cX0_lastBefore 8 = .ok (.aload_n 0, 1) := by decide +kernel
theorem dX0_lastBefore_9 : decode cX0_lastBefore 9 = .ok (.getfield 9, 3) := by decide +kernel
theorem dX0_lastBefore_12 : decode cX0_lastBefore 12 = .ok (.iload_n 2, 1) := by decide +kernel
theorem dX0_lastBefore_13 : decode cX0_lastBefore 13 = .ok (.baload, 1) := by decide +kernel
theorem dX0_lastBefore_14 : decode cX0_lastBefore 14 = .ok (.ifCond .eq 5, 3) := by decide +kernel
theorem dX0_lastBefore_17 : decode cX0_lastBefore 17 = .ok (.iload_n 2, 1) := by decide +kernel
theorem dX0_lastBefore_18 : decode cX0_lastBefore 18 = .ok (.ireturn, 1) := by decide +kernel
theorem dX0_lastBefore_19 : decode cX0_lastBefore 19 = .ok (.iinc 2 (-1), 3) := by decide +kernel
theorem dX0_lastBefore_22 : decode cX0_lastBefore 22 = .ok (.goto (-18), 3) := by decide +kernel
theorem dX0_lastBefore_25 : decode cX0_lastBefore 25 = .ok (.iconst (-1), 1) := by decide +kernel
theorem dX0_lastBefore_26 : decode cX0_lastBefore 26 = .ok (.ireturn, 1) := by decide +kernel
theorem dX0_firstBehind_0 : decode cX0_firstBehind 0 = .ok (.iload_n 1, 1) := by decide +kernel
theorem dX0_firstBehind_1 : decode cX0_firstBehind 1 = .ok (.iconst 1, 1) := by decide +kernel
theorem dX0_firstBehind_2 : decode cX0_firstBehind 2 = .ok (.iadd, 1) := by decide +kernel
theorem dX0_firstBehind_3 : decode cX0_firstBehind 3 = .ok (.istore_n 3, 1) := by decide +kernel
theorem dX0_firstBehind_4 : decode cX0_firstBehind 4 = .ok (.iload_n 3, 1) := by decide +kernel
theorem dX0_firstBehind_5 : decode cX0_firstBehind 5 = .ok (.iload_n 2, 1) := by decide +kernel
theorem dX0_firstBehind_6 : decode cX0_firstBehind 6 = .ok (.if_icmp .gt 20, 3) := by decide +kernel
theorem dX0_firstBehind_9 : decode cX0_firstBehind 9 = .ok (.aload_n 0, 1) := by decide +kernel
theorem dX0_firstBehind_10 : decode cX0_firstBehind 10 = .ok (.getfield 9, 3) := by decide +kernel
theorem dX0_firstBehind_13 : decode cX0_firstBehind 13 = .ok (.iload_n 3, 1) := by decide +kernel
theorem dX0_firstBehind_14 : decode cX0_firstBehind 14 = .ok (.baload, 1) := by decide +kernel
theorem dX0_firstBehind_15 : decode cX0_firstBehind 15 = .ok (.ifCond .eq 5, 3) := by decide +kernel
theorem dX0_firstBehind_18 : decode cX0_firstBehind 18 = .ok (.iload_n 3, 1) := by decide +kernel
theorem dX0_firstBehind_19 : decode cX0_firstBehind 19 = .ok (.ireturn, 1) := by decide +kernel
theorem dX0_firstBehind_20 : decode cX0_firstBehind 20 = .ok (.iinc 3 1, 3) := by decide +kernel
theorem dX0_firstBehind_23 : decode cX0_firstBehind 23 = .ok (.goto (-19), 3) := by decide +kernel
theorem dX0_firstBehind_26 : decode cX0_firstBehind 26 = .ok (.iconst (-1), 1) := by decide +kernel
theorem dX0_firstBehind_27 : decode cX0_firstBehind 27 = .ok (.ireturn, 1) := by decide +kernel
theorem dL_rank_0 : decode cL_rank 0 = .ok (.aload_n 3, 1) := by decide +kernel
theorem dL_rank_1 : decode cL_rank 1 = .ok (.iconst 0, 1) := by decide +kernel
theorem dL_rank_2 : decode cL_rank 2 = .ok (.aload_n 0, 1) := by decide +kernel
theorem dL_rank_3 : decode cL_rank 3 = .ok (.iload_n 1, 1) := by decide +kernel
theorem dL_rank_4 : decode cL_rank 4 = .ok (.iload_n 2, 1) := by decide +kernel
theorem dL_rank_5 : decode cL_rank 5 = .ok (.invokevirtual 32, 3) := by decide +kernel
theorem dL_rank_8 : decode cL_rank 8 = .ok (.i2l, 1) := by decide +kernel
theorem dL_rank_9 : decode cL_rank 9 = .ok (.lastore, 1) := by decide +kernel
theorem dL_rank_10 : decode cL_rank 10 = .ok (.goto 7, 3) := by decide +kernel
theorem dL_rank_13 : decode cL_rank 13 = .ok (.astore 4, 2) := by decide +kernel
theorem dL_rank_15 : decode cL_rank 15 = .ok (.iconst 1, 1) := by decide +kernel
theorem dL_rank_16 : decode cL_rank 16 = .ok (.ireturn, 1) := by decide +kernel
theorem dL_rank_17 : decode cL_rank 17 = .ok (.iconst 0, 1) := by decide +kernel
theorem dL_rank_18 : decode cL_rank 18 = .ok (.ireturn, 1) := by decide +kernel
theorem dX5_rank_0 : decode cX5_rank 0 = .ok (.iload_n 1, 1) := by decide +kernel
theorem dX5_rank_1 : decode cX5_rank 1 = .ok (.iconst 1, 1) := by decide +kernel
theorem dX5_rank_2 : decode cX5_rank 2 = .ok (.invokestatic 34, 3) := by decide +kernel
theorem dX5_rank_5 : decode cX5_rank 5 = .ok (.iload_n 2, 1) := by decide +kernel
theorem dX5_rank_6 : decode cX5_rank 6 = .ok (.aload_n 0, 1) := by decide +kernel
theorem dX5_rank_7 : decode cX5_rank 7 = .ok (.getfield 10, 3) := by decide +kernel
theorem dX5_rank_10 : decode cX5_rank 10 = .ok (.getfield 38, 3) := by decide +kernel
theorem dX5_rank_13 : decode cX5_rank 13 = .ok (.invokestatic 34, 3) := by decide +kernel
theorem dX5_rank_16 : decode cX5_rank 16 = .ok (.aload_n 0, 1) := by decide +kernel
theorem dX5_rank_17 : decode cX5_rank 17 = .ok (.iload_n 1, 1) := by decide +kernel
theorem dX5_rank_18 : decode cX5_rank 18 = .ok (.invokevirtual 56, 3) := by decide +kernel
theorem dX5_rank_21 : decode cX5_rank 21 = .ok (.iload_n 2, 1) := by decide +kernel
theorem dX5_rank_22 : decode cX5_rank 22 = .ok (.invokevirtual 72, 3) := by decide +kernel
theorem dX5_rank_25 : decode cX5_rank 25 = .ok (.ireturn, 1) := by decide +kernel
theorem dX0_countUpTo_0 : decode cX0_countUpTo 0 = .ok (.iconst 0, 1) := by decide +kernel
theorem dX0_countUpTo_1 : decode cX0_countUpTo 1 = .ok (.istore_n 2, 1) := by decide +kernel
theorem dX0_countUpTo_2 : decode cX0_countUpTo 2 = .ok (.iconst 0, 1) := by decide +kernel
theorem dX0_countUpTo_3 : decode cX0_countUpTo 3 = .ok (.istore_n 3, 1) := by decide +kernel
theorem dX0_countUpTo_4 : decode cX0_countUpTo 4 = .ok (.iload_n 3, 1) := by decide +kernel
theorem dX0_countUpTo_5 : decode cX0_countUpTo 5 = .ok (.iload_n 1, 1) := by decide +kernel
theorem dX0_countUpTo_6 : decode cX0_countUpTo 6 = .ok (.if_icmp .gt 21, 3) := by decide +kernel
theorem dX0_countUpTo_9 : decode cX0_countUpTo 9 = .ok (.aload_n 0, 1) := by decide +kernel
theorem dX0_countUpTo_10 : decode cX0_countUpTo 10 = .ok (.getfield 9, 3) := by decide +kernel
theorem dX0_countUpTo_13 : decode cX0_countUpTo 13 = .ok (.iload_n 3, 1) := by decide +kernel
theorem dX0_countUpTo_14 : decode cX0_countUpTo 14 = .ok (.baload, 1) := by decide +kernel
theorem dX0_countUpTo_15 : decode cX0_countUpTo 15 = .ok (.ifCond .eq 6, 3) := by decide +kernel
theorem dX0_countUpTo_18 : decode cX0_countUpTo 18 = .ok (.iinc 2 1, 3) := by decide +kernel
theorem dX0_countUpTo_21 : decode cX0_countUpTo 21 = .ok (.iinc 3 1, 3) := by decide +kernel
theorem dX0_countUpTo_24 : decode cX0_countUpTo 24 = .ok (.goto (-20), 3) := by decide +kernel
theorem dX0_countUpTo_27 : decode cX0_countUpTo 27 = .ok (.iload_n 2, 1) := by decide +kernel
theorem dX0_countUpTo_28 : decode cX0_countUpTo 28 = .ok (.ireturn, 1) := by decide +kernel
theorem dL_hash_0 : decode cL_hash 0 = .ok (.aload_n 2, 1) := by decide +kernel
theorem dL_hash_1 : decode cL_hash 1 = .ok (.iconst 0, 1) := by decide +kernel
theorem dL_hash_2 : decode cL_hash 2 = .ok (.aload_n 0, 1) := by decide +kernel
theorem dL_hash_3 : decode cL_hash 3 = .ok (.iload_n 1, 1) := by decide +kernel
theorem dL_hash_4 : decode cL_hash 4 = .ok (.invokevirtual 36, 3) := by decide +kernel
theorem dL_hash_7 : decode cL_hash 7 = .ok (.i2l, 1) := by decide +kernel
theorem dL_hash_8 : decode cL_hash 8 = .ok (.lastore, 1) := by decide +kernel
theorem dL_hash_9 : decode cL_hash 9 = .ok (.goto 6, 3) := by decide +kernel
theorem dL_hash_12 : decode cL_hash 12 = .ok (.astore_n 3, 1) := by decide +kernel
theorem dL_hash_13 : decode cL_hash 13 = .ok (.iconst 1, 1) := by decide +kernel
theorem dL_hash_14 : decode cL_hash 14 = .ok (.ireturn, 1) := by decide +kernel
theorem dL_hash_15 : decode cL_hash 15 = .ok (.iconst 0, 1) := by decide +kernel
theorem dL_hash_16 : decode cL_hash 16 = .ok (.ireturn, 1) := by decide +kernel
theorem dX5_hash_0 : decode cX5_hash 0 = .ok (.iload_n 1, 1) := by decide +kernel
theorem dX5_hash_1 : decode cX5_hash 1 = .ok (.iconst 1, 1) := by decide +kernel
theorem dX5_hash_2 : decode cX5_hash 2 = .ok (.invokestatic 34, 3) := by decide +kernel
theorem dX5_hash_5 : decode cX5_hash 5 = .ok (.aload_n 0, 1) := by decide +kernel
theorem dX5_hash_6 : decode cX5_hash 6 = .ok (.iload_n 1, 1) := by decide +kernel
theorem dX5_hash_7 : decode cX5_hash 7 = .ok (.invokevirtual 56, 3) := by decide +kernel
theorem dX5_hash_10 : decode cX5_hash 10 = .ok (.aload_n 0, 1) := by decide +kernel
theorem dX5_hash_11 : decode cX5_hash 11 = .ok (.getfield 10, 3) := by decide +kernel
theorem dX5_hash_14 : decode cX5_hash 14 = .ok (.getfield 38, 3) := by decide +kernel
theorem dX5_hash_17 : decode cX5_hash 17 = .ok (.invokevirtual 75, 3) := by decide +kernel
theorem dX5_hash_20 : decode cX5_hash 20 = .ok (.ireturn, 1) := by decide +kernel
theorem dX0_mixUpTo_0 : decode cX0_mixUpTo 0 = .ok (.iconst 1, 1) := by decide +kernel
theorem dX0_mixUpTo_1 : decode cX0_mixUpTo 1 = .ok (.istore_n 2, 1) := by decide +kernel
theorem dX0_mixUpTo_2 : decode cX0_mixUpTo 2 = .ok (.iconst 0, 1) := by decide +kernel
theorem dX0_mixUpTo_3 : decode cX0_mixUpTo 3 = .ok (.istore_n 3, 1) := by decide +kernel
theorem dX0_mixUpTo_4 : decode cX0_mixUpTo 4 = .ok (.iload_n 3, 1) := by decide +kernel
theorem dX0_mixUpTo_5 : decode cX0_mixUpTo 5 = .ok (.iload_n 1, 1) := by decide +kernel
theorem dX0_mixUpTo_6 : decode cX0_mixUpTo 6 = .ok (.if_icmp .gt 25, 3) := by decide +kernel
theorem dX0_mixUpTo_9 : decode cX0_mixUpTo 9 = .ok (.aload_n 0, 1) := by decide +kernel
theorem dX0_mixUpTo_10 : decode cX0_mixUpTo 10 = .ok (.getfield 9, 3) := by decide +kernel
theorem dX0_mixUpTo_13 : decode cX0_mixUpTo 13 = .ok (.iload_n 3, 1) := by decide +kernel
theorem dX0_mixUpTo_14 : decode cX0_mixUpTo 14 = .ok (.baload, 1) := by decide +kernel
theorem dX0_mixUpTo_15 : decode cX0_mixUpTo 15 = .ok (.ifCond .eq 10, 3) := by decide +kernel
theorem dX0_mixUpTo_18 : decode cX0_mixUpTo 18 = .ok (.bipush 31, 2) := by decide +kernel
theorem dX0_mixUpTo_20 : decode cX0_mixUpTo 20 = .ok (.iload_n 2, 1) := by decide +kernel
theorem dX0_mixUpTo_21 : decode cX0_mixUpTo 21 = .ok (.imul, 1) := by decide +kernel
theorem dX0_mixUpTo_22 : decode cX0_mixUpTo 22 = .ok (.iload_n 3, 1) := by decide +kernel
theorem dX0_mixUpTo_23 : decode cX0_mixUpTo 23 = .ok (.iadd, 1) := by decide +kernel
theorem dX0_mixUpTo_24 : decode cX0_mixUpTo 24 = .ok (.istore_n 2, 1) := by decide +kernel
theorem dX0_mixUpTo_25 : decode cX0_mixUpTo 25 = .ok (.iinc 3 1, 3) := by decide +kernel
theorem dX0_mixUpTo_28 : decode cX0_mixUpTo 28 = .ok (.goto (-24), 3) := by decide +kernel
theorem dX0_mixUpTo_31 : decode cX0_mixUpTo 31 = .ok (.iload_n 2, 1) := by decide +kernel
theorem dX0_mixUpTo_32 : decode cX0_mixUpTo 32 = .ok (.ireturn, 1) := by decide +kernel
theorem dX6_init_0 : decode cX6_init 0 = .ok (.aload_n 0, 1) := by decide +kernel
theorem dX6_init_1 : decode cX6_init 1 = .ok (.invokespecial 1, 3) := by decide +kernel
theorem dX6_init_4 : decode cX6_init 4 = .ok (.aload_n 0, 1) := by decide +kernel
theorem dX6_init_5 : decode cX6_init 5 = .ok (.sipush 1000, 3) := by decide +kernel
theorem dX6_init_8 : decode cX6_init 8 = .ok (.newarray .int, 2) := by decide +kernel
theorem dX6_init_10 : decode cX6_init 10 = .ok (.putfield 7, 3) := by decide +kernel
theorem dX6_init_13 : decode cX6_init 13 = .ok (.aload_n 0, 1) := by decide +kernel
theorem dX6_init_14 : decode cX6_init 14 = .ok (.sipush 1000, 3) := by decide +kernel
theorem dX6_init_17 : decode cX6_init 17 = .ok (.newarray .int, 2) := by decide +kernel
theorem dX6_init_19 : decode cX6_init 19 = .ok (.putfield 13, 3) := by decide +kernel
theorem dX6_init_22 : decode cX6_init 22 = .ok (.aload_n 0, 1) := by decide +kernel
theorem dX6_init_23 : decode cX6_init 23 = .ok (.sipush 1000, 3) := by decide +kernel
theorem dX6_init_26 : decode cX6_init 26 = .ok (.newarray .boolean, 2) := by decide +kernel
theorem dX6_init_28 : decode cX6_init 28 = .ok (.putfield 16, 3) := by decide +kernel
theorem dX6_init_31 : decode cX6_init 31 = .ok (.return_, 1) := by decide +kernel
theorem dX6_thrown_0 : decode cX6_thrown 0 = .ok (.aload_n 0, 1) := by decide +kernel
theorem dX6_thrown_1 : decode cX6_thrown 1 = .ok (.getfield 20, 3) := by decide +kernel
theorem dX6_thrown_4 : decode cX6_thrown 4 = .ok (.ireturn, 1) := by decide +kernel
theorem dX6_add_0 : decode cX6_add 0 = .ok (.aload_n 0, 1) := by decide +kernel
theorem dX6_add_1 : decode cX6_add 1 = .ok (.iconst 0, 1) := by decide +kernel
theorem dX6_add_2 : decode cX6_add 2 = .ok (.putfield 20, 3) := by decide +kernel
theorem dX6_add_5 : decode cX6_add 5 = .ok (.iload_n 1, 1) := by decide +kernel
theorem dX6_add_6 : decode cX6_add 6 = .ok (.ifCond .lt 19, 3) := by decide +kernel
theorem dX6_add_9 : decode cX6_add 9 = .ok (.iload_n 1, 1) := by decide +kernel
theorem dX6_add_10 : decode cX6_add 10 = .ok (.bipush 13, 2) := by decide +kernel
theorem dX6_add_12 : decode cX6_add 12 = .ok (.if_icmp .gt 13, 3) := by decide +kernel
theorem dX6_add_15 : decode cX6_add 15 = .ok (.iload_n 2, 1) := by decide +kernel
theorem dX6_add_16 : decode cX6_add 16 = .ok (.ifCond .lt 9, 3) := by decide +kernel
theorem dX6_add_19 : decode cX6_add 19 = .ok (.iload_n 2, 1) := by decide +kernel
theorem dX6_add_20 : decode cX6_add 20 = .ok (.bipush 18, 2) := by decide +kernel
theorem dX6_add_22 : decode cX6_add 22 = .ok (.if_icmp .le 9, 3) := by decide +kernel
theorem dX6_add_25 : decode cX6_add 25 = .ok (.aload_n 0, 1) := by decide +kernel
theorem dX6_add_26 : decode cX6_add 26 = .ok (.iconst 1, 1) := by decide +kernel
theorem dX6_add_27 : decode cX6_add 27 = .ok (.invokevirtual 59, 3) := by decide +kernel
theorem dX6_add_30 : decode cX6_add 30 = .ok (.ireturn, 1) := by decide +kernel
theorem dX6_add_31 : decode cX6_add 31 = .ok (.aload_n 0, 1) := by decide +kernel
theorem dX6_add_32 : decode cX6_add 32 = .ok (.getfield 24, 3) := by decide +kernel
theorem dX6_add_35 : decode cX6_add 35 = .ok (.sipush 1000, 3) := by decide +kernel
theorem dX6_add_38 : decode cX6_add 38 = .ok (.if_icmp .ne 9, 3) := by decide +kernel
theorem dX6_add_41 : decode cX6_add 41 = .ok (.aload_n 0, 1) := by decide +kernel
theorem dX6_add_42 : decode cX6_add 42 = .ok (.iconst 2, 1) := by decide +kernel
theorem dX6_add_43 : decode cX6_add 43 = .ok (.invokevirtual 59, 3) := by decide +kernel
theorem dX6_add_46 : decode cX6_add 46 = .ok (.ireturn, 1) := by decide +kernel
theorem dX6_add_47 : decode cX6_add 47 = .ok (.aload_n 0, 1) := by decide +kernel
theorem dX6_add_48 : decode cX6_add 48 = .ok (.getfield 7, 3) := by decide +kernel
theorem dX6_add_51 : decode cX6_add 51 = .ok (.aload_n 0, 1) := by decide +kernel
theorem dX6_add_52 : decode cX6_add 52 = .ok (.getfield 24, 3) := by decide +kernel
theorem dX6_add_55 : decode cX6_add 55 = .ok (.iload_n 1, 1) := by decide +kernel
theorem dX6_add_56 : decode cX6_add 56 = .ok (.iastore, 1) := by decide +kernel
theorem dX6_add_57 : decode cX6_add 57 = .ok (.aload_n 0, 1) := by decide +kernel
theorem dX6_add_58 : decode cX6_add 58 = .ok (.getfield 13, 3) := by decide +kernel
theorem dX6_add_61 : decode cX6_add 61 = .ok (.aload_n 0, 1) := by decide +kernel
theorem dX6_add_62 : decode cX6_add 62 = .ok (.getfield 24, 3) := by decide +kernel
theorem dX6_add_65 : decode cX6_add 65 = .ok (.iload_n 2, 1) := by decide +kernel
theorem dX6_add_66 : decode cX6_add 66 = .ok (.iastore, 1) := by decide +kernel
theorem dX6_add_67 : decode cX6_add 67 = .ok (.aload_n 0, 1) := by decide +kernel
theorem dX6_add_68 : decode cX6_add 68 = .ok (.getfield 16, 3) := by decide +kernel
theorem dX6_add_71 : decode cX6_add 71 = .ok (.aload_n 0, 1) := by decide +kernel
theorem dX6_add_72 : decode cX6_add 72 = .ok (.getfield 24, 3) := by decide +kernel
theorem dX6_add_75 : decode cX6_add 75 = .ok (.iload_n 3, 1) := by decide +kernel
theorem dX6_add_76 : decode cX6_add 76 = .ok (.bastore, 1) := by decide +kernel
theorem dX6_add_77 : decode cX6_add 77 = .ok (.aload_n 0, 1) := by decide +kernel
theorem dX6_add_78 : decode cX6_add 78 = .ok (.dup, 1) := by decide +kernel
theorem dX6_add_79 : decode cX6_add 79 = .ok (.getfield 24, 3) := by decide +kernel
theorem dX6_add_82 : decode cX6_add 82 = .ok (.iconst 1, 1) := by decide +kernel
theorem dX6_add_83 : decode cX6_add 83 = .ok (.iadd, 1) := by decide +kernel
theorem dX6_add_84 : decode cX6_add 84 = .ok (.putfield 24, 3) := by decide +kernel
theorem dX6_add_87 : decode cX6_add 87 = .ok (.aload_n 0, 1) := by decide +kernel
theorem dX6_add_88 : decode cX6_add 88 = .ok (.getfield 24, 3) := by decide +kernel
theorem dX6_add_91 : decode cX6_add 91 = .ok (.ireturn, 1) := by decide +kernel
theorem dX6_fail_0 : decode cX6_fail 0 = .ok (.aload_n 0, 1) := by decide +kernel
theorem dX6_fail_1 : decode cX6_fail 1 = .ok (.iload_n 1, 1) := by decide +kernel
theorem dX6_fail_2 : decode cX6_fail 2 = .ok (.putfield 20, 3) := by decide +kernel
theorem dX6_fail_5 : decode cX6_fail 5 = .ok (.iconst 0, 1) := by decide +kernel
theorem dX6_fail_6 : decode cX6_fail 6 = .ok (.ireturn, 1) := by decide +kernel
theorem dX6_set_0 : decode cX6_set 0 = .ok (.aload_n 0, 1) := by decide +kernel
theorem dX6_set_1 : decode cX6_set 1 = .ok (.iconst 0, 1) := by decide +kernel
theorem dX6_set_2 : decode cX6_set 2 = .ok (.putfield 20, 3) := by decide +kernel
theorem dX6_set_5 : decode cX6_set 5 = .ok (.iload_n 1, 1) := by decide +kernel
theorem dX6_set_6 : decode cX6_set 6 = .ok (.ifCond .lt 31, 3) := by decide +kernel
theorem dX6_set_9 : decode cX6_set 9 = .ok (.iload_n 1, 1) := by decide +kernel
theorem dX6_set_10 : decode cX6_set 10 = .ok (.aload_n 0, 1) := by decide +kernel
theorem dX6_set_11 : decode cX6_set 11 = .ok (.getfield 24, 3) := by decide +kernel
theorem dX6_set_14 : decode cX6_set 14 = .ok (.if_icmp .ge 23, 3) := by decide +kernel
theorem dX6_set_17 : decode cX6_set 17 = .ok (.iload_n 2, 1) := by decide +kernel
theorem dX6_set_18 : decode cX6_set 18 = .ok (.ifCond .lt 19, 3) := by decide +kernel
theorem dX6_set_21 : decode cX6_set 21 = .ok (.iload_n 2, 1) := by decide +kernel
theorem dX6_set_22 : decode cX6_set 22 = .ok (.bipush 13, 2) := by decide +kernel
theorem dX6_set_24 : decode cX6_set 24 = .ok (.if_icmp .gt 13, 3) := by decide +kernel
theorem dX6_set_27 : decode cX6_set 27 = .ok (.iload_n 3, 1) := by decide +kernel
theorem dX6_set_28 : decode cX6_set 28 = .ok (.ifCond .lt 9, 3) := by decide +kernel
theorem dX6_set_31 : decode cX6_set 31 = .ok (.iload_n 3, 1) := by decide +kernel
theorem dX6_set_32 : decode cX6_set 32 = .ok (.bipush 18, 2) := by decide +kernel
theorem dX6_set_34 : decode cX6_set 34 = .ok (.if_icmp .le 11, 3) := by decide +kernel
theorem dX6_set_37 : decode cX6_set 37 = .ok (.aload_n 0, 1) := by decide +kernel
theorem dX6_set_38 : decode cX6_set 38 = .ok (.iconst 1, 1) := by decide +kernel
theorem dX6_set_39 : decode cX6_set 39 = .ok (.putfield 20, 3) := by decide +kernel
theorem dX6_set_42 : decode cX6_set 42 = .ok (.goto 25, 3) := by decide +kernel
theorem dX6_set_45 : decode cX6_set 45 = .ok (.aload_n 0, 1) := by decide +kernel
theorem dX6_set_46 : decode cX6_set 46 = .ok (.getfield 7, 3) := by decide +kernel
theorem dX6_set_49 : decode cX6_set 49 = .ok (.iload_n 1, 1) := by decide +kernel
theorem dX6_set_50 : decode cX6_set 50 = .ok (.iload_n 2, 1) := by decide +kernel
theorem dX6_set_51 : decode cX6_set 51 = .ok (.iastore, 1) := by decide +kernel
theorem dX6_set_52 : decode cX6_set 52 = .ok (.aload_n 0, 1) := by decide +kernel
theorem dX6_set_53 : decode cX6_set 53 = .ok (.getfield 13, 3) := by decide +kernel
theorem dX6_set_56 : decode cX6_set 56 = .ok (.iload_n 1, 1) := by decide +kernel
theorem dX6_set_57 : decode cX6_set 57 = .ok (.iload_n 3, 1) := by decide +kernel
theorem dX6_set_58 : decode cX6_set 58 = .ok (.iastore, 1) := by decide +kernel
theorem dX6_set_59 : decode cX6_set 59 = .ok (.aload_n 0, 1) := by decide +kernel
theorem dX6_set_60 : decode cX6_set 60 = .ok (.getfield 16, 3) := by decide +kernel
theorem dX6_set_63 : decode cX6_set 63 = .ok (.iload_n 1, 1) := by decide +kernel
theorem dX6_set_64 : decode cX6_set 64 = .ok (.iload 4, 2) := by decide +kernel
theorem dX6_set_66 : decode cX6_set 66 = .ok (.bastore, 1) := by decide +kernel
theorem dX6_set_67 : decode cX6_set 67 = .ok (.return_, 1) := by decide +kernel
theorem dX6_cut_0 : decode cX6_cut 0 = .ok (.aload_n 0, 1) := by decide +kernel
theorem dX6_cut_1 : decode cX6_cut 1 = .ok (.iconst 0, 1) := by decide +kernel
theorem dX6_cut_2 : decode cX6_cut 2 = .ok (.putfield 20, 3) := by decide +kernel
theorem dX6_cut_5 : decode cX6_cut 5 = .ok (.iload_n 1, 1) := by decide +kernel
theorem dX6_cut_6 : decode cX6_cut 6 = .ok (.ifCond .lt 11, 3) := by decide +kernel
theorem dX6_cut_9 : decode cX6_cut 9 = .ok (.iload_n 1, 1) := by decide +kernel
theorem dX6_cut_10 : decode cX6_cut 10 = .ok (.aload_n 0, 1) := by decide +kernel
theorem dX6_cut_11 : decode cX6_cut 11 = .ok (.getfield 24, 3) := by decide +kernel
theorem dX6_cut_14 : decode cX6_cut 14 = .ok (.if_icmp .le 9, 3) := by decide +kernel
theorem dX6_cut_17 : decode cX6_cut 17 = .ok (.aload_n 0, 1) := by decide +kernel
theorem dX6_cut_18 : decode cX6_cut 18 = .ok (.iconst 1, 1) := by decide +kernel
theorem dX6_cut_19 : decode cX6_cut 19 = .ok (.invokevirtual 59, 3) := by decide +kernel
theorem dX6_cut_22 : decode cX6_cut 22 = .ok (.ireturn, 1) := by decide +kernel
theorem dX6_cut_23 : decode cX6_cut 23 = .ok (.aload_n 0, 1) := by decide +kernel
theorem dX6_cut_24 : decode cX6_cut 24 = .ok (.getfield 24, 3) := by decide +kernel
theorem dX6_cut_27 : decode cX6_cut 27 = .ok (.istore_n 2, 1) := by decide +kernel
theorem dX6_cut_28 : decode cX6_cut 28 = .ok (.aload_n 0, 1) := by decide +kernel
theorem dX6_cut_29 : decode cX6_cut 29 = .ok (.iload_n 1, 1) := by decide +kernel
theorem dX6_cut_30 : decode cX6_cut 30 = .ok (.putfield 24, 3) := by decide +kernel
theorem dX6_cut_33 : decode cX6_cut 33 = .ok (.iload_n 2, 1) := by decide +kernel
theorem dX6_cut_34 : decode cX6_cut 34 = .ok (.ireturn, 1) := by decide +kernel
theorem dX6_edge_0 : decode cX6_edge 0 = .ok (.aload_n 0, 1) := by decide +kernel
theorem dX6_edge_1 : decode cX6_edge 1 = .ok (.iconst 0, 1) := by decide +kernel
theorem dX6_edge_2 : decode cX6_edge 2 = .ok (.putfield 20, 3) := by decide +kernel
theorem dX6_edge_5 : decode cX6_edge 5 = .ok (.aload_n 0, 1) := by decide +kernel
theorem dX6_edge_6 : decode cX6_edge 6 = .ok (.iload_n 1, 1) := by decide +kernel
theorem dX6_edge_7 : decode cX6_edge 7 = .ok (.iload_n 2, 1) := by decide +kernel
theorem dX6_edge_8 : decode cX6_edge 8 = .ok (.invokevirtual 62, 3) := by decide +kernel
theorem dX6_edge_11 : decode cX6_edge 11 = .ok (.ifCond .eq 19, 3) := by decide +kernel
theorem dX6_edge_14 : decode cX6_edge 14 = .ok (.aload_n 0, 1) := by decide +kernel
theorem dX6_edge_15 : decode cX6_edge 15 = .ok (.iconst 1, 1) := by decide +kernel
theorem dX6_edge_16 : decode cX6_edge 16 = .ok (.invokevirtual 59, 3) := by decide +kernel
theorem dX6_edge_19 : decode cX6_edge 19 = .ok (.ifCond .le 7, 3) := by decide +kernel
theorem dX6_edge_22 : decode cX6_edge 22 = .ok (.iconst 1, 1) := by decide +kernel
theorem dX6_edge_23 : decode cX6_edge 23 = .ok (.goto 13, 3) := by decide +kernel
theorem dX6_edge_26 : decode cX6_edge 26 = .ok (.iconst 0, 1) := by decide +kernel
theorem dX6_edge_27 : decode cX6_edge 27 = .ok (.goto 9, 3) := by decide +kernel
theorem dX6_edge_30 : decode cX6_edge 30 = .ok (.aload_n 0, 1) := by decide +kernel
theorem dX6_edge_31 : decode cX6_edge 31 = .ok (.iload_n 1, 1) := by decide +kernel
theorem dX6_edge_32 : decode cX6_edge 32 = .ok (.iload_n 2, 1) := by decide +kernel
theorem dX6_edge_33 : decode cX6_edge 33 = .ok (.invokevirtual 66, 3) := by decide +kernel
theorem dX6_edge_36 : decode cX6_edge 36 = .ok (.ireturn, 1) := by decide +kernel
theorem dX6_bad_0 : decode cX6_bad 0 = .ok (.iload_n 1, 1) := by decide +kernel
theorem dX6_bad_1 : decode cX6_bad 1 = .ok (.ifCond .lt 20, 3) := by decide +kernel
theorem dX6_bad_4 : decode cX6_bad 4 = .ok (.iload_n 1, 1) := by decide +kernel
theorem dX6_bad_5 : decode cX6_bad 5 = .ok (.iconst 1, 1) := by decide +kernel
theorem dX6_bad_6 : decode cX6_bad 6 = .ok (.if_icmp .gt 15, 3) := by decide +kernel
theorem dX6_bad_9 : decode cX6_bad 9 = .ok (.iload_n 2, 1) := by decide +kernel
theorem dX6_bad_10 : decode cX6_bad 10 = .ok (.ifCond .lt 11, 3) := by decide +kernel
theorem dX6_bad_13 : decode cX6_bad 13 = .ok (.iload_n 2, 1) := by decide +kernel
theorem dX6_bad_14 : decode cX6_bad 14 = .ok (.aload_n 0, 1) := by decide +kernel
theorem dX6_bad_15 : decode cX6_bad 15 = .ok (.getfield 24, 3) := by decide +kernel
theorem dX6_bad_18 : decode cX6_bad 18 = .ok (.if_icmp .le 7, 3) := by decide +kernel
theorem dX6_bad_21 : decode cX6_bad 21 = .ok (.iconst 1, 1) := by decide +kernel
theorem dX6_bad_22 : decode cX6_bad 22 = .ok (.goto 4, 3) := by decide +kernel
theorem dX6_bad_25 : decode cX6_bad 25 = .ok (.iconst 0, 1) := by decide +kernel
theorem dX6_bad_26 : decode cX6_bad 26 = .ok (.ireturn, 1) := by decide +kernel
theorem dX6_boundary_0 : decode cX6_boundary 0 = .ok (.aload_n 0, 1) := by decide +kernel
theorem dX6_boundary_1 : decode cX6_boundary 1 = .ok (.getfield 24, 3) := by decide +kernel
theorem dX6_boundary_4 : decode cX6_boundary 4 = .ok (.ifCond .ne 5, 3) := by decide +kernel
theorem dX6_boundary_7 : decode cX6_boundary 7 = .ok (.iconst 0, 1) := by decide +kernel
theorem dX6_boundary_8 : decode cX6_boundary 8 = .ok (.ireturn, 1) := by decide +kernel
theorem dX6_boundary_9 : decode cX6_boundary 9 = .ok (.iload_n 2, 1) := by decide +kernel
theorem dX6_boundary_10 : decode cX6_boundary 10 = .ok (.ifCond .eq 11, 3) := by decide +kernel
theorem dX6_boundary_13 : decode cX6_boundary 13 = .ok (.iload_n 2, 1) := by decide +kernel
theorem dX6_boundary_14 : decode cX6_boundary 14 = .ok (.aload_n 0, 1) := by decide +kernel
theorem dX6_boundary_15 : decode cX6_boundary 15 = .ok (.getfield 24, 3) := by decide +kernel
theorem dX6_boundary_18 : decode cX6_boundary 18 = .ok (.if_icmp .ne 5, 3) := by decide +kernel
theorem dX6_boundary_21 : decode cX6_boundary 21 = .ok (.iconst 1, 1) := by decide +kernel
theorem dX6_boundary_22 : decode cX6_boundary 22 = .ok (.ireturn, 1) := by decide +kernel
theorem dX6_boundary_23 : decode cX6_boundary 23 = .ok (.iload_n 1, 1) := by decide +kernel
theorem dX6_boundary_24 : decode cX6_boundary 24 = .ok (.ifCond .ne 11, 3) := by decide +kernel
theorem dX6_boundary_27 : decode cX6_boundary 27 = .ok (.aload_n 0, 1) := by decide +kernel
theorem dX6_boundary_28 : decode cX6_boundary 28 = .ok (.iload_n 2, 1) := by decide +kernel
theorem dX6_boundary_29 : decode cX6_boundary 29 = .ok (.invokevirtual 27, 3) := by decide +kernel
theorem dX6_boundary_32 : decode cX6_boundary 32 = .ok (.goto 8, 3) := by decide +kernel
theorem dX6_boundary_35 : decode cX6_boundary 35 = .ok (.aload_n 0, 1) := by decide +kernel
theorem dX6_boundary_36 : decode cX6_boundary 36 = .ok (.iload_n 2, 1) := by decide +kernel
theorem dX6_boundary_37 : decode cX6_boundary 37 = .ok (.invokevirtual 31, 3) := by decide +kernel
theorem dX6_boundary_40 : decode cX6_boundary 40 = .ok (.ireturn, 1) := by decide +kernel
theorem dX6_breaks_0 : decode cX6_breaks 0 = .ok (.iload_n 1, 1) := by decide +kernel
theorem dX6_breaks_1 : decode cX6_breaks 1 = .ok (.iconst 1, 1) := by decide +kernel
theorem dX6_breaks_2 : decode cX6_breaks 2 = .ok (.if_icmp .lt 12, 3) := by decide +kernel
theorem dX6_breaks_5 : decode cX6_breaks 5 = .ok (.iload_n 1, 1) := by decide +kernel
theorem dX6_breaks_6 : decode cX6_breaks 6 = .ok (.iconst 3, 1) := by decide +kernel
theorem dX6_breaks_7 : decode cX6_breaks 7 = .ok (.if_icmp .gt 7, 3) := by decide +kernel
theorem dX6_breaks_10 : decode cX6_breaks 10 = .ok (.iconst 1, 1) := by decide +kernel
theorem dX6_breaks_11 : decode cX6_breaks 11 = .ok (.goto 4, 3) := by decide +kernel
theorem dX6_breaks_14 : decode cX6_breaks 14 = .ok (.iconst 0, 1) := by decide +kernel
theorem dX6_breaks_15 : decode cX6_breaks 15 = .ok (.ireturn, 1) := by decide +kernel
theorem dX6_passed_0 : decode cX6_passed 0 = .ok (.iload_n 1, 1) := by decide +kernel
theorem dX6_passed_1 : decode cX6_passed 1 = .ok (.iconst 4, 1) := by decide +kernel
theorem dX6_passed_2 : decode cX6_passed 2 = .ok (.if_icmp .eq 14, 3) := by decide +kernel
theorem dX6_passed_5 : decode cX6_passed 5 = .ok (.iload_n 1, 1) := by decide +kernel
theorem dX6_passed_6 : decode cX6_passed 6 = .ok (.iconst 5, 1) := by decide +kernel
theorem dX6_passed_7 : decode cX6_passed 7 = .ok (.if_icmp .eq 9, 3) := by decide +kernel
theorem dX6_passed_10 : decode cX6_passed 10 = .ok (.iload_n 1, 1) := by decide +kernel
theorem dX6_passed_11 : decode cX6_passed 11 = .ok (.bipush 7, 2) := by decide +kernel
theorem dX6_passed_13 : decode cX6_passed 13 = .ok (.if_icmp .ne 7, 3) := by decide +kernel
theorem dX6_passed_16 : decode cX6_passed 16 = .ok (.iconst 1, 1) := by decide +kernel
theorem dX6_passed_17 : decode cX6_passed 17 = .ok (.goto 4, 3) := by decide +kernel
theorem dX6_passed_20 : decode cX6_passed 20 = .ok (.iconst 0, 1) := by decide +kernel
theorem dX6_passed_21 : decode cX6_passed 21 = .ok (.ireturn, 1) := by decide +kernel
theorem dX6_before_0 : decode cX6_before 0 = .ok (.iload_n 1, 1) := by decide +kernel
theorem dX6_before_1 : decode cX6_before 1 = .ok (.ifCond .gt 7, 3) := by decide +kernel
theorem dX6_before_4 : decode cX6_before 4 = .ok (.iconst (-1), 1) := by decide +kernel
theorem dX6_before_5 : decode cX6_before 5 = .ok (.goto 10, 3) := by decide +kernel
theorem dX6_before_8 : decode cX6_before 8 = .ok (.aload_n 0, 1) := by decide +kernel
theorem dX6_before_9 : decode cX6_before 9 = .ok (.iload_n 1, 1) := by decide +kernel
theorem dX6_before_10 : decode cX6_before 10 = .ok (.iconst 1, 1) := by decide +kernel
theorem dX6_before_11 : decode cX6_before 11 = .ok (.isub, 1) := by decide +kernel
theorem dX6_before_12 : decode cX6_before 12 = .ok (.invokevirtual 40, 3) := by decide +kernel
theorem dX6_before_15 : decode cX6_before 15 = .ok (.ireturn, 1) := by decide +kernel
theorem dX6_counts_0 : decode cX6_counts 0 = .ok (.iload_n 1, 1) := by decide +kernel
theorem dX6_counts_1 : decode cX6_counts 1 = .ok (.istore_n 2, 1) := by decide +kernel
theorem dX6_counts_2 : decode cX6_counts 2 = .ok (.iload_n 2, 1) := by decide +kernel
theorem dX6_counts_3 : decode cX6_counts 3 = .ok (.ifCond .le 37, 3) := by decide +kernel
theorem dX6_counts_6 : decode cX6_counts 6 = .ok (.aload_n 0, 1) := by decide +kernel
theorem dX6_counts_7 : decode cX6_counts 7 = .ok (.aload_n 0, 1) := by decide +kernel
theorem dX6_counts_8 : decode cX6_counts 8 = .ok (.getfield 13, 3) := by decide +kernel
theorem dX6_counts_11 : decode cX6_counts 11 = .ok (.iload_n 2, 1) := by decide +kernel
theorem dX6_counts_12 : decode cX6_counts 12 = .ok (.iaload, 1) := by decide +kernel
theorem dX6_counts_13 : decode cX6_counts 13 = .ok (.invokevirtual 34, 3) := by decide +kernel
theorem dX6_counts_16 : decode cX6_counts 16 = .ok (.ifCond .eq 24, 3) := by decide +kernel
theorem dX6_counts_19 : decode cX6_counts 19 = .ok (.aload_n 0, 1) := by decide +kernel
theorem dX6_counts_20 : decode cX6_counts 20 = .ok (.aload_n 0, 1) := by decide +kernel
theorem dX6_counts_21 : decode cX6_counts 21 = .ok (.getfield 13, 3) := by decide +kernel
theorem dX6_counts_24 : decode cX6_counts 24 = .ok (.iload_n 2, 1) := by decide +kernel
theorem dX6_counts_25 : decode cX6_counts 25 = .ok (.iconst 1, 1) := by decide +kernel
theorem dX6_counts_26 : decode cX6_counts 26 = .ok (.isub, 1) := by decide +kernel
theorem dX6_counts_27 : decode cX6_counts 27 = .ok (.iaload, 1) := by decide +kernel
theorem dX6_counts_28 : decode cX6_counts 28 = .ok (.invokevirtual 37, 3) := by decide +kernel
theorem dX6_counts_31 : decode cX6_counts 31 = .ok (.ifCond .ne 9, 3) := by decide +kernel
theorem dX6_counts_34 : decode cX6_counts 34 = .ok (.iinc 2 (-1), 3) := by decide +kernel
theorem dX6_counts_37 : decode cX6_counts 37 = .ok (.goto (-35), 3) := by decide +kernel
theorem dX6_counts_40 : decode cX6_counts 40 = .ok (.iload_n 2, 1) := by decide +kernel
theorem dX6_counts_41 : decode cX6_counts 41 = .ok (.ireturn, 1) := by decide +kernel
theorem dX6_wordKind_0 : decode cX6_wordKind 0 = .ok (.iload_n 1, 1) := by decide +kernel
theorem dX6_wordKind_1 : decode cX6_wordKind 1 = .ok (.ifCond .lt 11, 3) := by decide +kernel
theorem dX6_wordKind_4 : decode cX6_wordKind 4 = .ok (.iload_n 1, 1) := by decide +kernel
theorem dX6_wordKind_5 : decode cX6_wordKind 5 = .ok (.aload_n 0, 1) := by decide +kernel
theorem dX6_wordKind_6 : decode cX6_wordKind 6 = .ok (.getfield 24, 3) := by decide +kernel
theorem dX6_wordKind_9 : decode cX6_wordKind 9 = .ok (.if_icmp .lt 7, 3) := by decide +kernel
theorem dX6_wordKind_12 : decode cX6_wordKind 12 = .ok (.iconst (-1), 1) := by decide +kernel
theorem dX6_wordKind_13 : decode cX6_wordKind 13 = .ok (.goto 9, 3) := by decide +kernel
theorem dX6_wordKind_16 : decode cX6_wordKind 16 = .ok (.aload_n 0, 1) := by decide +kernel
theorem dX6_wordKind_17 : decode cX6_wordKind 17 = .ok (.getfield 13, 3) := by decide +kernel
theorem dX6_wordKind_20 : decode cX6_wordKind 20 = .ok (.iload_n 1, 1) := by decide +kernel
theorem dX6_wordKind_21 : decode cX6_wordKind 21 = .ok (.iaload, 1) := by decide +kernel
theorem dX6_wordKind_22 : decode cX6_wordKind 22 = .ok (.ireturn, 1) := by decide +kernel
theorem dX6_after_0 : decode cX6_after 0 = .ok (.iload_n 1, 1) := by decide +kernel
theorem dX6_after_1 : decode cX6_after 1 = .ok (.iconst 1, 1) := by decide +kernel
theorem dX6_after_2 : decode cX6_after 2 = .ok (.iadd, 1) := by decide +kernel
theorem dX6_after_3 : decode cX6_after 3 = .ok (.istore_n 2, 1) := by decide +kernel
theorem dX6_after_4 : decode cX6_after 4 = .ok (.iload_n 2, 1) := by decide +kernel
theorem dX6_after_5 : decode cX6_after 5 = .ok (.aload_n 0, 1) := by decide +kernel
theorem dX6_after_6 : decode cX6_after 6 = .ok (.getfield 24, 3) := by decide +kernel
theorem dX6_after_9 : decode cX6_after 9 = .ok (.if_icmp .ge 22, 3) := by decide +kernel
theorem dX6_after_12 : decode cX6_after 12 = .ok (.aload_n 0, 1) := by decide +kernel
theorem dX6_after_13 : decode cX6_after 13 = .ok (.aload_n 0, 1) := by decide +kernel
theorem dX6_after_14 : decode cX6_after 14 = .ok (.getfield 13, 3) := by decide +kernel
theorem dX6_after_17 : decode cX6_after 17 = .ok (.iload_n 2, 1) := by decide +kernel
theorem dX6_after_18 : decode cX6_after 18 = .ok (.iaload, 1) := by decide +kernel
theorem dX6_after_19 : decode cX6_after 19 = .ok (.invokevirtual 34, 3) := by decide +kernel
theorem dX6_after_22 : decode cX6_after 22 = .ok (.ifCond .eq 9, 3) := by decide +kernel
theorem dX6_after_25 : decode cX6_after 25 = .ok (.iinc 2 1, 3) := by decide +kernel
theorem dX6_after_28 : decode cX6_after 28 = .ok (.goto (-24), 3) := by decide +kernel
theorem dX6_after_31 : decode cX6_after 31 = .ok (.iload_n 2, 1) := by decide +kernel
theorem dX6_after_32 : decode cX6_after 32 = .ok (.ireturn, 1) := by decide +kernel
theorem dX6_letter_0 : decode cX6_letter 0 = .ok (.iload_n 1, 1) := by decide +kernel
theorem dX6_letter_1 : decode cX6_letter 1 = .ok (.bipush 9, 2) := by decide +kernel
theorem dX6_letter_3 : decode cX6_letter 3 = .ok (.if_icmp .eq 9, 3) := by decide +kernel
theorem dX6_letter_6 : decode cX6_letter 6 = .ok (.iload_n 1, 1) := by decide +kernel
theorem dX6_letter_7 : decode cX6_letter 7 = .ok (.bipush 10, 2) := by decide +kernel
theorem dX6_letter_9 : decode cX6_letter 9 = .ok (.if_icmp .ne 7, 3) := by decide +kernel
theorem dX6_letter_12 : decode cX6_letter 12 = .ok (.iconst 1, 1) := by decide +kernel
theorem dX6_letter_13 : decode cX6_letter 13 = .ok (.goto 4, 3) := by decide +kernel
theorem dX6_letter_16 : decode cX6_letter 16 = .ok (.iconst 0, 1) := by decide +kernel
theorem dX6_letter_17 : decode cX6_letter 17 = .ok (.ireturn, 1) := by decide +kernel
theorem dX6_quote_0 : decode cX6_quote 0 = .ok (.iload_n 1, 1) := by decide +kernel
theorem dX6_quote_1 : decode cX6_quote 1 = .ok (.bipush 13, 2) := by decide +kernel
theorem dX6_quote_3 : decode cX6_quote 3 = .ok (.if_icmp .eq 9, 3) := by decide +kernel
theorem dX6_quote_6 : decode cX6_quote 6 = .ok (.iload_n 1, 1) := by decide +kernel
theorem dX6_quote_7 : decode cX6_quote 7 = .ok (.bipush 14, 2) := by decide +kernel
theorem dX6_quote_9 : decode cX6_quote 9 = .ok (.if_icmp .ne 7, 3) := by decide +kernel
theorem dX6_quote_12 : decode cX6_quote 12 = .ok (.iconst 1, 1) := by decide +kernel
theorem dX6_quote_13 : decode cX6_quote 13 = .ok (.goto 4, 3) := by decide +kernel
theorem dX6_quote_16 : decode cX6_quote 16 = .ok (.iconst 0, 1) := by decide +kernel
theorem dX6_quote_17 : decode cX6_quote 17 = .ok (.ireturn, 1) := by decide +kernel
theorem dX6_next_0 : decode cX6_next 0 = .ok (.aload_n 0, 1) := by decide +kernel
theorem dX6_next_1 : decode cX6_next 1 = .ok (.iconst 0, 1) := by decide +kernel
theorem dX6_next_2 : decode cX6_next 2 = .ok (.putfield 20, 3) := by decide +kernel
theorem dX6_next_5 : decode cX6_next 5 = .ok (.aload_n 0, 1) := by decide +kernel
theorem dX6_next_6 : decode cX6_next 6 = .ok (.iload_n 1, 1) := by decide +kernel
theorem dX6_next_7 : decode cX6_next 7 = .ok (.iload_n 2, 1) := by decide +kernel
theorem dX6_next_8 : decode cX6_next 8 = .ok (.invokevirtual 62, 3) := by decide +kernel
theorem dX6_next_11 : decode cX6_next 11 = .ok (.ifCond .eq 9, 3) := by decide +kernel
theorem dX6_next_14 : decode cX6_next 14 = .ok (.aload_n 0, 1) := by decide +kernel
theorem dX6_next_15 : decode cX6_next 15 = .ok (.iconst 1, 1) := by decide +kernel
theorem dX6_next_16 : decode cX6_next 16 = .ok (.invokevirtual 59, 3) := by decide +kernel
theorem dX6_next_19 : decode cX6_next 19 = .ok (.ireturn, 1) := by decide +kernel
theorem dX6_next_20 : decode cX6_next 20 = .ok (.iload_n 3, 1) := by decide +kernel
theorem dX6_next_21 : decode cX6_next 21 = .ok (.ifCond .eq 7, 3) := by decide +kernel
theorem dX6_next_24 : decode cX6_next 24 = .ok (.iconst (-1), 1) := by decide +kernel
theorem dX6_next_25 : decode cX6_next 25 = .ok (.goto 4, 3) := by decide +kernel
theorem dX6_next_28 : decode cX6_next 28 = .ok (.iconst 1, 1) := by decide +kernel
theorem dX6_next_29 : decode cX6_next 29 = .ok (.istore 4, 2) := by decide +kernel
theorem dX6_next_31 : decode cX6_next 31 = .ok (.iload_n 2, 1) := by decide +kernel
theorem dX6_next_32 : decode cX6_next 32 = .ok (.iload 4, 2) := by decide +kernel
theorem dX6_next_34 : decode cX6_next 34 = .ok (.iadd, 1) := by decide +kernel
theorem dX6_next_35 : decode cX6_next 35 = .ok (.istore 5, 2) := by decide +kernel
theorem dX6_next_37 : decode cX6_next 37 = .ok (.iload 5, 2) := by decide +kernel
theorem dX6_next_39 : decode cX6_next 39 = .ok (.ifCond .lt 35, 3) := by decide +kernel
theorem dX6_next_42 : decode cX6_next 42 = .ok (.iload 5, 2) := by decide +kernel
theorem dX6_next_44 : decode cX6_next 44 = .ok (.aload_n 0, 1) := by decide +kernel
theorem dX6_next_45 : decode cX6_next 45 = .ok (.getfield 24, 3) := by decide +kernel
theorem dX6_next_48 : decode cX6_next 48 = .ok (.if_icmp .gt 26, 3) := by decide +kernel
theorem dX6_next_51 : decode cX6_next 51 = .ok (.aload_n 0, 1) := by decide +kernel
theorem dX6_next_52 : decode cX6_next 52 = .ok (.iload_n 1, 1) := by decide +kernel
theorem dX6_next_53 : decode cX6_next 53 = .ok (.iload 5, 2) := by decide +kernel
theorem dX6_next_55 : decode cX6_next 55 = .ok (.invokevirtual 66, 3) := by decide +kernel
theorem dX6_next_58 : decode cX6_next 58 = .ok (.ifCond .eq 6, 3) := by decide +kernel
theorem dX6_next_61 : decode cX6_next 61 = .ok (.iload 5, 2) := by decide +kernel
theorem dX6_next_63 : decode cX6_next 63 = .ok (.ireturn, 1) := by decide +kernel
theorem dX6_next_64 : decode cX6_next 64 = .ok (.iload 5, 2) := by decide +kernel
theorem dX6_next_66 : decode cX6_next 66 = .ok (.iload 4, 2) := by decide +kernel
theorem dX6_next_68 : decode cX6_next 68 = .ok (.iadd, 1) := by decide +kernel
theorem dX6_next_69 : decode cX6_next 69 = .ok (.istore 5, 2) := by decide +kernel
theorem dX6_next_71 : decode cX6_next 71 = .ok (.goto (-34), 3) := by decide +kernel
theorem dX6_next_74 : decode cX6_next 74 = .ok (.iconst (-1), 1) := by decide +kernel
theorem dX6_next_75 : decode cX6_next 75 = .ok (.ireturn, 1) := by decide +kernel
theorem dX6_rank_0 : decode cX6_rank 0 = .ok (.aload_n 0, 1) := by decide +kernel
theorem dX6_rank_1 : decode cX6_rank 1 = .ok (.iconst 0, 1) := by decide +kernel
theorem dX6_rank_2 : decode cX6_rank 2 = .ok (.putfield 20, 3) := by decide +kernel
theorem dX6_rank_5 : decode cX6_rank 5 = .ok (.aload_n 0, 1) := by decide +kernel
theorem dX6_rank_6 : decode cX6_rank 6 = .ok (.iload_n 1, 1) := by decide +kernel
theorem dX6_rank_7 : decode cX6_rank 7 = .ok (.iload_n 2, 1) := by decide +kernel
theorem dX6_rank_8 : decode cX6_rank 8 = .ok (.invokevirtual 62, 3) := by decide +kernel
theorem dX6_rank_11 : decode cX6_rank 11 = .ok (.ifCond .eq 9, 3) := by decide +kernel
theorem dX6_rank_14 : decode cX6_rank 14 = .ok (.aload_n 0, 1) := by decide +kernel
theorem dX6_rank_15 : decode cX6_rank 15 = .ok (.iconst 1, 1) := by decide +kernel
theorem dX6_rank_16 : decode cX6_rank 16 = .ok (.invokevirtual 59, 3) := by decide +kernel
theorem dX6_rank_19 : decode cX6_rank 19 = .ok (.ireturn, 1) := by decide +kernel
theorem dX6_rank_20 : decode cX6_rank 20 = .ok (.iconst 0, 1) := by decide +kernel
theorem dX6_rank_21 : decode cX6_rank 21 = .ok (.istore_n 3, 1) := by decide +kernel
theorem dX6_rank_22 : decode cX6_rank 22 = .ok (.iconst 0, 1) := by decide +kernel
theorem dX6_rank_23 : decode cX6_rank 23 = .ok (.istore 4, 2) := by decide +kernel
theorem dX6_rank_25 : decode cX6_rank 25 = .ok (.iload 4, 2) := by decide +kernel
theorem dX6_rank_27 : decode cX6_rank 27 = .ok (.iload_n 2, 1) := by decide +kernel
theorem dX6_rank_28 : decode cX6_rank 28 = .ok (.if_icmp .gt 27, 3) := by decide +kernel
theorem dX6_rank_31 : decode cX6_rank 31 = .ok (.iload_n 3, 1) := by decide +kernel
theorem dX6_rank_32 : decode cX6_rank 32 = .ok (.aload_n 0, 1) := by decide +kernel
theorem dX6_rank_33 : decode cX6_rank 33 = .ok (.iload_n 1, 1) := by decide +kernel
theorem dX6_rank_34 : decode cX6_rank 34 = .ok (.iload 4, 2) := by decide +kernel
theorem dX6_rank_36 : decode cX6_rank 36 = .ok (.invokevirtual 66, 3) := by decide +kernel
theorem dX6_rank_39 : decode cX6_rank 39 = .ok (.ifCond .eq 7, 3) := by decide +kernel
theorem dX6_rank_42 : decode cX6_rank 42 = .ok (.iconst 1, 1) := by decide +kernel
theorem dX6_rank_43 : decode cX6_rank 43 = .ok (.goto 4, 3) := by decide +kernel
theorem dX6_rank_46 : decode cX6_rank 46 = .ok (.iconst 0, 1) := by decide +kernel
theorem dX6_rank_47 : decode cX6_rank 47 = .ok (.iadd, 1) := by decide +kernel
theorem dX6_rank_48 : decode cX6_rank 48 = .ok (.istore_n 3, 1) := by decide +kernel
theorem dX6_rank_49 : decode cX6_rank 49 = .ok (.iinc 4 1, 3) := by decide +kernel
theorem dX6_rank_52 : decode cX6_rank 52 = .ok (.goto (-27), 3) := by decide +kernel
theorem dX6_rank_55 : decode cX6_rank 55 = .ok (.iload_n 3, 1) := by decide +kernel
theorem dX6_rank_56 : decode cX6_rank 56 = .ok (.ireturn, 1) := by decide +kernel
theorem dX6_hash_0 : decode cX6_hash 0 = .ok (.aload_n 0, 1) := by decide +kernel
theorem dX6_hash_1 : decode cX6_hash 1 = .ok (.iconst 0, 1) := by decide +kernel
theorem dX6_hash_2 : decode cX6_hash 2 = .ok (.putfield 20, 3) := by decide +kernel
theorem dX6_hash_5 : decode cX6_hash 5 = .ok (.iload_n 1, 1) := by decide +kernel
theorem dX6_hash_6 : decode cX6_hash 6 = .ok (.ifCond .lt 8, 3) := by decide +kernel
theorem dX6_hash_9 : decode cX6_hash 9 = .ok (.iload_n 1, 1) := by decide +kernel
theorem dX6_hash_10 : decode cX6_hash 10 = .ok (.iconst 1, 1) := by decide +kernel
theorem dX6_hash_11 : decode cX6_hash 11 = .ok (.if_icmp .le 9, 3) := by decide +kernel
theorem dX6_hash_14 : decode cX6_hash 14 = .ok (.aload_n 0, 1) := by decide +kernel
theorem dX6_hash_15 : decode cX6_hash 15 = .ok (.iconst 1, 1) := by decide +kernel
theorem dX6_hash_16 : decode cX6_hash 16 = .ok (.invokevirtual 59, 3) := by decide +kernel
theorem dX6_hash_19 : decode cX6_hash 19 = .ok (.ireturn, 1) := by decide +kernel
theorem dX6_hash_20 : decode cX6_hash 20 = .ok (.iconst 1, 1) := by decide +kernel
theorem dX6_hash_21 : decode cX6_hash 21 = .ok (.istore_n 2, 1) := by decide +kernel
theorem dX6_hash_22 : decode cX6_hash 22 = .ok (.iconst 0, 1) := by decide +kernel
theorem dX6_hash_23 : decode cX6_hash 23 = .ok (.istore_n 3, 1) := by decide +kernel
theorem dX6_hash_24 : decode cX6_hash 24 = .ok (.iload_n 3, 1) := by decide +kernel
theorem dX6_hash_25 : decode cX6_hash 25 = .ok (.aload_n 0, 1) := by decide +kernel
theorem dX6_hash_26 : decode cX6_hash 26 = .ok (.getfield 24, 3) := by decide +kernel
theorem dX6_hash_29 : decode cX6_hash 29 = .ok (.if_icmp .gt 25, 3) := by decide +kernel
theorem dX6_hash_32 : decode cX6_hash 32 = .ok (.aload_n 0, 1) := by decide +kernel
theorem dX6_hash_33 : decode cX6_hash 33 = .ok (.iload_n 1, 1) := by decide +kernel
theorem dX6_hash_34 : decode cX6_hash 34 = .ok (.iload_n 3, 1) := by decide +kernel
theorem dX6_hash_35 : decode cX6_hash 35 = .ok (.invokevirtual 66, 3) := by decide +kernel
theorem dX6_hash_38 : decode cX6_hash 38 = .ok (.ifCond .eq 10, 3) := by decide +kernel
theorem dX6_hash_41 : decode cX6_hash 41 = .ok (.bipush 31, 2) := by decide +kernel
theorem dX6_hash_43 : decode cX6_hash 43 = .ok (.iload_n 2, 1) := by decide +kernel
theorem dX6_hash_44 : decode cX6_hash 44 = .ok (.imul, 1) := by decide +kernel
theorem dX6_hash_45 : decode cX6_hash 45 = .ok (.iload_n 3, 1) := by decide +kernel
theorem dX6_hash_46 : decode cX6_hash 46 = .ok (.iadd, 1) := by decide +kernel
theorem dX6_hash_47 : decode cX6_hash 47 = .ok (.istore_n 2, 1) := by decide +kernel
theorem dX6_hash_48 : decode cX6_hash 48 = .ok (.iinc 3 1, 3) := by decide +kernel
theorem dX6_hash_51 : decode cX6_hash 51 = .ok (.goto (-27), 3) := by decide +kernel
theorem dX6_hash_54 : decode cX6_hash 54 = .ok (.iload_n 2, 1) := by decide +kernel
theorem dX6_hash_55 : decode cX6_hash 55 = .ok (.ireturn, 1) := by decide +kernel
