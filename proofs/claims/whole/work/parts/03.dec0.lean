theorem dX0_init_0 : decode cX0_init 0 = .ok (.aload_n 0, 1) := by decide +kernel
theorem dX0_init_1 : decode cX0_init 1 = .ok (.invokespecial 1, 3) := by decide +kernel
theorem dX0_init_4 : decode cX0_init 4 = .ok (.return_, 1) := by decide +kernel
theorem dX0_acts_0 : decode cX0_acts 0 = .ok (.aload_n 1, 1) := by decide +kernel
theorem dX0_acts_1 : decode cX0_acts 1 = .ok (.invokevirtual 7, 3) := by decide +kernel
theorem dX0_acts_4 : decode cX0_acts 4 = .ok (.iconst 1, 1) := by decide +kernel
theorem dX0_acts_5 : decode cX0_acts 5 = .ok (.if_icmp .le 7, 3) := by decide +kernel
theorem dX0_acts_8 : decode cX0_acts 8 = .ok (.iconst 2, 1) := by decide +kernel
theorem dX0_acts_9 : decode cX0_acts 9 = .ok (.goto 9, 3) := by decide +kernel
theorem dX0_acts_12 : decode cX0_acts 12 = .ok (.aload_n 0, 1) := by decide +kernel
theorem dX0_acts_13 : decode cX0_acts 13 = .ok (.aload_n 1, 1) := by decide +kernel
theorem dX0_acts_14 : decode cX0_acts 14 = .ok (.iload_n 2, 1) := by decide +kernel
theorem dX0_acts_15 : decode cX0_acts 15 = .ok (.invokespecial 13, 3) := by decide +kernel
theorem dX0_acts_18 : decode cX0_acts 18 = .ok (.ireturn, 1) := by decide +kernel
theorem dX0_tall_0 : decode cX0_tall 0 = .ok (.aload_n 0, 1) := by decide +kernel
theorem dX0_tall_1 : decode cX0_tall 1 = .ok (.aload_n 1, 1) := by decide +kernel
theorem dX0_tall_2 : decode cX0_tall 2 = .ok (.iload_n 2, 1) := by decide +kernel
theorem dX0_tall_3 : decode cX0_tall 3 = .ok (.invokespecial 17, 3) := by decide +kernel
theorem dX0_tall_6 : decode cX0_tall 6 = .ok (.iconst 2, 1) := by decide +kernel
theorem dX0_tall_7 : decode cX0_tall 7 = .ok (.idiv, 1) := by decide +kernel
theorem dX0_tall_8 : decode cX0_tall 8 = .ok (.ireturn, 1) := by decide +kernel
theorem dX0_knows_0 : decode cX0_knows 0 = .ok (.aload_n 1, 1) := by decide +kernel
theorem dX0_knows_1 : decode cX0_knows 1 = .ok (.bipush 60, 2) := by decide +kernel
theorem dX0_knows_3 : decode cX0_knows 3 = .ok (.invokevirtual 20, 3) := by decide +kernel
theorem dX0_knows_6 : decode cX0_knows 6 = .ok (.aload_n 0, 1) := by decide +kernel
theorem dX0_knows_7 : decode cX0_knows 7 = .ok (.aload_n 1, 1) := by decide +kernel
theorem dX0_knows_8 : decode cX0_knows 8 = .ok (.iload_n 2, 1) := by decide +kernel
theorem dX0_knows_9 : decode cX0_knows 9 = .ok (.iconst 1, 1) := by decide +kernel
theorem dX0_knows_10 : decode cX0_knows 10 = .ok (.iadd, 1) := by decide +kernel
theorem dX0_knows_11 : decode cX0_knows 11 = .ok (.invokespecial 26, 3) := by decide +kernel
theorem dX0_knows_14 : decode cX0_knows 14 = .ok (.ireturn, 1) := by decide +kernel
theorem dX1_init_0 : decode cX1_init 0 = .ok (.aload_n 0, 1) := by decide +kernel
theorem dX1_init_1 : decode cX1_init 1 = .ok (.invokespecial 1, 3) := by decide +kernel
theorem dX1_init_4 : decode cX1_init 4 = .ok (.return_, 1) := by decide +kernel
theorem dX1_acts_0 : decode cX1_acts 0 = .ok (.aload_n 1, 1) := by decide +kernel
theorem dX1_acts_1 : decode cX1_acts 1 = .ok (.getfield 7, 3) := by decide +kernel
theorem dX1_acts_4 : decode cX1_acts 4 = .ok (.iconst 2, 1) := by decide +kernel
theorem dX1_acts_5 : decode cX1_acts 5 = .ok (.irem, 1) := by decide +kernel
theorem dX1_acts_6 : decode cX1_acts 6 = .ok (.ifCond .ne 12, 3) := by decide +kernel
theorem dX1_acts_9 : decode cX1_acts 9 = .ok (.aload_n 0, 1) := by decide +kernel
theorem dX1_acts_10 : decode cX1_acts 10 = .ok (.aload_n 1, 1) := by decide +kernel
theorem dX1_acts_11 : decode cX1_acts 11 = .ok (.iload_n 2, 1) := by decide +kernel
theorem dX1_acts_12 : decode cX1_acts 12 = .ok (.invokespecial 13, 3) := by decide +kernel
theorem dX1_acts_15 : decode cX1_acts 15 = .ok (.goto 4, 3) := by decide +kernel
theorem dX1_acts_18 : decode cX1_acts 18 = .ok (.iconst 1, 1) := by decide +kernel
theorem dX1_acts_19 : decode cX1_acts 19 = .ok (.ireturn, 1) := by decide +kernel
theorem dX1_tall_0 : decode cX1_tall 0 = .ok (.aload_n 0, 1) := by decide +kernel
theorem dX1_tall_1 : decode cX1_tall 1 = .ok (.aload_n 1, 1) := by decide +kernel
theorem dX1_tall_2 : decode cX1_tall 2 = .ok (.iload_n 2, 1) := by decide +kernel
theorem dX1_tall_3 : decode cX1_tall 3 = .ok (.invokespecial 17, 3) := by decide +kernel
theorem dX1_tall_6 : decode cX1_tall 6 = .ok (.aload_n 1, 1) := by decide +kernel
theorem dX1_tall_7 : decode cX1_tall 7 = .ok (.getfield 20, 3) := by decide +kernel
theorem dX1_tall_10 : decode cX1_tall 10 = .ok (.iload_n 2, 1) := by decide +kernel
theorem dX1_tall_11 : decode cX1_tall 11 = .ok (.iaload, 1) := by decide +kernel
theorem dX1_tall_12 : decode cX1_tall 12 = .ok (.iadd, 1) := by decide +kernel
theorem dX1_tall_13 : decode cX1_tall 13 = .ok (.ireturn, 1) := by decide +kernel
theorem dX1_wades_0 : decode cX1_wades 0 = .ok (.aload_n 1, 1) := by decide +kernel
theorem dX1_wades_1 : decode cX1_wades 1 = .ok (.bipush 50, 2) := by decide +kernel
theorem dX1_wades_3 : decode cX1_wades 3 = .ok (.invokevirtual 24, 3) := by decide +kernel
theorem dX1_wades_6 : decode cX1_wades 6 = .ok (.aload_n 0, 1) := by decide +kernel
theorem dX1_wades_7 : decode cX1_wades 7 = .ok (.aload_n 1, 1) := by decide +kernel
theorem dX1_wades_8 : decode cX1_wades 8 = .ok (.iload_n 2, 1) := by decide +kernel
theorem dX1_wades_9 : decode cX1_wades 9 = .ok (.invokespecial 30, 3) := by decide +kernel
theorem dX1_wades_12 : decode cX1_wades 12 = .ok (.iconst 3, 1) := by decide +kernel
theorem dX1_wades_13 : decode cX1_wades 13 = .ok (.imul, 1) := by decide +kernel
theorem dX1_wades_14 : decode cX1_wades 14 = .ok (.ireturn, 1) := by decide +kernel
theorem dX1_sits_0 : decode cX1_sits 0 = .ok (.aload_n 1, 1) := by decide +kernel
theorem dX1_sits_1 : decode cX1_sits 1 = .ok (.bipush 51, 2) := by decide +kernel
theorem dX1_sits_3 : decode cX1_sits 3 = .ok (.invokevirtual 24, 3) := by decide +kernel
theorem dX1_sits_6 : decode cX1_sits 6 = .ok (.aload_n 0, 1) := by decide +kernel
theorem dX1_sits_7 : decode cX1_sits 7 = .ok (.aload_n 1, 1) := by decide +kernel
theorem dX1_sits_8 : decode cX1_sits 8 = .ok (.iload_n 2, 1) := by decide +kernel
theorem dX1_sits_9 : decode cX1_sits 9 = .ok (.invokespecial 34, 3) := by decide +kernel
theorem dX1_sits_12 : decode cX1_sits 12 = .ok (.aload_n 1, 1) := by decide +kernel
theorem dX1_sits_13 : decode cX1_sits 13 = .ok (.getfield 37, 3) := by decide +kernel
theorem dX1_sits_16 : decode cX1_sits 16 = .ok (.ixor, 1) := by decide +kernel
theorem dX1_sits_17 : decode cX1_sits 17 = .ok (.ireturn, 1) := by decide +kernel
theorem dX2_init_0 : decode cX2_init 0 = .ok (.aload_n 0, 1) := by decide +kernel
theorem dX2_init_1 : decode cX2_init 1 = .ok (.invokespecial 1, 3) := by decide +kernel
theorem dX2_init_4 : decode cX2_init 4 = .ok (.return_, 1) := by decide +kernel
theorem dX2_acts_0 : decode cX2_acts 0 = .ok (.iconst 1, 1) := by decide +kernel
theorem dX2_acts_1 : decode cX2_acts 1 = .ok (.ireturn, 1) := by decide +kernel
theorem dX2_tall_0 : decode cX2_tall 0 = .ok (.bipush 6, 2) := by decide +kernel
theorem dX2_tall_2 : decode cX2_tall 2 = .ok (.ireturn, 1) := by decide +kernel
theorem dX2_wades_0 : decode cX2_wades 0 = .ok (.aload_n 1, 1) := by decide +kernel
theorem dX2_wades_1 : decode cX2_wades 1 = .ok (.bipush 10, 2) := by decide +kernel
theorem dX2_wades_3 : decode cX2_wades 3 = .ok (.invokevirtual 7, 3) := by decide +kernel
theorem dX2_wades_6 : decode cX2_wades 6 = .ok (.iload_n 2, 1) := by decide +kernel
theorem dX2_wades_7 : decode cX2_wades 7 = .ok (.aload_n 1, 1) := by decide +kernel
theorem dX2_wades_8 : decode cX2_wades 8 = .ok (.getfield 13, 3) := by decide +kernel
theorem dX2_wades_11 : decode cX2_wades 11 = .ok (.iadd, 1) := by decide +kernel
theorem dX2_wades_12 : decode cX2_wades 12 = .ok (.ireturn, 1) := by decide +kernel
theorem dX2_knows_0 : decode cX2_knows 0 = .ok (.aload_n 1, 1) := by decide +kernel
theorem dX2_knows_1 : decode cX2_knows 1 = .ok (.bipush 11, 2) := by decide +kernel
theorem dX2_knows_3 : decode cX2_knows 3 = .ok (.invokevirtual 7, 3) := by decide +kernel
theorem dX2_knows_6 : decode cX2_knows 6 = .ok (.aload_n 0, 1) := by decide +kernel
theorem dX2_knows_7 : decode cX2_knows 7 = .ok (.aload_n 1, 1) := by decide +kernel
theorem dX2_knows_8 : decode cX2_knows 8 = .ok (.iload_n 2, 1) := by decide +kernel
theorem dX2_knows_9 : decode cX2_knows 9 = .ok (.invokevirtual 17, 3) := by decide +kernel
theorem dX2_knows_12 : decode cX2_knows 12 = .ok (.iconst 2, 1) := by decide +kernel
theorem dX2_knows_13 : decode cX2_knows 13 = .ok (.imul, 1) := by decide +kernel
theorem dX2_knows_14 : decode cX2_knows 14 = .ok (.ireturn, 1) := by decide +kernel
theorem dX2_sits_0 : decode cX2_sits 0 = .ok (.aload_n 1, 1) := by decide +kernel
theorem dX2_sits_1 : decode cX2_sits 1 = .ok (.bipush 12, 2) := by decide +kernel
theorem dX2_sits_3 : decode cX2_sits 3 = .ok (.invokevirtual 7, 3) := by decide +kernel
theorem dX2_sits_6 : decode cX2_sits 6 = .ok (.aload_n 0, 1) := by decide +kernel
theorem dX2_sits_7 : decode cX2_sits 7 = .ok (.aload_n 1, 1) := by decide +kernel
theorem dX2_sits_8 : decode cX2_sits 8 = .ok (.iload_n 2, 1) := by decide +kernel
theorem dX2_sits_9 : decode cX2_sits 9 = .ok (.invokevirtual 23, 3) := by decide +kernel
theorem dX2_sits_12 : decode cX2_sits 12 = .ok (.aload_n 1, 1) := by decide +kernel
theorem dX2_sits_13 : decode cX2_sits 13 = .ok (.getfield 26, 3) := by decide +kernel
theorem dX2_sits_16 : decode cX2_sits 16 = .ok (.isub, 1) := by decide +kernel
theorem dX2_sits_17 : decode cX2_sits 17 = .ok (.ireturn, 1) := by decide +kernel
theorem dX2_parts_0 : decode cX2_parts 0 = .ok (.aload_n 1, 1) := by decide +kernel
theorem dX2_parts_1 : decode cX2_parts 1 = .ok (.bipush 13, 2) := by decide +kernel
theorem dX2_parts_3 : decode cX2_parts 3 = .ok (.invokevirtual 7, 3) := by decide +kernel
theorem dX2_parts_6 : decode cX2_parts 6 = .ok (.aload_n 1, 1) := by decide +kernel
theorem dX2_parts_7 : decode cX2_parts 7 = .ok (.getfield 26, 3) := by decide +kernel
theorem dX2_parts_10 : decode cX2_parts 10 = .ok (.aload_n 1, 1) := by decide +kernel
theorem dX2_parts_11 : decode cX2_parts 11 = .ok (.getfield 13, 3) := by decide +kernel
theorem dX2_parts_14 : decode cX2_parts 14 = .ok (.isub, 1) := by decide +kernel
theorem dX2_parts_15 : decode cX2_parts 15 = .ok (.istore_n 3, 1) := by decide +kernel
theorem dX2_parts_16 : decode cX2_parts 16 = .ok (.iload_n 3, 1) := by decide +kernel
theorem dX2_parts_17 : decode cX2_parts 17 = .ok (.ifCond .ne 10, 3) := by decide +kernel
theorem dX2_parts_20 : decode cX2_parts 20 = .ok (.aload_n 1, 1) := by decide +kernel
theorem dX2_parts_21 : decode cX2_parts 21 = .ok (.iconst 1, 1) := by decide +kernel
theorem dX2_parts_22 : decode cX2_parts 22 = .ok (.putfield 29, 3) := by decide +kernel
theorem dX2_parts_25 : decode cX2_parts 25 = .ok (.iconst 0, 1) := by decide +kernel
theorem dX2_parts_26 : decode cX2_parts 26 = .ok (.ireturn, 1) := by decide +kernel
theorem dX2_parts_27 : decode cX2_parts 27 = .ok (.iload_n 2, 1) := by decide +kernel
theorem dX2_parts_28 : decode cX2_parts 28 = .ok (.iload_n 3, 1) := by decide +kernel
theorem dX2_parts_29 : decode cX2_parts 29 = .ok (.idiv, 1) := by decide +kernel
theorem dX2_parts_30 : decode cX2_parts 30 = .ok (.ireturn, 1) := by decide +kernel
theorem dX3_init_0 : decode cX3_init 0 = .ok (.aload_n 0, 1) := by decide +kernel
theorem dX3_init_1 : decode cX3_init 1 = .ok (.invokespecial 1, 3) := by decide +kernel
theorem dX3_init_4 : decode cX3_init 4 = .ok (.return_, 1) := by decide +kernel
theorem dX3_acts_0 : decode cX3_acts 0 = .ok (.iconst 0, 1) := by decide +kernel
theorem dX3_acts_1 : decode cX3_acts 1 = .ok (.ireturn, 1) := by decide +kernel
theorem dX3_tall_0 : decode cX3_tall 0 = .ok (.iconst 0, 1) := by decide +kernel
theorem dX3_tall_1 : decode cX3_tall 1 = .ok (.ireturn, 1) := by decide +kernel
theorem dX3_sits_0 : decode cX3_sits 0 = .ok (.aload_n 1, 1) := by decide +kernel
theorem dX3_sits_1 : decode cX3_sits 1 = .ok (.bipush 40, 2) := by decide +kernel
theorem dX3_sits_3 : decode cX3_sits 3 = .ok (.invokevirtual 7, 3) := by decide +kernel
theorem dX3_sits_6 : decode cX3_sits 6 = .ok (.aload_n 0, 1) := by decide +kernel
theorem dX3_sits_7 : decode cX3_sits 7 = .ok (.aload_n 1, 1) := by decide +kernel
theorem dX3_sits_8 : decode cX3_sits 8 = .ok (.iload_n 2, 1) := by decide +kernel
theorem dX3_sits_9 : decode cX3_sits 9 = .ok (.iconst 2, 1) := by decide +kernel
theorem dX3_sits_10 : decode cX3_sits 10 = .ok (.idiv, 1) := by decide +kernel
theorem dX3_sits_11 : decode cX3_sits 11 = .ok (.invokespecial 13, 3) := by decide +kernel
theorem dX3_sits_14 : decode cX3_sits 14 = .ok (.ireturn, 1) := by decide +kernel
theorem dX4_init_0 : decode cX4_init 0 = .ok (.aload_n 0, 1) := by decide +kernel
theorem dX4_init_1 : decode cX4_init 1 = .ok (.invokespecial 1, 3) := by decide +kernel
theorem dX4_init_4 : decode cX4_init 4 = .ok (.return_, 1) := by decide +kernel
theorem dX4_acts_0 : decode cX4_acts 0 = .ok (.aload_n 1, 1) := by decide +kernel
theorem dX4_acts_1 : decode cX4_acts 1 = .ok (.getfield 7, 3) := by decide +kernel
theorem dX4_acts_4 : decode cX4_acts 4 = .ok (.iload_n 2, 1) := by decide +kernel
theorem dX4_acts_5 : decode cX4_acts 5 = .ok (.iaload, 1) := by decide +kernel
theorem dX4_acts_6 : decode cX4_acts 6 = .ok (.iconst 4, 1) := by decide +kernel
theorem dX4_acts_7 : decode cX4_acts 7 = .ok (.if_icmp .le 7, 3) := by decide +kernel
theorem dX4_acts_10 : decode cX4_acts 10 = .ok (.iconst 2, 1) := by decide +kernel
theorem dX4_acts_11 : decode cX4_acts 11 = .ok (.goto 4, 3) := by decide +kernel
theorem dX4_acts_14 : decode cX4_acts 14 = .ok (.iconst 0, 1) := by decide +kernel
theorem dX4_acts_15 : decode cX4_acts 15 = .ok (.ireturn, 1) := by decide +kernel
theorem dX4_tall_0 : decode cX4_tall 0 = .ok (.aload_n 1, 1) := by decide +kernel
theorem dX4_tall_1 : decode cX4_tall 1 = .ok (.getfield 13, 3) := by decide +kernel
theorem dX4_tall_4 : decode cX4_tall 4 = .ok (.iload_n 2, 1) := by decide +kernel
theorem dX4_tall_5 : decode cX4_tall 5 = .ok (.iaload, 1) := by decide +kernel
theorem dX4_tall_6 : decode cX4_tall 6 = .ok (.invokestatic 16, 3) := by decide +kernel
theorem dX4_tall_9 : decode cX4_tall 9 = .ok (.ireturn, 1) := by decide +kernel
theorem dX4_wades_0 : decode cX4_wades 0 = .ok (.aload_n 1, 1) := by decide +kernel
theorem dX4_wades_1 : decode cX4_wades 1 = .ok (.bipush 70, 2) := by decide +kernel
theorem dX4_wades_3 : decode cX4_wades 3 = .ok (.invokevirtual 22, 3) := by decide +kernel
theorem dX4_wades_6 : decode cX4_wades 6 = .ok (.bipush 9, 2) := by decide +kernel
theorem dX4_wades_8 : decode cX4_wades 8 = .ok (.ireturn, 1) := by decide +kernel
theorem dX4_knows_0 : decode cX4_knows 0 = .ok (.aload_n 1, 1) := by decide +kernel
theorem dX4_knows_1 : decode cX4_knows 1 = .ok (.bipush 71, 2) := by decide +kernel
theorem dX4_knows_3 : decode cX4_knows 3 = .ok (.invokevirtual 22, 3) := by decide +kernel
theorem dX4_knows_6 : decode cX4_knows 6 = .ok (.aload_n 0, 1) := by decide +kernel
theorem dX4_knows_7 : decode cX4_knows 7 = .ok (.aload_n 1, 1) := by decide +kernel
theorem dX4_knows_8 : decode cX4_knows 8 = .ok (.iload_n 2, 1) := by decide +kernel
theorem dX4_knows_9 : decode cX4_knows 9 = .ok (.invokespecial 28, 3) := by decide +kernel
theorem dX4_knows_12 : decode cX4_knows 12 = .ok (.aload_n 1, 1) := by decide +kernel
theorem dX4_knows_13 : decode cX4_knows 13 = .ok (.getfield 31, 3) := by decide +kernel
theorem dX4_knows_16 : decode cX4_knows 16 = .ok (.iadd, 1) := by decide +kernel
theorem dX4_knows_17 : decode cX4_knows 17 = .ok (.ireturn, 1) := by decide +kernel
theorem dX5_init_0 : decode cX5_init 0 = .ok (.aload_n 0, 1) := by decide +kernel
theorem dX5_init_1 : decode cX5_init 1 = .ok (.invokespecial 1, 3) := by decide +kernel
theorem dX5_init_4 : decode cX5_init 4 = .ok (.return_, 1) := by decide +kernel
theorem dX5_acts_0 : decode cX5_acts 0 = .ok (.iconst 3, 1) := by decide +kernel
theorem dX5_acts_1 : decode cX5_acts 1 = .ok (.ireturn, 1) := by decide +kernel
theorem dX5_tall_0 : decode cX5_tall 0 = .ok (.aload_n 0, 1) := by decide +kernel
theorem dX5_tall_1 : decode cX5_tall 1 = .ok (.aload_n 1, 1) := by decide +kernel
theorem dX5_tall_2 : decode cX5_tall 2 = .ok (.iload_n 2, 1) := by decide +kernel
theorem dX5_tall_3 : decode cX5_tall 3 = .ok (.invokespecial 7, 3) := by decide +kernel
theorem dX5_tall_6 : decode cX5_tall 6 = .ok (.iconst 2, 1) := by decide +kernel
theorem dX5_tall_7 : decode cX5_tall 7 = .ok (.iadd, 1) := by decide +kernel
theorem dX5_tall_8 : decode cX5_tall 8 = .ok (.ireturn, 1) := by decide +kernel
theorem dX5_wades_0 : decode cX5_wades 0 = .ok (.aload_n 1, 1) := by decide +kernel
theorem dX5_wades_1 : decode cX5_wades 1 = .ok (.bipush 20, 2) := by decide +kernel
theorem dX5_wades_3 : decode cX5_wades 3 = .ok (.invokevirtual 11, 3) := by decide +kernel
theorem dX5_wades_6 : decode cX5_wades 6 = .ok (.aload_n 0, 1) := by decide +kernel
theorem dX5_wades_7 : decode cX5_wades 7 = .ok (.aload_n 1, 1) := by decide +kernel
theorem dX5_wades_8 : decode cX5_wades 8 = .ok (.iload_n 2, 1) := by decide +kernel
theorem dX5_wades_9 : decode cX5_wades 9 = .ok (.invokespecial 17, 3) := by decide +kernel
theorem dX5_wades_12 : decode cX5_wades 12 = .ok (.iconst 4, 1) := by decide +kernel
theorem dX5_wades_13 : decode cX5_wades 13 = .ok (.isub, 1) := by decide +kernel
theorem dX5_wades_14 : decode cX5_wades 14 = .ok (.ireturn, 1) := by decide +kernel
theorem dX5_parts_0 : decode cX5_parts 0 = .ok (.aload_n 1, 1) := by decide +kernel
theorem dX5_parts_1 : decode cX5_parts 1 = .ok (.bipush 21, 2) := by decide +kernel
theorem dX5_parts_3 : decode cX5_parts 3 = .ok (.invokevirtual 11, 3) := by decide +kernel
theorem dX5_parts_6 : decode cX5_parts 6 = .ok (.aload_n 0, 1) := by decide +kernel
theorem dX5_parts_7 : decode cX5_parts 7 = .ok (.aload_n 1, 1) := by decide +kernel
theorem dX5_parts_8 : decode cX5_parts 8 = .ok (.iload_n 2, 1) := by decide +kernel
theorem dX5_parts_9 : decode cX5_parts 9 = .ok (.invokespecial 21, 3) := by decide +kernel
theorem dX5_parts_12 : decode cX5_parts 12 = .ok (.istore_n 3, 1) := by decide +kernel
theorem dX5_parts_13 : decode cX5_parts 13 = .ok (.aload_n 1, 1) := by decide +kernel
theorem dX5_parts_14 : decode cX5_parts 14 = .ok (.getfield 24, 3) := by decide +kernel
theorem dX5_parts_17 : decode cX5_parts 17 = .ok (.ifCond .eq 7, 3) := by decide +kernel
theorem dX5_parts_20 : decode cX5_parts 20 = .ok (.iconst 0, 1) := by decide +kernel
theorem dX5_parts_21 : decode cX5_parts 21 = .ok (.goto 11, 3) := by decide +kernel
theorem dX5_parts_24 : decode cX5_parts 24 = .ok (.iload_n 3, 1) := by decide +kernel
theorem dX5_parts_25 : decode cX5_parts 25 = .ok (.aload_n 0, 1) := by decide +kernel
theorem dX5_parts_26 : decode cX5_parts 26 = .ok (.aload_n 1, 1) := by decide +kernel
theorem dX5_parts_27 : decode cX5_parts 27 = .ok (.iconst 1, 1) := by decide +kernel
theorem dX5_parts_28 : decode cX5_parts 28 = .ok (.invokevirtual 28, 3) := by decide +kernel
theorem dX5_parts_31 : decode cX5_parts 31 = .ok (.iadd, 1) := by decide +kernel
theorem dX5_parts_32 : decode cX5_parts 32 = .ok (.ireturn, 1) := by decide +kernel
theorem dX6_init_0 : decode cX6_init 0 = .ok (.aload_n 0, 1) := by decide +kernel
theorem dX6_init_1 : decode cX6_init 1 = .ok (.invokespecial 1, 3) := by decide +kernel
theorem dX6_init_4 : decode cX6_init 4 = .ok (.aload_n 0, 1) := by decide +kernel
theorem dX6_init_5 : decode cX6_init 5 = .ok (.iload_n 1, 1) := by decide +kernel
theorem dX6_init_6 : decode cX6_init 6 = .ok (.newarray .int, 2) := by decide +kernel
theorem dX6_init_8 : decode cX6_init 8 = .ok (.putfield 7, 3) := by decide +kernel
theorem dX6_init_11 : decode cX6_init 11 = .ok (.return_, 1) := by decide +kernel
theorem dX6_add_0 : decode cX6_add 0 = .ok (.aload_n 0, 1) := by decide +kernel
theorem dX6_add_1 : decode cX6_add 1 = .ok (.getfield 13, 3) := by decide +kernel
theorem dX6_add_4 : decode cX6_add 4 = .ok (.aload_n 0, 1) := by decide +kernel
theorem dX6_add_5 : decode cX6_add 5 = .ok (.getfield 7, 3) := by decide +kernel
theorem dX6_add_8 : decode cX6_add 8 = .ok (.arraylength, 1) := by decide +kernel
theorem dX6_add_9 : decode cX6_add 9 = .ok (.if_icmp .ge 23, 3) := by decide +kernel
theorem dX6_add_12 : decode cX6_add 12 = .ok (.aload_n 0, 1) := by decide +kernel
theorem dX6_add_13 : decode cX6_add 13 = .ok (.getfield 7, 3) := by decide +kernel
theorem dX6_add_16 : decode cX6_add 16 = .ok (.aload_n 0, 1) := by decide +kernel
theorem dX6_add_17 : decode cX6_add 17 = .ok (.getfield 13, 3) := by decide +kernel
theorem dX6_add_20 : decode cX6_add 20 = .ok (.iload_n 1, 1) := by decide +kernel
theorem dX6_add_21 : decode cX6_add 21 = .ok (.iastore, 1) := by decide +kernel
theorem dX6_add_22 : decode cX6_add 22 = .ok (.aload_n 0, 1) := by decide +kernel
theorem dX6_add_23 : decode cX6_add 23 = .ok (.dup, 1) := by decide +kernel
theorem dX6_add_24 : decode cX6_add 24 = .ok (.getfield 13, 3) := by decide +kernel
theorem dX6_add_27 : decode cX6_add 27 = .ok (.iconst 1, 1) := by decide +kernel
theorem dX6_add_28 : decode cX6_add 28 = .ok (.iadd, 1) := by decide +kernel
theorem dX6_add_29 : decode cX6_add 29 = .ok (.putfield 13, 3) := by decide +kernel
theorem dX6_add_32 : decode cX6_add 32 = .ok (.return_, 1) := by decide +kernel
theorem dX6_clear_0 : decode cX6_clear 0 = .ok (.aload_n 0, 1) := by decide +kernel
theorem dX6_clear_1 : decode cX6_clear 1 = .ok (.iload_n 1, 1) := by decide +kernel
theorem dX6_clear_2 : decode cX6_clear 2 = .ok (.putfield 17, 3) := by decide +kernel
theorem dX6_clear_5 : decode cX6_clear 5 = .ok (.aload_n 0, 1) := by decide +kernel
theorem dX6_clear_6 : decode cX6_clear 6 = .ok (.iload_n 2, 1) := by decide +kernel
theorem dX6_clear_7 : decode cX6_clear 7 = .ok (.putfield 13, 3) := by decide +kernel
theorem dX6_clear_10 : decode cX6_clear 10 = .ok (.iconst 0, 1) := by decide +kernel
theorem dX6_clear_11 : decode cX6_clear 11 = .ok (.istore_n 3, 1) := by decide +kernel
theorem dX6_clear_12 : decode cX6_clear 12 = .ok (.iload_n 3, 1) := by decide +kernel
theorem dX6_clear_13 : decode cX6_clear 13 = .ok (.aload_n 0, 1) := by decide +kernel
theorem dX6_clear_14 : decode cX6_clear 14 = .ok (.getfield 7, 3) := by decide +kernel
theorem dX6_clear_17 : decode cX6_clear 17 = .ok (.arraylength, 1) := by decide +kernel
theorem dX6_clear_18 : decode cX6_clear 18 = .ok (.if_icmp .ge 16, 3) := by decide +kernel
theorem dX6_clear_21 : decode cX6_clear 21 = .ok (.aload_n 0, 1) := by decide +kernel
theorem dX6_clear_22 : decode cX6_clear 22 = .ok (.getfield 7, 3) := by decide +kernel
theorem dX6_clear_25 : decode cX6_clear 25 = .ok (.iload_n 3, 1) := by decide +kernel
theorem dX6_clear_26 : decode cX6_clear 26 = .ok (.iconst 0, 1) := by decide +kernel
theorem dX6_clear_27 : decode cX6_clear 27 = .ok (.iastore, 1) := by decide +kernel
theorem dX6_clear_28 : decode cX6_clear 28 = .ok (.iinc 3 1, 3) := by decide +kernel
theorem dX6_clear_31 : decode cX6_clear 31 = .ok (.goto (-19), 3) := by decide +kernel
theorem dX6_clear_34 : decode cX6_clear 34 = .ok (.return_, 1) := by decide +kernel
theorem dX6_copyFrom_0 : decode cX6_copyFrom 0 = .ok (.aload_n 0, 1) := by decide +kernel
theorem dX6_copyFrom_1 : decode cX6_copyFrom 1 = .ok (.aload_n 1, 1) := by decide +kernel
theorem dX6_copyFrom_2 : decode cX6_copyFrom 2 = .ok (.getfield 13, 3) := by decide +kernel
theorem dX6_copyFrom_5 : decode cX6_copyFrom 5 = .ok (.putfield 13, 3) := by decide +kernel
theorem dX6_copyFrom_8 : decode cX6_copyFrom 8 = .ok (.aload_n 1, 1) := by decide +kernel
theorem dX6_copyFrom_9 : decode cX6_copyFrom 9 = .ok (.getfield 7, 3) := by decide +kernel
theorem dX6_copyFrom_12 : decode cX6_copyFrom 12 = .ok (.iconst 0, 1) := by decide +kernel
theorem dX6_copyFrom_13 : decode cX6_copyFrom 13 = .ok (.aload_n 0, 1) := by decide +kernel
theorem dX6_copyFrom_14 : decode cX6_copyFrom 14 = .ok (.getfield 7, 3) := by decide +kernel
theorem dX6_copyFrom_17 : decode cX6_copyFrom 17 = .ok (.iconst 0, 1) := by decide +kernel
theorem dX6_copyFrom_18 : decode cX6_copyFrom 18 = .ok (.aload_n 0, 1) := by decide +kernel
theorem dX6_copyFrom_19 : decode cX6_copyFrom 19 = .ok (.getfield 13, 3) := by decide +kernel
theorem dX6_copyFrom_22 : decode cX6_copyFrom 22 = .ok (.invokestatic 20, 3) := by decide +kernel
theorem dX6_copyFrom_25 : decode cX6_copyFrom 25 = .ok (.return_, 1) := by decide +kernel
theorem dX6_lowest_0 : decode cX6_lowest 0 = .ok (.aload_n 0, 1) := by decide +kernel
theorem dX6_lowest_1 : decode cX6_lowest 1 = .ok (.getfield 17, 3) := by decide +kernel
theorem dX6_lowest_4 : decode cX6_lowest 4 = .ok (.bipush 8, 2) := by decide +kernel
theorem dX6_lowest_6 : decode cX6_lowest 6 = .ok (.if_icmp .ne 8, 3) := by decide +kernel
theorem dX6_lowest_9 : decode cX6_lowest 9 = .ok (.iload_n 1, 1) := by decide +kernel
theorem dX6_lowest_10 : decode cX6_lowest 10 = .ok (.i2b, 1) := by decide +kernel
theorem dX6_lowest_11 : decode cX6_lowest 11 = .ok (.goto 18, 3) := by decide +kernel
theorem dX6_lowest_14 : decode cX6_lowest 14 = .ok (.aload_n 0, 1) := by decide +kernel
theorem dX6_lowest_15 : decode cX6_lowest 15 = .ok (.getfield 17, 3) := by decide +kernel
theorem dX6_lowest_18 : decode cX6_lowest 18 = .ok (.bipush 16, 2) := by decide +kernel
theorem dX6_lowest_20 : decode cX6_lowest 20 = .ok (.if_icmp .ne 8, 3) := by decide +kernel
theorem dX6_lowest_23 : decode cX6_lowest 23 = .ok (.iload_n 1, 1) := by decide +kernel
theorem dX6_lowest_24 : decode cX6_lowest 24 = .ok (.i2s, 1) := by decide +kernel
theorem dX6_lowest_25 : decode cX6_lowest 25 = .ok (.goto 4, 3) := by decide +kernel
theorem dX6_lowest_28 : decode cX6_lowest 28 = .ok (.iload_n 1, 1) := by decide +kernel
theorem dX6_lowest_29 : decode cX6_lowest 29 = .ok (.ireturn, 1) := by decide +kernel
theorem dX7_init_0 : decode cX7_init 0 = .ok (.aload_n 0, 1) := by decide +kernel
theorem dX7_init_1 : decode cX7_init 1 = .ok (.invokespecial 3, 3) := by decide +kernel
theorem dX7_init_4 : decode cX7_init 4 = .ok (.aload_n 0, 1) := by decide +kernel
theorem dX7_init_5 : decode cX7_init 5 = .ok (.bipush 60, 2) := by decide +kernel
theorem dX7_init_7 : decode cX7_init 7 = .ok (.newarray .int, 2) := by decide +kernel
theorem dX7_init_9 : decode cX7_init 9 = .ok (.putfield 9, 3) := by decide +kernel
theorem dX7_init_12 : decode cX7_init 12 = .ok (.aload_n 0, 1) := by decide +kernel
theorem dX7_init_13 : decode cX7_init 13 = .ok (.bipush 60, 2) := by decide +kernel
theorem dX7_init_15 : decode cX7_init 15 = .ok (.newarray .int, 2) := by decide +kernel
theorem dX7_init_17 : decode cX7_init 17 = .ok (.putfield 15, 3) := by decide +kernel
theorem dX7_init_20 : decode cX7_init 20 = .ok (.return_, 1) := by decide +kernel
theorem dX7_copyFrom_0 : decode cX7_copyFrom 0 = .ok (.aload_n 0, 1) := by decide +kernel
theorem dX7_copyFrom_1 : decode cX7_copyFrom 1 = .ok (.aload_n 1, 1) := by decide +kernel
theorem dX7_copyFrom_2 : decode cX7_copyFrom 2 = .ok (.getfield 18, 3) := by decide +kernel
theorem dX7_copyFrom_5 : decode cX7_copyFrom 5 = .ok (.putfield 18, 3) := by decide +kernel
theorem dX7_copyFrom_8 : decode cX7_copyFrom 8 = .ok (.aload_n 1, 1) := by decide +kernel
theorem dX7_copyFrom_9 : decode cX7_copyFrom 9 = .ok (.getfield 9, 3) := by decide +kernel
theorem dX7_copyFrom_12 : decode cX7_copyFrom 12 = .ok (.iconst 0, 1) := by decide +kernel
theorem dX7_copyFrom_13 : decode cX7_copyFrom 13 = .ok (.aload_n 0, 1) := by decide +kernel
theorem dX7_copyFrom_14 : decode cX7_copyFrom 14 = .ok (.getfield 9, 3) := by decide +kernel
theorem dX7_copyFrom_17 : decode cX7_copyFrom 17 = .ok (.iconst 0, 1) := by decide +kernel
theorem dX7_copyFrom_18 : decode cX7_copyFrom 18 = .ok (.aload_n 0, 1) := by decide +kernel
theorem dX7_copyFrom_19 : decode cX7_copyFrom 19 = .ok (.getfield 18, 3) := by decide +kernel
theorem dX7_copyFrom_22 : decode cX7_copyFrom 22 = .ok (.invokestatic 22, 3) := by decide +kernel
theorem dX7_copyFrom_25 : decode cX7_copyFrom 25 = .ok (.return_, 1) := by decide +kernel
theorem dX7_read_0 : decode cX7_read 0 = .ok (.aload_n 0, 1) := by decide +kernel
theorem dX7_read_1 : decode cX7_read 1 = .ok (.aload_n 1, 1) := by decide +kernel
theorem dX7_read_2 : decode cX7_read 2 = .ok (.putfield 28, 3) := by decide +kernel
theorem dX7_read_5 : decode cX7_read 5 = .ok (.aload_n 0, 1) := by decide +kernel
theorem dX7_read_6 : decode cX7_read 6 = .ok (.aload_n 2, 1) := by decide +kernel
theorem dX7_read_7 : decode cX7_read 7 = .ok (.putfield 32, 3) := by decide +kernel
theorem dX7_read_10 : decode cX7_read 10 = .ok (.aload_n 0, 1) := by decide +kernel
theorem dX7_read_11 : decode cX7_read 11 = .ok (.iconst 0, 1) := by decide +kernel
theorem dX7_read_12 : decode cX7_read 12 = .ok (.putfield 36, 3) := by decide +kernel
theorem dX7_read_15 : decode cX7_read 15 = .ok (.aload_n 0, 1) := by decide +kernel
theorem dX7_read_16 : decode cX7_read 16 = .ok (.iconst 0, 1) := by decide +kernel
theorem dX7_read_17 : decode cX7_read 17 = .ok (.putfield 18, 3) := by decide +kernel
theorem dX7_read_20 : decode cX7_read 20 = .ok (.aload_n 0, 1) := by decide +kernel
theorem dX7_read_21 : decode cX7_read 21 = .ok (.iconst 0, 1) := by decide +kernel
theorem dX7_read_22 : decode cX7_read 22 = .ok (.iconst 0, 1) := by decide +kernel
theorem dX7_read_23 : decode cX7_read 23 = .ok (.invokevirtual 39, 3) := by decide +kernel
theorem dX7_read_26 : decode cX7_read 26 = .ok (.ifCond .eq 21, 3) := by decide +kernel
theorem dX7_read_29 : decode cX7_read 29 = .ok (.aload_n 0, 1) := by decide +kernel
theorem dX7_read_30 : decode cX7_read 30 = .ok (.getfield 36, 3) := by decide +kernel
theorem dX7_read_33 : decode cX7_read 33 = .ok (.aload_n 0, 1) := by decide +kernel
theorem dX7_read_34 : decode cX7_read 34 = .ok (.getfield 28, 3) := by decide +kernel
theorem dX7_read_37 : decode cX7_read 37 = .ok (.getfield 43, 3) := by decide +kernel
theorem dX7_read_40 : decode cX7_read 40 = .ok (.if_icmp .ne 7, 3) := by decide +kernel
theorem dX7_read_43 : decode cX7_read 43 = .ok (.iconst (-1), 1) := by decide +kernel
theorem dX7_read_44 : decode cX7_read 44 = .ok (.goto 7, 3) := by decide +kernel
theorem dX7_read_47 : decode cX7_read 47 = .ok (.aload_n 0, 1) := by decide +kernel
theorem dX7_read_48 : decode cX7_read 48 = .ok (.getfield 36, 3) := by decide +kernel
theorem dX7_read_51 : decode cX7_read 51 = .ok (.ireturn, 1) := by decide +kernel
theorem dX7_next_0 : decode cX7_next 0 = .ok (.aload_n 0, 1) := by decide +kernel
theorem dX7_next_1 : decode cX7_next 1 = .ok (.getfield 36, 3) := by decide +kernel
theorem dX7_next_4 : decode cX7_next 4 = .ok (.aload_n 0, 1) := by decide +kernel
theorem dX7_next_5 : decode cX7_next 5 = .ok (.getfield 28, 3) := by decide +kernel
theorem dX7_next_8 : decode cX7_next 8 = .ok (.getfield 43, 3) := by decide +kernel
theorem dX7_next_11 : decode cX7_next 11 = .ok (.if_icmp .ge 18, 3) := by decide +kernel
theorem dX7_next_14 : decode cX7_next 14 = .ok (.aload_n 0, 1) := by decide +kernel
theorem dX7_next_15 : decode cX7_next 15 = .ok (.getfield 28, 3) := by decide +kernel
theorem dX7_next_18 : decode cX7_next 18 = .ok (.getfield 46, 3) := by decide +kernel
theorem dX7_next_21 : decode cX7_next 21 = .ok (.aload_n 0, 1) := by decide +kernel
theorem dX7_next_22 : decode cX7_next 22 = .ok (.getfield 36, 3) := by decide +kernel
theorem dX7_next_25 : decode cX7_next 25 = .ok (.iaload, 1) := by decide +kernel
theorem dX7_next_26 : decode cX7_next 26 = .ok (.goto 4, 3) := by decide +kernel
theorem dX7_next_29 : decode cX7_next 29 = .ok (.iconst (-1), 1) := by decide +kernel
theorem dX7_next_30 : decode cX7_next 30 = .ok (.ireturn, 1) := by decide +kernel
theorem dX7_step_0 : decode cX7_step 0 = .ok (.aload_n 0, 1) := by decide +kernel
theorem dX7_step_1 : decode cX7_step 1 = .ok (.getfield 18, 3) := by decide +kernel
theorem dX7_step_4 : decode cX7_step 4 = .ok (.bipush 60, 2) := by decide +kernel
theorem dX7_step_6 : decode cX7_step 6 = .ok (.if_icmp .ge 23, 3) := by decide +kernel
theorem dX7_step_9 : decode cX7_step 9 = .ok (.aload_n 0, 1) := by decide +kernel
theorem dX7_step_10 : decode cX7_step 10 = .ok (.getfield 9, 3) := by decide +kernel
theorem dX7_step_13 : decode cX7_step 13 = .ok (.aload_n 0, 1) := by decide +kernel
theorem dX7_step_14 : decode cX7_step 14 = .ok (.getfield 18, 3) := by decide +kernel
theorem dX7_step_17 : decode cX7_step 17 = .ok (.iload_n 1, 1) := by decide +kernel
theorem dX7_step_18 : decode cX7_step 18 = .ok (.iastore, 1) := by decide +kernel
theorem dX7_step_19 : decode cX7_step 19 = .ok (.aload_n 0, 1) := by decide +kernel
theorem dX7_step_20 : decode cX7_step 20 = .ok (.dup, 1) := by decide +kernel
theorem dX7_step_21 : decode cX7_step 21 = .ok (.getfield 18, 3) := by decide +kernel
theorem dX7_step_24 : decode cX7_step 24 = .ok (.iconst 1, 1) := by decide +kernel
theorem dX7_step_25 : decode cX7_step 25 = .ok (.iadd, 1) := by decide +kernel
theorem dX7_step_26 : decode cX7_step 26 = .ok (.putfield 18, 3) := by decide +kernel
theorem dX7_step_29 : decode cX7_step 29 = .ok (.return_, 1) := by decide +kernel
theorem dX7_levelOf_0 : decode cX7_levelOf 0 = .ok (.iload_n 0, 1) := by decide +kernel
theorem dX7_levelOf_1 : decode cX7_levelOf 1 = .ok (.lookupswitch 101 #[(37, 99), (38, 93), (42, 99), (43, 97), (45, 97), (47, 99), (60, 95), (61, 95), (62, 95), (124, 91)], 91) := by decide +kernel
theorem dX7_levelOf_92 : decode cX7_levelOf 92 = .ok (.iconst 0, 1) := by decide +kernel
theorem dX7_levelOf_93 : decode cX7_levelOf 93 = .ok (.ireturn, 1) := by decide +kernel
theorem dX7_levelOf_94 : decode cX7_levelOf 94 = .ok (.iconst 1, 1) := by decide +kernel
theorem dX7_levelOf_95 : decode cX7_levelOf 95 = .ok (.ireturn, 1) := by decide +kernel
theorem dX7_levelOf_96 : decode cX7_levelOf 96 = .ok (.iconst 2, 1) := by decide +kernel
theorem dX7_levelOf_97 : decode cX7_levelOf 97 = .ok (.ireturn, 1) := by decide +kernel
theorem dX7_levelOf_98 : decode cX7_levelOf 98 = .ok (.iconst 3, 1) := by decide +kernel
theorem dX7_levelOf_99 : decode cX7_levelOf 99 = .ok (.ireturn, 1) := by decide +kernel
theorem dX7_levelOf_100 : decode cX7_levelOf 100 = .ok (.iconst 4, 1) := by decide +kernel
theorem dX7_levelOf_101 : decode cX7_levelOf 101 = .ok (.ireturn, 1) := by decide +kernel
theorem dX7_levelOf_102 : decode cX7_levelOf 102 = .ok (.iconst (-1), 1) := by decide +kernel
theorem dX7_levelOf_103 : decode cX7_levelOf 103 = .ok (.ireturn, 1) := by decide +kernel
theorem dX7_readLevel_0 : decode cX7_readLevel 0 = .ok (.iload_n 1, 1) := by decide +kernel
theorem dX7_readLevel_1 : decode cX7_readLevel 1 = .ok (.iconst 5, 1) := by decide +kernel
theorem dX7_readLevel_2 : decode cX7_readLevel 2 = .ok (.if_icmp .lt 9, 3) := by decide +kernel
theorem dX7_readLevel_5 : decode cX7_readLevel 5 = .ok (.aload_n 0, 1) := by decide +kernel
theorem dX7_readLevel_6 : decode cX7_readLevel 6 = .ok (.iload_n 2, 1) := by decide +kernel
theorem dX7_readLevel_7 : decode cX7_readLevel 7 = .ok (.invokevirtual 49, 3) := by decide +kernel
theorem dX7_readLevel_10 : decode cX7_readLevel 10 = .ok (.ireturn, 1) := by decide +kernel
theorem dX7_readLevel_11 : decode cX7_readLevel 11 = .ok (.aload_n 0, 1) := by decide +kernel
theorem dX7_readLevel_12 : decode cX7_readLevel 12 = .ok (.iload_n 1, 1) := by decide +kernel
theorem dX7_readLevel_13 : decode cX7_readLevel 13 = .ok (.iconst 1, 1) := by decide +kernel
theorem dX7_readLevel_14 : decode cX7_readLevel 14 = .ok (.iadd, 1) := by decide +kernel
theorem dX7_readLevel_15 : decode cX7_readLevel 15 = .ok (.iload_n 2, 1) := by decide +kernel
theorem dX7_readLevel_16 : decode cX7_readLevel 16 = .ok (.invokevirtual 39, 3) := by decide +kernel
theorem dX7_readLevel_19 : decode cX7_readLevel 19 = .ok (.ifCond .ne 5, 3) := by decide +kernel
theorem dX7_readLevel_22 : decode cX7_readLevel 22 = .ok (.iconst 0, 1) := by decide +kernel
theorem dX7_readLevel_23 : decode cX7_readLevel 23 = .ok (.ireturn, 1) := by decide +kernel
theorem dX7_readLevel_24 : decode cX7_readLevel 24 = .ok (.iload_n 1, 1) := by decide +kernel
theorem dX7_readLevel_25 : decode cX7_readLevel 25 = .ok (.iconst 2, 1) := by decide +kernel
theorem dX7_readLevel_26 : decode cX7_readLevel 26 = .ok (.if_icmp .ne 7, 3) := by decide +kernel
theorem dX7_readLevel_29 : decode cX7_readLevel 29 = .ok (.iconst 1, 1) := by decide +kernel
theorem dX7_readLevel_30 : decode cX7_readLevel 30 = .ok (.goto 5, 3) := by decide +kernel
theorem dX7_readLevel_33 : decode cX7_readLevel 33 = .ok (.bipush 60, 2) := by decide +kernel
theorem dX7_readLevel_35 : decode cX7_readLevel 35 = .ok (.istore_n 3, 1) := by decide +kernel
theorem dX7_readLevel_36 : decode cX7_readLevel 36 = .ok (.iconst 0, 1) := by decide +kernel
theorem dX7_readLevel_37 : decode cX7_readLevel 37 = .ok (.istore 4, 2) := by decide +kernel
theorem dX7_readLevel_39 : decode cX7_readLevel 39 = .ok (.iload 4, 2) := by decide +kernel
theorem dX7_readLevel_41 : decode cX7_readLevel 41 = .ok (.iload_n 3, 1) := by decide +kernel
theorem dX7_readLevel_42 : decode cX7_readLevel 42 = .ok (.if_icmp .ge 56, 3) := by decide +kernel
theorem dX7_readLevel_45 : decode cX7_readLevel 45 = .ok (.aload_n 0, 1) := by decide +kernel
theorem dX7_readLevel_46 : decode cX7_readLevel 46 = .ok (.invokevirtual 53, 3) := by decide +kernel
theorem dX7_readLevel_49 : decode cX7_readLevel 49 = .ok (.invokestatic 57, 3) := by decide +kernel
theorem dX7_readLevel_52 : decode cX7_readLevel 52 = .ok (.iload_n 1, 1) := by decide +kernel
theorem dX7_readLevel_53 : decode cX7_readLevel 53 = .ok (.if_icmp .ne 45, 3) := by decide +kernel
theorem dX7_readLevel_56 : decode cX7_readLevel 56 = .ok (.aload_n 0, 1) := by decide +kernel
theorem dX7_readLevel_57 : decode cX7_readLevel 57 = .ok (.invokevirtual 53, 3) := by decide +kernel
theorem dX7_readLevel_60 : decode cX7_readLevel 60 = .ok (.istore 5, 2) := by decide +kernel
theorem dX7_readLevel_62 : decode cX7_readLevel 62 = .ok (.aload_n 0, 1) := by decide +kernel
theorem dX7_readLevel_63 : decode cX7_readLevel 63 = .ok (.dup, 1) := by decide +kernel
theorem dX7_readLevel_64 : decode cX7_readLevel 64 = .ok (.getfield 36, 3) := by decide +kernel
theorem dX7_readLevel_67 : decode cX7_readLevel 67 = .ok (.iconst 1, 1) := by decide +kernel
theorem dX7_readLevel_68 : decode cX7_readLevel 68 = .ok (.iadd, 1) := by decide +kernel
theorem dX7_readLevel_69 : decode cX7_readLevel 69 = .ok (.putfield 36, 3) := by decide +kernel
theorem dX7_readLevel_72 : decode cX7_readLevel 72 = .ok (.aload_n 0, 1) := by decide +kernel
theorem dX7_readLevel_73 : decode cX7_readLevel 73 = .ok (.iload_n 1, 1) := by decide +kernel
theorem dX7_readLevel_74 : decode cX7_readLevel 74 = .ok (.iconst 1, 1) := by decide +kernel
theorem dX7_readLevel_75 : decode cX7_readLevel 75 = .ok (.iadd, 1) := by decide +kernel
theorem dX7_readLevel_76 : decode cX7_readLevel 76 = .ok (.iload_n 2, 1) := by decide +kernel
theorem dX7_readLevel_77 : decode cX7_readLevel 77 = .ok (.invokevirtual 39, 3) := by decide +kernel
theorem dX7_readLevel_80 : decode cX7_readLevel 80 = .ok (.ifCond .ne 5, 3) := by decide +kernel
theorem dX7_readLevel_83 : decode cX7_readLevel 83 = .ok (.iconst 0, 1) := by decide +kernel
theorem dX7_readLevel_84 : decode cX7_readLevel 84 = .ok (.ireturn, 1) := by decide +kernel
theorem dX7_readLevel_85 : decode cX7_readLevel 85 = .ok (.aload_n 0, 1) := by decide +kernel
theorem dX7_readLevel_86 : decode cX7_readLevel 86 = .ok (.iload 5, 2) := by decide +kernel
theorem dX7_readLevel_88 : decode cX7_readLevel 88 = .ok (.ineg, 1) := by decide +kernel
theorem dX7_readLevel_89 : decode cX7_readLevel 89 = .ok (.invokevirtual 61, 3) := by decide +kernel
theorem dX7_readLevel_92 : decode cX7_readLevel 92 = .ok (.iinc 4 1, 3) := by decide +kernel
theorem dX7_readLevel_95 : decode cX7_readLevel 95 = .ok (.goto (-56), 3) := by decide +kernel
theorem dX7_readLevel_98 : decode cX7_readLevel 98 = .ok (.iconst 1, 1) := by decide +kernel
theorem dX7_readLevel_99 : decode cX7_readLevel 99 = .ok (.ireturn, 1) := by decide +kernel
theorem dX7_readUnit_0 : decode cX7_readUnit 0 = .ok (.aload_n 0, 1) := by decide +kernel
theorem dX7_readUnit_1 : decode cX7_readUnit 1 = .ok (.invokevirtual 53, 3) := by decide +kernel
theorem dX7_readUnit_4 : decode cX7_readUnit 4 = .ok (.istore_n 2, 1) := by decide +kernel
theorem dX7_readUnit_5 : decode cX7_readUnit 5 = .ok (.iload_n 2, 1) := by decide +kernel
theorem dX7_readUnit_6 : decode cX7_readUnit 6 = .ok (.bipush 48, 2) := by decide +kernel
theorem dX7_readUnit_8 : decode cX7_readUnit 8 = .ok (.if_icmp .lt 15, 3) := by decide +kernel
theorem dX7_readUnit_11 : decode cX7_readUnit 11 = .ok (.iload_n 2, 1) := by decide +kernel
theorem dX7_readUnit_12 : decode cX7_readUnit 12 = .ok (.bipush 57, 2) := by decide +kernel
theorem dX7_readUnit_14 : decode cX7_readUnit 14 = .ok (.if_icmp .gt 9, 3) := by decide +kernel
theorem dX7_readUnit_17 : decode cX7_readUnit 17 = .ok (.aload_n 0, 1) := by decide +kernel
theorem dX7_readUnit_18 : decode cX7_readUnit 18 = .ok (.invokevirtual 65, 3) := by decide +kernel
theorem dX7_readUnit_21 : decode cX7_readUnit 21 = .ok (.iconst 1, 1) := by decide +kernel
theorem dX7_readUnit_22 : decode cX7_readUnit 22 = .ok (.ireturn, 1) := by decide +kernel
theorem dX7_readUnit_23 : decode cX7_readUnit 23 = .ok (.iload_n 2, 1) := by decide +kernel
theorem dX7_readUnit_24 : decode cX7_readUnit 24 = .ok (.ifCond .ge 7, 3) := by decide +kernel
theorem dX7_readUnit_27 : decode cX7_readUnit 27 = .ok (.iconst (-1), 1) := by decide +kernel
theorem dX7_readUnit_28 : decode cX7_readUnit 28 = .ok (.goto 12, 3) := by decide +kernel
theorem dX7_readUnit_31 : decode cX7_readUnit 31 = .ok (.aload_n 0, 1) := by decide +kernel
theorem dX7_readUnit_32 : decode cX7_readUnit 32 = .ok (.getfield 32, 3) := by decide +kernel
theorem dX7_readUnit_35 : decode cX7_readUnit 35 = .ok (.iload_n 2, 1) := by decide +kernel
theorem dX7_readUnit_36 : decode cX7_readUnit 36 = .ok (.i2c, 1) := by decide +kernel
theorem dX7_readUnit_37 : decode cX7_readUnit 37 = .ok (.invokevirtual 68, 3) := by decide +kernel
theorem dX7_readUnit_40 : decode cX7_readUnit 40 = .ok (.istore_n 3, 1) := by decide +kernel
theorem dX7_readUnit_41 : decode cX7_readUnit 41 = .ok (.iload_n 3, 1) := by decide +kernel
theorem dX7_readUnit_42 : decode cX7_readUnit 42 = .ok (.ifCond .lt 22, 3) := by decide +kernel
theorem dX7_readUnit_45 : decode cX7_readUnit 45 = .ok (.aload_n 0, 1) := by decide +kernel
theorem dX7_readUnit_46 : decode cX7_readUnit 46 = .ok (.dup, 1) := by decide +kernel
theorem dX7_readUnit_47 : decode cX7_readUnit 47 = .ok (.getfield 36, 3) := by decide +kernel
theorem dX7_readUnit_50 : decode cX7_readUnit 50 = .ok (.iconst 1, 1) := by decide +kernel
theorem dX7_readUnit_51 : decode cX7_readUnit 51 = .ok (.iadd, 1) := by decide +kernel
theorem dX7_readUnit_52 : decode cX7_readUnit 52 = .ok (.putfield 36, 3) := by decide +kernel
theorem dX7_readUnit_55 : decode cX7_readUnit 55 = .ok (.aload_n 0, 1) := by decide +kernel
theorem dX7_readUnit_56 : decode cX7_readUnit 56 = .ok (.iconst (-1), 1) := by decide +kernel
theorem dX7_readUnit_57 : decode cX7_readUnit 57 = .ok (.iload_n 3, 1) := by decide +kernel
theorem dX7_readUnit_58 : decode cX7_readUnit 58 = .ok (.isub, 1) := by decide +kernel
theorem dX7_readUnit_59 : decode cX7_readUnit 59 = .ok (.invokevirtual 61, 3) := by decide +kernel
theorem dX7_readUnit_62 : decode cX7_readUnit 62 = .ok (.iconst 1, 1) := by decide +kernel
theorem dX7_readUnit_63 : decode cX7_readUnit 63 = .ok (.ireturn, 1) := by decide +kernel
theorem dX7_readUnit_64 : decode cX7_readUnit 64 = .ok (.iload_n 1, 1) := by decide +kernel
theorem dX7_readUnit_65 : decode cX7_readUnit 65 = .ok (.iconst 5, 1) := by decide +kernel
theorem dX7_readUnit_66 : decode cX7_readUnit 66 = .ok (.if_icmp .lt 5, 3) := by decide +kernel
theorem dX7_readUnit_69 : decode cX7_readUnit 69 = .ok (.iconst 0, 1) := by decide +kernel
theorem dX7_readUnit_70 : decode cX7_readUnit 70 = .ok (.ireturn, 1) := by decide +kernel
theorem dX7_readUnit_71 : decode cX7_readUnit 71 = .ok (.iload_n 2, 1) := by decide +kernel
theorem dX7_readUnit_72 : decode cX7_readUnit 72 = .ok (.bipush 33, 2) := by decide +kernel
theorem dX7_readUnit_74 : decode cX7_readUnit 74 = .ok (.if_icmp .ne 31, 3) := by decide +kernel
theorem dX7_readUnit_77 : decode cX7_readUnit 77 = .ok (.aload_n 0, 1) := by decide +kernel
theorem dX7_readUnit_78 : decode cX7_readUnit 78 = .ok (.dup, 1) := by decide +kernel
theorem dX7_readUnit_79 : decode cX7_readUnit 79 = .ok (.getfield 36, 3) := by decide +kernel
theorem dX7_readUnit_82 : decode cX7_readUnit 82 = .ok (.iconst 1, 1) := by decide +kernel
theorem dX7_readUnit_83 : decode cX7_readUnit 83 = .ok (.iadd, 1) := by decide +kernel
theorem dX7_readUnit_84 : decode cX7_readUnit 84 = .ok (.putfield 36, 3) := by decide +kernel
theorem dX7_readUnit_87 : decode cX7_readUnit 87 = .ok (.aload_n 0, 1) := by decide +kernel
theorem dX7_readUnit_88 : decode cX7_readUnit 88 = .ok (.iload_n 1, 1) := by decide +kernel
theorem dX7_readUnit_89 : decode cX7_readUnit 89 = .ok (.iconst 1, 1) := by decide +kernel
theorem dX7_readUnit_90 : decode cX7_readUnit 90 = .ok (.iadd, 1) := by decide +kernel
theorem dX7_readUnit_91 : decode cX7_readUnit 91 = .ok (.invokevirtual 49, 3) := by decide +kernel
theorem dX7_readUnit_94 : decode cX7_readUnit 94 = .ok (.istore 4, 2) := by decide +kernel
theorem dX7_readUnit_96 : decode cX7_readUnit 96 = .ok (.aload_n 0, 1) := by decide +kernel
theorem dX7_readUnit_97 : decode cX7_readUnit 97 = .ok (.bipush (-33), 2) := by decide +kernel
theorem dX7_readUnit_99 : decode cX7_readUnit 99 = .ok (.invokevirtual 61, 3) := by decide +kernel
theorem dX7_readUnit_102 : decode cX7_readUnit 102 = .ok (.iload 4, 2) := by decide +kernel
theorem dX7_readUnit_104 : decode cX7_readUnit 104 = .ok (.ireturn, 1) := by decide +kernel
theorem dX7_readUnit_105 : decode cX7_readUnit 105 = .ok (.iload_n 2, 1) := by decide +kernel
theorem dX7_readUnit_106 : decode cX7_readUnit 106 = .ok (.bipush 40, 2) := by decide +kernel
theorem dX7_readUnit_108 : decode cX7_readUnit 108 = .ok (.if_icmp .ne 17, 3) := by decide +kernel
theorem dX7_readUnit_111 : decode cX7_readUnit 111 = .ok (.aload_n 0, 1) := by decide +kernel
theorem dX7_readUnit_112 : decode cX7_readUnit 112 = .ok (.iload_n 1, 1) := by decide +kernel
theorem dX7_readUnit_113 : decode cX7_readUnit 113 = .ok (.iconst 1, 1) := by decide +kernel
theorem dX7_readUnit_114 : decode cX7_readUnit 114 = .ok (.iadd, 1) := by decide +kernel
theorem dX7_readUnit_115 : decode cX7_readUnit 115 = .ok (.invokevirtual 73, 3) := by decide +kernel
theorem dX7_readUnit_118 : decode cX7_readUnit 118 = .ok (.ifCond .eq 7, 3) := by decide +kernel
theorem dX7_readUnit_121 : decode cX7_readUnit 121 = .ok (.iconst 1, 1) := by decide +kernel
theorem dX7_readUnit_122 : decode cX7_readUnit 122 = .ok (.goto 4, 3) := by decide +kernel
theorem dX7_readUnit_125 : decode cX7_readUnit 125 = .ok (.iconst 0, 1) := by decide +kernel
theorem dX7_readUnit_126 : decode cX7_readUnit 126 = .ok (.ireturn, 1) := by decide +kernel
theorem dX7_readBracket_0 : decode cX7_readBracket 0 = .ok (.aload_n 0, 1) := by decide +kernel
theorem dX7_readBracket_1 : decode cX7_readBracket 1 = .ok (.dup, 1) := by decide +kernel
theorem dX7_readBracket_2 : decode cX7_readBracket 2 = .ok (.getfield 36, 3) := by decide +kernel
theorem dX7_readBracket_5 : decode cX7_readBracket 5 = .ok (.iconst 1, 1) := by decide +kernel
theorem dX7_readBracket_6 : decode cX7_readBracket 6 = .ok (.iadd, 1) := by decide +kernel
theorem dX7_readBracket_7 : decode cX7_readBracket 7 = .ok (.putfield 36, 3) := by decide +kernel
theorem dX7_readBracket_10 : decode cX7_readBracket 10 = .ok (.aload_n 0, 1) := by decide +kernel
theorem dX7_readBracket_11 : decode cX7_readBracket 11 = .ok (.iconst 0, 1) := by decide +kernel
theorem dX7_readBracket_12 : decode cX7_readBracket 12 = .ok (.iload_n 1, 1) := by decide +kernel
theorem dX7_readBracket_13 : decode cX7_readBracket 13 = .ok (.invokevirtual 39, 3) := by decide +kernel
theorem dX7_readBracket_16 : decode cX7_readBracket 16 = .ok (.ifCond .eq 12, 3) := by decide +kernel
theorem dX7_readBracket_19 : decode cX7_readBracket 19 = .ok (.aload_n 0, 1) := by decide +kernel
theorem dX7_readBracket_20 : decode cX7_readBracket 20 = .ok (.invokevirtual 53, 3) := by decide +kernel
theorem dX7_readBracket_23 : decode cX7_readBracket 23 = .ok (.bipush 41, 2) := by decide +kernel
theorem dX7_readBracket_25 : decode cX7_readBracket 25 = .ok (.if_icmp .eq 5, 3) := by decide +kernel
theorem dX7_readBracket_28 : decode cX7_readBracket 28 = .ok (.iconst 0, 1) := by decide +kernel
theorem dX7_readBracket_29 : decode cX7_readBracket 29 = .ok (.ireturn, 1) := by decide +kernel
theorem dX7_readBracket_30 : decode cX7_readBracket 30 = .ok (.aload_n 0, 1) := by decide +kernel
theorem dX7_readBracket_31 : decode cX7_readBracket 31 = .ok (.dup, 1) := by decide +kernel
theorem dX7_readBracket_32 : decode cX7_readBracket 32 = .ok (.getfield 36, 3) := by decide +kernel
theorem dX7_readBracket_35 : decode cX7_readBracket 35 = .ok (.iconst 1, 1) := by decide +kernel
theorem dX7_readBracket_36 : decode cX7_readBracket 36 = .ok (.iadd, 1) := by decide +kernel
theorem dX7_readBracket_37 : decode cX7_readBracket 37 = .ok (.putfield 36, 3) := by decide +kernel
theorem dX7_readBracket_40 : decode cX7_readBracket 40 = .ok (.iconst 1, 1) := by decide +kernel
theorem dX7_readBracket_41 : decode cX7_readBracket 41 = .ok (.ireturn, 1) := by decide +kernel
theorem dX7_readNumber_0 : decode cX7_readNumber 0 = .ok (.iconst 0, 1) := by decide +kernel
theorem dX7_readNumber_1 : decode cX7_readNumber 1 = .ok (.istore_n 1, 1) := by decide +kernel
theorem dX7_readNumber_2 : decode cX7_readNumber 2 = .ok (.iconst 0, 1) := by decide +kernel
theorem dX7_readNumber_3 : decode cX7_readNumber 3 = .ok (.istore_n 2, 1) := by decide +kernel
theorem dX7_readNumber_4 : decode cX7_readNumber 4 = .ok (.iload_n 2, 1) := by decide +kernel
theorem dX7_readNumber_5 : decode cX7_readNumber 5 = .ok (.iconst 4, 1) := by decide +kernel
theorem dX7_readNumber_6 : decode cX7_readNumber 6 = .ok (.if_icmp .ge 50, 3) := by decide +kernel
theorem dX7_readNumber_9 : decode cX7_readNumber 9 = .ok (.aload_n 0, 1) := by decide +kernel
theorem dX7_readNumber_10 : decode cX7_readNumber 10 = .ok (.invokevirtual 53, 3) := by decide +kernel
theorem dX7_readNumber_13 : decode cX7_readNumber 13 = .ok (.bipush 48, 2) := by decide +kernel
theorem dX7_readNumber_15 : decode cX7_readNumber 15 = .ok (.if_icmp .lt 41, 3) := by decide +kernel
theorem dX7_readNumber_18 : decode cX7_readNumber 18 = .ok (.aload_n 0, 1) := by decide +kernel
theorem dX7_readNumber_19 : decode cX7_readNumber 19 = .ok (.invokevirtual 53, 3) := by decide +kernel
theorem dX7_readNumber_22 : decode cX7_readNumber 22 = .ok (.bipush 57, 2) := by decide +kernel
theorem dX7_readNumber_24 : decode cX7_readNumber 24 = .ok (.if_icmp .gt 32, 3) := by decide +kernel
theorem dX7_readNumber_27 : decode cX7_readNumber 27 = .ok (.bipush 10, 2) := by decide +kernel
theorem dX7_readNumber_29 : decode cX7_readNumber 29 = .ok (.iload_n 1, 1) := by decide +kernel
theorem dX7_readNumber_30 : decode cX7_readNumber 30 = .ok (.imul, 1) := by decide +kernel
theorem dX7_readNumber_31 : decode cX7_readNumber 31 = .ok (.aload_n 0, 1) := by decide +kernel
theorem dX7_readNumber_32 : decode cX7_readNumber 32 = .ok (.invokevirtual 53, 3) := by decide +kernel
theorem dX7_readNumber_35 : decode cX7_readNumber 35 = .ok (.iadd, 1) := by decide +kernel
theorem dX7_readNumber_36 : decode cX7_readNumber 36 = .ok (.bipush 48, 2) := by decide +kernel
theorem dX7_readNumber_38 : decode cX7_readNumber 38 = .ok (.isub, 1) := by decide +kernel
theorem dX7_readNumber_39 : decode cX7_readNumber 39 = .ok (.istore_n 1, 1) := by decide +kernel
theorem dX7_readNumber_40 : decode cX7_readNumber 40 = .ok (.aload_n 0, 1) := by decide +kernel
theorem dX7_readNumber_41 : decode cX7_readNumber 41 = .ok (.dup, 1) := by decide +kernel
theorem dX7_readNumber_42 : decode cX7_readNumber 42 = .ok (.getfield 36, 3) := by decide +kernel
theorem dX7_readNumber_45 : decode cX7_readNumber 45 = .ok (.iconst 1, 1) := by decide +kernel
theorem dX7_readNumber_46 : decode cX7_readNumber 46 = .ok (.iadd, 1) := by decide +kernel
theorem dX7_readNumber_47 : decode cX7_readNumber 47 = .ok (.putfield 36, 3) := by decide +kernel
theorem dX7_readNumber_50 : decode cX7_readNumber 50 = .ok (.iinc 2 1, 3) := by decide +kernel
theorem dX7_readNumber_53 : decode cX7_readNumber 53 = .ok (.goto (-49), 3) := by decide +kernel
theorem dX7_readNumber_56 : decode cX7_readNumber 56 = .ok (.aload_n 0, 1) := by decide +kernel
theorem dX7_readNumber_57 : decode cX7_readNumber 57 = .ok (.iload_n 1, 1) := by decide +kernel
theorem dX7_readNumber_58 : decode cX7_readNumber 58 = .ok (.invokevirtual 61, 3) := by decide +kernel
theorem dX7_readNumber_61 : decode cX7_readNumber 61 = .ok (.return_, 1) := by decide +kernel
theorem dX7_gives_0 : decode cX7_gives 0 = .ok (.iconst (-1), 1) := by decide +kernel
theorem dX7_gives_1 : decode cX7_gives 1 = .ok (.istore 4, 2) := by decide +kernel
theorem dX7_gives_3 : decode cX7_gives 3 = .ok (.iconst 0, 1) := by decide +kernel
theorem dX7_gives_4 : decode cX7_gives 4 = .ok (.istore 5, 2) := by decide +kernel
theorem dX7_gives_6 : decode cX7_gives 6 = .ok (.iload 5, 2) := by decide +kernel
theorem dX7_gives_8 : decode cX7_gives 8 = .ok (.aload_n 0, 1) := by decide +kernel
theorem dX7_gives_9 : decode cX7_gives 9 = .ok (.getfield 18, 3) := by decide +kernel
theorem dX7_gives_12 : decode cX7_gives 12 = .ok (.if_icmp .ge 152, 3) := by decide +kernel
theorem dX7_gives_15 : decode cX7_gives 15 = .ok (.aload_n 0, 1) := by decide +kernel
theorem dX7_gives_16 : decode cX7_gives 16 = .ok (.getfield 9, 3) := by decide +kernel
theorem dX7_gives_19 : decode cX7_gives 19 = .ok (.iload 5, 2) := by decide +kernel
theorem dX7_gives_21 : decode cX7_gives 21 = .ok (.iaload, 1) := by decide +kernel
theorem dX7_gives_22 : decode cX7_gives 22 = .ok (.istore 6, 2) := by decide +kernel
theorem dX7_gives_24 : decode cX7_gives 24 = .ok (.iload 6, 2) := by decide +kernel
theorem dX7_gives_26 : decode cX7_gives 26 = .ok (.bipush (-3), 2) := by decide +kernel
theorem dX7_gives_28 : decode cX7_gives 28 = .ok (.if_icmp .lt 55, 3) := by decide +kernel
theorem dX7_gives_31 : decode cX7_gives 31 = .ok (.iload 4, 2) := by decide +kernel
theorem dX7_gives_33 : decode cX7_gives 33 = .ok (.bipush 59, 2) := by decide +kernel
theorem dX7_gives_35 : decode cX7_gives 35 = .ok (.if_icmp .ge 48, 3) := by decide +kernel
theorem dX7_gives_38 : decode cX7_gives 38 = .ok (.iinc 4 1, 3) := by decide +kernel
theorem dX7_gives_41 : decode cX7_gives 41 = .ok (.aload_n 0, 1) := by decide +kernel
theorem dX7_gives_42 : decode cX7_gives 42 = .ok (.getfield 15, 3) := by decide +kernel
theorem dX7_gives_45 : decode cX7_gives 45 = .ok (.iload 4, 2) := by decide +kernel
theorem dX7_gives_47 : decode cX7_gives 47 = .ok (.iload 6, 2) := by decide +kernel
theorem dX7_gives_49 : decode cX7_gives 49 = .ok (.ifCond .lt 8, 3) := by decide +kernel
theorem dX7_gives_52 : decode cX7_gives 52 = .ok (.iload 6, 2) := by decide +kernel
theorem dX7_gives_54 : decode cX7_gives 54 = .ok (.goto 25, 3) := by decide +kernel
theorem dX7_gives_57 : decode cX7_gives 57 = .ok (.iload 6, 2) := by decide +kernel
theorem dX7_gives_59 : decode cX7_gives 59 = .ok (.iconst (-1), 1) := by decide +kernel
theorem dX7_gives_60 : decode cX7_gives 60 = .ok (.if_icmp .ne 7, 3) := by decide +kernel
theorem dX7_gives_63 : decode cX7_gives 63 = .ok (.iload_n 1, 1) := by decide +kernel
theorem dX7_gives_64 : decode cX7_gives 64 = .ok (.goto 15, 3) := by decide +kernel
theorem dX7_gives_67 : decode cX7_gives 67 = .ok (.iload 6, 2) := by decide +kernel
theorem dX7_gives_69 : decode cX7_gives 69 = .ok (.bipush (-2), 2) := by decide +kernel
theorem dX7_gives_71 : decode cX7_gives 71 = .ok (.if_icmp .ne 7, 3) := by decide +kernel
theorem dX7_gives_74 : decode cX7_gives 74 = .ok (.iload_n 2, 1) := by decide +kernel
theorem dX7_gives_75 : decode cX7_gives 75 = .ok (.goto 4, 3) := by decide +kernel
theorem dX7_gives_78 : decode cX7_gives 78 = .ok (.iload_n 3, 1) := by decide +kernel
theorem dX7_gives_79 : decode cX7_gives 79 = .ok (.iastore, 1) := by decide +kernel
theorem dX7_gives_80 : decode cX7_gives 80 = .ok (.goto 78, 3) := by decide +kernel
theorem dX7_gives_83 : decode cX7_gives 83 = .ok (.iload 6, 2) := by decide +kernel
theorem dX7_gives_85 : decode cX7_gives 85 = .ok (.bipush (-33), 2) := by decide +kernel
theorem dX7_gives_87 : decode cX7_gives 87 = .ok (.if_icmp .ne 33, 3) := by decide +kernel
theorem dX7_gives_90 : decode cX7_gives 90 = .ok (.iload 4, 2) := by decide +kernel
theorem dX7_gives_92 : decode cX7_gives 92 = .ok (.ifCond .lt 28, 3) := by decide +kernel
theorem dX7_gives_95 : decode cX7_gives 95 = .ok (.aload_n 0, 1) := by decide +kernel
theorem dX7_gives_96 : decode cX7_gives 96 = .ok (.getfield 15, 3) := by decide +kernel
theorem dX7_gives_99 : decode cX7_gives 99 = .ok (.iload 4, 2) := by decide +kernel
theorem dX7_gives_101 : decode cX7_gives 101 = .ok (.aload_n 0, 1) := by decide +kernel
theorem dX7_gives_102 : decode cX7_gives 102 = .ok (.getfield 15, 3) := by decide +kernel
theorem dX7_gives_105 : decode cX7_gives 105 = .ok (.iload 4, 2) := by decide +kernel
theorem dX7_gives_107 : decode cX7_gives 107 = .ok (.iaload, 1) := by decide +kernel
theorem dX7_gives_108 : decode cX7_gives 108 = .ok (.ifCond .ne 7, 3) := by decide +kernel
theorem dX7_gives_111 : decode cX7_gives 111 = .ok (.iconst 1, 1) := by decide +kernel
theorem dX7_gives_112 : decode cX7_gives 112 = .ok (.goto 4, 3) := by decide +kernel
theorem dX7_gives_115 : decode cX7_gives 115 = .ok (.iconst 0, 1) := by decide +kernel
theorem dX7_gives_116 : decode cX7_gives 116 = .ok (.iastore, 1) := by decide +kernel
theorem dX7_gives_117 : decode cX7_gives 117 = .ok (.goto 41, 3) := by decide +kernel
theorem dX7_gives_120 : decode cX7_gives 120 = .ok (.iload 4, 2) := by decide +kernel
theorem dX7_gives_122 : decode cX7_gives 122 = .ok (.iconst 1, 1) := by decide +kernel
theorem dX7_gives_123 : decode cX7_gives 123 = .ok (.if_icmp .lt 35, 3) := by decide +kernel
theorem dX7_gives_126 : decode cX7_gives 126 = .ok (.iinc 4 (-1), 3) := by decide +kernel
theorem dX7_gives_129 : decode cX7_gives 129 = .ok (.aload_n 0, 1) := by decide +kernel
theorem dX7_gives_130 : decode cX7_gives 130 = .ok (.getfield 15, 3) := by decide +kernel
theorem dX7_gives_133 : decode cX7_gives 133 = .ok (.iload 4, 2) := by decide +kernel
theorem dX7_gives_135 : decode cX7_gives 135 = .ok (.iload 6, 2) := by decide +kernel
theorem dX7_gives_137 : decode cX7_gives 137 = .ok (.ineg, 1) := by decide +kernel
theorem dX7_gives_138 : decode cX7_gives 138 = .ok (.aload_n 0, 1) := by decide +kernel
theorem dX7_gives_139 : decode cX7_gives 139 = .ok (.getfield 15, 3) := by decide +kernel
theorem dX7_gives_142 : decode cX7_gives 142 = .ok (.iload 4, 2) := by decide +kernel
theorem dX7_gives_144 : decode cX7_gives 144 = .ok (.iaload, 1) := by decide +kernel
theorem dX7_gives_145 : decode cX7_gives 145 = .ok (.aload_n 0, 1) := by decide +kernel
theorem dX7_gives_146 : decode cX7_gives 146 = .ok (.getfield 15, 3) := by decide +kernel
theorem dX7_gives_149 : decode cX7_gives 149 = .ok (.iload 4, 2) := by decide +kernel
theorem dX7_gives_151 : decode cX7_gives 151 = .ok (.iconst 1, 1) := by decide +kernel
theorem dX7_gives_152 : decode cX7_gives 152 = .ok (.iadd, 1) := by decide +kernel
theorem dX7_gives_153 : decode cX7_gives 153 = .ok (.iaload, 1) := by decide +kernel
theorem dX7_gives_154 : decode cX7_gives 154 = .ok (.invokestatic 76, 3) := by decide +kernel
theorem dX7_gives_157 : decode cX7_gives 157 = .ok (.iastore, 1) := by decide +kernel
theorem dX7_gives_158 : decode cX7_gives 158 = .ok (.iinc 5 1, 3) := by decide +kernel
theorem dX7_gives_161 : decode cX7_gives 161 = .ok (.goto (-155), 3) := by decide +kernel
theorem dX7_gives_164 : decode cX7_gives 164 = .ok (.aload_n 0, 1) := by decide +kernel
theorem dX7_gives_165 : decode cX7_gives 165 = .ok (.getfield 15, 3) := by decide +kernel
theorem dX7_gives_168 : decode cX7_gives 168 = .ok (.iconst 0, 1) := by decide +kernel
theorem dX7_gives_169 : decode cX7_gives 169 = .ok (.iaload, 1) := by decide +kernel
theorem dX7_gives_170 : decode cX7_gives 170 = .ok (.ireturn, 1) := by decide +kernel
theorem dX7_worked_0 : decode cX7_worked 0 = .ok (.iload_n 0, 1) := by decide +kernel
theorem dX7_worked_1 : decode cX7_worked 1 = .ok (.lookupswitch 168 #[(38, 97), (42, 152), (43, 144), (45, 148), (47, 156), (60, 111), (61, 122), (62, 133), (124, 83)], 83) := by decide +kernel
theorem dX7_worked_84 : decode cX7_worked 84 = .ok (.iload_n 1, 1) := by decide +kernel
theorem dX7_worked_85 : decode cX7_worked 85 = .ok (.ifCond .ne 7, 3) := by decide +kernel
theorem dX7_worked_88 : decode cX7_worked 88 = .ok (.iload_n 2, 1) := by decide +kernel
theorem dX7_worked_89 : decode cX7_worked 89 = .ok (.ifCond .eq 7, 3) := by decide +kernel
theorem dX7_worked_92 : decode cX7_worked 92 = .ok (.iconst 1, 1) := by decide +kernel
theorem dX7_worked_93 : decode cX7_worked 93 = .ok (.goto 4, 3) := by decide +kernel
theorem dX7_worked_96 : decode cX7_worked 96 = .ok (.iconst 0, 1) := by decide +kernel
theorem dX7_worked_97 : decode cX7_worked 97 = .ok (.ireturn, 1) := by decide +kernel
theorem dX7_worked_98 : decode cX7_worked 98 = .ok (.iload_n 1, 1) := by decide +kernel
theorem dX7_worked_99 : decode cX7_worked 99 = .ok (.ifCond .eq 11, 3) := by decide +kernel
theorem dX7_worked_102 : decode cX7_worked 102 = .ok (.iload_n 2, 1) := by decide +kernel
theorem dX7_worked_103 : decode cX7_worked 103 = .ok (.ifCond .eq 7, 3) := by decide +kernel
theorem dX7_worked_106 : decode cX7_worked 106 = .ok (.iconst 1, 1) := by decide +kernel
theorem dX7_worked_107 : decode cX7_worked 107 = .ok (.goto 4, 3) := by decide +kernel
theorem dX7_worked_110 : decode cX7_worked 110 = .ok (.iconst 0, 1) := by decide +kernel
theorem dX7_worked_111 : decode cX7_worked 111 = .ok (.ireturn, 1) := by decide +kernel
theorem dX7_worked_112 : decode cX7_worked 112 = .ok (.iload_n 1, 1) := by decide +kernel
theorem dX7_worked_113 : decode cX7_worked 113 = .ok (.iload_n 2, 1) := by decide +kernel
theorem dX7_worked_114 : decode cX7_worked 114 = .ok (.if_icmp .ge 7, 3) := by decide +kernel
theorem dX7_worked_117 : decode cX7_worked 117 = .ok (.iconst 1, 1) := by decide +kernel
theorem dX7_worked_118 : decode cX7_worked 118 = .ok (.goto 4, 3) := by decide +kernel
theorem dX7_worked_121 : decode cX7_worked 121 = .ok (.iconst 0, 1) := by decide +kernel
theorem dX7_worked_122 : decode cX7_worked 122 = .ok (.ireturn, 1) := by decide +kernel
theorem dX7_worked_123 : decode cX7_worked 123 = .ok (.iload_n 1, 1) := by decide +kernel
theorem dX7_worked_124 : decode cX7_worked 124 = .ok (.iload_n 2, 1) := by decide +kernel
theorem dX7_worked_125 : decode cX7_worked 125 = .ok (.if_icmp .ne 7, 3) := by decide +kernel
theorem dX7_worked_128 : decode cX7_worked 128 = .ok (.iconst 1, 1) := by decide +kernel
theorem dX7_worked_129 : decode cX7_worked 129 = .ok (.goto 4, 3) := by decide +kernel
theorem dX7_worked_132 : decode cX7_worked 132 = .ok (.iconst 0, 1) := by decide +kernel
theorem dX7_worked_133 : decode cX7_worked 133 = .ok (.ireturn, 1) := by decide +kernel
theorem dX7_worked_134 : decode cX7_worked 134 = .ok (.iload_n 1, 1) := by decide +kernel
theorem dX7_worked_135 : decode cX7_worked 135 = .ok (.iload_n 2, 1) := by decide +kernel
theorem dX7_worked_136 : decode cX7_worked 136 = .ok (.if_icmp .le 7, 3) := by decide +kernel
theorem dX7_worked_139 : decode cX7_worked 139 = .ok (.iconst 1, 1) := by decide +kernel
theorem dX7_worked_140 : decode cX7_worked 140 = .ok (.goto 4, 3) := by decide +kernel
theorem dX7_worked_143 : decode cX7_worked 143 = .ok (.iconst 0, 1) := by decide +kernel
theorem dX7_worked_144 : decode cX7_worked 144 = .ok (.ireturn, 1) := by decide +kernel
theorem dX7_worked_145 : decode cX7_worked 145 = .ok (.iload_n 1, 1) := by decide +kernel
theorem dX7_worked_146 : decode cX7_worked 146 = .ok (.iload_n 2, 1) := by decide +kernel
theorem dX7_worked_147 : decode cX7_worked 147 = .ok (.iadd, 1) := by decide +kernel
theorem dX7_worked_148 : decode cX7_worked 148 = .ok (.ireturn, 1) := by decide +kernel
theorem dX7_worked_149 : decode cX7_worked 149 = .ok (.iload_n 1, 1) := by decide +kernel
theorem dX7_worked_150 : decode cX7_worked 150 = .ok (.iload_n 2, 1) := by decide +kernel
theorem dX7_worked_151 : decode cX7_worked 151 = .ok (.isub, 1) := by decide +kernel
theorem dX7_worked_152 : decode cX7_worked 152 = .ok (.ireturn, 1) := by decide +kernel
theorem dX7_worked_153 : decode cX7_worked 153 = .ok (.iload_n 1, 1) := by decide +kernel
theorem dX7_worked_154 : decode cX7_worked 154 = .ok (.iload_n 2, 1) := by decide +kernel
theorem dX7_worked_155 : decode cX7_worked 155 = .ok (.imul, 1) := by decide +kernel
theorem dX7_worked_156 : decode cX7_worked 156 = .ok (.ireturn, 1) := by decide +kernel
theorem dX7_worked_157 : decode cX7_worked 157 = .ok (.iload_n 2, 1) := by decide +kernel
theorem dX7_worked_158 : decode cX7_worked 158 = .ok (.ifCond .ne 7, 3) := by decide +kernel
theorem dX7_worked_161 : decode cX7_worked 161 = .ok (.iconst 0, 1) := by decide +kernel
theorem dX7_worked_162 : decode cX7_worked 162 = .ok (.goto 6, 3) := by decide +kernel
theorem dX7_worked_165 : decode cX7_worked 165 = .ok (.iload_n 1, 1) := by decide +kernel
theorem dX7_worked_166 : decode cX7_worked 166 = .ok (.iload_n 2, 1) := by decide +kernel
theorem dX7_worked_167 : decode cX7_worked 167 = .ok (.idiv, 1) := by decide +kernel
theorem dX7_worked_168 : decode cX7_worked 168 = .ok (.ireturn, 1) := by decide +kernel
theorem dX7_worked_169 : decode cX7_worked 169 = .ok (.iload_n 2, 1) := by decide +kernel
theorem dX7_worked_170 : decode cX7_worked 170 = .ok (.ifCond .ne 7, 3) := by decide +kernel
theorem dX7_worked_173 : decode cX7_worked 173 = .ok (.iconst 0, 1) := by decide +kernel
theorem dX7_worked_174 : decode cX7_worked 174 = .ok (.goto 6, 3) := by decide +kernel
theorem dX7_worked_177 : decode cX7_worked 177 = .ok (.iload_n 1, 1) := by decide +kernel
theorem dX7_worked_178 : decode cX7_worked 178 = .ok (.iload_n 2, 1) := by decide +kernel
theorem dX7_worked_179 : decode cX7_worked 179 = .ok (.irem, 1) := by decide +kernel
theorem dX7_worked_180 : decode cX7_worked 180 = .ok (.ireturn, 1) := by decide +kernel
theorem dX8_init_0 : decode cX8_init 0 = .ok (.aload_n 0, 1) := by decide +kernel
theorem dX8_init_1 : decode cX8_init 1 = .ok (.invokespecial 3, 3) := by decide +kernel
theorem dX8_init_4 : decode cX8_init 4 = .ok (.aload_n 0, 1) := by decide +kernel
theorem dX8_init_5 : decode cX8_init 5 = .ok (.bipush 30, 2) := by decide +kernel
theorem dX8_init_7 : decode cX8_init 7 = .ok (.newarray .int, 2) := by decide +kernel
theorem dX8_init_9 : decode cX8_init 9 = .ok (.putfield 9, 3) := by decide +kernel
theorem dX8_init_12 : decode cX8_init 12 = .ok (.return_, 1) := by decide +kernel
theorem dX8_opens_0 : decode cX8_opens 0 = .ok (.aload_n 0, 1) := by decide +kernel
theorem dX8_opens_1 : decode cX8_opens 1 = .ok (.iload_n 1, 1) := by decide +kernel
theorem dX8_opens_2 : decode cX8_opens 2 = .ok (.putfield 15, 3) := by decide +kernel
theorem dX8_opens_5 : decode cX8_opens 5 = .ok (.aload_n 0, 1) := by decide +kernel
theorem dX8_opens_6 : decode cX8_opens 6 = .ok (.iload_n 2, 1) := by decide +kernel
theorem dX8_opens_7 : decode cX8_opens 7 = .ok (.putfield 19, 3) := by decide +kernel
theorem dX8_opens_10 : decode cX8_opens 10 = .ok (.aload_n 0, 1) := by decide +kernel
theorem dX8_opens_11 : decode cX8_opens 11 = .ok (.iconst 0, 1) := by decide +kernel
theorem dX8_opens_12 : decode cX8_opens 12 = .ok (.putfield 22, 3) := by decide +kernel
theorem dX8_opens_15 : decode cX8_opens 15 = .ok (.aload_n 0, 1) := by decide +kernel
theorem dX8_opens_16 : decode cX8_opens 16 = .ok (.iconst 0, 1) := by decide +kernel
theorem dX8_opens_17 : decode cX8_opens 17 = .ok (.putfield 26, 3) := by decide +kernel
theorem dX8_opens_20 : decode cX8_opens 20 = .ok (.return_, 1) := by decide +kernel
theorem dX8_begins_0 : decode cX8_begins 0 = .ok (.aload_n 0, 1) := by decide +kernel
theorem dX8_begins_1 : decode cX8_begins 1 = .ok (.getfield 26, 3) := by decide +kernel
theorem dX8_begins_4 : decode cX8_begins 4 = .ok (.bipush 30, 2) := by decide +kernel
theorem dX8_begins_6 : decode cX8_begins 6 = .ok (.if_icmp .ge 23, 3) := by decide +kernel
theorem dX8_begins_9 : decode cX8_begins 9 = .ok (.aload_n 0, 1) := by decide +kernel
theorem dX8_begins_10 : decode cX8_begins 10 = .ok (.getfield 9, 3) := by decide +kernel
theorem dX8_begins_13 : decode cX8_begins 13 = .ok (.aload_n 0, 1) := by decide +kernel
theorem dX8_begins_14 : decode cX8_begins 14 = .ok (.getfield 26, 3) := by decide +kernel
theorem dX8_begins_17 : decode cX8_begins 17 = .ok (.iload_n 1, 1) := by decide +kernel
theorem dX8_begins_18 : decode cX8_begins 18 = .ok (.iastore, 1) := by decide +kernel
theorem dX8_begins_19 : decode cX8_begins 19 = .ok (.aload_n 0, 1) := by decide +kernel
theorem dX8_begins_20 : decode cX8_begins 20 = .ok (.dup, 1) := by decide +kernel
theorem dX8_begins_21 : decode cX8_begins 21 = .ok (.getfield 26, 3) := by decide +kernel
theorem dX8_begins_24 : decode cX8_begins 24 = .ok (.iconst 1, 1) := by decide +kernel
theorem dX8_begins_25 : decode cX8_begins 25 = .ok (.iadd, 1) := by decide +kernel
theorem dX8_begins_26 : decode cX8_begins 26 = .ok (.putfield 26, 3) := by decide +kernel
theorem dX8_begins_29 : decode cX8_begins 29 = .ok (.return_, 1) := by decide +kernel
theorem dX9_init_0 : decode cX9_init 0 = .ok (.aload_n 0, 1) := by decide +kernel
theorem dX9_init_1 : decode cX9_init 1 = .ok (.invokespecial 3, 3) := by decide +kernel
theorem dX9_init_4 : decode cX9_init 4 = .ok (.aload_n 0, 1) := by decide +kernel
theorem dX9_init_5 : decode cX9_init 5 = .ok (.iconst 1, 1) := by decide +kernel
theorem dX9_init_6 : decode cX9_init 6 = .ok (.putfield 9, 3) := by decide +kernel
theorem dX9_init_9 : decode cX9_init 9 = .ok (.aload_n 0, 1) := by decide +kernel
theorem dX9_init_10 : decode cX9_init 10 = .ok (.bipush 16, 2) := by decide +kernel
theorem dX9_init_12 : decode cX9_init 12 = .ok (.newarray .int, 2) := by decide +kernel
theorem dX9_init_14 : decode cX9_init 14 = .ok (.putfield 15, 3) := by decide +kernel
theorem dX9_init_17 : decode cX9_init 17 = .ok (.aload_n 0, 1) := by decide +kernel
theorem dX9_init_18 : decode cX9_init 18 = .ok (.bipush 16, 2) := by decide +kernel
theorem dX9_init_20 : decode cX9_init 20 = .ok (.newarray .int, 2) := by decide +kernel
theorem dX9_init_22 : decode cX9_init 22 = .ok (.putfield 19, 3) := by decide +kernel
theorem dX9_init_25 : decode cX9_init 25 = .ok (.aload_n 0, 1) := by decide +kernel
theorem dX9_init_26 : decode cX9_init 26 = .ok (.bipush 16, 2) := by decide +kernel
theorem dX9_init_28 : decode cX9_init 28 = .ok (.newarray .int, 2) := by decide +kernel
theorem dX9_init_30 : decode cX9_init 30 = .ok (.putfield 22, 3) := by decide +kernel
theorem dX9_init_33 : decode cX9_init 33 = .ok (.aload_n 0, 1) := by decide +kernel
theorem dX9_init_34 : decode cX9_init 34 = .ok (.bipush 16, 2) := by decide +kernel
theorem dX9_init_36 : decode cX9_init 36 = .ok (.newarray .int, 2) := by decide +kernel
theorem dX9_init_38 : decode cX9_init 38 = .ok (.putfield 25, 3) := by decide +kernel
theorem dX9_init_41 : decode cX9_init 41 = .ok (.aload_n 0, 1) := by decide +kernel
theorem dX9_init_42 : decode cX9_init 42 = .ok (.bipush 6, 2) := by decide +kernel
theorem dX9_init_44 : decode cX9_init 44 = .ok (.newarray .int, 2) := by decide +kernel
theorem dX9_init_46 : decode cX9_init 46 = .ok (.dup, 1) := by decide +kernel
theorem dX9_init_47 : decode cX9_init 47 = .ok (.iconst 0, 1) := by decide +kernel
theorem dX9_init_48 : decode cX9_init 48 = .ok (.iconst 0, 1) := by decide +kernel
theorem dX9_init_49 : decode cX9_init 49 = .ok (.iastore, 1) := by decide +kernel
theorem dX9_init_50 : decode cX9_init 50 = .ok (.dup, 1) := by decide +kernel
theorem dX9_init_51 : decode cX9_init 51 = .ok (.iconst 1, 1) := by decide +kernel
theorem dX9_init_52 : decode cX9_init 52 = .ok (.iconst 1, 1) := by decide +kernel
theorem dX9_init_53 : decode cX9_init 53 = .ok (.iastore, 1) := by decide +kernel
theorem dX9_init_54 : decode cX9_init 54 = .ok (.dup, 1) := by decide +kernel
theorem dX9_init_55 : decode cX9_init 55 = .ok (.iconst 2, 1) := by decide +kernel
theorem dX9_init_56 : decode cX9_init 56 = .ok (.iconst 2, 1) := by decide +kernel
theorem dX9_init_57 : decode cX9_init 57 = .ok (.iastore, 1) := by decide +kernel
theorem dX9_init_58 : decode cX9_init 58 = .ok (.dup, 1) := by decide +kernel
theorem dX9_init_59 : decode cX9_init 59 = .ok (.iconst 3, 1) := by decide +kernel
theorem dX9_init_60 : decode cX9_init 60 = .ok (.iconst 3, 1) := by decide +kernel
theorem dX9_init_61 : decode cX9_init 61 = .ok (.iastore, 1) := by decide +kernel
theorem dX9_init_62 : decode cX9_init 62 = .ok (.dup, 1) := by decide +kernel
theorem dX9_init_63 : decode cX9_init 63 = .ok (.iconst 4, 1) := by decide +kernel
theorem dX9_init_64 : decode cX9_init 64 = .ok (.iconst 4, 1) := by decide +kernel
theorem dX9_init_65 : decode cX9_init 65 = .ok (.iastore, 1) := by decide +kernel
theorem dX9_init_66 : decode cX9_init 66 = .ok (.dup, 1) := by decide +kernel
theorem dX9_init_67 : decode cX9_init 67 = .ok (.iconst 5, 1) := by decide +kernel
theorem dX9_init_68 : decode cX9_init 68 = .ok (.iconst 5, 1) := by decide +kernel
theorem dX9_init_69 : decode cX9_init 69 = .ok (.iastore, 1) := by decide +kernel
theorem dX9_init_70 : decode cX9_init 70 = .ok (.putfield 28, 3) := by decide +kernel
theorem dX9_init_73 : decode cX9_init 73 = .ok (.aload_n 0, 1) := by decide +kernel
theorem dX9_init_74 : decode cX9_init 74 = .ok (.bipush 8, 2) := by decide +kernel
theorem dX9_init_76 : decode cX9_init 76 = .ok (.newarray .int, 2) := by decide +kernel
theorem dX9_init_78 : decode cX9_init 78 = .ok (.putfield 31, 3) := by decide +kernel
theorem dX9_init_81 : decode cX9_init 81 = .ok (.aload_n 0, 1) := by decide +kernel
theorem dX9_init_82 : decode cX9_init 82 = .ok (.bipush 8, 2) := by decide +kernel
theorem dX9_init_84 : decode cX9_init 84 = .ok (.newarray .int, 2) := by decide +kernel
theorem dX9_init_86 : decode cX9_init 86 = .ok (.putfield 34, 3) := by decide +kernel
theorem dX9_init_89 : decode cX9_init 89 = .ok (.aload_n 0, 1) := by decide +kernel
theorem dX9_init_90 : decode cX9_init 90 = .ok (.bipush 8, 2) := by decide +kernel
theorem dX9_init_92 : decode cX9_init 92 = .ok (.newarray .int, 2) := by decide +kernel
theorem dX9_init_94 : decode cX9_init 94 = .ok (.putfield 37, 3) := by decide +kernel
theorem dX9_init_97 : decode cX9_init 97 = .ok (.aload_n 0, 1) := by decide +kernel
theorem dX9_init_98 : decode cX9_init 98 = .ok (.bipush 8, 2) := by decide +kernel
theorem dX9_init_100 : decode cX9_init 100 = .ok (.newarray .int, 2) := by decide +kernel
theorem dX9_init_102 : decode cX9_init 102 = .ok (.putfield 40, 3) := by decide +kernel
theorem dX9_init_105 : decode cX9_init 105 = .ok (.aload_n 0, 1) := by decide +kernel
theorem dX9_init_106 : decode cX9_init 106 = .ok (.bipush 8, 2) := by decide +kernel
theorem dX9_init_108 : decode cX9_init 108 = .ok (.newarray .int, 2) := by decide +kernel
theorem dX9_init_110 : decode cX9_init 110 = .ok (.putfield 43, 3) := by decide +kernel
theorem dX9_init_113 : decode cX9_init 113 = .ok (.aload_n 0, 1) := by decide +kernel
theorem dX9_init_114 : decode cX9_init 114 = .ok (.aload_n 1, 1) := by decide +kernel
theorem dX9_init_115 : decode cX9_init 115 = .ok (.putfield 46, 3) := by decide +kernel
theorem dX9_init_118 : decode cX9_init 118 = .ok (.aload_n 0, 1) := by decide +kernel
theorem dX9_init_119 : decode cX9_init 119 = .ok (.aload_n 2, 1) := by decide +kernel
theorem dX9_init_120 : decode cX9_init 120 = .ok (.putfield 50, 3) := by decide +kernel
theorem dX9_init_123 : decode cX9_init 123 = .ok (.aload_n 0, 1) := by decide +kernel
theorem dX9_init_124 : decode cX9_init 124 = .ok (.aload_n 3, 1) := by decide +kernel
theorem dX9_init_125 : decode cX9_init 125 = .ok (.putfield 54, 3) := by decide +kernel
theorem dX9_init_128 : decode cX9_init 128 = .ok (.iconst 0, 1) := by decide +kernel
theorem dX9_init_129 : decode cX9_init 129 = .ok (.istore 4, 2) := by decide +kernel
theorem dX9_init_131 : decode cX9_init 131 = .ok (.iload 4, 2) := by decide +kernel
theorem dX9_init_133 : decode cX9_init 133 = .ok (.bipush 16, 2) := by decide +kernel
theorem dX9_init_135 : decode cX9_init 135 = .ok (.if_icmp .ge 24, 3) := by decide +kernel
theorem dX9_init_138 : decode cX9_init 138 = .ok (.aload_n 0, 1) := by decide +kernel
theorem dX9_init_139 : decode cX9_init 139 = .ok (.getfield 15, 3) := by decide +kernel
theorem dX9_init_142 : decode cX9_init 142 = .ok (.iload 4, 2) := by decide +kernel
theorem dX9_init_144 : decode cX9_init 144 = .ok (.bipush 7, 2) := by decide +kernel
theorem dX9_init_146 : decode cX9_init 146 = .ok (.iload 4, 2) := by decide +kernel
theorem dX9_init_148 : decode cX9_init 148 = .ok (.imul, 1) := by decide +kernel
theorem dX9_init_149 : decode cX9_init 149 = .ok (.bipush 10, 2) := by decide +kernel
theorem dX9_init_151 : decode cX9_init 151 = .ok (.irem, 1) := by decide +kernel
theorem dX9_init_152 : decode cX9_init 152 = .ok (.iastore, 1) := by decide +kernel
theorem dX9_init_153 : decode cX9_init 153 = .ok (.iinc 4 1, 3) := by decide +kernel
theorem dX9_init_156 : decode cX9_init 156 = .ok (.goto (-25), 3) := by decide +kernel
theorem dX9_init_159 : decode cX9_init 159 = .ok (.return_, 1) := by decide +kernel
theorem dX9_copyFrom_0 : decode cX9_copyFrom 0 = .ok (.aload_n 0, 1) := by decide +kernel
theorem dX9_copyFrom_1 : decode cX9_copyFrom 1 = .ok (.aload_n 1, 1) := by decide +kernel
theorem dX9_copyFrom_2 : decode cX9_copyFrom 2 = .ok (.getfield 57, 3) := by decide +kernel
theorem dX9_copyFrom_5 : decode cX9_copyFrom 5 = .ok (.putfield 57, 3) := by decide +kernel
theorem dX9_copyFrom_8 : decode cX9_copyFrom 8 = .ok (.aload_n 0, 1) := by decide +kernel
theorem dX9_copyFrom_9 : decode cX9_copyFrom 9 = .ok (.aload_n 1, 1) := by decide +kernel
theorem dX9_copyFrom_10 : decode cX9_copyFrom 10 = .ok (.getfield 60, 3) := by decide +kernel
theorem dX9_copyFrom_13 : decode cX9_copyFrom 13 = .ok (.putfield 60, 3) := by decide +kernel
theorem dX9_copyFrom_16 : decode cX9_copyFrom 16 = .ok (.aload_n 0, 1) := by decide +kernel
theorem dX9_copyFrom_17 : decode cX9_copyFrom 17 = .ok (.aload_n 1, 1) := by decide +kernel
theorem dX9_copyFrom_18 : decode cX9_copyFrom 18 = .ok (.getfield 9, 3) := by decide +kernel
theorem dX9_copyFrom_21 : decode cX9_copyFrom 21 = .ok (.putfield 9, 3) := by decide +kernel
theorem dX9_copyFrom_24 : decode cX9_copyFrom 24 = .ok (.aload_n 0, 1) := by decide +kernel
theorem dX9_copyFrom_25 : decode cX9_copyFrom 25 = .ok (.aload_n 1, 1) := by decide +kernel
theorem dX9_copyFrom_26 : decode cX9_copyFrom 26 = .ok (.getfield 63, 3) := by decide +kernel
theorem dX9_copyFrom_29 : decode cX9_copyFrom 29 = .ok (.putfield 63, 3) := by decide +kernel
theorem dX9_copyFrom_32 : decode cX9_copyFrom 32 = .ok (.aload_n 1, 1) := by decide +kernel
theorem dX9_copyFrom_33 : decode cX9_copyFrom 33 = .ok (.getfield 15, 3) := by decide +kernel
theorem dX9_copyFrom_36 : decode cX9_copyFrom 36 = .ok (.iconst 0, 1) := by decide +kernel
theorem dX9_copyFrom_37 : decode cX9_copyFrom 37 = .ok (.aload_n 0, 1) := by decide +kernel
theorem dX9_copyFrom_38 : decode cX9_copyFrom 38 = .ok (.getfield 15, 3) := by decide +kernel
theorem dX9_copyFrom_41 : decode cX9_copyFrom 41 = .ok (.iconst 0, 1) := by decide +kernel
theorem dX9_copyFrom_42 : decode cX9_copyFrom 42 = .ok (.bipush 16, 2) := by decide +kernel
theorem dX9_copyFrom_44 : decode cX9_copyFrom 44 = .ok (.invokestatic 66, 3) := by decide +kernel
theorem dX9_copyFrom_47 : decode cX9_copyFrom 47 = .ok (.aload_n 1, 1) := by decide +kernel
theorem dX9_copyFrom_48 : decode cX9_copyFrom 48 = .ok (.getfield 19, 3) := by decide +kernel
theorem dX9_copyFrom_51 : decode cX9_copyFrom 51 = .ok (.iconst 0, 1) := by decide +kernel
theorem dX9_copyFrom_52 : decode cX9_copyFrom 52 = .ok (.aload_n 0, 1) := by decide +kernel
theorem dX9_copyFrom_53 : decode cX9_copyFrom 53 = .ok (.getfield 19, 3) := by decide +kernel
theorem dX9_copyFrom_56 : decode cX9_copyFrom 56 = .ok (.iconst 0, 1) := by decide +kernel
theorem dX9_copyFrom_57 : decode cX9_copyFrom 57 = .ok (.bipush 16, 2) := by decide +kernel
theorem dX9_copyFrom_59 : decode cX9_copyFrom 59 = .ok (.invokestatic 66, 3) := by decide +kernel
theorem dX9_copyFrom_62 : decode cX9_copyFrom 62 = .ok (.aload_n 1, 1) := by decide +kernel
theorem dX9_copyFrom_63 : decode cX9_copyFrom 63 = .ok (.getfield 22, 3) := by decide +kernel
theorem dX9_copyFrom_66 : decode cX9_copyFrom 66 = .ok (.iconst 0, 1) := by decide +kernel
theorem dX9_copyFrom_67 : decode cX9_copyFrom 67 = .ok (.aload_n 0, 1) := by decide +kernel
theorem dX9_copyFrom_68 : decode cX9_copyFrom 68 = .ok (.getfield 22, 3) := by decide +kernel
theorem dX9_copyFrom_71 : decode cX9_copyFrom 71 = .ok (.iconst 0, 1) := by decide +kernel
theorem dX9_copyFrom_72 : decode cX9_copyFrom 72 = .ok (.bipush 16, 2) := by decide +kernel
theorem dX9_copyFrom_74 : decode cX9_copyFrom 74 = .ok (.invokestatic 66, 3) := by decide +kernel
theorem dX9_copyFrom_77 : decode cX9_copyFrom 77 = .ok (.aload_n 1, 1) := by decide +kernel
theorem dX9_copyFrom_78 : decode cX9_copyFrom 78 = .ok (.getfield 25, 3) := by decide +kernel
theorem dX9_copyFrom_81 : decode cX9_copyFrom 81 = .ok (.iconst 0, 1) := by decide +kernel
theorem dX9_copyFrom_82 : decode cX9_copyFrom 82 = .ok (.aload_n 0, 1) := by decide +kernel
theorem dX9_copyFrom_83 : decode cX9_copyFrom 83 = .ok (.getfield 25, 3) := by decide +kernel
theorem dX9_copyFrom_86 : decode cX9_copyFrom 86 = .ok (.iconst 0, 1) := by decide +kernel
theorem dX9_copyFrom_87 : decode cX9_copyFrom 87 = .ok (.bipush 16, 2) := by decide +kernel
theorem dX9_copyFrom_89 : decode cX9_copyFrom 89 = .ok (.invokestatic 66, 3) := by decide +kernel
theorem dX9_copyFrom_92 : decode cX9_copyFrom 92 = .ok (.aload_n 1, 1) := by decide +kernel
theorem dX9_copyFrom_93 : decode cX9_copyFrom 93 = .ok (.getfield 28, 3) := by decide +kernel
theorem dX9_copyFrom_96 : decode cX9_copyFrom 96 = .ok (.iconst 0, 1) := by decide +kernel
theorem dX9_copyFrom_97 : decode cX9_copyFrom 97 = .ok (.aload_n 0, 1) := by decide +kernel
theorem dX9_copyFrom_98 : decode cX9_copyFrom 98 = .ok (.getfield 28, 3) := by decide +kernel
theorem dX9_copyFrom_101 : decode cX9_copyFrom 101 = .ok (.iconst 0, 1) := by decide +kernel
theorem dX9_copyFrom_102 : decode cX9_copyFrom 102 = .ok (.bipush 6, 2) := by decide +kernel
theorem dX9_copyFrom_104 : decode cX9_copyFrom 104 = .ok (.invokestatic 66, 3) := by decide +kernel
theorem dX9_copyFrom_107 : decode cX9_copyFrom 107 = .ok (.aload_n 1, 1) := by decide +kernel
theorem dX9_copyFrom_108 : decode cX9_copyFrom 108 = .ok (.getfield 31, 3) := by decide +kernel
theorem dX9_copyFrom_111 : decode cX9_copyFrom 111 = .ok (.iconst 0, 1) := by decide +kernel
theorem dX9_copyFrom_112 : decode cX9_copyFrom 112 = .ok (.aload_n 0, 1) := by decide +kernel
theorem dX9_copyFrom_113 : decode cX9_copyFrom 113 = .ok (.getfield 31, 3) := by decide +kernel
theorem dX9_copyFrom_116 : decode cX9_copyFrom 116 = .ok (.iconst 0, 1) := by decide +kernel
theorem dX9_copyFrom_117 : decode cX9_copyFrom 117 = .ok (.bipush 8, 2) := by decide +kernel
theorem dX9_copyFrom_119 : decode cX9_copyFrom 119 = .ok (.invokestatic 66, 3) := by decide +kernel
theorem dX9_copyFrom_122 : decode cX9_copyFrom 122 = .ok (.aload_n 1, 1) := by decide +kernel
theorem dX9_copyFrom_123 : decode cX9_copyFrom 123 = .ok (.getfield 34, 3) := by decide +kernel
theorem dX9_copyFrom_126 : decode cX9_copyFrom 126 = .ok (.iconst 0, 1) := by decide +kernel
theorem dX9_copyFrom_127 : decode cX9_copyFrom 127 = .ok (.aload_n 0, 1) := by decide +kernel
theorem dX9_copyFrom_128 : decode cX9_copyFrom 128 = .ok (.getfield 34, 3) := by decide +kernel
theorem dX9_copyFrom_131 : decode cX9_copyFrom 131 = .ok (.iconst 0, 1) := by decide +kernel
theorem dX9_copyFrom_132 : decode cX9_copyFrom 132 = .ok (.bipush 8, 2) := by decide +kernel
theorem dX9_copyFrom_134 : decode cX9_copyFrom 134 = .ok (.invokestatic 66, 3) := by decide +kernel
theorem dX9_copyFrom_137 : decode cX9_copyFrom 137 = .ok (.aload_n 1, 1) := by decide +kernel
theorem dX9_copyFrom_138 : decode cX9_copyFrom 138 = .ok (.getfield 37, 3) := by decide +kernel
theorem dX9_copyFrom_141 : decode cX9_copyFrom 141 = .ok (.iconst 0, 1) := by decide +kernel
theorem dX9_copyFrom_142 : decode cX9_copyFrom 142 = .ok (.aload_n 0, 1) := by decide +kernel
theorem dX9_copyFrom_143 : decode cX9_copyFrom 143 = .ok (.getfield 37, 3) := by decide +kernel
theorem dX9_copyFrom_146 : decode cX9_copyFrom 146 = .ok (.iconst 0, 1) := by decide +kernel
theorem dX9_copyFrom_147 : decode cX9_copyFrom 147 = .ok (.bipush 8, 2) := by decide +kernel
theorem dX9_copyFrom_149 : decode cX9_copyFrom 149 = .ok (.invokestatic 66, 3) := by decide +kernel
theorem dX9_copyFrom_152 : decode cX9_copyFrom 152 = .ok (.aload_n 1, 1) := by decide +kernel
theorem dX9_copyFrom_153 : decode cX9_copyFrom 153 = .ok (.getfield 40, 3) := by decide +kernel
theorem dX9_copyFrom_156 : decode cX9_copyFrom 156 = .ok (.iconst 0, 1) := by decide +kernel
theorem dX9_copyFrom_157 : decode cX9_copyFrom 157 = .ok (.aload_n 0, 1) := by decide +kernel
theorem dX9_copyFrom_158 : decode cX9_copyFrom 158 = .ok (.getfield 40, 3) := by decide +kernel
theorem dX9_copyFrom_161 : decode cX9_copyFrom 161 = .ok (.iconst 0, 1) := by decide +kernel
theorem dX9_copyFrom_162 : decode cX9_copyFrom 162 = .ok (.bipush 8, 2) := by decide +kernel
theorem dX9_copyFrom_164 : decode cX9_copyFrom 164 = .ok (.invokestatic 66, 3) := by decide +kernel
theorem dX9_copyFrom_167 : decode cX9_copyFrom 167 = .ok (.aload_n 1, 1) := by decide +kernel
theorem dX9_copyFrom_168 : decode cX9_copyFrom 168 = .ok (.getfield 43, 3) := by decide +kernel
theorem dX9_copyFrom_171 : decode cX9_copyFrom 171 = .ok (.iconst 0, 1) := by decide +kernel
theorem dX9_copyFrom_172 : decode cX9_copyFrom 172 = .ok (.aload_n 0, 1) := by decide +kernel
theorem dX9_copyFrom_173 : decode cX9_copyFrom 173 = .ok (.getfield 43, 3) := by decide +kernel
theorem dX9_copyFrom_176 : decode cX9_copyFrom 176 = .ok (.iconst 0, 1) := by decide +kernel
theorem dX9_copyFrom_177 : decode cX9_copyFrom 177 = .ok (.bipush 8, 2) := by decide +kernel
theorem dX9_copyFrom_179 : decode cX9_copyFrom 179 = .ok (.invokestatic 66, 3) := by decide +kernel
theorem dX9_copyFrom_182 : decode cX9_copyFrom 182 = .ok (.return_, 1) := by decide +kernel
theorem dX9_copyTexts_0 : decode cX9_copyTexts 0 = .ok (.aload_n 0, 1) := by decide +kernel
theorem dX9_copyTexts_1 : decode cX9_copyTexts 1 = .ok (.getfield 50, 3) := by decide +kernel
theorem dX9_copyTexts_4 : decode cX9_copyTexts 4 = .ok (.aload_n 1, 1) := by decide +kernel
theorem dX9_copyTexts_5 : decode cX9_copyTexts 5 = .ok (.getfield 50, 3) := by decide +kernel
theorem dX9_copyTexts_8 : decode cX9_copyTexts 8 = .ok (.invokevirtual 72, 3) := by decide +kernel
theorem dX9_copyTexts_11 : decode cX9_copyTexts 11 = .ok (.aload_n 0, 1) := by decide +kernel
theorem dX9_copyTexts_12 : decode cX9_copyTexts 12 = .ok (.getfield 54, 3) := by decide +kernel
theorem dX9_copyTexts_15 : decode cX9_copyTexts 15 = .ok (.aload_n 1, 1) := by decide +kernel
theorem dX9_copyTexts_16 : decode cX9_copyTexts 16 = .ok (.getfield 54, 3) := by decide +kernel
theorem dX9_copyTexts_19 : decode cX9_copyTexts 19 = .ok (.invokevirtual 72, 3) := by decide +kernel
theorem dX9_copyTexts_22 : decode cX9_copyTexts 22 = .ok (.return_, 1) := by decide +kernel
theorem dX9_join_0 : decode cX9_join 0 = .ok (.aload_n 0, 1) := by decide +kernel
theorem dX9_join_1 : decode cX9_join 1 = .ok (.getfield 63, 3) := by decide +kernel
theorem dX9_join_4 : decode cX9_join 4 = .ok (.istore_n 3, 1) := by decide +kernel
theorem dX9_join_5 : decode cX9_join 5 = .ok (.aload_n 0, 1) := by decide +kernel
theorem dX9_join_6 : decode cX9_join 6 = .ok (.getfield 31, 3) := by decide +kernel
theorem dX9_join_9 : decode cX9_join 9 = .ok (.iload_n 3, 1) := by decide +kernel
theorem dX9_join_10 : decode cX9_join 10 = .ok (.iload_n 1, 1) := by decide +kernel
theorem dX9_join_11 : decode cX9_join 11 = .ok (.bipush 10, 2) := by decide +kernel
theorem dX9_join_13 : decode cX9_join 13 = .ok (.idiv, 1) := by decide +kernel
theorem dX9_join_14 : decode cX9_join 14 = .ok (.iastore, 1) := by decide +kernel
theorem dX9_join_15 : decode cX9_join 15 = .ok (.aload_n 0, 1) := by decide +kernel
theorem dX9_join_16 : decode cX9_join 16 = .ok (.getfield 34, 3) := by decide +kernel
theorem dX9_join_19 : decode cX9_join 19 = .ok (.iload_n 3, 1) := by decide +kernel
theorem dX9_join_20 : decode cX9_join 20 = .ok (.iload_n 1, 1) := by decide +kernel
theorem dX9_join_21 : decode cX9_join 21 = .ok (.bipush 10, 2) := by decide +kernel
theorem dX9_join_23 : decode cX9_join 23 = .ok (.irem, 1) := by decide +kernel
theorem dX9_join_24 : decode cX9_join 24 = .ok (.iastore, 1) := by decide +kernel
theorem dX9_join_25 : decode cX9_join 25 = .ok (.aload_n 0, 1) := by decide +kernel
theorem dX9_join_26 : decode cX9_join 26 = .ok (.getfield 37, 3) := by decide +kernel
theorem dX9_join_29 : decode cX9_join 29 = .ok (.iload_n 3, 1) := by decide +kernel
theorem dX9_join_30 : decode cX9_join 30 = .ok (.iload_n 2, 1) := by decide +kernel
theorem dX9_join_31 : decode cX9_join 31 = .ok (.iastore, 1) := by decide +kernel
theorem dX9_join_32 : decode cX9_join 32 = .ok (.aload_n 0, 1) := by decide +kernel
theorem dX9_join_33 : decode cX9_join 33 = .ok (.getfield 40, 3) := by decide +kernel
theorem dX9_join_36 : decode cX9_join 36 = .ok (.iload_n 3, 1) := by decide +kernel
theorem dX9_join_37 : decode cX9_join 37 = .ok (.bipush 6, 2) := by decide +kernel
theorem dX9_join_39 : decode cX9_join 39 = .ok (.iastore, 1) := by decide +kernel
theorem dX9_join_40 : decode cX9_join 40 = .ok (.aload_n 0, 1) := by decide +kernel
theorem dX9_join_41 : decode cX9_join 41 = .ok (.getfield 43, 3) := by decide +kernel
theorem dX9_join_44 : decode cX9_join 44 = .ok (.iload_n 3, 1) := by decide +kernel
theorem dX9_join_45 : decode cX9_join 45 = .ok (.iconst 0, 1) := by decide +kernel
theorem dX9_join_46 : decode cX9_join 46 = .ok (.iastore, 1) := by decide +kernel
theorem dX9_join_47 : decode cX9_join 47 = .ok (.aload_n 0, 1) := by decide +kernel
theorem dX9_join_48 : decode cX9_join 48 = .ok (.dup, 1) := by decide +kernel
theorem dX9_join_49 : decode cX9_join 49 = .ok (.getfield 63, 3) := by decide +kernel
theorem dX9_join_52 : decode cX9_join 52 = .ok (.iconst 1, 1) := by decide +kernel
theorem dX9_join_53 : decode cX9_join 53 = .ok (.iadd, 1) := by decide +kernel
theorem dX9_join_54 : decode cX9_join 54 = .ok (.putfield 63, 3) := by decide +kernel
theorem dX9_join_57 : decode cX9_join 57 = .ok (.iload_n 3, 1) := by decide +kernel
theorem dX9_join_58 : decode cX9_join 58 = .ok (.ireturn, 1) := by decide +kernel
theorem dX9_rowOfPeople_0 : decode cX9_rowOfPeople 0 = .ok (.iload_n 1, 1) := by decide +kernel
theorem dX9_rowOfPeople_1 : decode cX9_rowOfPeople 1 = .ok (.lookupswitch 37 #[(0, 27), (1, 32)], 27) := by decide +kernel
theorem dX9_rowOfPeople_28 : decode cX9_rowOfPeople 28 = .ok (.aload_n 0, 1) := by decide +kernel
theorem dX9_rowOfPeople_29 : decode cX9_rowOfPeople 29 = .ok (.getfield 37, 3) := by decide +kernel
theorem dX9_rowOfPeople_32 : decode cX9_rowOfPeople 32 = .ok (.areturn, 1) := by decide +kernel
theorem dX9_rowOfPeople_33 : decode cX9_rowOfPeople 33 = .ok (.aload_n 0, 1) := by decide +kernel
theorem dX9_rowOfPeople_34 : decode cX9_rowOfPeople 34 = .ok (.getfield 40, 3) := by decide +kernel
theorem dX9_rowOfPeople_37 : decode cX9_rowOfPeople 37 = .ok (.areturn, 1) := by decide +kernel
theorem dX9_rowOfPeople_38 : decode cX9_rowOfPeople 38 = .ok (.aload_n 0, 1) := by decide +kernel
theorem dX9_rowOfPeople_39 : decode cX9_rowOfPeople 39 = .ok (.getfield 43, 3) := by decide +kernel
theorem dX9_rowOfPeople_42 : decode cX9_rowOfPeople 42 = .ok (.areturn, 1) := by decide +kernel
theorem dX9_rowOfCells_0 : decode cX9_rowOfCells 0 = .ok (.iload_n 1, 1) := by decide +kernel
theorem dX9_rowOfCells_1 : decode cX9_rowOfCells 1 = .ok (.tableswitch 42 0 2 #[27, 32, 37], 27) := by decide +kernel
theorem dX9_rowOfCells_28 : decode cX9_rowOfCells 28 = .ok (.aload_n 0, 1) := by decide +kernel
theorem dX9_rowOfCells_29 : decode cX9_rowOfCells 29 = .ok (.getfield 15, 3) := by decide +kernel
theorem dX9_rowOfCells_32 : decode cX9_rowOfCells 32 = .ok (.areturn, 1) := by decide +kernel
theorem dX9_rowOfCells_33 : decode cX9_rowOfCells 33 = .ok (.aload_n 0, 1) := by decide +kernel
theorem dX9_rowOfCells_34 : decode cX9_rowOfCells 34 = .ok (.getfield 19, 3) := by decide +kernel
theorem dX9_rowOfCells_37 : decode cX9_rowOfCells 37 = .ok (.areturn, 1) := by decide +kernel
theorem dX9_rowOfCells_38 : decode cX9_rowOfCells 38 = .ok (.aload_n 0, 1) := by decide +kernel
theorem dX9_rowOfCells_39 : decode cX9_rowOfCells 39 = .ok (.getfield 22, 3) := by decide +kernel
theorem dX9_rowOfCells_42 : decode cX9_rowOfCells 42 = .ok (.areturn, 1) := by decide +kernel
theorem dX9_rowOfCells_43 : decode cX9_rowOfCells 43 = .ok (.aload_n 0, 1) := by decide +kernel
theorem dX9_rowOfCells_44 : decode cX9_rowOfCells 44 = .ok (.getfield 25, 3) := by decide +kernel
theorem dX9_rowOfCells_47 : decode cX9_rowOfCells 47 = .ok (.areturn, 1) := by decide +kernel
theorem dX9_level_0 : decode cX9_level 0 = .ok (.aload_n 0, 1) := by decide +kernel
theorem dX9_level_1 : decode cX9_level 1 = .ok (.getfield 15, 3) := by decide +kernel
theorem dX9_level_4 : decode cX9_level 4 = .ok (.iload_n 1, 1) := by decide +kernel
theorem dX9_level_5 : decode cX9_level 5 = .ok (.iaload, 1) := by decide +kernel
theorem dX9_level_6 : decode cX9_level 6 = .ok (.aload_n 0, 1) := by decide +kernel
theorem dX9_level_7 : decode cX9_level 7 = .ok (.getfield 19, 3) := by decide +kernel
theorem dX9_level_10 : decode cX9_level 10 = .ok (.iload_n 1, 1) := by decide +kernel
theorem dX9_level_11 : decode cX9_level 11 = .ok (.iaload, 1) := by decide +kernel
theorem dX9_level_12 : decode cX9_level 12 = .ok (.iadd, 1) := by decide +kernel
theorem dX9_level_13 : decode cX9_level 13 = .ok (.ireturn, 1) := by decide +kernel
theorem dX9_isWet_0 : decode cX9_isWet 0 = .ok (.aload_n 0, 1) := by decide +kernel
theorem dX9_isWet_1 : decode cX9_isWet 1 = .ok (.getfield 19, 3) := by decide +kernel
theorem dX9_isWet_4 : decode cX9_isWet 4 = .ok (.aload_n 0, 1) := by decide +kernel
theorem dX9_isWet_5 : decode cX9_isWet 5 = .ok (.getfield 37, 3) := by decide +kernel
theorem dX9_isWet_8 : decode cX9_isWet 8 = .ok (.iload_n 1, 1) := by decide +kernel
theorem dX9_isWet_9 : decode cX9_isWet 9 = .ok (.iaload, 1) := by decide +kernel
theorem dX9_isWet_10 : decode cX9_isWet 10 = .ok (.iaload, 1) := by decide +kernel
theorem dX9_isWet_11 : decode cX9_isWet 11 = .ok (.aload_n 0, 1) := by decide +kernel
theorem dX9_isWet_12 : decode cX9_isWet 12 = .ok (.getfield 40, 3) := by decide +kernel
theorem dX9_isWet_15 : decode cX9_isWet 15 = .ok (.iload_n 1, 1) := by decide +kernel
theorem dX9_isWet_16 : decode cX9_isWet 16 = .ok (.iaload, 1) := by decide +kernel
theorem dX9_isWet_17 : decode cX9_isWet 17 = .ok (.if_icmp .le 7, 3) := by decide +kernel
theorem dX9_isWet_20 : decode cX9_isWet 20 = .ok (.iconst 1, 1) := by decide +kernel
theorem dX9_isWet_21 : decode cX9_isWet 21 = .ok (.goto 4, 3) := by decide +kernel
theorem dX9_isWet_24 : decode cX9_isWet 24 = .ok (.iconst 0, 1) := by decide +kernel
theorem dX9_isWet_25 : decode cX9_isWet 25 = .ok (.ireturn, 1) := by decide +kernel
theorem dX9_known_0 : decode cX9_known 0 = .ok (.aload_n 0, 1) := by decide +kernel
theorem dX9_known_1 : decode cX9_known 1 = .ok (.iconst (-1), 1) := by decide +kernel
theorem dX9_known_2 : decode cX9_known 2 = .ok (.invokevirtual 78, 3) := by decide +kernel
theorem dX9_known_5 : decode cX9_known 5 = .ok (.ireturn, 1) := by decide +kernel
theorem dX9_knownAmong_0 : decode cX9_knownAmong 0 = .ok (.iconst 0, 1) := by decide +kernel
theorem dX9_knownAmong_1 : decode cX9_knownAmong 1 = .ok (.istore_n 2, 1) := by decide +kernel
theorem dX9_knownAmong_2 : decode cX9_knownAmong 2 = .ok (.iconst 0, 1) := by decide +kernel
theorem dX9_knownAmong_3 : decode cX9_knownAmong 3 = .ok (.istore_n 3, 1) := by decide +kernel
theorem dX9_knownAmong_4 : decode cX9_knownAmong 4 = .ok (.iload_n 3, 1) := by decide +kernel
theorem dX9_knownAmong_5 : decode cX9_knownAmong 5 = .ok (.aload_n 0, 1) := by decide +kernel
theorem dX9_knownAmong_6 : decode cX9_knownAmong 6 = .ok (.getfield 63, 3) := by decide +kernel
theorem dX9_knownAmong_9 : decode cX9_knownAmong 9 = .ok (.if_icmp .ge 27, 3) := by decide +kernel
theorem dX9_knownAmong_12 : decode cX9_knownAmong 12 = .ok (.iload_n 1, 1) := by decide +kernel
theorem dX9_knownAmong_13 : decode cX9_knownAmong 13 = .ok (.iload_n 3, 1) := by decide +kernel
theorem dX9_knownAmong_14 : decode cX9_knownAmong 14 = .ok (.ishr, 1) := by decide +kernel
theorem dX9_knownAmong_15 : decode cX9_knownAmong 15 = .ok (.iconst 1, 1) := by decide +kernel
theorem dX9_knownAmong_16 : decode cX9_knownAmong 16 = .ok (.iand, 1) := by decide +kernel
theorem dX9_knownAmong_17 : decode cX9_knownAmong 17 = .ok (.iconst 1, 1) := by decide +kernel
theorem dX9_knownAmong_18 : decode cX9_knownAmong 18 = .ok (.if_icmp .ne 12, 3) := by decide +kernel
theorem dX9_knownAmong_21 : decode cX9_knownAmong 21 = .ok (.iload_n 2, 1) := by decide +kernel
theorem dX9_knownAmong_22 : decode cX9_knownAmong 22 = .ok (.aload_n 0, 1) := by decide +kernel
theorem dX9_knownAmong_23 : decode cX9_knownAmong 23 = .ok (.getfield 43, 3) := by decide +kernel
theorem dX9_knownAmong_26 : decode cX9_knownAmong 26 = .ok (.iload_n 3, 1) := by decide +kernel
theorem dX9_knownAmong_27 : decode cX9_knownAmong 27 = .ok (.iaload, 1) := by decide +kernel
theorem dX9_knownAmong_28 : decode cX9_knownAmong 28 = .ok (.ior, 1) := by decide +kernel
theorem dX9_knownAmong_29 : decode cX9_knownAmong 29 = .ok (.istore_n 2, 1) := by decide +kernel
theorem dX9_knownAmong_30 : decode cX9_knownAmong 30 = .ok (.iinc 3 1, 3) := by decide +kernel
theorem dX9_knownAmong_33 : decode cX9_knownAmong 33 = .ok (.goto (-29), 3) := by decide +kernel
theorem dX9_knownAmong_36 : decode cX9_knownAmong 36 = .ok (.iload_n 2, 1) := by decide +kernel
theorem dX9_knownAmong_37 : decode cX9_knownAmong 37 = .ok (.ireturn, 1) := by decide +kernel
theorem dX9_wetOnes_0 : decode cX9_wetOnes 0 = .ok (.iconst 0, 1) := by decide +kernel
theorem dX9_wetOnes_1 : decode cX9_wetOnes 1 = .ok (.istore_n 1, 1) := by decide +kernel
theorem dX9_wetOnes_2 : decode cX9_wetOnes 2 = .ok (.iconst 0, 1) := by decide +kernel
theorem dX9_wetOnes_3 : decode cX9_wetOnes 3 = .ok (.istore_n 2, 1) := by decide +kernel
theorem dX9_wetOnes_4 : decode cX9_wetOnes 4 = .ok (.iload_n 2, 1) := by decide +kernel
theorem dX9_wetOnes_5 : decode cX9_wetOnes 5 = .ok (.aload_n 0, 1) := by decide +kernel
theorem dX9_wetOnes_6 : decode cX9_wetOnes 6 = .ok (.getfield 63, 3) := by decide +kernel
theorem dX9_wetOnes_9 : decode cX9_wetOnes 9 = .ok (.if_icmp .ge 23, 3) := by decide +kernel
theorem dX9_wetOnes_12 : decode cX9_wetOnes 12 = .ok (.aload_n 0, 1) := by decide +kernel
theorem dX9_wetOnes_13 : decode cX9_wetOnes 13 = .ok (.iload_n 2, 1) := by decide +kernel
theorem dX9_wetOnes_14 : decode cX9_wetOnes 14 = .ok (.invokevirtual 82, 3) := by decide +kernel
theorem dX9_wetOnes_17 : decode cX9_wetOnes 17 = .ok (.ifCond .eq 9, 3) := by decide +kernel
theorem dX9_wetOnes_20 : decode cX9_wetOnes 20 = .ok (.iload_n 1, 1) := by decide +kernel
theorem dX9_wetOnes_21 : decode cX9_wetOnes 21 = .ok (.iconst 1, 1) := by decide +kernel
theorem dX9_wetOnes_22 : decode cX9_wetOnes 22 = .ok (.iload_n 2, 1) := by decide +kernel
theorem dX9_wetOnes_23 : decode cX9_wetOnes 23 = .ok (.ishl, 1) := by decide +kernel
theorem dX9_wetOnes_24 : decode cX9_wetOnes 24 = .ok (.ior, 1) := by decide +kernel
theorem dX9_wetOnes_25 : decode cX9_wetOnes 25 = .ok (.istore_n 1, 1) := by decide +kernel
theorem dX9_wetOnes_26 : decode cX9_wetOnes 26 = .ok (.iinc 2 1, 3) := by decide +kernel
theorem dX9_wetOnes_29 : decode cX9_wetOnes 29 = .ok (.goto (-25), 3) := by decide +kernel
theorem dX9_wetOnes_32 : decode cX9_wetOnes 32 = .ok (.iload_n 1, 1) := by decide +kernel
theorem dX9_wetOnes_33 : decode cX9_wetOnes 33 = .ok (.ireturn, 1) := by decide +kernel
theorem dX9_downOnes_0 : decode cX9_downOnes 0 = .ok (.iconst 0, 1) := by decide +kernel
theorem dX9_downOnes_1 : decode cX9_downOnes 1 = .ok (.istore_n 1, 1) := by decide +kernel
theorem dX9_downOnes_2 : decode cX9_downOnes 2 = .ok (.iconst 0, 1) := by decide +kernel
theorem dX9_downOnes_3 : decode cX9_downOnes 3 = .ok (.istore_n 2, 1) := by decide +kernel
theorem dX9_downOnes_4 : decode cX9_downOnes 4 = .ok (.iload_n 2, 1) := by decide +kernel
theorem dX9_downOnes_5 : decode cX9_downOnes 5 = .ok (.aload_n 0, 1) := by decide +kernel
theorem dX9_downOnes_6 : decode cX9_downOnes 6 = .ok (.getfield 63, 3) := by decide +kernel
theorem dX9_downOnes_9 : decode cX9_downOnes 9 = .ok (.if_icmp .ge 21, 3) := by decide +kernel
theorem dX9_downOnes_12 : decode cX9_downOnes 12 = .ok (.aload_n 0, 1) := by decide +kernel
theorem dX9_downOnes_13 : decode cX9_downOnes 13 = .ok (.getfield 40, 3) := by decide +kernel
theorem dX9_downOnes_16 : decode cX9_downOnes 16 = .ok (.iload_n 2, 1) := by decide +kernel
theorem dX9_downOnes_17 : decode cX9_downOnes 17 = .ok (.iaload, 1) := by decide +kernel
theorem dX9_downOnes_18 : decode cX9_downOnes 18 = .ok (.ifCond .ne 6, 3) := by decide +kernel
theorem dX9_downOnes_21 : decode cX9_downOnes 21 = .ok (.iinc 1 1, 3) := by decide +kernel
theorem dX9_downOnes_24 : decode cX9_downOnes 24 = .ok (.iinc 2 1, 3) := by decide +kernel
theorem dX9_downOnes_27 : decode cX9_downOnes 27 = .ok (.goto (-23), 3) := by decide +kernel
theorem dX9_downOnes_30 : decode cX9_downOnes 30 = .ok (.iload_n 1, 1) := by decide +kernel
theorem dX9_downOnes_31 : decode cX9_downOnes 31 = .ok (.ireturn, 1) := by decide +kernel
theorem dX9_allWater_0 : decode cX9_allWater 0 = .ok (.iconst 0, 1) := by decide +kernel
theorem dX9_allWater_1 : decode cX9_allWater 1 = .ok (.istore_n 1, 1) := by decide +kernel
theorem dX9_allWater_2 : decode cX9_allWater 2 = .ok (.iconst 0, 1) := by decide +kernel
theorem dX9_allWater_3 : decode cX9_allWater 3 = .ok (.istore_n 2, 1) := by decide +kernel
theorem dX9_allWater_4 : decode cX9_allWater 4 = .ok (.iload_n 2, 1) := by decide +kernel
theorem dX9_allWater_5 : decode cX9_allWater 5 = .ok (.bipush 16, 2) := by decide +kernel
theorem dX9_allWater_7 : decode cX9_allWater 7 = .ok (.if_icmp .ge 18, 3) := by decide +kernel
theorem dX9_allWater_10 : decode cX9_allWater 10 = .ok (.iload_n 1, 1) := by decide +kernel
theorem dX9_allWater_11 : decode cX9_allWater 11 = .ok (.aload_n 0, 1) := by decide +kernel
theorem dX9_allWater_12 : decode cX9_allWater 12 = .ok (.getfield 19, 3) := by decide +kernel
theorem dX9_allWater_15 : decode cX9_allWater 15 = .ok (.iload_n 2, 1) := by decide +kernel
theorem dX9_allWater_16 : decode cX9_allWater 16 = .ok (.iaload, 1) := by decide +kernel
theorem dX9_allWater_17 : decode cX9_allWater 17 = .ok (.iadd, 1) := by decide +kernel
theorem dX9_allWater_18 : decode cX9_allWater 18 = .ok (.istore_n 1, 1) := by decide +kernel
theorem dX9_allWater_19 : decode cX9_allWater 19 = .ok (.iinc 2 1, 3) := by decide +kernel
theorem dX9_allWater_22 : decode cX9_allWater 22 = .ok (.goto (-18), 3) := by decide +kernel
theorem dX9_allWater_25 : decode cX9_allWater 25 = .ok (.iload_n 1, 1) := by decide +kernel
theorem dX9_allWater_26 : decode cX9_allWater 26 = .ok (.ireturn, 1) := by decide +kernel
theorem dX9_dryFor_0 : decode cX9_dryFor 0 = .ok (.iconst 0, 1) := by decide +kernel
theorem dX9_dryFor_1 : decode cX9_dryFor 1 = .ok (.istore_n 2, 1) := by decide +kernel
theorem dX9_dryFor_2 : decode cX9_dryFor 2 = .ok (.iconst 0, 1) := by decide +kernel
theorem dX9_dryFor_3 : decode cX9_dryFor 3 = .ok (.istore_n 3, 1) := by decide +kernel
theorem dX9_dryFor_4 : decode cX9_dryFor 4 = .ok (.iload_n 3, 1) := by decide +kernel
theorem dX9_dryFor_5 : decode cX9_dryFor 5 = .ok (.bipush 16, 2) := by decide +kernel
theorem dX9_dryFor_7 : decode cX9_dryFor 7 = .ok (.if_icmp .ge 25, 3) := by decide +kernel
theorem dX9_dryFor_10 : decode cX9_dryFor 10 = .ok (.aload_n 0, 1) := by decide +kernel
theorem dX9_dryFor_11 : decode cX9_dryFor 11 = .ok (.getfield 19, 3) := by decide +kernel
theorem dX9_dryFor_14 : decode cX9_dryFor 14 = .ok (.iload_n 3, 1) := by decide +kernel
theorem dX9_dryFor_15 : decode cX9_dryFor 15 = .ok (.iaload, 1) := by decide +kernel
theorem dX9_dryFor_16 : decode cX9_dryFor 16 = .ok (.iload_n 1, 1) := by decide +kernel
theorem dX9_dryFor_17 : decode cX9_dryFor 17 = .ok (.if_icmp .gt 9, 3) := by decide +kernel
theorem dX9_dryFor_20 : decode cX9_dryFor 20 = .ok (.iload_n 2, 1) := by decide +kernel
theorem dX9_dryFor_21 : decode cX9_dryFor 21 = .ok (.iconst 1, 1) := by decide +kernel
theorem dX9_dryFor_22 : decode cX9_dryFor 22 = .ok (.iload_n 3, 1) := by decide +kernel
theorem dX9_dryFor_23 : decode cX9_dryFor 23 = .ok (.ishl, 1) := by decide +kernel
theorem dX9_dryFor_24 : decode cX9_dryFor 24 = .ok (.ior, 1) := by decide +kernel
theorem dX9_dryFor_25 : decode cX9_dryFor 25 = .ok (.istore_n 2, 1) := by decide +kernel
theorem dX9_dryFor_26 : decode cX9_dryFor 26 = .ok (.iinc 3 1, 3) := by decide +kernel
theorem dX9_dryFor_29 : decode cX9_dryFor 29 = .ok (.goto (-25), 3) := by decide +kernel
theorem dX9_dryFor_32 : decode cX9_dryFor 32 = .ok (.iload_n 2, 1) := by decide +kernel
theorem dX9_dryFor_33 : decode cX9_dryFor 33 = .ok (.ireturn, 1) := by decide +kernel
theorem dX9_does_0 : decode cX9_does 0 = .ok (.aload_n 0, 1) := by decide +kernel
theorem dX9_does_1 : decode cX9_does 1 = .ok (.aload_n 0, 1) := by decide +kernel
theorem dX9_does_2 : decode cX9_does 2 = .ok (.getfield 46, 3) := by decide +kernel
theorem dX9_does_5 : decode cX9_does 5 = .ok (.aload_n 0, 1) := by decide +kernel
theorem dX9_does_6 : decode cX9_does 6 = .ok (.getfield 31, 3) := by decide +kernel
theorem dX9_does_9 : decode cX9_does 9 = .ok (.iload_n 1, 1) := by decide +kernel
theorem dX9_does_10 : decode cX9_does 10 = .ok (.iaload, 1) := by decide +kernel
theorem dX9_does_11 : decode cX9_does 11 = .ok (.aaload, 1) := by decide +kernel
theorem dX9_does_12 : decode cX9_does 12 = .ok (.aload_n 0, 1) := by decide +kernel
theorem dX9_does_13 : decode cX9_does 13 = .ok (.iload_n 1, 1) := by decide +kernel
theorem dX9_does_14 : decode cX9_does 14 = .ok (.invokevirtual 86, 3) := by decide +kernel
theorem dX9_does_17 : decode cX9_does 17 = .ok (.aload_n 0, 1) := by decide +kernel
theorem dX9_does_18 : decode cX9_does 18 = .ok (.getfield 43, 3) := by decide +kernel
theorem dX9_does_21 : decode cX9_does 21 = .ok (.iload_n 1, 1) := by decide +kernel
theorem dX9_does_22 : decode cX9_does 22 = .ok (.iaload, 1) := by decide +kernel
theorem dX9_does_23 : decode cX9_does 23 = .ok (.invokestatic 92, 3) := by decide +kernel
theorem dX9_does_26 : decode cX9_does 26 = .ok (.aload_n 0, 1) := by decide +kernel
theorem dX9_does_27 : decode cX9_does 27 = .ok (.getfield 57, 3) := by decide +kernel
theorem dX9_does_30 : decode cX9_does 30 = .ok (.bipush 8, 2) := by decide +kernel
theorem dX9_does_32 : decode cX9_does 32 = .ok (.irem, 1) := by decide +kernel
theorem dX9_does_33 : decode cX9_does 33 = .ok (.invokevirtual 97, 3) := by decide +kernel
theorem dX9_does_36 : decode cX9_does 36 = .ok (.ireturn, 1) := by decide +kernel
theorem dX9_made_0 : decode cX9_made 0 = .ok (.aload_n 0, 1) := by decide +kernel
theorem dX9_made_1 : decode cX9_made 1 = .ok (.aload_n 0, 1) := by decide +kernel
theorem dX9_made_2 : decode cX9_made 2 = .ok (.getfield 46, 3) := by decide +kernel
theorem dX9_made_5 : decode cX9_made 5 = .ok (.aload_n 0, 1) := by decide +kernel
theorem dX9_made_6 : decode cX9_made 6 = .ok (.getfield 31, 3) := by decide +kernel
theorem dX9_made_9 : decode cX9_made 9 = .ok (.iload_n 1, 1) := by decide +kernel
theorem dX9_made_10 : decode cX9_made 10 = .ok (.iaload, 1) := by decide +kernel
theorem dX9_made_11 : decode cX9_made 11 = .ok (.aaload, 1) := by decide +kernel
theorem dX9_made_12 : decode cX9_made 12 = .ok (.aload_n 0, 1) := by decide +kernel
theorem dX9_made_13 : decode cX9_made 13 = .ok (.iload_n 1, 1) := by decide +kernel
theorem dX9_made_14 : decode cX9_made 14 = .ok (.invokevirtual 101, 3) := by decide +kernel
theorem dX9_made_17 : decode cX9_made 17 = .ok (.aload_n 0, 1) := by decide +kernel
theorem dX9_made_18 : decode cX9_made 18 = .ok (.getfield 15, 3) := by decide +kernel
theorem dX9_made_21 : decode cX9_made 21 = .ok (.aload_n 0, 1) := by decide +kernel
theorem dX9_made_22 : decode cX9_made 22 = .ok (.getfield 37, 3) := by decide +kernel
theorem dX9_made_25 : decode cX9_made 25 = .ok (.iload_n 1, 1) := by decide +kernel
theorem dX9_made_26 : decode cX9_made 26 = .ok (.iaload, 1) := by decide +kernel
theorem dX9_made_27 : decode cX9_made 27 = .ok (.iaload, 1) := by decide +kernel
theorem dX9_made_28 : decode cX9_made 28 = .ok (.aload_n 0, 1) := by decide +kernel
theorem dX9_made_29 : decode cX9_made 29 = .ok (.getfield 57, 3) := by decide +kernel
theorem dX9_made_32 : decode cX9_made 32 = .ok (.bipush 8, 2) := by decide +kernel
theorem dX9_made_34 : decode cX9_made 34 = .ok (.irem, 1) := by decide +kernel
theorem dX9_made_35 : decode cX9_made 35 = .ok (.invokevirtual 104, 3) := by decide +kernel
theorem dX9_made_38 : decode cX9_made 38 = .ok (.ireturn, 1) := by decide +kernel
theorem dX9_doesBy_0 : decode cX9_doesBy 0 = .ok (.aload_n 0, 1) := by decide +kernel
theorem dX9_doesBy_1 : decode cX9_doesBy 1 = .ok (.getfield 50, 3) := by decide +kernel
theorem dX9_doesBy_4 : decode cX9_doesBy 4 = .ok (.getfield 107, 3) := by decide +kernel
theorem dX9_doesBy_7 : decode cX9_doesBy 7 = .ok (.ifCond .le 16, 3) := by decide +kernel
theorem dX9_doesBy_10 : decode cX9_doesBy 10 = .ok (.aload_n 0, 1) := by decide +kernel
theorem dX9_doesBy_11 : decode cX9_doesBy 11 = .ok (.getfield 50, 3) := by decide +kernel
theorem dX9_doesBy_14 : decode cX9_doesBy 14 = .ok (.iload_n 1, 1) := by decide +kernel
theorem dX9_doesBy_15 : decode cX9_doesBy 15 = .ok (.iload_n 2, 1) := by decide +kernel
theorem dX9_doesBy_16 : decode cX9_doesBy 16 = .ok (.iload_n 3, 1) := by decide +kernel
theorem dX9_doesBy_17 : decode cX9_doesBy 17 = .ok (.invokevirtual 110, 3) := by decide +kernel
theorem dX9_doesBy_20 : decode cX9_doesBy 20 = .ok (.goto 4, 3) := by decide +kernel
theorem dX9_doesBy_23 : decode cX9_doesBy 23 = .ok (.iload_n 1, 1) := by decide +kernel
theorem dX9_doesBy_24 : decode cX9_doesBy 24 = .ok (.iconst 4, 1) := by decide +kernel
theorem dX9_doesBy_25 : decode cX9_doesBy 25 = .ok (.invokestatic 113, 3) := by decide +kernel
theorem dX9_doesBy_28 : decode cX9_doesBy 28 = .ok (.ireturn, 1) := by decide +kernel
theorem dX9_madeBy_0 : decode cX9_madeBy 0 = .ok (.aload_n 0, 1) := by decide +kernel
theorem dX9_madeBy_1 : decode cX9_madeBy 1 = .ok (.getfield 54, 3) := by decide +kernel
theorem dX9_madeBy_4 : decode cX9_madeBy 4 = .ok (.getfield 107, 3) := by decide +kernel
theorem dX9_madeBy_7 : decode cX9_madeBy 7 = .ok (.ifCond .le 16, 3) := by decide +kernel
theorem dX9_madeBy_10 : decode cX9_madeBy 10 = .ok (.aload_n 0, 1) := by decide +kernel
theorem dX9_madeBy_11 : decode cX9_madeBy 11 = .ok (.getfield 54, 3) := by decide +kernel
theorem dX9_madeBy_14 : decode cX9_madeBy 14 = .ok (.iload_n 1, 1) := by decide +kernel
theorem dX9_madeBy_15 : decode cX9_madeBy 15 = .ok (.iload_n 2, 1) := by decide +kernel
theorem dX9_madeBy_16 : decode cX9_madeBy 16 = .ok (.iload_n 3, 1) := by decide +kernel
theorem dX9_madeBy_17 : decode cX9_madeBy 17 = .ok (.invokevirtual 110, 3) := by decide +kernel
theorem dX9_madeBy_20 : decode cX9_madeBy 20 = .ok (.goto 4, 3) := by decide +kernel
theorem dX9_madeBy_23 : decode cX9_madeBy 23 = .ok (.iload_n 1, 1) := by decide +kernel
theorem dX9_madeBy_24 : decode cX9_madeBy 24 = .ok (.istore 4, 2) := by decide +kernel
theorem dX9_madeBy_26 : decode cX9_madeBy 26 = .ok (.iconst 0, 1) := by decide +kernel
theorem dX9_madeBy_27 : decode cX9_madeBy 27 = .ok (.bipush 20, 2) := by decide +kernel
theorem dX9_madeBy_29 : decode cX9_madeBy 29 = .ok (.iload 4, 2) := by decide +kernel
theorem dX9_madeBy_31 : decode cX9_madeBy 31 = .ok (.invokestatic 119, 3) := by decide +kernel
theorem dX9_madeBy_34 : decode cX9_madeBy 34 = .ok (.invokestatic 122, 3) := by decide +kernel
theorem dX9_madeBy_37 : decode cX9_madeBy 37 = .ok (.ireturn, 1) := by decide +kernel
theorem dX9_drawSpring_0 : decode cX9_drawSpring 0 = .ok (.aload_n 0, 1) := by decide +kernel
theorem dX9_drawSpring_1 : decode cX9_drawSpring 1 = .ok (.aload_n 0, 1) := by decide +kernel
theorem dX9_drawSpring_2 : decode cX9_drawSpring 2 = .ok (.invokevirtual 125, 3) := by decide +kernel
theorem dX9_drawSpring_5 : decode cX9_drawSpring 5 = .ok (.bipush 16, 2) := by decide +kernel
theorem dX9_drawSpring_7 : decode cX9_drawSpring 7 = .ok (.irem, 1) := by decide +kernel
theorem dX9_drawSpring_8 : decode cX9_drawSpring 8 = .ok (.putfield 60, 3) := by decide +kernel
theorem dX9_drawSpring_11 : decode cX9_drawSpring 11 = .ok (.aload_n 0, 1) := by decide +kernel
theorem dX9_drawSpring_12 : decode cX9_drawSpring 12 = .ok (.getfield 28, 3) := by decide +kernel
theorem dX9_drawSpring_15 : decode cX9_drawSpring 15 = .ok (.aload_n 0, 1) := by decide +kernel
theorem dX9_drawSpring_16 : decode cX9_drawSpring 16 = .ok (.getfield 57, 3) := by decide +kernel
theorem dX9_drawSpring_19 : decode cX9_drawSpring 19 = .ok (.bipush 6, 2) := by decide +kernel
theorem dX9_drawSpring_21 : decode cX9_drawSpring 21 = .ok (.irem, 1) := by decide +kernel
theorem dX9_drawSpring_22 : decode cX9_drawSpring 22 = .ok (.aload_n 0, 1) := by decide +kernel
theorem dX9_drawSpring_23 : decode cX9_drawSpring 23 = .ok (.invokevirtual 125, 3) := by decide +kernel
theorem dX9_drawSpring_26 : decode cX9_drawSpring 26 = .ok (.bipush 10, 2) := by decide +kernel
theorem dX9_drawSpring_28 : decode cX9_drawSpring 28 = .ok (.irem, 1) := by decide +kernel
theorem dX9_drawSpring_29 : decode cX9_drawSpring 29 = .ok (.iastore, 1) := by decide +kernel
theorem dX9_drawSpring_30 : decode cX9_drawSpring 30 = .ok (.return_, 1) := by decide +kernel
theorem dX9_draw_0 : decode cX9_draw 0 = .ok (.aload_n 0, 1) := by decide +kernel
theorem dX9_draw_1 : decode cX9_draw 1 = .ok (.aload_n 0, 1) := by decide +kernel
theorem dX9_draw_2 : decode cX9_draw 2 = .ok (.getfield 9, 3) := by decide +kernel
theorem dX9_draw_5 : decode cX9_draw 5 = .ok (.ldc 129, 2) := by decide +kernel
theorem dX9_draw_7 : decode cX9_draw 7 = .ok (.imul, 1) := by decide +kernel
theorem dX9_draw_8 : decode cX9_draw 8 = .ok (.sipush 12345, 3) := by decide +kernel
theorem dX9_draw_11 : decode cX9_draw 11 = .ok (.iadd, 1) := by decide +kernel
theorem dX9_draw_12 : decode cX9_draw 12 = .ok (.putfield 9, 3) := by decide +kernel
theorem dX9_draw_15 : decode cX9_draw 15 = .ok (.aload_n 0, 1) := by decide +kernel
theorem dX9_draw_16 : decode cX9_draw 16 = .ok (.getfield 9, 3) := by decide +kernel
theorem dX9_draw_19 : decode cX9_draw 19 = .ok (.bipush 8, 2) := by decide +kernel
theorem dX9_draw_21 : decode cX9_draw 21 = .ok (.iushr, 1) := by decide +kernel
theorem dX9_draw_22 : decode cX9_draw 22 = .ok (.ireturn, 1) := by decide +kernel
theorem dX9_daysGo_0 : decode cX9_daysGo 0 = .ok (.iconst 0, 1) := by decide +kernel
theorem dX9_daysGo_1 : decode cX9_daysGo 1 = .ok (.istore_n 2, 1) := by decide +kernel
theorem dX9_daysGo_2 : decode cX9_daysGo 2 = .ok (.iload_n 2, 1) := by decide +kernel
theorem dX9_daysGo_3 : decode cX9_daysGo 3 = .ok (.iload_n 1, 1) := by decide +kernel
theorem dX9_daysGo_4 : decode cX9_daysGo 4 = .ok (.if_icmp .ge 13, 3) := by decide +kernel
theorem dX9_daysGo_7 : decode cX9_daysGo 7 = .ok (.aload_n 0, 1) := by decide +kernel
theorem dX9_daysGo_8 : decode cX9_daysGo 8 = .ok (.invokevirtual 130, 3) := by decide +kernel
theorem dX9_daysGo_11 : decode cX9_daysGo 11 = .ok (.iinc 2 1, 3) := by decide +kernel
theorem dX9_daysGo_14 : decode cX9_daysGo 14 = .ok (.goto (-12), 3) := by decide +kernel
theorem dX9_daysGo_17 : decode cX9_daysGo 17 = .ok (.return_, 1) := by decide +kernel
theorem dX9_dayGoes_0 : decode cX9_dayGoes 0 = .ok (.aload_n 0, 1) := by decide +kernel
theorem dX9_dayGoes_1 : decode cX9_dayGoes 1 = .ok (.invokevirtual 133, 3) := by decide +kernel
theorem dX9_dayGoes_4 : decode cX9_dayGoes 4 = .ok (.iconst 0, 1) := by decide +kernel
theorem dX9_dayGoes_5 : decode cX9_dayGoes 5 = .ok (.istore_n 1, 1) := by decide +kernel
theorem dX9_dayGoes_6 : decode cX9_dayGoes 6 = .ok (.iload_n 1, 1) := by decide +kernel
theorem dX9_dayGoes_7 : decode cX9_dayGoes 7 = .ok (.aload_n 0, 1) := by decide +kernel
theorem dX9_dayGoes_8 : decode cX9_dayGoes 8 = .ok (.getfield 63, 3) := by decide +kernel
theorem dX9_dayGoes_11 : decode cX9_dayGoes 11 = .ok (.if_icmp .ge 22, 3) := by decide +kernel
theorem dX9_dayGoes_14 : decode cX9_dayGoes 14 = .ok (.aload_n 0, 1) := by decide +kernel
theorem dX9_dayGoes_15 : decode cX9_dayGoes 15 = .ok (.iload_n 1, 1) := by decide +kernel
theorem dX9_dayGoes_16 : decode cX9_dayGoes 16 = .ok (.invokevirtual 82, 3) := by decide +kernel
theorem dX9_dayGoes_19 : decode cX9_dayGoes 19 = .ok (.ifCond .eq 8, 3) := by decide +kernel
theorem dX9_dayGoes_22 : decode cX9_dayGoes 22 = .ok (.aload_n 0, 1) := by decide +kernel
theorem dX9_dayGoes_23 : decode cX9_dayGoes 23 = .ok (.iload_n 1, 1) := by decide +kernel
theorem dX9_dayGoes_24 : decode cX9_dayGoes 24 = .ok (.invokevirtual 136, 3) := by decide +kernel
theorem dX9_dayGoes_27 : decode cX9_dayGoes 27 = .ok (.iinc 1 1, 3) := by decide +kernel
theorem dX9_dayGoes_30 : decode cX9_dayGoes 30 = .ok (.goto (-24), 3) := by decide +kernel
theorem dX9_dayGoes_33 : decode cX9_dayGoes 33 = .ok (.aload_n 0, 1) := by decide +kernel
theorem dX9_dayGoes_34 : decode cX9_dayGoes 34 = .ok (.dup, 1) := by decide +kernel
theorem dX9_dayGoes_35 : decode cX9_dayGoes 35 = .ok (.getfield 57, 3) := by decide +kernel
theorem dX9_dayGoes_38 : decode cX9_dayGoes 38 = .ok (.iconst 1, 1) := by decide +kernel
theorem dX9_dayGoes_39 : decode cX9_dayGoes 39 = .ok (.iadd, 1) := by decide +kernel
theorem dX9_dayGoes_40 : decode cX9_dayGoes 40 = .ok (.putfield 57, 3) := by decide +kernel
theorem dX9_dayGoes_43 : decode cX9_dayGoes 43 = .ok (.return_, 1) := by decide +kernel
theorem dX9_waterGoes_0 : decode cX9_waterGoes 0 = .ok (.iconst 0, 1) := by decide +kernel
theorem dX9_waterGoes_1 : decode cX9_waterGoes 1 = .ok (.istore_n 2, 1) := by decide +kernel
theorem dX9_waterGoes_2 : decode cX9_waterGoes 2 = .ok (.iload_n 2, 1) := by decide +kernel
theorem dX9_waterGoes_3 : decode cX9_waterGoes 3 = .ok (.iload_n 1, 1) := by decide +kernel
theorem dX9_waterGoes_4 : decode cX9_waterGoes 4 = .ok (.if_icmp .ge 23, 3) := by decide +kernel
theorem dX9_waterGoes_7 : decode cX9_waterGoes 7 = .ok (.aload_n 0, 1) := by decide +kernel
theorem dX9_waterGoes_8 : decode cX9_waterGoes 8 = .ok (.invokevirtual 133, 3) := by decide +kernel
theorem dX9_waterGoes_11 : decode cX9_waterGoes 11 = .ok (.aload_n 0, 1) := by decide +kernel
theorem dX9_waterGoes_12 : decode cX9_waterGoes 12 = .ok (.dup, 1) := by decide +kernel
theorem dX9_waterGoes_13 : decode cX9_waterGoes 13 = .ok (.getfield 57, 3) := by decide +kernel
theorem dX9_waterGoes_16 : decode cX9_waterGoes 16 = .ok (.iconst 1, 1) := by decide +kernel
theorem dX9_waterGoes_17 : decode cX9_waterGoes 17 = .ok (.iadd, 1) := by decide +kernel
theorem dX9_waterGoes_18 : decode cX9_waterGoes 18 = .ok (.putfield 57, 3) := by decide +kernel
theorem dX9_waterGoes_21 : decode cX9_waterGoes 21 = .ok (.iinc 2 1, 3) := by decide +kernel
theorem dX9_waterGoes_24 : decode cX9_waterGoes 24 = .ok (.goto (-22), 3) := by decide +kernel
theorem dX9_waterGoes_27 : decode cX9_waterGoes 27 = .ok (.return_, 1) := by decide +kernel
theorem dX9_waterRises_0 : decode cX9_waterRises 0 = .ok (.aload_n 0, 1) := by decide +kernel
theorem dX9_waterRises_1 : decode cX9_waterRises 1 = .ok (.getfield 19, 3) := by decide +kernel
theorem dX9_waterRises_4 : decode cX9_waterRises 4 = .ok (.aload_n 0, 1) := by decide +kernel
theorem dX9_waterRises_5 : decode cX9_waterRises 5 = .ok (.getfield 60, 3) := by decide +kernel
theorem dX9_waterRises_8 : decode cX9_waterRises 8 = .ok (.bipush 99, 2) := by decide +kernel
theorem dX9_waterRises_10 : decode cX9_waterRises 10 = .ok (.aload_n 0, 1) := by decide +kernel
theorem dX9_waterRises_11 : decode cX9_waterRises 11 = .ok (.getfield 19, 3) := by decide +kernel
theorem dX9_waterRises_14 : decode cX9_waterRises 14 = .ok (.aload_n 0, 1) := by decide +kernel
theorem dX9_waterRises_15 : decode cX9_waterRises 15 = .ok (.getfield 60, 3) := by decide +kernel
theorem dX9_waterRises_18 : decode cX9_waterRises 18 = .ok (.iaload, 1) := by decide +kernel
theorem dX9_waterRises_19 : decode cX9_waterRises 19 = .ok (.aload_n 0, 1) := by decide +kernel
theorem dX9_waterRises_20 : decode cX9_waterRises 20 = .ok (.getfield 28, 3) := by decide +kernel
theorem dX9_waterRises_23 : decode cX9_waterRises 23 = .ok (.aload_n 0, 1) := by decide +kernel
theorem dX9_waterRises_24 : decode cX9_waterRises 24 = .ok (.getfield 57, 3) := by decide +kernel
theorem dX9_waterRises_27 : decode cX9_waterRises 27 = .ok (.bipush 6, 2) := by decide +kernel
theorem dX9_waterRises_29 : decode cX9_waterRises 29 = .ok (.irem, 1) := by decide +kernel
theorem dX9_waterRises_30 : decode cX9_waterRises 30 = .ok (.iaload, 1) := by decide +kernel
theorem dX9_waterRises_31 : decode cX9_waterRises 31 = .ok (.iadd, 1) := by decide +kernel
theorem dX9_waterRises_32 : decode cX9_waterRises 32 = .ok (.invokestatic 119, 3) := by decide +kernel
theorem dX9_waterRises_35 : decode cX9_waterRises 35 = .ok (.iastore, 1) := by decide +kernel
theorem dX9_waterRises_36 : decode cX9_waterRises 36 = .ok (.iconst 0, 1) := by decide +kernel
theorem dX9_waterRises_37 : decode cX9_waterRises 37 = .ok (.istore_n 1, 1) := by decide +kernel
theorem dX9_waterRises_38 : decode cX9_waterRises 38 = .ok (.iload_n 1, 1) := by decide +kernel
theorem dX9_waterRises_39 : decode cX9_waterRises 39 = .ok (.iconst 4, 1) := by decide +kernel
theorem dX9_waterRises_40 : decode cX9_waterRises 40 = .ok (.if_icmp .ge 46, 3) := by decide +kernel
theorem dX9_waterRises_43 : decode cX9_waterRises 43 = .ok (.iconst 0, 1) := by decide +kernel
theorem dX9_waterRises_44 : decode cX9_waterRises 44 = .ok (.istore_n 2, 1) := by decide +kernel
theorem dX9_waterRises_45 : decode cX9_waterRises 45 = .ok (.iload_n 2, 1) := by decide +kernel
theorem dX9_waterRises_46 : decode cX9_waterRises 46 = .ok (.bipush 16, 2) := by decide +kernel
theorem dX9_waterRises_48 : decode cX9_waterRises 48 = .ok (.if_icmp .ge 32, 3) := by decide +kernel
theorem dX9_waterRises_51 : decode cX9_waterRises 51 = .ok (.aload_n 0, 1) := by decide +kernel
theorem dX9_waterRises_52 : decode cX9_waterRises 52 = .ok (.getfield 19, 3) := by decide +kernel
theorem dX9_waterRises_55 : decode cX9_waterRises 55 = .ok (.iload_n 2, 1) := by decide +kernel
theorem dX9_waterRises_56 : decode cX9_waterRises 56 = .ok (.iaload, 1) := by decide +kernel
theorem dX9_waterRises_57 : decode cX9_waterRises 57 = .ok (.ifCond .le 17, 3) := by decide +kernel
theorem dX9_waterRises_60 : decode cX9_waterRises 60 = .ok (.aload_n 0, 1) := by decide +kernel
theorem dX9_waterRises_61 : decode cX9_waterRises 61 = .ok (.getfield 22, 3) := by decide +kernel
theorem dX9_waterRises_64 : decode cX9_waterRises 64 = .ok (.iload_n 2, 1) := by decide +kernel
theorem dX9_waterRises_65 : decode cX9_waterRises 65 = .ok (.iaload, 1) := by decide +kernel
theorem dX9_waterRises_66 : decode cX9_waterRises 66 = .ok (.ifCond .ne 8, 3) := by decide +kernel
theorem dX9_waterRises_69 : decode cX9_waterRises 69 = .ok (.aload_n 0, 1) := by decide +kernel
theorem dX9_waterRises_70 : decode cX9_waterRises 70 = .ok (.iload_n 2, 1) := by decide +kernel
theorem dX9_waterRises_71 : decode cX9_waterRises 71 = .ok (.invokevirtual 140, 3) := by decide +kernel
theorem dX9_waterRises_74 : decode cX9_waterRises 74 = .ok (.iinc 2 1, 3) := by decide +kernel
theorem dX9_waterRises_77 : decode cX9_waterRises 77 = .ok (.goto (-32), 3) := by decide +kernel
theorem dX9_waterRises_80 : decode cX9_waterRises 80 = .ok (.iinc 1 1, 3) := by decide +kernel
theorem dX9_waterRises_83 : decode cX9_waterRises 83 = .ok (.goto (-45), 3) := by decide +kernel
theorem dX9_waterRises_86 : decode cX9_waterRises 86 = .ok (.return_, 1) := by decide +kernel
theorem dX9_flowFrom_0 : decode cX9_flowFrom 0 = .ok (.iconst (-1), 1) := by decide +kernel
theorem dX9_flowFrom_1 : decode cX9_flowFrom 1 = .ok (.istore_n 2, 1) := by decide +kernel
theorem dX9_flowFrom_2 : decode cX9_flowFrom 2 = .ok (.iconst 0, 1) := by decide +kernel
theorem dX9_flowFrom_3 : decode cX9_flowFrom 3 = .ok (.istore_n 3, 1) := by decide +kernel
theorem dX9_flowFrom_4 : decode cX9_flowFrom 4 = .ok (.iconst 4, 1) := by decide +kernel
theorem dX9_flowFrom_5 : decode cX9_flowFrom 5 = .ok (.iload_n 1, 1) := by decide +kernel
theorem dX9_flowFrom_6 : decode cX9_flowFrom 6 = .ok (.imul, 1) := by decide +kernel
theorem dX9_flowFrom_7 : decode cX9_flowFrom 7 = .ok (.istore 4, 2) := by decide +kernel
theorem dX9_flowFrom_9 : decode cX9_flowFrom 9 = .ok (.iload 4, 2) := by decide +kernel
theorem dX9_flowFrom_11 : decode cX9_flowFrom 11 = .ok (.iconst 4, 1) := by decide +kernel
theorem dX9_flowFrom_12 : decode cX9_flowFrom 12 = .ok (.iload_n 1, 1) := by decide +kernel
theorem dX9_flowFrom_13 : decode cX9_flowFrom 13 = .ok (.imul, 1) := by decide +kernel
theorem dX9_flowFrom_14 : decode cX9_flowFrom 14 = .ok (.iconst 4, 1) := by decide +kernel
theorem dX9_flowFrom_15 : decode cX9_flowFrom 15 = .ok (.iadd, 1) := by decide +kernel
theorem dX9_flowFrom_16 : decode cX9_flowFrom 16 = .ok (.if_icmp .ge 65, 3) := by decide +kernel
theorem dX9_flowFrom_19 : decode cX9_flowFrom 19 = .ok (.getstatic 143, 3) := by decide +kernel
theorem dX9_flowFrom_22 : decode cX9_flowFrom 22 = .ok (.iload 4, 2) := by decide +kernel
theorem dX9_flowFrom_24 : decode cX9_flowFrom 24 = .ok (.iaload, 1) := by decide +kernel
theorem dX9_flowFrom_25 : decode cX9_flowFrom 25 = .ok (.istore 5, 2) := by decide +kernel
theorem dX9_flowFrom_27 : decode cX9_flowFrom 27 = .ok (.iload 5, 2) := by decide +kernel
theorem dX9_flowFrom_29 : decode cX9_flowFrom 29 = .ok (.ifCond .lt 46, 3) := by decide +kernel
theorem dX9_flowFrom_32 : decode cX9_flowFrom 32 = .ok (.aload_n 0, 1) := by decide +kernel
theorem dX9_flowFrom_33 : decode cX9_flowFrom 33 = .ok (.getfield 22, 3) := by decide +kernel
theorem dX9_flowFrom_36 : decode cX9_flowFrom 36 = .ok (.iload 5, 2) := by decide +kernel
theorem dX9_flowFrom_38 : decode cX9_flowFrom 38 = .ok (.iaload, 1) := by decide +kernel
theorem dX9_flowFrom_39 : decode cX9_flowFrom 39 = .ok (.ifCond .ne 36, 3) := by decide +kernel
theorem dX9_flowFrom_42 : decode cX9_flowFrom 42 = .ok (.aload_n 0, 1) := by decide +kernel
theorem dX9_flowFrom_43 : decode cX9_flowFrom 43 = .ok (.getfield 15, 3) := by decide +kernel
theorem dX9_flowFrom_46 : decode cX9_flowFrom 46 = .ok (.iload 5, 2) := by decide +kernel
theorem dX9_flowFrom_48 : decode cX9_flowFrom 48 = .ok (.iaload, 1) := by decide +kernel
theorem dX9_flowFrom_49 : decode cX9_flowFrom 49 = .ok (.aload_n 0, 1) := by decide +kernel
theorem dX9_flowFrom_50 : decode cX9_flowFrom 50 = .ok (.getfield 19, 3) := by decide +kernel
theorem dX9_flowFrom_53 : decode cX9_flowFrom 53 = .ok (.iload 5, 2) := by decide +kernel
theorem dX9_flowFrom_55 : decode cX9_flowFrom 55 = .ok (.iaload, 1) := by decide +kernel
theorem dX9_flowFrom_56 : decode cX9_flowFrom 56 = .ok (.iadd, 1) := by decide +kernel
theorem dX9_flowFrom_57 : decode cX9_flowFrom 57 = .ok (.istore 6, 2) := by decide +kernel
theorem dX9_flowFrom_59 : decode cX9_flowFrom 59 = .ok (.iload_n 2, 1) := by decide +kernel
theorem dX9_flowFrom_60 : decode cX9_flowFrom 60 = .ok (.ifCond .lt 9, 3) := by decide +kernel
theorem dX9_flowFrom_63 : decode cX9_flowFrom 63 = .ok (.iload 6, 2) := by decide +kernel
theorem dX9_flowFrom_65 : decode cX9_flowFrom 65 = .ok (.iload_n 3, 1) := by decide +kernel
theorem dX9_flowFrom_66 : decode cX9_flowFrom 66 = .ok (.if_icmp .ge 9, 3) := by decide +kernel
theorem dX9_flowFrom_69 : decode cX9_flowFrom 69 = .ok (.iload 5, 2) := by decide +kernel
theorem dX9_flowFrom_71 : decode cX9_flowFrom 71 = .ok (.istore_n 2, 1) := by decide +kernel
theorem dX9_flowFrom_72 : decode cX9_flowFrom 72 = .ok (.iload 6, 2) := by decide +kernel
theorem dX9_flowFrom_74 : decode cX9_flowFrom 74 = .ok (.istore_n 3, 1) := by decide +kernel
theorem dX9_flowFrom_75 : decode cX9_flowFrom 75 = .ok (.iinc 4 1, 3) := by decide +kernel
theorem dX9_flowFrom_78 : decode cX9_flowFrom 78 = .ok (.goto (-69), 3) := by decide +kernel
theorem dX9_flowFrom_81 : decode cX9_flowFrom 81 = .ok (.iload_n 2, 1) := by decide +kernel
theorem dX9_flowFrom_82 : decode cX9_flowFrom 82 = .ok (.ifCond .lt 45, 3) := by decide +kernel
theorem dX9_flowFrom_85 : decode cX9_flowFrom 85 = .ok (.aload_n 0, 1) := by decide +kernel
theorem dX9_flowFrom_86 : decode cX9_flowFrom 86 = .ok (.iload_n 1, 1) := by decide +kernel
theorem dX9_flowFrom_87 : decode cX9_flowFrom 87 = .ok (.invokevirtual 146, 3) := by decide +kernel
theorem dX9_flowFrom_90 : decode cX9_flowFrom 90 = .ok (.iload_n 3, 1) := by decide +kernel
theorem dX9_flowFrom_91 : decode cX9_flowFrom 91 = .ok (.isub, 1) := by decide +kernel
theorem dX9_flowFrom_92 : decode cX9_flowFrom 92 = .ok (.iconst 2, 1) := by decide +kernel
theorem dX9_flowFrom_93 : decode cX9_flowFrom 93 = .ok (.if_icmp .lt 34, 3) := by decide +kernel
theorem dX9_flowFrom_96 : decode cX9_flowFrom 96 = .ok (.aload_n 0, 1) := by decide +kernel
theorem dX9_flowFrom_97 : decode cX9_flowFrom 97 = .ok (.getfield 19, 3) := by decide +kernel
theorem dX9_flowFrom_100 : decode cX9_flowFrom 100 = .ok (.iload_n 2, 1) := by decide +kernel
theorem dX9_flowFrom_101 : decode cX9_flowFrom 101 = .ok (.iaload, 1) := by decide +kernel
theorem dX9_flowFrom_102 : decode cX9_flowFrom 102 = .ok (.bipush 99, 2) := by decide +kernel
theorem dX9_flowFrom_104 : decode cX9_flowFrom 104 = .ok (.if_icmp .ge 23, 3) := by decide +kernel
theorem dX9_flowFrom_107 : decode cX9_flowFrom 107 = .ok (.aload_n 0, 1) := by decide +kernel
theorem dX9_flowFrom_108 : decode cX9_flowFrom 108 = .ok (.getfield 19, 3) := by decide +kernel
theorem dX9_flowFrom_111 : decode cX9_flowFrom 111 = .ok (.iload_n 1, 1) := by decide +kernel
theorem dX9_flowFrom_112 : decode cX9_flowFrom 112 = .ok (.dup2, 1) := by decide +kernel
theorem dX9_flowFrom_113 : decode cX9_flowFrom 113 = .ok (.iaload, 1) := by decide +kernel
theorem dX9_flowFrom_114 : decode cX9_flowFrom 114 = .ok (.iconst 1, 1) := by decide +kernel
theorem dX9_flowFrom_115 : decode cX9_flowFrom 115 = .ok (.isub, 1) := by decide +kernel
theorem dX9_flowFrom_116 : decode cX9_flowFrom 116 = .ok (.iastore, 1) := by decide +kernel
theorem dX9_flowFrom_117 : decode cX9_flowFrom 117 = .ok (.aload_n 0, 1) := by decide +kernel
theorem dX9_flowFrom_118 : decode cX9_flowFrom 118 = .ok (.getfield 19, 3) := by decide +kernel
theorem dX9_flowFrom_121 : decode cX9_flowFrom 121 = .ok (.iload_n 2, 1) := by decide +kernel
theorem dX9_flowFrom_122 : decode cX9_flowFrom 122 = .ok (.dup2, 1) := by decide +kernel
theorem dX9_flowFrom_123 : decode cX9_flowFrom 123 = .ok (.iaload, 1) := by decide +kernel
theorem dX9_flowFrom_124 : decode cX9_flowFrom 124 = .ok (.iconst 1, 1) := by decide +kernel
theorem dX9_flowFrom_125 : decode cX9_flowFrom 125 = .ok (.iadd, 1) := by decide +kernel
theorem dX9_flowFrom_126 : decode cX9_flowFrom 126 = .ok (.iastore, 1) := by decide +kernel
theorem dX9_flowFrom_127 : decode cX9_flowFrom 127 = .ok (.return_, 1) := by decide +kernel
theorem dX9_getsWet_0 : decode cX9_getsWet 0 = .ok (.aload_n 0, 1) := by decide +kernel
theorem dX9_getsWet_1 : decode cX9_getsWet 1 = .ok (.getfield 43, 3) := by decide +kernel
theorem dX9_getsWet_4 : decode cX9_getsWet 4 = .ok (.iload_n 1, 1) := by decide +kernel
theorem dX9_getsWet_5 : decode cX9_getsWet 5 = .ok (.dup2, 1) := by decide +kernel
theorem dX9_getsWet_6 : decode cX9_getsWet 6 = .ok (.iaload, 1) := by decide +kernel
theorem dX9_getsWet_7 : decode cX9_getsWet 7 = .ok (.aload_n 0, 1) := by decide +kernel
theorem dX9_getsWet_8 : decode cX9_getsWet 8 = .ok (.getfield 25, 3) := by decide +kernel
theorem dX9_getsWet_11 : decode cX9_getsWet 11 = .ok (.aload_n 0, 1) := by decide +kernel
theorem dX9_getsWet_12 : decode cX9_getsWet 12 = .ok (.getfield 37, 3) := by decide +kernel
theorem dX9_getsWet_15 : decode cX9_getsWet 15 = .ok (.iload_n 1, 1) := by decide +kernel
theorem dX9_getsWet_16 : decode cX9_getsWet 16 = .ok (.iaload, 1) := by decide +kernel
theorem dX9_getsWet_17 : decode cX9_getsWet 17 = .ok (.iaload, 1) := by decide +kernel
theorem dX9_getsWet_18 : decode cX9_getsWet 18 = .ok (.ior, 1) := by decide +kernel
theorem dX9_getsWet_19 : decode cX9_getsWet 19 = .ok (.iastore, 1) := by decide +kernel
theorem dX9_getsWet_20 : decode cX9_getsWet 20 = .ok (.aload_n 0, 1) := by decide +kernel
theorem dX9_getsWet_21 : decode cX9_getsWet 21 = .ok (.iload_n 1, 1) := by decide +kernel
theorem dX9_getsWet_22 : decode cX9_getsWet 22 = .ok (.invokevirtual 149, 3) := by decide +kernel
theorem dX9_getsWet_25 : decode cX9_getsWet 25 = .ok (.tableswitch 78 1 3 #[27, 49, 59], 27) := by decide +kernel
theorem dX9_getsWet_52 : decode cX9_getsWet 52 = .ok (.aload_n 0, 1) := by decide +kernel
theorem dX9_getsWet_53 : decode cX9_getsWet 53 = .ok (.getfield 40, 3) := by decide +kernel
theorem dX9_getsWet_56 : decode cX9_getsWet 56 = .ok (.iload_n 1, 1) := by decide +kernel
theorem dX9_getsWet_57 : decode cX9_getsWet 57 = .ok (.bipush 20, 2) := by decide +kernel
theorem dX9_getsWet_59 : decode cX9_getsWet 59 = .ok (.aload_n 0, 1) := by decide +kernel
theorem dX9_getsWet_60 : decode cX9_getsWet 60 = .ok (.getfield 40, 3) := by decide +kernel
theorem dX9_getsWet_63 : decode cX9_getsWet 63 = .ok (.iload_n 1, 1) := by decide +kernel
theorem dX9_getsWet_64 : decode cX9_getsWet 64 = .ok (.iaload, 1) := by decide +kernel
theorem dX9_getsWet_65 : decode cX9_getsWet 65 = .ok (.iconst 1, 1) := by decide +kernel
theorem dX9_getsWet_66 : decode cX9_getsWet 66 = .ok (.iadd, 1) := by decide +kernel
theorem dX9_getsWet_67 : decode cX9_getsWet 67 = .ok (.invokestatic 119, 3) := by decide +kernel
theorem dX9_getsWet_70 : decode cX9_getsWet 70 = .ok (.iastore, 1) := by decide +kernel
theorem dX9_getsWet_71 : decode cX9_getsWet 71 = .ok (.goto 32, 3) := by decide +kernel
theorem dX9_getsWet_74 : decode cX9_getsWet 74 = .ok (.aload_n 0, 1) := by decide +kernel
theorem dX9_getsWet_75 : decode cX9_getsWet 75 = .ok (.getfield 40, 3) := by decide +kernel
theorem dX9_getsWet_78 : decode cX9_getsWet 78 = .ok (.iload_n 1, 1) := by decide +kernel
theorem dX9_getsWet_79 : decode cX9_getsWet 79 = .ok (.iconst 0, 1) := by decide +kernel
theorem dX9_getsWet_80 : decode cX9_getsWet 80 = .ok (.iastore, 1) := by decide +kernel
theorem dX9_getsWet_81 : decode cX9_getsWet 81 = .ok (.goto 22, 3) := by decide +kernel
theorem dX9_getsWet_84 : decode cX9_getsWet 84 = .ok (.aload_n 0, 1) := by decide +kernel
theorem dX9_getsWet_85 : decode cX9_getsWet 85 = .ok (.getfield 37, 3) := by decide +kernel
theorem dX9_getsWet_88 : decode cX9_getsWet 88 = .ok (.iload_n 1, 1) := by decide +kernel
theorem dX9_getsWet_89 : decode cX9_getsWet 89 = .ok (.aload_n 0, 1) := by decide +kernel
theorem dX9_getsWet_90 : decode cX9_getsWet 90 = .ok (.aload_n 0, 1) := by decide +kernel
theorem dX9_getsWet_91 : decode cX9_getsWet 91 = .ok (.getfield 37, 3) := by decide +kernel
theorem dX9_getsWet_94 : decode cX9_getsWet 94 = .ok (.iload_n 1, 1) := by decide +kernel
theorem dX9_getsWet_95 : decode cX9_getsWet 95 = .ok (.iaload, 1) := by decide +kernel
theorem dX9_getsWet_96 : decode cX9_getsWet 96 = .ok (.invokevirtual 152, 3) := by decide +kernel
theorem dX9_getsWet_99 : decode cX9_getsWet 99 = .ok (.iastore, 1) := by decide +kernel
theorem dX9_getsWet_100 : decode cX9_getsWet 100 = .ok (.goto 3, 3) := by decide +kernel
theorem dX9_getsWet_103 : decode cX9_getsWet 103 = .ok (.return_, 1) := by decide +kernel
theorem dX9_highestBeside_0 : decode cX9_highestBeside 0 = .ok (.iload_n 1, 1) := by decide +kernel
theorem dX9_highestBeside_1 : decode cX9_highestBeside 1 = .ok (.istore_n 2, 1) := by decide +kernel
theorem dX9_highestBeside_2 : decode cX9_highestBeside 2 = .ok (.iconst (-1), 1) := by decide +kernel
theorem dX9_highestBeside_3 : decode cX9_highestBeside 3 = .ok (.istore_n 3, 1) := by decide +kernel
theorem dX9_highestBeside_4 : decode cX9_highestBeside 4 = .ok (.iconst 4, 1) := by decide +kernel
theorem dX9_highestBeside_5 : decode cX9_highestBeside 5 = .ok (.iload_n 1, 1) := by decide +kernel
theorem dX9_highestBeside_6 : decode cX9_highestBeside 6 = .ok (.imul, 1) := by decide +kernel
theorem dX9_highestBeside_7 : decode cX9_highestBeside 7 = .ok (.istore 4, 2) := by decide +kernel
theorem dX9_highestBeside_9 : decode cX9_highestBeside 9 = .ok (.iload 4, 2) := by decide +kernel
theorem dX9_highestBeside_11 : decode cX9_highestBeside 11 = .ok (.iconst 4, 1) := by decide +kernel
theorem dX9_highestBeside_12 : decode cX9_highestBeside 12 = .ok (.iload_n 1, 1) := by decide +kernel
theorem dX9_highestBeside_13 : decode cX9_highestBeside 13 = .ok (.imul, 1) := by decide +kernel
theorem dX9_highestBeside_14 : decode cX9_highestBeside 14 = .ok (.iconst 4, 1) := by decide +kernel
theorem dX9_highestBeside_15 : decode cX9_highestBeside 15 = .ok (.iadd, 1) := by decide +kernel
theorem dX9_highestBeside_16 : decode cX9_highestBeside 16 = .ok (.if_icmp .ge 44, 3) := by decide +kernel
theorem dX9_highestBeside_19 : decode cX9_highestBeside 19 = .ok (.getstatic 143, 3) := by decide +kernel
theorem dX9_highestBeside_22 : decode cX9_highestBeside 22 = .ok (.iload 4, 2) := by decide +kernel
theorem dX9_highestBeside_24 : decode cX9_highestBeside 24 = .ok (.iaload, 1) := by decide +kernel
theorem dX9_highestBeside_25 : decode cX9_highestBeside 25 = .ok (.istore 5, 2) := by decide +kernel
theorem dX9_highestBeside_27 : decode cX9_highestBeside 27 = .ok (.iload 5, 2) := by decide +kernel
theorem dX9_highestBeside_29 : decode cX9_highestBeside 29 = .ok (.ifCond .lt 25, 3) := by decide +kernel
theorem dX9_highestBeside_32 : decode cX9_highestBeside 32 = .ok (.aload_n 0, 1) := by decide +kernel
theorem dX9_highestBeside_33 : decode cX9_highestBeside 33 = .ok (.getfield 15, 3) := by decide +kernel
theorem dX9_highestBeside_36 : decode cX9_highestBeside 36 = .ok (.iload 5, 2) := by decide +kernel
theorem dX9_highestBeside_38 : decode cX9_highestBeside 38 = .ok (.iaload, 1) := by decide +kernel
theorem dX9_highestBeside_39 : decode cX9_highestBeside 39 = .ok (.iload_n 3, 1) := by decide +kernel
theorem dX9_highestBeside_40 : decode cX9_highestBeside 40 = .ok (.if_icmp .le 14, 3) := by decide +kernel
theorem dX9_highestBeside_43 : decode cX9_highestBeside 43 = .ok (.iload 5, 2) := by decide +kernel
theorem dX9_highestBeside_45 : decode cX9_highestBeside 45 = .ok (.istore_n 2, 1) := by decide +kernel
theorem dX9_highestBeside_46 : decode cX9_highestBeside 46 = .ok (.aload_n 0, 1) := by decide +kernel
theorem dX9_highestBeside_47 : decode cX9_highestBeside 47 = .ok (.getfield 15, 3) := by decide +kernel
theorem dX9_highestBeside_50 : decode cX9_highestBeside 50 = .ok (.iload 5, 2) := by decide +kernel
theorem dX9_highestBeside_52 : decode cX9_highestBeside 52 = .ok (.iaload, 1) := by decide +kernel
theorem dX9_highestBeside_53 : decode cX9_highestBeside 53 = .ok (.istore_n 3, 1) := by decide +kernel
theorem dX9_highestBeside_54 : decode cX9_highestBeside 54 = .ok (.iinc 4 1, 3) := by decide +kernel
theorem dX9_highestBeside_57 : decode cX9_highestBeside 57 = .ok (.goto (-48), 3) := by decide +kernel
theorem dX9_highestBeside_60 : decode cX9_highestBeside 60 = .ok (.iload_n 2, 1) := by decide +kernel
theorem dX9_highestBeside_61 : decode cX9_highestBeside 61 = .ok (.ireturn, 1) := by decide +kernel
theorem dX10_init_0 : decode cX10_init 0 = .ok (.aload_n 0, 1) := by decide +kernel
theorem dX10_init_1 : decode cX10_init 1 = .ok (.invokespecial 1, 3) := by decide +kernel
theorem dX10_init_4 : decode cX10_init 4 = .ok (.return_, 1) := by decide +kernel
theorem dX10_acts_0 : decode cX10_acts 0 = .ok (.aload_n 1, 1) := by decide +kernel
theorem dX10_acts_1 : decode cX10_acts 1 = .ok (.getfield 7, 3) := by decide +kernel
theorem dX10_acts_4 : decode cX10_acts 4 = .ok (.iload_n 2, 1) := by decide +kernel
theorem dX10_acts_5 : decode cX10_acts 5 = .ok (.iaload, 1) := by decide +kernel
theorem dX10_acts_6 : decode cX10_acts 6 = .ok (.invokestatic 13, 3) := by decide +kernel
theorem dX10_acts_9 : decode cX10_acts 9 = .ok (.iconst 3, 1) := by decide +kernel
theorem dX10_acts_10 : decode cX10_acts 10 = .ok (.if_icmp .le 7, 3) := by decide +kernel
theorem dX10_acts_13 : decode cX10_acts 13 = .ok (.iconst 2, 1) := by decide +kernel
theorem dX10_acts_14 : decode cX10_acts 14 = .ok (.goto 9, 3) := by decide +kernel
theorem dX10_acts_17 : decode cX10_acts 17 = .ok (.aload_n 0, 1) := by decide +kernel
theorem dX10_acts_18 : decode cX10_acts 18 = .ok (.aload_n 1, 1) := by decide +kernel
theorem dX10_acts_19 : decode cX10_acts 19 = .ok (.iload_n 2, 1) := by decide +kernel
theorem dX10_acts_20 : decode cX10_acts 20 = .ok (.invokespecial 19, 3) := by decide +kernel
theorem dX10_acts_23 : decode cX10_acts 23 = .ok (.ireturn, 1) := by decide +kernel
theorem dX10_tall_0 : decode cX10_tall 0 = .ok (.aload_n 0, 1) := by decide +kernel
theorem dX10_tall_1 : decode cX10_tall 1 = .ok (.aload_n 1, 1) := by decide +kernel
theorem dX10_tall_2 : decode cX10_tall 2 = .ok (.iload_n 2, 1) := by decide +kernel
theorem dX10_tall_3 : decode cX10_tall 3 = .ok (.invokespecial 23, 3) := by decide +kernel
theorem dX10_tall_6 : decode cX10_tall 6 = .ok (.aload_n 1, 1) := by decide +kernel
theorem dX10_tall_7 : decode cX10_tall 7 = .ok (.getfield 26, 3) := by decide +kernel
theorem dX10_tall_10 : decode cX10_tall 10 = .ok (.iload_n 2, 1) := by decide +kernel
theorem dX10_tall_11 : decode cX10_tall 11 = .ok (.iaload, 1) := by decide +kernel
theorem dX10_tall_12 : decode cX10_tall 12 = .ok (.iconst 2, 1) := by decide +kernel
theorem dX10_tall_13 : decode cX10_tall 13 = .ok (.idiv, 1) := by decide +kernel
theorem dX10_tall_14 : decode cX10_tall 14 = .ok (.isub, 1) := by decide +kernel
theorem dX10_tall_15 : decode cX10_tall 15 = .ok (.ireturn, 1) := by decide +kernel
theorem dX10_knows_0 : decode cX10_knows 0 = .ok (.aload_n 1, 1) := by decide +kernel
theorem dX10_knows_1 : decode cX10_knows 1 = .ok (.bipush 30, 2) := by decide +kernel
theorem dX10_knows_3 : decode cX10_knows 3 = .ok (.invokevirtual 29, 3) := by decide +kernel
theorem dX10_knows_6 : decode cX10_knows 6 = .ok (.iconst 0, 1) := by decide +kernel
theorem dX10_knows_7 : decode cX10_knows 7 = .ok (.aload_n 0, 1) := by decide +kernel
theorem dX10_knows_8 : decode cX10_knows 8 = .ok (.aload_n 1, 1) := by decide +kernel
theorem dX10_knows_9 : decode cX10_knows 9 = .ok (.iload_n 2, 1) := by decide +kernel
theorem dX10_knows_10 : decode cX10_knows 10 = .ok (.invokespecial 35, 3) := by decide +kernel
theorem dX10_knows_13 : decode cX10_knows 13 = .ok (.isub, 1) := by decide +kernel
theorem dX10_knows_14 : decode cX10_knows 14 = .ok (.ireturn, 1) := by decide +kernel
theorem dX11_init_0 : decode cX11_init 0 = .ok (.aload_n 0, 1) := by decide +kernel
theorem dX11_init_1 : decode cX11_init 1 = .ok (.invokespecial 1, 3) := by decide +kernel
theorem dX11_init_4 : decode cX11_init 4 = .ok (.aload_n 0, 1) := by decide +kernel
theorem dX11_init_5 : decode cX11_init 5 = .ok (.new 7, 3) := by decide +kernel
theorem dX11_init_8 : decode cX11_init 8 = .ok (.dup, 1) := by decide +kernel
theorem dX11_init_9 : decode cX11_init 9 = .ok (.bipush 60, 2) := by decide +kernel
theorem dX11_init_11 : decode cX11_init 11 = .ok (.invokespecial 11, 3) := by decide +kernel
theorem dX11_init_14 : decode cX11_init 14 = .ok (.putfield 14, 3) := by decide +kernel
theorem dX11_init_17 : decode cX11_init 17 = .ok (.aload_n 0, 1) := by decide +kernel
theorem dX11_init_18 : decode cX11_init 18 = .ok (.new 7, 3) := by decide +kernel
theorem dX11_init_21 : decode cX11_init 21 = .ok (.dup, 1) := by decide +kernel
theorem dX11_init_22 : decode cX11_init 22 = .ok (.bipush 60, 2) := by decide +kernel
theorem dX11_init_24 : decode cX11_init 24 = .ok (.invokespecial 11, 3) := by decide +kernel
theorem dX11_init_27 : decode cX11_init 27 = .ok (.putfield 18, 3) := by decide +kernel
theorem dX11_init_30 : decode cX11_init 30 = .ok (.aload_n 0, 1) := by decide +kernel
theorem dX11_init_31 : decode cX11_init 31 = .ok (.new 7, 3) := by decide +kernel
theorem dX11_init_34 : decode cX11_init 34 = .ok (.dup, 1) := by decide +kernel
theorem dX11_init_35 : decode cX11_init 35 = .ok (.bipush 24, 2) := by decide +kernel
theorem dX11_init_37 : decode cX11_init 37 = .ok (.invokespecial 11, 3) := by decide +kernel
theorem dX11_init_40 : decode cX11_init 40 = .ok (.putfield 21, 3) := by decide +kernel
theorem dX11_init_43 : decode cX11_init 43 = .ok (.aload_n 0, 1) := by decide +kernel
theorem dX11_init_44 : decode cX11_init 44 = .ok (.new 7, 3) := by decide +kernel
theorem dX11_init_47 : decode cX11_init 47 = .ok (.dup, 1) := by decide +kernel
theorem dX11_init_48 : decode cX11_init 48 = .ok (.bipush 24, 2) := by decide +kernel
theorem dX11_init_50 : decode cX11_init 50 = .ok (.invokespecial 11, 3) := by decide +kernel
theorem dX11_init_53 : decode cX11_init 53 = .ok (.putfield 24, 3) := by decide +kernel
theorem dX11_init_56 : decode cX11_init 56 = .ok (.aload_n 0, 1) := by decide +kernel
theorem dX11_init_57 : decode cX11_init 57 = .ok (.new 27, 3) := by decide +kernel
theorem dX11_init_60 : decode cX11_init 60 = .ok (.dup, 1) := by decide +kernel
theorem dX11_init_61 : decode cX11_init 61 = .ok (.invokespecial 29, 3) := by decide +kernel
theorem dX11_init_64 : decode cX11_init 64 = .ok (.putfield 30, 3) := by decide +kernel
theorem dX11_init_67 : decode cX11_init 67 = .ok (.aload_n 0, 1) := by decide +kernel
theorem dX11_init_68 : decode cX11_init 68 = .ok (.iconst 4, 1) := by decide +kernel
theorem dX11_init_69 : decode cX11_init 69 = .ok (.anewarray 7, 3) := by decide +kernel
theorem dX11_init_72 : decode cX11_init 72 = .ok (.putfield 34, 3) := by decide +kernel
theorem dX11_init_75 : decode cX11_init 75 = .ok (.aload_n 0, 1) := by decide +kernel
theorem dX11_init_76 : decode cX11_init 76 = .ok (.new 38, 3) := by decide +kernel
theorem dX11_init_79 : decode cX11_init 79 = .ok (.dup, 1) := by decide +kernel
theorem dX11_init_80 : decode cX11_init 80 = .ok (.invokespecial 40, 3) := by decide +kernel
theorem dX11_init_83 : decode cX11_init 83 = .ok (.putfield 41, 3) := by decide +kernel
theorem dX11_init_86 : decode cX11_init 86 = .ok (.aload_n 0, 1) := by decide +kernel
theorem dX11_init_87 : decode cX11_init 87 = .ok (.bipush 7, 2) := by decide +kernel
theorem dX11_init_89 : decode cX11_init 89 = .ok (.newarray .int, 2) := by decide +kernel
theorem dX11_init_91 : decode cX11_init 91 = .ok (.putfield 45, 3) := by decide +kernel
theorem dX11_init_94 : decode cX11_init 94 = .ok (.bipush 7, 2) := by decide +kernel
theorem dX11_init_96 : decode cX11_init 96 = .ok (.anewarray 49, 3) := by decide +kernel
theorem dX11_init_99 : decode cX11_init 99 = .ok (.dup, 1) := by decide +kernel
theorem dX11_init_100 : decode cX11_init 100 = .ok (.iconst 0, 1) := by decide +kernel
theorem dX11_init_101 : decode cX11_init 101 = .ok (.new 49, 3) := by decide +kernel
theorem dX11_init_104 : decode cX11_init 104 = .ok (.dup, 1) := by decide +kernel
theorem dX11_init_105 : decode cX11_init 105 = .ok (.invokespecial 51, 3) := by decide +kernel
theorem dX11_init_108 : decode cX11_init 108 = .ok (.aastore, 1) := by decide +kernel
theorem dX11_init_109 : decode cX11_init 109 = .ok (.dup, 1) := by decide +kernel
theorem dX11_init_110 : decode cX11_init 110 = .ok (.iconst 1, 1) := by decide +kernel
theorem dX11_init_111 : decode cX11_init 111 = .ok (.new 52, 3) := by decide +kernel
theorem dX11_init_114 : decode cX11_init 114 = .ok (.dup, 1) := by decide +kernel
theorem dX11_init_115 : decode cX11_init 115 = .ok (.invokespecial 54, 3) := by decide +kernel
theorem dX11_init_118 : decode cX11_init 118 = .ok (.aastore, 1) := by decide +kernel
theorem dX11_init_119 : decode cX11_init 119 = .ok (.dup, 1) := by decide +kernel
theorem dX11_init_120 : decode cX11_init 120 = .ok (.iconst 2, 1) := by decide +kernel
theorem dX11_init_121 : decode cX11_init 121 = .ok (.new 55, 3) := by decide +kernel
theorem dX11_init_124 : decode cX11_init 124 = .ok (.dup, 1) := by decide +kernel
theorem dX11_init_125 : decode cX11_init 125 = .ok (.invokespecial 57, 3) := by decide +kernel
theorem dX11_init_128 : decode cX11_init 128 = .ok (.aastore, 1) := by decide +kernel
theorem dX11_init_129 : decode cX11_init 129 = .ok (.dup, 1) := by decide +kernel
theorem dX11_init_130 : decode cX11_init 130 = .ok (.iconst 3, 1) := by decide +kernel
theorem dX11_init_131 : decode cX11_init 131 = .ok (.new 58, 3) := by decide +kernel
theorem dX11_init_134 : decode cX11_init 134 = .ok (.dup, 1) := by decide +kernel
theorem dX11_init_135 : decode cX11_init 135 = .ok (.invokespecial 60, 3) := by decide +kernel
theorem dX11_init_138 : decode cX11_init 138 = .ok (.aastore, 1) := by decide +kernel
theorem dX11_init_139 : decode cX11_init 139 = .ok (.dup, 1) := by decide +kernel
theorem dX11_init_140 : decode cX11_init 140 = .ok (.iconst 4, 1) := by decide +kernel
theorem dX11_init_141 : decode cX11_init 141 = .ok (.new 61, 3) := by decide +kernel
theorem dX11_init_144 : decode cX11_init 144 = .ok (.dup, 1) := by decide +kernel
theorem dX11_init_145 : decode cX11_init 145 = .ok (.invokespecial 63, 3) := by decide +kernel
theorem dX11_init_148 : decode cX11_init 148 = .ok (.aastore, 1) := by decide +kernel
theorem dX11_init_149 : decode cX11_init 149 = .ok (.dup, 1) := by decide +kernel
theorem dX11_init_150 : decode cX11_init 150 = .ok (.iconst 5, 1) := by decide +kernel
theorem dX11_init_151 : decode cX11_init 151 = .ok (.new 64, 3) := by decide +kernel
theorem dX11_init_154 : decode cX11_init 154 = .ok (.dup, 1) := by decide +kernel
theorem dX11_init_155 : decode cX11_init 155 = .ok (.invokespecial 66, 3) := by decide +kernel
theorem dX11_init_158 : decode cX11_init 158 = .ok (.aastore, 1) := by decide +kernel
theorem dX11_init_159 : decode cX11_init 159 = .ok (.dup, 1) := by decide +kernel
theorem dX11_init_160 : decode cX11_init 160 = .ok (.bipush 6, 2) := by decide +kernel
theorem dX11_init_162 : decode cX11_init 162 = .ok (.new 67, 3) := by decide +kernel
theorem dX11_init_165 : decode cX11_init 165 = .ok (.dup, 1) := by decide +kernel
theorem dX11_init_166 : decode cX11_init 166 = .ok (.invokespecial 69, 3) := by decide +kernel
theorem dX11_init_169 : decode cX11_init 169 = .ok (.aastore, 1) := by decide +kernel
theorem dX11_init_170 : decode cX11_init 170 = .ok (.astore_n 1, 1) := by decide +kernel
theorem dX11_init_171 : decode cX11_init 171 = .ok (.new 27, 3) := by decide +kernel
theorem dX11_init_174 : decode cX11_init 174 = .ok (.dup, 1) := by decide +kernel
theorem dX11_init_175 : decode cX11_init 175 = .ok (.invokespecial 29, 3) := by decide +kernel
