theorem dX12_oneIs_73 : decode cX12_oneIs 73 = .ok (.aload_n 0, 1) := by decide +kernel
theorem dX12_oneIs_74 : decode cX12_oneIs 74 = .ok (.iload_n 1, 1) := by decide +kernel
theorem dX12_oneIs_75 : decode cX12_oneIs 75 = .ok (.iload_n 2, 1) := by decide +kernel
theorem dX12_oneIs_76 : decode cX12_oneIs 76 = .ok (.invokevirtual 111, 3) := by decide +kernel
theorem dX12_oneIs_79 : decode cX12_oneIs 79 = .ok (.ireturn, 1) := by decide +kernel
theorem dX12_become_0 : decode cX12_become 0 = .ok (.aload_n 0, 1) := by decide +kernel
theorem dX12_become_1 : decode cX12_become 1 = .ok (.iload_n 1, 1) := by decide +kernel
theorem dX12_become_2 : decode cX12_become 2 = .ok (.invokevirtual 176, 3) := by decide +kernel
theorem dX12_become_5 : decode cX12_become 5 = .ok (.ifCond .eq 10, 3) := by decide +kernel
theorem dX12_become_8 : decode cX12_become 8 = .ok (.iload_n 2, 1) := by decide +kernel
theorem dX12_become_9 : decode cX12_become 9 = .ok (.invokestatic 170, 3) := by decide +kernel
theorem dX12_become_12 : decode cX12_become 12 = .ok (.ifCond .ne 9, 3) := by decide +kernel
theorem dX12_become_15 : decode cX12_become 15 = .ok (.aload_n 0, 1) := by decide +kernel
theorem dX12_become_16 : decode cX12_become 16 = .ok (.iconst 1, 1) := by decide +kernel
theorem dX12_become_17 : decode cX12_become 17 = .ok (.invokevirtual 51, 3) := by decide +kernel
theorem dX12_become_20 : decode cX12_become 20 = .ok (.ireturn, 1) := by decide +kernel
theorem dX12_become_21 : decode cX12_become 21 = .ok (.aload_n 0, 1) := by decide +kernel
theorem dX12_become_22 : decode cX12_become 22 = .ok (.iload_n 1, 1) := by decide +kernel
theorem dX12_become_23 : decode cX12_become 23 = .ok (.iconst 0, 1) := by decide +kernel
theorem dX12_become_24 : decode cX12_become 24 = .ok (.invokevirtual 111, 3) := by decide +kernel
theorem dX12_become_27 : decode cX12_become 27 = .ok (.istore_n 3, 1) := by decide +kernel
theorem dX12_become_28 : decode cX12_become 28 = .ok (.aload_n 0, 1) := by decide +kernel
theorem dX12_become_29 : decode cX12_become 29 = .ok (.iload_n 1, 1) := by decide +kernel
theorem dX12_become_30 : decode cX12_become 30 = .ok (.iconst 0, 1) := by decide +kernel
theorem dX12_become_31 : decode cX12_become 31 = .ok (.iload_n 2, 1) := by decide +kernel
theorem dX12_become_32 : decode cX12_become 32 = .ok (.bipush 10, 2) := by decide +kernel
theorem dX12_become_34 : decode cX12_become 34 = .ok (.idiv, 1) := by decide +kernel
theorem dX12_become_35 : decode cX12_become 35 = .ok (.invokevirtual 147, 3) := by decide +kernel
theorem dX12_become_38 : decode cX12_become 38 = .ok (.aload_n 0, 1) := by decide +kernel
theorem dX12_become_39 : decode cX12_become 39 = .ok (.iload_n 1, 1) := by decide +kernel
theorem dX12_become_40 : decode cX12_become 40 = .ok (.iconst 1, 1) := by decide +kernel
theorem dX12_become_41 : decode cX12_become 41 = .ok (.iload_n 2, 1) := by decide +kernel
theorem dX12_become_42 : decode cX12_become 42 = .ok (.bipush 10, 2) := by decide +kernel
theorem dX12_become_44 : decode cX12_become 44 = .ok (.irem, 1) := by decide +kernel
theorem dX12_become_45 : decode cX12_become 45 = .ok (.invokevirtual 147, 3) := by decide +kernel
theorem dX12_become_48 : decode cX12_become 48 = .ok (.iload_n 3, 1) := by decide +kernel
theorem dX12_become_49 : decode cX12_become 49 = .ok (.ireturn, 1) := by decide +kernel
theorem dX12_as_0 : decode cX12_as 0 = .ok (.aload_n 0, 1) := by decide +kernel
theorem dX12_as_1 : decode cX12_as 1 = .ok (.iload_n 1, 1) := by decide +kernel
theorem dX12_as_2 : decode cX12_as 2 = .ok (.invokevirtual 176, 3) := by decide +kernel
theorem dX12_as_5 : decode cX12_as 5 = .ok (.ifCond .eq 13, 3) := by decide +kernel
theorem dX12_as_8 : decode cX12_as 8 = .ok (.iload_n 2, 1) := by decide +kernel
theorem dX12_as_9 : decode cX12_as 9 = .ok (.iconst 0, 1) := by decide +kernel
theorem dX12_as_10 : decode cX12_as 10 = .ok (.bipush 6, 2) := by decide +kernel
theorem dX12_as_12 : decode cX12_as 12 = .ok (.invokestatic 47, 3) := by decide +kernel
theorem dX12_as_15 : decode cX12_as 15 = .ok (.ifCond .ne 9, 3) := by decide +kernel
theorem dX12_as_18 : decode cX12_as 18 = .ok (.aload_n 0, 1) := by decide +kernel
theorem dX12_as_19 : decode cX12_as 19 = .ok (.iconst 1, 1) := by decide +kernel
theorem dX12_as_20 : decode cX12_as 20 = .ok (.invokevirtual 51, 3) := by decide +kernel
theorem dX12_as_23 : decode cX12_as 23 = .ok (.ireturn, 1) := by decide +kernel
theorem dX12_as_24 : decode cX12_as 24 = .ok (.aload_n 0, 1) := by decide +kernel
theorem dX12_as_25 : decode cX12_as 25 = .ok (.iload_n 1, 1) := by decide +kernel
theorem dX12_as_26 : decode cX12_as 26 = .ok (.iconst 0, 1) := by decide +kernel
theorem dX12_as_27 : decode cX12_as 27 = .ok (.invokevirtual 111, 3) := by decide +kernel
theorem dX12_as_30 : decode cX12_as 30 = .ok (.istore_n 3, 1) := by decide +kernel
theorem dX12_as_31 : decode cX12_as 31 = .ok (.iload_n 2, 1) := by decide +kernel
theorem dX12_as_32 : decode cX12_as 32 = .ok (.ifCond .eq 16, 3) := by decide +kernel
theorem dX12_as_35 : decode cX12_as 35 = .ok (.iload_n 3, 1) := by decide +kernel
theorem dX12_as_36 : decode cX12_as 36 = .ok (.iload_n 2, 1) := by decide +kernel
theorem dX12_as_37 : decode cX12_as 37 = .ok (.if_icmp .eq 11, 3) := by decide +kernel
theorem dX12_as_40 : decode cX12_as 40 = .ok (.iload_n 3, 1) := by decide +kernel
theorem dX12_as_41 : decode cX12_as 41 = .ok (.invokestatic 182, 3) := by decide +kernel
theorem dX12_as_44 : decode cX12_as 44 = .ok (.iload_n 2, 1) := by decide +kernel
theorem dX12_as_45 : decode cX12_as 45 = .ok (.if_icmp .ne 7, 3) := by decide +kernel
theorem dX12_as_48 : decode cX12_as 48 = .ok (.iconst 1, 1) := by decide +kernel
theorem dX12_as_49 : decode cX12_as 49 = .ok (.goto 4, 3) := by decide +kernel
theorem dX12_as_52 : decode cX12_as 52 = .ok (.iconst 0, 1) := by decide +kernel
theorem dX12_as_53 : decode cX12_as 53 = .ok (.istore 4, 2) := by decide +kernel
theorem dX12_as_55 : decode cX12_as 55 = .ok (.iload 4, 2) := by decide +kernel
theorem dX12_as_57 : decode cX12_as 57 = .ok (.ifCond .eq 12, 3) := by decide +kernel
theorem dX12_as_60 : decode cX12_as 60 = .ok (.aload_n 0, 1) := by decide +kernel
theorem dX12_as_61 : decode cX12_as 61 = .ok (.iload_n 1, 1) := by decide +kernel
theorem dX12_as_62 : decode cX12_as 62 = .ok (.iconst 1, 1) := by decide +kernel
theorem dX12_as_63 : decode cX12_as 63 = .ok (.invokevirtual 111, 3) := by decide +kernel
theorem dX12_as_66 : decode cX12_as 66 = .ok (.goto 8, 3) := by decide +kernel
theorem dX12_as_69 : decode cX12_as 69 = .ok (.aload_n 0, 1) := by decide +kernel
theorem dX12_as_70 : decode cX12_as 70 = .ok (.iconst 5, 1) := by decide +kernel
theorem dX12_as_71 : decode cX12_as 71 = .ok (.invokevirtual 51, 3) := by decide +kernel
theorem dX12_as_74 : decode cX12_as 74 = .ok (.ireturn, 1) := by decide +kernel
theorem dX12_set_0 : decode cX12_set 0 = .ok (.iload_n 2, 1) := by decide +kernel
theorem dX12_set_1 : decode cX12_set 1 = .ok (.ifCond .ne 8, 3) := by decide +kernel
theorem dX12_set_4 : decode cX12_set 4 = .ok (.bipush 15, 2) := by decide +kernel
theorem dX12_set_6 : decode cX12_set 6 = .ok (.goto 16, 3) := by decide +kernel
theorem dX12_set_9 : decode cX12_set 9 = .ok (.iload_n 2, 1) := by decide +kernel
theorem dX12_set_10 : decode cX12_set 10 = .ok (.iconst 1, 1) := by decide +kernel
theorem dX12_set_11 : decode cX12_set 11 = .ok (.if_icmp .ne 8, 3) := by decide +kernel
theorem dX12_set_14 : decode cX12_set 14 = .ok (.bipush 20, 2) := by decide +kernel
theorem dX12_set_16 : decode cX12_set 16 = .ok (.goto 6, 3) := by decide +kernel
theorem dX12_set_19 : decode cX12_set 19 = .ok (.sipush 4095, 3) := by decide +kernel
theorem dX12_set_22 : decode cX12_set 22 = .ok (.istore 4, 2) := by decide +kernel
theorem dX12_set_24 : decode cX12_set 24 = .ok (.aload_n 0, 1) := by decide +kernel
theorem dX12_set_25 : decode cX12_set 25 = .ok (.iload_n 1, 1) := by decide +kernel
theorem dX12_set_26 : decode cX12_set 26 = .ok (.invokevirtual 176, 3) := by decide +kernel
theorem dX12_set_29 : decode cX12_set 29 = .ok (.ifCond .eq 26, 3) := by decide +kernel
theorem dX12_set_32 : decode cX12_set 32 = .ok (.iload_n 2, 1) := by decide +kernel
theorem dX12_set_33 : decode cX12_set 33 = .ok (.iconst 0, 1) := by decide +kernel
theorem dX12_set_34 : decode cX12_set 34 = .ok (.iconst 2, 1) := by decide +kernel
theorem dX12_set_35 : decode cX12_set 35 = .ok (.invokestatic 47, 3) := by decide +kernel
theorem dX12_set_38 : decode cX12_set 38 = .ok (.ifCond .eq 17, 3) := by decide +kernel
theorem dX12_set_41 : decode cX12_set 41 = .ok (.iload_n 3, 1) := by decide +kernel
theorem dX12_set_42 : decode cX12_set 42 = .ok (.iconst 0, 1) := by decide +kernel
theorem dX12_set_43 : decode cX12_set 43 = .ok (.iload 4, 2) := by decide +kernel
theorem dX12_set_45 : decode cX12_set 45 = .ok (.invokestatic 47, 3) := by decide +kernel
theorem dX12_set_48 : decode cX12_set 48 = .ok (.ifCond .eq 7, 3) := by decide +kernel
theorem dX12_set_51 : decode cX12_set 51 = .ok (.iconst 1, 1) := by decide +kernel
theorem dX12_set_52 : decode cX12_set 52 = .ok (.goto 4, 3) := by decide +kernel
theorem dX12_set_55 : decode cX12_set 55 = .ok (.iconst 0, 1) := by decide +kernel
theorem dX12_set_56 : decode cX12_set 56 = .ok (.istore 5, 2) := by decide +kernel
theorem dX12_set_58 : decode cX12_set 58 = .ok (.iload 5, 2) := by decide +kernel
theorem dX12_set_60 : decode cX12_set 60 = .ok (.ifCond .eq 21, 3) := by decide +kernel
theorem dX12_set_63 : decode cX12_set 63 = .ok (.aload_n 0, 1) := by decide +kernel
theorem dX12_set_64 : decode cX12_set 64 = .ok (.bipush 76, 2) := by decide +kernel
theorem dX12_set_66 : decode cX12_set 66 = .ok (.iconst 5, 1) := by decide +kernel
theorem dX12_set_67 : decode cX12_set 67 = .ok (.iload_n 1, 1) := by decide +kernel
theorem dX12_set_68 : decode cX12_set 68 = .ok (.imul, 1) := by decide +kernel
theorem dX12_set_69 : decode cX12_set 69 = .ok (.iadd, 1) := by decide +kernel
theorem dX12_set_70 : decode cX12_set 70 = .ok (.iconst 2, 1) := by decide +kernel
theorem dX12_set_71 : decode cX12_set 71 = .ok (.iadd, 1) := by decide +kernel
theorem dX12_set_72 : decode cX12_set 72 = .ok (.iload_n 2, 1) := by decide +kernel
theorem dX12_set_73 : decode cX12_set 73 = .ok (.iadd, 1) := by decide +kernel
theorem dX12_set_74 : decode cX12_set 74 = .ok (.iload_n 3, 1) := by decide +kernel
theorem dX12_set_75 : decode cX12_set 75 = .ok (.invokevirtual 185, 3) := by decide +kernel
theorem dX12_set_78 : decode cX12_set 78 = .ok (.goto 8, 3) := by decide +kernel
theorem dX12_set_81 : decode cX12_set 81 = .ok (.aload_n 0, 1) := by decide +kernel
theorem dX12_set_82 : decode cX12_set 82 = .ok (.iconst 1, 1) := by decide +kernel
theorem dX12_set_83 : decode cX12_set 83 = .ok (.invokevirtual 51, 3) := by decide +kernel
theorem dX12_set_86 : decode cX12_set 86 = .ok (.ireturn, 1) := by decide +kernel
theorem dX12_cut_0 : decode cX12_cut 0 = .ok (.aload_n 0, 1) := by decide +kernel
theorem dX12_cut_1 : decode cX12_cut 1 = .ok (.iload_n 1, 1) := by decide +kernel
theorem dX12_cut_2 : decode cX12_cut 2 = .ok (.invokevirtual 176, 3) := by decide +kernel
theorem dX12_cut_5 : decode cX12_cut 5 = .ok (.ifCond .eq 23, 3) := by decide +kernel
theorem dX12_cut_8 : decode cX12_cut 8 = .ok (.aload_n 0, 1) := by decide +kernel
theorem dX12_cut_9 : decode cX12_cut 9 = .ok (.bipush 76, 2) := by decide +kernel
theorem dX12_cut_11 : decode cX12_cut 11 = .ok (.iconst 5, 1) := by decide +kernel
theorem dX12_cut_12 : decode cX12_cut 12 = .ok (.iload_n 1, 1) := by decide +kernel
theorem dX12_cut_13 : decode cX12_cut 13 = .ok (.imul, 1) := by decide +kernel
theorem dX12_cut_14 : decode cX12_cut 14 = .ok (.iadd, 1) := by decide +kernel
theorem dX12_cut_15 : decode cX12_cut 15 = .ok (.iconst 3, 1) := by decide +kernel
theorem dX12_cut_16 : decode cX12_cut 16 = .ok (.iadd, 1) := by decide +kernel
theorem dX12_cut_17 : decode cX12_cut 17 = .ok (.aload_n 0, 1) := by decide +kernel
theorem dX12_cut_18 : decode cX12_cut 18 = .ok (.iload_n 1, 1) := by decide +kernel
theorem dX12_cut_19 : decode cX12_cut 19 = .ok (.invokevirtual 179, 3) := by decide +kernel
theorem dX12_cut_22 : decode cX12_cut 22 = .ok (.invokevirtual 185, 3) := by decide +kernel
theorem dX12_cut_25 : decode cX12_cut 25 = .ok (.goto 8, 3) := by decide +kernel
theorem dX12_cut_28 : decode cX12_cut 28 = .ok (.aload_n 0, 1) := by decide +kernel
theorem dX12_cut_29 : decode cX12_cut 29 = .ok (.iconst 1, 1) := by decide +kernel
theorem dX12_cut_30 : decode cX12_cut 30 = .ok (.invokevirtual 51, 3) := by decide +kernel
theorem dX12_cut_33 : decode cX12_cut 33 = .ok (.ireturn, 1) := by decide +kernel
theorem dX12_land_0 : decode cX12_land 0 = .ok (.iload_n 2, 1) := by decide +kernel
theorem dX12_land_1 : decode cX12_land 1 = .ok (.ifCond .ne 8, 3) := by decide +kernel
theorem dX12_land_4 : decode cX12_land 4 = .ok (.bipush 9, 2) := by decide +kernel
theorem dX12_land_6 : decode cX12_land 6 = .ok (.goto 25, 3) := by decide +kernel
theorem dX12_land_9 : decode cX12_land 9 = .ok (.iload_n 2, 1) := by decide +kernel
theorem dX12_land_10 : decode cX12_land 10 = .ok (.iconst 1, 1) := by decide +kernel
theorem dX12_land_11 : decode cX12_land 11 = .ok (.if_icmp .ne 8, 3) := by decide +kernel
theorem dX12_land_14 : decode cX12_land 14 = .ok (.bipush 99, 2) := by decide +kernel
theorem dX12_land_16 : decode cX12_land 16 = .ok (.goto 15, 3) := by decide +kernel
theorem dX12_land_19 : decode cX12_land 19 = .ok (.iload_n 2, 1) := by decide +kernel
theorem dX12_land_20 : decode cX12_land 20 = .ok (.iconst 2, 1) := by decide +kernel
theorem dX12_land_21 : decode cX12_land 21 = .ok (.if_icmp .ne 7, 3) := by decide +kernel
theorem dX12_land_24 : decode cX12_land 24 = .ok (.iconst 1, 1) := by decide +kernel
theorem dX12_land_25 : decode cX12_land 25 = .ok (.goto 6, 3) := by decide +kernel
theorem dX12_land_28 : decode cX12_land 28 = .ok (.sipush 4095, 3) := by decide +kernel
theorem dX12_land_31 : decode cX12_land 31 = .ok (.istore 4, 2) := by decide +kernel
theorem dX12_land_33 : decode cX12_land 33 = .ok (.iload_n 1, 1) := by decide +kernel
theorem dX12_land_34 : decode cX12_land 34 = .ok (.invokestatic 173, 3) := by decide +kernel
theorem dX12_land_37 : decode cX12_land 37 = .ok (.ifCond .eq 26, 3) := by decide +kernel
theorem dX12_land_40 : decode cX12_land 40 = .ok (.iload_n 2, 1) := by decide +kernel
theorem dX12_land_41 : decode cX12_land 41 = .ok (.iconst 0, 1) := by decide +kernel
theorem dX12_land_42 : decode cX12_land 42 = .ok (.iconst 3, 1) := by decide +kernel
theorem dX12_land_43 : decode cX12_land 43 = .ok (.invokestatic 47, 3) := by decide +kernel
theorem dX12_land_46 : decode cX12_land 46 = .ok (.ifCond .eq 17, 3) := by decide +kernel
theorem dX12_land_49 : decode cX12_land 49 = .ok (.iload_n 3, 1) := by decide +kernel
theorem dX12_land_50 : decode cX12_land 50 = .ok (.iconst 0, 1) := by decide +kernel
theorem dX12_land_51 : decode cX12_land 51 = .ok (.iload 4, 2) := by decide +kernel
theorem dX12_land_53 : decode cX12_land 53 = .ok (.invokestatic 47, 3) := by decide +kernel
theorem dX12_land_56 : decode cX12_land 56 = .ok (.ifCond .eq 7, 3) := by decide +kernel
theorem dX12_land_59 : decode cX12_land 59 = .ok (.iconst 1, 1) := by decide +kernel
theorem dX12_land_60 : decode cX12_land 60 = .ok (.goto 4, 3) := by decide +kernel
theorem dX12_land_63 : decode cX12_land 63 = .ok (.iconst 0, 1) := by decide +kernel
theorem dX12_land_64 : decode cX12_land 64 = .ok (.istore 5, 2) := by decide +kernel
theorem dX12_land_66 : decode cX12_land 66 = .ok (.iload 5, 2) := by decide +kernel
theorem dX12_land_68 : decode cX12_land 68 = .ok (.ifCond .eq 20, 3) := by decide +kernel
theorem dX12_land_71 : decode cX12_land 71 = .ok (.aload_n 0, 1) := by decide +kernel
theorem dX12_land_72 : decode cX12_land 72 = .ok (.bipush 12, 2) := by decide +kernel
theorem dX12_land_74 : decode cX12_land 74 = .ok (.bipush 16, 2) := by decide +kernel
theorem dX12_land_76 : decode cX12_land 76 = .ok (.iload_n 2, 1) := by decide +kernel
theorem dX12_land_77 : decode cX12_land 77 = .ok (.imul, 1) := by decide +kernel
theorem dX12_land_78 : decode cX12_land 78 = .ok (.iadd, 1) := by decide +kernel
theorem dX12_land_79 : decode cX12_land 79 = .ok (.iload_n 1, 1) := by decide +kernel
theorem dX12_land_80 : decode cX12_land 80 = .ok (.iadd, 1) := by decide +kernel
theorem dX12_land_81 : decode cX12_land 81 = .ok (.iload_n 3, 1) := by decide +kernel
theorem dX12_land_82 : decode cX12_land 82 = .ok (.invokevirtual 185, 3) := by decide +kernel
theorem dX12_land_85 : decode cX12_land 85 = .ok (.goto 8, 3) := by decide +kernel
theorem dX12_land_88 : decode cX12_land 88 = .ok (.aload_n 0, 1) := by decide +kernel
theorem dX12_land_89 : decode cX12_land 89 = .ok (.iconst 1, 1) := by decide +kernel
theorem dX12_land_90 : decode cX12_land 90 = .ok (.invokevirtual 51, 3) := by decide +kernel
theorem dX12_land_93 : decode cX12_land 93 = .ok (.ireturn, 1) := by decide +kernel
theorem dX12_landIs_0 : decode cX12_landIs 0 = .ok (.iload_n 1, 1) := by decide +kernel
theorem dX12_landIs_1 : decode cX12_landIs 1 = .ok (.invokestatic 173, 3) := by decide +kernel
theorem dX12_landIs_4 : decode cX12_landIs 4 = .ok (.ifCond .eq 12, 3) := by decide +kernel
theorem dX12_landIs_7 : decode cX12_landIs 7 = .ok (.iload_n 2, 1) := by decide +kernel
theorem dX12_landIs_8 : decode cX12_landIs 8 = .ok (.iconst 0, 1) := by decide +kernel
theorem dX12_landIs_9 : decode cX12_landIs 9 = .ok (.iconst 4, 1) := by decide +kernel
theorem dX12_landIs_10 : decode cX12_landIs 10 = .ok (.invokestatic 47, 3) := by decide +kernel
theorem dX12_landIs_13 : decode cX12_landIs 13 = .ok (.ifCond .ne 9, 3) := by decide +kernel
theorem dX12_landIs_16 : decode cX12_landIs 16 = .ok (.aload_n 0, 1) := by decide +kernel
theorem dX12_landIs_17 : decode cX12_landIs 17 = .ok (.iconst 1, 1) := by decide +kernel
theorem dX12_landIs_18 : decode cX12_landIs 18 = .ok (.invokevirtual 51, 3) := by decide +kernel
theorem dX12_landIs_21 : decode cX12_landIs 21 = .ok (.ireturn, 1) := by decide +kernel
theorem dX12_landIs_22 : decode cX12_landIs 22 = .ok (.iload_n 2, 1) := by decide +kernel
theorem dX12_landIs_23 : decode cX12_landIs 23 = .ok (.iconst 4, 1) := by decide +kernel
theorem dX12_landIs_24 : decode cX12_landIs 24 = .ok (.if_icmp .ne 11, 3) := by decide +kernel
theorem dX12_landIs_27 : decode cX12_landIs 27 = .ok (.aload_n 0, 1) := by decide +kernel
theorem dX12_landIs_28 : decode cX12_landIs 28 = .ok (.iload_n 1, 1) := by decide +kernel
theorem dX12_landIs_29 : decode cX12_landIs 29 = .ok (.invokevirtual 144, 3) := by decide +kernel
theorem dX12_landIs_32 : decode cX12_landIs 32 = .ok (.goto 17, 3) := by decide +kernel
theorem dX12_landIs_35 : decode cX12_landIs 35 = .ok (.aload_n 0, 1) := by decide +kernel
theorem dX12_landIs_36 : decode cX12_landIs 36 = .ok (.getfield 7, 3) := by decide +kernel
theorem dX12_landIs_39 : decode cX12_landIs 39 = .ok (.bipush 12, 2) := by decide +kernel
theorem dX12_landIs_41 : decode cX12_landIs 41 = .ok (.bipush 16, 2) := by decide +kernel
theorem dX12_landIs_43 : decode cX12_landIs 43 = .ok (.iload_n 2, 1) := by decide +kernel
theorem dX12_landIs_44 : decode cX12_landIs 44 = .ok (.imul, 1) := by decide +kernel
theorem dX12_landIs_45 : decode cX12_landIs 45 = .ok (.iadd, 1) := by decide +kernel
theorem dX12_landIs_46 : decode cX12_landIs 46 = .ok (.iload_n 1, 1) := by decide +kernel
theorem dX12_landIs_47 : decode cX12_landIs 47 = .ok (.iadd, 1) := by decide +kernel
theorem dX12_landIs_48 : decode cX12_landIs 48 = .ok (.iaload, 1) := by decide +kernel
theorem dX12_landIs_49 : decode cX12_landIs 49 = .ok (.ireturn, 1) := by decide +kernel
theorem dX12_rises_0 : decode cX12_rises 0 = .ok (.iload_n 1, 1) := by decide +kernel
theorem dX12_rises_1 : decode cX12_rises 1 = .ok (.iconst 0, 1) := by decide +kernel
theorem dX12_rises_2 : decode cX12_rises 2 = .ok (.iconst 5, 1) := by decide +kernel
theorem dX12_rises_3 : decode cX12_rises 3 = .ok (.invokestatic 47, 3) := by decide +kernel
theorem dX12_rises_6 : decode cX12_rises 6 = .ok (.ifCond .eq 25, 3) := by decide +kernel
theorem dX12_rises_9 : decode cX12_rises 9 = .ok (.iload_n 2, 1) := by decide +kernel
theorem dX12_rises_10 : decode cX12_rises 10 = .ok (.iconst 0, 1) := by decide +kernel
theorem dX12_rises_11 : decode cX12_rises 11 = .ok (.bipush 9, 2) := by decide +kernel
theorem dX12_rises_13 : decode cX12_rises 13 = .ok (.invokestatic 47, 3) := by decide +kernel
theorem dX12_rises_16 : decode cX12_rises 16 = .ok (.ifCond .eq 15, 3) := by decide +kernel
theorem dX12_rises_19 : decode cX12_rises 19 = .ok (.aload_n 0, 1) := by decide +kernel
theorem dX12_rises_20 : decode cX12_rises 20 = .ok (.bipush 6, 2) := by decide +kernel
theorem dX12_rises_22 : decode cX12_rises 22 = .ok (.iload_n 1, 1) := by decide +kernel
theorem dX12_rises_23 : decode cX12_rises 23 = .ok (.iadd, 1) := by decide +kernel
theorem dX12_rises_24 : decode cX12_rises 24 = .ok (.iload_n 2, 1) := by decide +kernel
theorem dX12_rises_25 : decode cX12_rises 25 = .ok (.invokevirtual 185, 3) := by decide +kernel
theorem dX12_rises_28 : decode cX12_rises 28 = .ok (.goto 8, 3) := by decide +kernel
theorem dX12_rises_31 : decode cX12_rises 31 = .ok (.aload_n 0, 1) := by decide +kernel
theorem dX12_rises_32 : decode cX12_rises 32 = .ok (.iconst 1, 1) := by decide +kernel
theorem dX12_rises_33 : decode cX12_rises 33 = .ok (.invokevirtual 51, 3) := by decide +kernel
theorem dX12_rises_36 : decode cX12_rises 36 = .ok (.ireturn, 1) := by decide +kernel
theorem dX12_springs_0 : decode cX12_springs 0 = .ok (.iload_n 1, 1) := by decide +kernel
theorem dX12_springs_1 : decode cX12_springs 1 = .ok (.invokestatic 173, 3) := by decide +kernel
theorem dX12_springs_4 : decode cX12_springs 4 = .ok (.ifCond .eq 12, 3) := by decide +kernel
theorem dX12_springs_7 : decode cX12_springs 7 = .ok (.aload_n 0, 1) := by decide +kernel
theorem dX12_springs_8 : decode cX12_springs 8 = .ok (.iconst 1, 1) := by decide +kernel
theorem dX12_springs_9 : decode cX12_springs 9 = .ok (.iload_n 1, 1) := by decide +kernel
theorem dX12_springs_10 : decode cX12_springs 10 = .ok (.invokevirtual 185, 3) := by decide +kernel
theorem dX12_springs_13 : decode cX12_springs 13 = .ok (.goto 8, 3) := by decide +kernel
theorem dX12_springs_16 : decode cX12_springs 16 = .ok (.aload_n 0, 1) := by decide +kernel
theorem dX12_springs_17 : decode cX12_springs 17 = .ok (.iconst 1, 1) := by decide +kernel
theorem dX12_springs_18 : decode cX12_springs 18 = .ok (.invokevirtual 51, 3) := by decide +kernel
theorem dX12_springs_21 : decode cX12_springs 21 = .ok (.ireturn, 1) := by decide +kernel
theorem dX12_law_0 : decode cX12_law 0 = .ok (.iload_n 1, 1) := by decide +kernel
theorem dX12_law_1 : decode cX12_law 1 = .ok (.iconst 0, 1) := by decide +kernel
theorem dX12_law_2 : decode cX12_law 2 = .ok (.iconst 1, 1) := by decide +kernel
theorem dX12_law_3 : decode cX12_law 3 = .ok (.invokestatic 47, 3) := by decide +kernel
theorem dX12_law_6 : decode cX12_law 6 = .ok (.ifCond .eq 15, 3) := by decide +kernel
theorem dX12_law_9 : decode cX12_law 9 = .ok (.aload_n 0, 1) := by decide +kernel
theorem dX12_law_10 : decode cX12_law 10 = .ok (.iload_n 1, 1) := by decide +kernel
theorem dX12_law_11 : decode cX12_law 11 = .ok (.iload_n 2, 1) := by decide +kernel
theorem dX12_law_12 : decode cX12_law 12 = .ok (.iload_n 3, 1) := by decide +kernel
theorem dX12_law_13 : decode cX12_law 13 = .ok (.iload 4, 2) := by decide +kernel
theorem dX12_law_15 : decode cX12_law 15 = .ok (.invokevirtual 133, 3) := by decide +kernel
theorem dX12_law_18 : decode cX12_law 18 = .ok (.goto 8, 3) := by decide +kernel
theorem dX12_law_21 : decode cX12_law 21 = .ok (.aload_n 0, 1) := by decide +kernel
theorem dX12_law_22 : decode cX12_law 22 = .ok (.iconst 1, 1) := by decide +kernel
theorem dX12_law_23 : decode cX12_law 23 = .ok (.invokevirtual 51, 3) := by decide +kernel
theorem dX12_law_26 : decode cX12_law 26 = .ok (.ireturn, 1) := by decide +kernel
theorem dX12_days_0 : decode cX12_days 0 = .ok (.iload_n 1, 1) := by decide +kernel
theorem dX12_days_1 : decode cX12_days 1 = .ok (.iconst 1, 1) := by decide +kernel
theorem dX12_days_2 : decode cX12_days 2 = .ok (.bipush 60, 2) := by decide +kernel
theorem dX12_days_4 : decode cX12_days 4 = .ok (.invokestatic 47, 3) := by decide +kernel
theorem dX12_days_7 : decode cX12_days 7 = .ok (.ifCond .ne 9, 3) := by decide +kernel
theorem dX12_days_10 : decode cX12_days 10 = .ok (.aload_n 0, 1) := by decide +kernel
theorem dX12_days_11 : decode cX12_days 11 = .ok (.iconst 1, 1) := by decide +kernel
theorem dX12_days_12 : decode cX12_days 12 = .ok (.invokevirtual 51, 3) := by decide +kernel
theorem dX12_days_15 : decode cX12_days 15 = .ok (.ireturn, 1) := by decide +kernel
theorem dX12_days_16 : decode cX12_days 16 = .ok (.aload_n 0, 1) := by decide +kernel
theorem dX12_days_17 : decode cX12_days 17 = .ok (.getfield 7, 3) := by decide +kernel
theorem dX12_days_20 : decode cX12_days 20 = .ok (.iconst 0, 1) := by decide +kernel
theorem dX12_days_21 : decode cX12_days 21 = .ok (.iaload, 1) := by decide +kernel
theorem dX12_days_22 : decode cX12_days 22 = .ok (.iload_n 1, 1) := by decide +kernel
theorem dX12_days_23 : decode cX12_days 23 = .ok (.iadd, 1) := by decide +kernel
theorem dX12_days_24 : decode cX12_days 24 = .ok (.sipush 9999, 3) := by decide +kernel
theorem dX12_days_27 : decode cX12_days 27 = .ok (.if_icmp .le 9, 3) := by decide +kernel
theorem dX12_days_30 : decode cX12_days 30 = .ok (.aload_n 0, 1) := by decide +kernel
theorem dX12_days_31 : decode cX12_days 31 = .ok (.iconst 3, 1) := by decide +kernel
theorem dX12_days_32 : decode cX12_days 32 = .ok (.invokevirtual 51, 3) := by decide +kernel
theorem dX12_days_35 : decode cX12_days 35 = .ok (.ireturn, 1) := by decide +kernel
theorem dX12_days_36 : decode cX12_days 36 = .ok (.aload_n 0, 1) := by decide +kernel
theorem dX12_days_37 : decode cX12_days 37 = .ok (.iload_n 1, 1) := by decide +kernel
theorem dX12_days_38 : decode cX12_days 38 = .ok (.invokevirtual 188, 3) := by decide +kernel
theorem dX12_days_41 : decode cX12_days 41 = .ok (.aload_n 0, 1) := by decide +kernel
theorem dX12_days_42 : decode cX12_days 42 = .ok (.invokevirtual 191, 3) := by decide +kernel
theorem dX12_days_45 : decode cX12_days 45 = .ok (.ireturn, 1) := by decide +kernel
theorem dX12_draw_0 : decode cX12_draw 0 = .ok (.aload_n 0, 1) := by decide +kernel
theorem dX12_draw_1 : decode cX12_draw 1 = .ok (.getfield 7, 3) := by decide +kernel
theorem dX12_draw_4 : decode cX12_draw 4 = .ok (.iconst 2, 1) := by decide +kernel
theorem dX12_draw_5 : decode cX12_draw 5 = .ok (.aload_n 0, 1) := by decide +kernel
theorem dX12_draw_6 : decode cX12_draw 6 = .ok (.getfield 7, 3) := by decide +kernel
theorem dX12_draw_9 : decode cX12_draw 9 = .ok (.iconst 2, 1) := by decide +kernel
theorem dX12_draw_10 : decode cX12_draw 10 = .ok (.iaload, 1) := by decide +kernel
theorem dX12_draw_11 : decode cX12_draw 11 = .ok (.ldc 194, 2) := by decide +kernel
theorem dX12_draw_13 : decode cX12_draw 13 = .ok (.imul, 1) := by decide +kernel
theorem dX12_draw_14 : decode cX12_draw 14 = .ok (.sipush 12345, 3) := by decide +kernel
theorem dX12_draw_17 : decode cX12_draw 17 = .ok (.iadd, 1) := by decide +kernel
theorem dX12_draw_18 : decode cX12_draw 18 = .ok (.iastore, 1) := by decide +kernel
theorem dX12_draw_19 : decode cX12_draw 19 = .ok (.aload_n 0, 1) := by decide +kernel
theorem dX12_draw_20 : decode cX12_draw 20 = .ok (.getfield 7, 3) := by decide +kernel
theorem dX12_draw_23 : decode cX12_draw 23 = .ok (.iconst 2, 1) := by decide +kernel
theorem dX12_draw_24 : decode cX12_draw 24 = .ok (.iaload, 1) := by decide +kernel
theorem dX12_draw_25 : decode cX12_draw 25 = .ok (.bipush 8, 2) := by decide +kernel
theorem dX12_draw_27 : decode cX12_draw 27 = .ok (.iushr, 1) := by decide +kernel
theorem dX12_draw_28 : decode cX12_draw 28 = .ok (.ireturn, 1) := by decide +kernel
theorem dX12_loose_0 : decode cX12_loose 0 = .ok (.iload_n 1, 1) := by decide +kernel
theorem dX12_loose_1 : decode cX12_loose 1 = .ok (.iconst 1, 1) := by decide +kernel
theorem dX12_loose_2 : decode cX12_loose 2 = .ok (.bipush 30, 2) := by decide +kernel
theorem dX12_loose_4 : decode cX12_loose 4 = .ok (.invokestatic 47, 3) := by decide +kernel
theorem dX12_loose_7 : decode cX12_loose 7 = .ok (.ifCond .ne 9, 3) := by decide +kernel
theorem dX12_loose_10 : decode cX12_loose 10 = .ok (.aload_n 0, 1) := by decide +kernel
theorem dX12_loose_11 : decode cX12_loose 11 = .ok (.iconst 1, 1) := by decide +kernel
theorem dX12_loose_12 : decode cX12_loose 12 = .ok (.invokevirtual 51, 3) := by decide +kernel
theorem dX12_loose_15 : decode cX12_loose 15 = .ok (.ireturn, 1) := by decide +kernel
theorem dX12_loose_16 : decode cX12_loose 16 = .ok (.aload_n 0, 1) := by decide +kernel
theorem dX12_loose_17 : decode cX12_loose 17 = .ok (.getfield 7, 3) := by decide +kernel
theorem dX12_loose_20 : decode cX12_loose 20 = .ok (.iconst 0, 1) := by decide +kernel
theorem dX12_loose_21 : decode cX12_loose 21 = .ok (.iaload, 1) := by decide +kernel
theorem dX12_loose_22 : decode cX12_loose 22 = .ok (.iload_n 1, 1) := by decide +kernel
theorem dX12_loose_23 : decode cX12_loose 23 = .ok (.iadd, 1) := by decide +kernel
theorem dX12_loose_24 : decode cX12_loose 24 = .ok (.sipush 9999, 3) := by decide +kernel
theorem dX12_loose_27 : decode cX12_loose 27 = .ok (.if_icmp .le 9, 3) := by decide +kernel
theorem dX12_loose_30 : decode cX12_loose 30 = .ok (.aload_n 0, 1) := by decide +kernel
theorem dX12_loose_31 : decode cX12_loose 31 = .ok (.iconst 3, 1) := by decide +kernel
theorem dX12_loose_32 : decode cX12_loose 32 = .ok (.invokevirtual 51, 3) := by decide +kernel
theorem dX12_loose_35 : decode cX12_loose 35 = .ok (.ireturn, 1) := by decide +kernel
theorem dX12_loose_36 : decode cX12_loose 36 = .ok (.iconst 0, 1) := by decide +kernel
theorem dX12_loose_37 : decode cX12_loose 37 = .ok (.istore_n 2, 1) := by decide +kernel
theorem dX12_loose_38 : decode cX12_loose 38 = .ok (.iload_n 2, 1) := by decide +kernel
theorem dX12_loose_39 : decode cX12_loose 39 = .ok (.iload_n 1, 1) := by decide +kernel
theorem dX12_loose_40 : decode cX12_loose 40 = .ok (.if_icmp .ge 50, 3) := by decide +kernel
theorem dX12_loose_43 : decode cX12_loose 43 = .ok (.aload_n 0, 1) := by decide +kernel
theorem dX12_loose_44 : decode cX12_loose 44 = .ok (.getfield 7, 3) := by decide +kernel
theorem dX12_loose_47 : decode cX12_loose 47 = .ok (.iconst 1, 1) := by decide +kernel
theorem dX12_loose_48 : decode cX12_loose 48 = .ok (.aload_n 0, 1) := by decide +kernel
theorem dX12_loose_49 : decode cX12_loose 49 = .ok (.invokevirtual 195, 3) := by decide +kernel
theorem dX12_loose_52 : decode cX12_loose 52 = .ok (.bipush 16, 2) := by decide +kernel
theorem dX12_loose_54 : decode cX12_loose 54 = .ok (.irem, 1) := by decide +kernel
theorem dX12_loose_55 : decode cX12_loose 55 = .ok (.iastore, 1) := by decide +kernel
theorem dX12_loose_56 : decode cX12_loose 56 = .ok (.aload_n 0, 1) := by decide +kernel
theorem dX12_loose_57 : decode cX12_loose 57 = .ok (.getfield 7, 3) := by decide +kernel
theorem dX12_loose_60 : decode cX12_loose 60 = .ok (.bipush 6, 2) := by decide +kernel
theorem dX12_loose_62 : decode cX12_loose 62 = .ok (.aload_n 0, 1) := by decide +kernel
theorem dX12_loose_63 : decode cX12_loose 63 = .ok (.getfield 7, 3) := by decide +kernel
theorem dX12_loose_66 : decode cX12_loose 66 = .ok (.iconst 0, 1) := by decide +kernel
theorem dX12_loose_67 : decode cX12_loose 67 = .ok (.iaload, 1) := by decide +kernel
theorem dX12_loose_68 : decode cX12_loose 68 = .ok (.bipush 6, 2) := by decide +kernel
theorem dX12_loose_70 : decode cX12_loose 70 = .ok (.irem, 1) := by decide +kernel
theorem dX12_loose_71 : decode cX12_loose 71 = .ok (.iadd, 1) := by decide +kernel
theorem dX12_loose_72 : decode cX12_loose 72 = .ok (.aload_n 0, 1) := by decide +kernel
theorem dX12_loose_73 : decode cX12_loose 73 = .ok (.invokevirtual 195, 3) := by decide +kernel
theorem dX12_loose_76 : decode cX12_loose 76 = .ok (.bipush 10, 2) := by decide +kernel
theorem dX12_loose_78 : decode cX12_loose 78 = .ok (.irem, 1) := by decide +kernel
theorem dX12_loose_79 : decode cX12_loose 79 = .ok (.iastore, 1) := by decide +kernel
theorem dX12_loose_80 : decode cX12_loose 80 = .ok (.aload_n 0, 1) := by decide +kernel
theorem dX12_loose_81 : decode cX12_loose 81 = .ok (.invokevirtual 167, 3) := by decide +kernel
theorem dX12_loose_84 : decode cX12_loose 84 = .ok (.iinc 2 1, 3) := by decide +kernel
theorem dX12_loose_87 : decode cX12_loose 87 = .ok (.goto (-49), 3) := by decide +kernel
theorem dX12_loose_90 : decode cX12_loose 90 = .ok (.aload_n 0, 1) := by decide +kernel
theorem dX12_loose_91 : decode cX12_loose 91 = .ok (.invokevirtual 191, 3) := by decide +kernel
theorem dX12_loose_94 : decode cX12_loose 94 = .ok (.ireturn, 1) := by decide +kernel
theorem dX12_day_0 : decode cX12_day 0 = .ok (.iload_n 1, 1) := by decide +kernel
theorem dX12_day_1 : decode cX12_day 1 = .ok (.iconst 0, 1) := by decide +kernel
theorem dX12_day_2 : decode cX12_day 2 = .ok (.sipush 9999, 3) := by decide +kernel
theorem dX12_day_5 : decode cX12_day 5 = .ok (.invokestatic 47, 3) := by decide +kernel
theorem dX12_day_8 : decode cX12_day 8 = .ok (.ifCond .eq 12, 3) := by decide +kernel
theorem dX12_day_11 : decode cX12_day 11 = .ok (.aload_n 0, 1) := by decide +kernel
theorem dX12_day_12 : decode cX12_day 12 = .ok (.iconst 0, 1) := by decide +kernel
theorem dX12_day_13 : decode cX12_day 13 = .ok (.iload_n 1, 1) := by decide +kernel
theorem dX12_day_14 : decode cX12_day 14 = .ok (.invokevirtual 185, 3) := by decide +kernel
theorem dX12_day_17 : decode cX12_day 17 = .ok (.goto 8, 3) := by decide +kernel
theorem dX12_day_20 : decode cX12_day 20 = .ok (.aload_n 0, 1) := by decide +kernel
theorem dX12_day_21 : decode cX12_day 21 = .ok (.iconst 1, 1) := by decide +kernel
theorem dX12_day_22 : decode cX12_day 22 = .ok (.invokevirtual 51, 3) := by decide +kernel
theorem dX12_day_25 : decode cX12_day 25 = .ok (.ireturn, 1) := by decide +kernel
theorem dX12_seed_0 : decode cX12_seed 0 = .ok (.aload_n 0, 1) := by decide +kernel
theorem dX12_seed_1 : decode cX12_seed 1 = .ok (.iconst 2, 1) := by decide +kernel
theorem dX12_seed_2 : decode cX12_seed 2 = .ok (.iload_n 1, 1) := by decide +kernel
theorem dX12_seed_3 : decode cX12_seed 3 = .ok (.invokevirtual 185, 3) := by decide +kernel
theorem dX12_seed_6 : decode cX12_seed 6 = .ok (.ireturn, 1) := by decide +kernel
theorem dX12_thenAt_0 : decode cX12_thenAt 0 = .ok (.aload_n 0, 1) := by decide +kernel
theorem dX12_thenAt_1 : decode cX12_thenAt 1 = .ok (.invokevirtual 198, 3) := by decide +kernel
theorem dX12_thenAt_4 : decode cX12_thenAt 4 = .ok (.aload_n 0, 1) := by decide +kernel
theorem dX12_thenAt_5 : decode cX12_thenAt 5 = .ok (.iload_n 2, 1) := by decide +kernel
theorem dX12_thenAt_6 : decode cX12_thenAt 6 = .ok (.invokevirtual 188, 3) := by decide +kernel
theorem dX12_thenAt_9 : decode cX12_thenAt 9 = .ok (.aload_n 0, 1) := by decide +kernel
theorem dX12_thenAt_10 : decode cX12_thenAt 10 = .ok (.getfield 7, 3) := by decide +kernel
theorem dX12_thenAt_13 : decode cX12_thenAt 13 = .ok (.iload_n 1, 1) := by decide +kernel
theorem dX12_thenAt_14 : decode cX12_thenAt 14 = .ok (.iaload, 1) := by decide +kernel
theorem dX12_thenAt_15 : decode cX12_thenAt 15 = .ok (.istore_n 3, 1) := by decide +kernel
theorem dX12_thenAt_16 : decode cX12_thenAt 16 = .ok (.aload_n 0, 1) := by decide +kernel
theorem dX12_thenAt_17 : decode cX12_thenAt 17 = .ok (.invokevirtual 201, 3) := by decide +kernel
theorem dX12_thenAt_20 : decode cX12_thenAt 20 = .ok (.iload_n 3, 1) := by decide +kernel
theorem dX12_thenAt_21 : decode cX12_thenAt 21 = .ok (.ireturn, 1) := by decide +kernel
theorem dX12_then_0 : decode cX12_then 0 = .ok (.iload_n 1, 1) := by decide +kernel
theorem dX12_then_1 : decode cX12_then 1 = .ok (.invokestatic 173, 3) := by decide +kernel
theorem dX12_then_4 : decode cX12_then 4 = .ok (.ifCond .eq 25, 3) := by decide +kernel
theorem dX12_then_7 : decode cX12_then 7 = .ok (.iload_n 2, 1) := by decide +kernel
theorem dX12_then_8 : decode cX12_then 8 = .ok (.iconst 0, 1) := by decide +kernel
theorem dX12_then_9 : decode cX12_then 9 = .ok (.bipush 60, 2) := by decide +kernel
theorem dX12_then_11 : decode cX12_then 11 = .ok (.invokestatic 47, 3) := by decide +kernel
theorem dX12_then_14 : decode cX12_then 14 = .ok (.ifCond .eq 15, 3) := by decide +kernel
theorem dX12_then_17 : decode cX12_then 17 = .ok (.aload_n 0, 1) := by decide +kernel
theorem dX12_then_18 : decode cX12_then 18 = .ok (.bipush 28, 2) := by decide +kernel
theorem dX12_then_20 : decode cX12_then 20 = .ok (.iload_n 1, 1) := by decide +kernel
theorem dX12_then_21 : decode cX12_then 21 = .ok (.iadd, 1) := by decide +kernel
theorem dX12_then_22 : decode cX12_then 22 = .ok (.iload_n 2, 1) := by decide +kernel
theorem dX12_then_23 : decode cX12_then 23 = .ok (.invokevirtual 204, 3) := by decide +kernel
theorem dX12_then_26 : decode cX12_then 26 = .ok (.goto 8, 3) := by decide +kernel
theorem dX12_then_29 : decode cX12_then 29 = .ok (.aload_n 0, 1) := by decide +kernel
theorem dX12_then_30 : decode cX12_then 30 = .ok (.iconst 1, 1) := by decide +kernel
theorem dX12_then_31 : decode cX12_then 31 = .ok (.invokevirtual 51, 3) := by decide +kernel
theorem dX12_then_34 : decode cX12_then 34 = .ok (.ireturn, 1) := by decide +kernel
theorem dX12_learns_0 : decode cX12_learns 0 = .ok (.aload_n 0, 1) := by decide +kernel
theorem dX12_learns_1 : decode cX12_learns 1 = .ok (.iload_n 1, 1) := by decide +kernel
theorem dX12_learns_2 : decode cX12_learns 2 = .ok (.invokevirtual 176, 3) := by decide +kernel
theorem dX12_learns_5 : decode cX12_learns 5 = .ok (.ifCond .eq 29, 3) := by decide +kernel
theorem dX12_learns_8 : decode cX12_learns 8 = .ok (.iload_n 2, 1) := by decide +kernel
theorem dX12_learns_9 : decode cX12_learns 9 = .ok (.iconst 0, 1) := by decide +kernel
theorem dX12_learns_10 : decode cX12_learns 10 = .ok (.bipush 60, 2) := by decide +kernel
theorem dX12_learns_12 : decode cX12_learns 12 = .ok (.invokestatic 47, 3) := by decide +kernel
theorem dX12_learns_15 : decode cX12_learns 15 = .ok (.ifCond .eq 19, 3) := by decide +kernel
theorem dX12_learns_18 : decode cX12_learns 18 = .ok (.aload_n 0, 1) := by decide +kernel
theorem dX12_learns_19 : decode cX12_learns 19 = .ok (.bipush 76, 2) := by decide +kernel
theorem dX12_learns_21 : decode cX12_learns 21 = .ok (.iconst 5, 1) := by decide +kernel
theorem dX12_learns_22 : decode cX12_learns 22 = .ok (.iload_n 1, 1) := by decide +kernel
theorem dX12_learns_23 : decode cX12_learns 23 = .ok (.imul, 1) := by decide +kernel
theorem dX12_learns_24 : decode cX12_learns 24 = .ok (.iadd, 1) := by decide +kernel
theorem dX12_learns_25 : decode cX12_learns 25 = .ok (.iconst 4, 1) := by decide +kernel
theorem dX12_learns_26 : decode cX12_learns 26 = .ok (.iadd, 1) := by decide +kernel
theorem dX12_learns_27 : decode cX12_learns 27 = .ok (.iload_n 2, 1) := by decide +kernel
theorem dX12_learns_28 : decode cX12_learns 28 = .ok (.invokevirtual 204, 3) := by decide +kernel
theorem dX12_learns_31 : decode cX12_learns 31 = .ok (.goto 8, 3) := by decide +kernel
theorem dX12_learns_34 : decode cX12_learns 34 = .ok (.aload_n 0, 1) := by decide +kernel
theorem dX12_learns_35 : decode cX12_learns 35 = .ok (.iconst 1, 1) := by decide +kernel
theorem dX12_learns_36 : decode cX12_learns 36 = .ok (.invokevirtual 51, 3) := by decide +kernel
theorem dX12_learns_39 : decode cX12_learns 39 = .ok (.ireturn, 1) := by decide +kernel
theorem dX12_soonest_0 : decode cX12_soonest 0 = .ok (.iload_n 1, 1) := by decide +kernel
theorem dX12_soonest_1 : decode cX12_soonest 1 = .ok (.iconst 0, 1) := by decide +kernel
theorem dX12_soonest_2 : decode cX12_soonest 2 = .ok (.bipush 11, 2) := by decide +kernel
theorem dX12_soonest_4 : decode cX12_soonest 4 = .ok (.invokestatic 47, 3) := by decide +kernel
theorem dX12_soonest_7 : decode cX12_soonest 7 = .ok (.ifCond .ne 9, 3) := by decide +kernel
theorem dX12_soonest_10 : decode cX12_soonest 10 = .ok (.aload_n 0, 1) := by decide +kernel
theorem dX12_soonest_11 : decode cX12_soonest 11 = .ok (.iconst 1, 1) := by decide +kernel
theorem dX12_soonest_12 : decode cX12_soonest 12 = .ok (.invokevirtual 51, 3) := by decide +kernel
theorem dX12_soonest_15 : decode cX12_soonest 15 = .ok (.ireturn, 1) := by decide +kernel
theorem dX12_soonest_16 : decode cX12_soonest 16 = .ok (.aload_n 0, 1) := by decide +kernel
theorem dX12_soonest_17 : decode cX12_soonest 17 = .ok (.invokevirtual 198, 3) := by decide +kernel
theorem dX12_soonest_20 : decode cX12_soonest 20 = .ok (.iconst 0, 1) := by decide +kernel
theorem dX12_soonest_21 : decode cX12_soonest 21 = .ok (.istore_n 2, 1) := by decide +kernel
theorem dX12_soonest_22 : decode cX12_soonest 22 = .ok (.iload_n 2, 1) := by decide +kernel
theorem dX12_soonest_23 : decode cX12_soonest 23 = .ok (.bipush 60, 2) := by decide +kernel
theorem dX12_soonest_25 : decode cX12_soonest 25 = .ok (.if_icmp .gt 24, 3) := by decide +kernel
theorem dX12_soonest_28 : decode cX12_soonest 28 = .ok (.aload_n 0, 1) := by decide +kernel
theorem dX12_soonest_29 : decode cX12_soonest 29 = .ok (.invokevirtual 191, 3) := by decide +kernel
theorem dX12_soonest_32 : decode cX12_soonest 32 = .ok (.iload_n 1, 1) := by decide +kernel
theorem dX12_soonest_33 : decode cX12_soonest 33 = .ok (.ishr, 1) := by decide +kernel
theorem dX12_soonest_34 : decode cX12_soonest 34 = .ok (.iconst 1, 1) := by decide +kernel
theorem dX12_soonest_35 : decode cX12_soonest 35 = .ok (.iand, 1) := by decide +kernel
theorem dX12_soonest_36 : decode cX12_soonest 36 = .ok (.ifCond .ne 13, 3) := by decide +kernel
theorem dX12_soonest_39 : decode cX12_soonest 39 = .ok (.aload_n 0, 1) := by decide +kernel
theorem dX12_soonest_40 : decode cX12_soonest 40 = .ok (.invokevirtual 167, 3) := by decide +kernel
theorem dX12_soonest_43 : decode cX12_soonest 43 = .ok (.iinc 2 1, 3) := by decide +kernel
theorem dX12_soonest_46 : decode cX12_soonest 46 = .ok (.goto (-24), 3) := by decide +kernel
theorem dX12_soonest_49 : decode cX12_soonest 49 = .ok (.aload_n 0, 1) := by decide +kernel
theorem dX12_soonest_50 : decode cX12_soonest 50 = .ok (.invokevirtual 201, 3) := by decide +kernel
theorem dX12_soonest_53 : decode cX12_soonest 53 = .ok (.iload_n 2, 1) := by decide +kernel
theorem dX12_soonest_54 : decode cX12_soonest 54 = .ok (.bipush 60, 2) := by decide +kernel
theorem dX12_soonest_56 : decode cX12_soonest 56 = .ok (.if_icmp .le 11, 3) := by decide +kernel
theorem dX12_soonest_59 : decode cX12_soonest 59 = .ok (.aload_n 0, 1) := by decide +kernel
theorem dX12_soonest_60 : decode cX12_soonest 60 = .ok (.iconst 2, 1) := by decide +kernel
theorem dX12_soonest_61 : decode cX12_soonest 61 = .ok (.invokevirtual 51, 3) := by decide +kernel
theorem dX12_soonest_64 : decode cX12_soonest 64 = .ok (.goto 4, 3) := by decide +kernel
theorem dX12_soonest_67 : decode cX12_soonest 67 = .ok (.iload_n 2, 1) := by decide +kernel
theorem dX12_soonest_68 : decode cX12_soonest 68 = .ok (.ireturn, 1) := by decide +kernel
theorem dX12_stiltsFor_0 : decode cX12_stiltsFor 0 = .ok (.aload_n 0, 1) := by decide +kernel
theorem dX12_stiltsFor_1 : decode cX12_stiltsFor 1 = .ok (.iload_n 1, 1) := by decide +kernel
theorem dX12_stiltsFor_2 : decode cX12_stiltsFor 2 = .ok (.invokevirtual 176, 3) := by decide +kernel
theorem dX12_stiltsFor_5 : decode cX12_stiltsFor 5 = .ok (.ifCond .eq 13, 3) := by decide +kernel
theorem dX12_stiltsFor_8 : decode cX12_stiltsFor 8 = .ok (.iload_n 2, 1) := by decide +kernel
theorem dX12_stiltsFor_9 : decode cX12_stiltsFor 9 = .ok (.iconst 0, 1) := by decide +kernel
theorem dX12_stiltsFor_10 : decode cX12_stiltsFor 10 = .ok (.bipush 40, 2) := by decide +kernel
theorem dX12_stiltsFor_12 : decode cX12_stiltsFor 12 = .ok (.invokestatic 47, 3) := by decide +kernel
theorem dX12_stiltsFor_15 : decode cX12_stiltsFor 15 = .ok (.ifCond .ne 9, 3) := by decide +kernel
theorem dX12_stiltsFor_18 : decode cX12_stiltsFor 18 = .ok (.aload_n 0, 1) := by decide +kernel
theorem dX12_stiltsFor_19 : decode cX12_stiltsFor 19 = .ok (.iconst 1, 1) := by decide +kernel
theorem dX12_stiltsFor_20 : decode cX12_stiltsFor 20 = .ok (.invokevirtual 51, 3) := by decide +kernel
theorem dX12_stiltsFor_23 : decode cX12_stiltsFor 23 = .ok (.ireturn, 1) := by decide +kernel
theorem dX12_stiltsFor_24 : decode cX12_stiltsFor 24 = .ok (.aload_n 0, 1) := by decide +kernel
theorem dX12_stiltsFor_25 : decode cX12_stiltsFor 25 = .ok (.iload_n 1, 1) := by decide +kernel
theorem dX12_stiltsFor_26 : decode cX12_stiltsFor 26 = .ok (.iconst 4, 1) := by decide +kernel
theorem dX12_stiltsFor_27 : decode cX12_stiltsFor 27 = .ok (.invokevirtual 111, 3) := by decide +kernel
theorem dX12_stiltsFor_30 : decode cX12_stiltsFor 30 = .ok (.istore_n 3, 1) := by decide +kernel
theorem dX12_stiltsFor_31 : decode cX12_stiltsFor 31 = .ok (.aload_n 0, 1) := by decide +kernel
theorem dX12_stiltsFor_32 : decode cX12_stiltsFor 32 = .ok (.invokevirtual 198, 3) := by decide +kernel
theorem dX12_stiltsFor_35 : decode cX12_stiltsFor 35 = .ok (.iconst 0, 1) := by decide +kernel
theorem dX12_stiltsFor_36 : decode cX12_stiltsFor 36 = .ok (.istore 4, 2) := by decide +kernel
theorem dX12_stiltsFor_38 : decode cX12_stiltsFor 38 = .ok (.iload 4, 2) := by decide +kernel
theorem dX12_stiltsFor_40 : decode cX12_stiltsFor 40 = .ok (.bipush 20, 2) := by decide +kernel
theorem dX12_stiltsFor_42 : decode cX12_stiltsFor 42 = .ok (.if_icmp .gt 51, 3) := by decide +kernel
theorem dX12_stiltsFor_45 : decode cX12_stiltsFor 45 = .ok (.aload_n 0, 1) := by decide +kernel
theorem dX12_stiltsFor_46 : decode cX12_stiltsFor 46 = .ok (.iload_n 1, 1) := by decide +kernel
theorem dX12_stiltsFor_47 : decode cX12_stiltsFor 47 = .ok (.iconst 3, 1) := by decide +kernel
theorem dX12_stiltsFor_48 : decode cX12_stiltsFor 48 = .ok (.iload 4, 2) := by decide +kernel
theorem dX12_stiltsFor_50 : decode cX12_stiltsFor 50 = .ok (.invokevirtual 147, 3) := by decide +kernel
theorem dX12_stiltsFor_53 : decode cX12_stiltsFor 53 = .ok (.aload_n 0, 1) := by decide +kernel
theorem dX12_stiltsFor_54 : decode cX12_stiltsFor 54 = .ok (.iload_n 2, 1) := by decide +kernel
theorem dX12_stiltsFor_55 : decode cX12_stiltsFor 55 = .ok (.invokevirtual 188, 3) := by decide +kernel
theorem dX12_stiltsFor_58 : decode cX12_stiltsFor 58 = .ok (.aload_n 0, 1) := by decide +kernel
theorem dX12_stiltsFor_59 : decode cX12_stiltsFor 59 = .ok (.iload_n 1, 1) := by decide +kernel
theorem dX12_stiltsFor_60 : decode cX12_stiltsFor 60 = .ok (.iconst 4, 1) := by decide +kernel
theorem dX12_stiltsFor_61 : decode cX12_stiltsFor 61 = .ok (.invokevirtual 111, 3) := by decide +kernel
theorem dX12_stiltsFor_64 : decode cX12_stiltsFor 64 = .ok (.iload_n 3, 1) := by decide +kernel
theorem dX12_stiltsFor_65 : decode cX12_stiltsFor 65 = .ok (.if_icmp .ne 7, 3) := by decide +kernel
theorem dX12_stiltsFor_68 : decode cX12_stiltsFor 68 = .ok (.iconst 1, 1) := by decide +kernel
theorem dX12_stiltsFor_69 : decode cX12_stiltsFor 69 = .ok (.goto 4, 3) := by decide +kernel
theorem dX12_stiltsFor_72 : decode cX12_stiltsFor 72 = .ok (.iconst 0, 1) := by decide +kernel
theorem dX12_stiltsFor_73 : decode cX12_stiltsFor 73 = .ok (.istore 5, 2) := by decide +kernel
theorem dX12_stiltsFor_75 : decode cX12_stiltsFor 75 = .ok (.aload_n 0, 1) := by decide +kernel
theorem dX12_stiltsFor_76 : decode cX12_stiltsFor 76 = .ok (.invokevirtual 201, 3) := by decide +kernel
theorem dX12_stiltsFor_79 : decode cX12_stiltsFor 79 = .ok (.iload 5, 2) := by decide +kernel
theorem dX12_stiltsFor_81 : decode cX12_stiltsFor 81 = .ok (.ifCond .eq 6, 3) := by decide +kernel
theorem dX12_stiltsFor_84 : decode cX12_stiltsFor 84 = .ok (.iload 4, 2) := by decide +kernel
theorem dX12_stiltsFor_86 : decode cX12_stiltsFor 86 = .ok (.ireturn, 1) := by decide +kernel
theorem dX12_stiltsFor_87 : decode cX12_stiltsFor 87 = .ok (.iinc 4 1, 3) := by decide +kernel
theorem dX12_stiltsFor_90 : decode cX12_stiltsFor 90 = .ok (.goto (-52), 3) := by decide +kernel
theorem dX12_stiltsFor_93 : decode cX12_stiltsFor 93 = .ok (.aload_n 0, 1) := by decide +kernel
theorem dX12_stiltsFor_94 : decode cX12_stiltsFor 94 = .ok (.iconst 2, 1) := by decide +kernel
theorem dX12_stiltsFor_95 : decode cX12_stiltsFor 95 = .ok (.invokevirtual 51, 3) := by decide +kernel
theorem dX12_stiltsFor_98 : decode cX12_stiltsFor 98 = .ok (.ireturn, 1) := by decide +kernel
theorem dX12_wallFor_0 : decode cX12_wallFor 0 = .ok (.iload_n 1, 1) := by decide +kernel
theorem dX12_wallFor_1 : decode cX12_wallFor 1 = .ok (.invokestatic 173, 3) := by decide +kernel
theorem dX12_wallFor_4 : decode cX12_wallFor 4 = .ok (.ifCond .eq 22, 3) := by decide +kernel
theorem dX12_wallFor_7 : decode cX12_wallFor 7 = .ok (.iload_n 2, 1) := by decide +kernel
theorem dX12_wallFor_8 : decode cX12_wallFor 8 = .ok (.iconst 0, 1) := by decide +kernel
theorem dX12_wallFor_9 : decode cX12_wallFor 9 = .ok (.bipush 40, 2) := by decide +kernel
theorem dX12_wallFor_11 : decode cX12_wallFor 11 = .ok (.invokestatic 47, 3) := by decide +kernel
theorem dX12_wallFor_14 : decode cX12_wallFor 14 = .ok (.ifCond .eq 12, 3) := by decide +kernel
theorem dX12_wallFor_17 : decode cX12_wallFor 17 = .ok (.iload_n 3, 1) := by decide +kernel
theorem dX12_wallFor_18 : decode cX12_wallFor 18 = .ok (.iconst 0, 1) := by decide +kernel
theorem dX12_wallFor_19 : decode cX12_wallFor 19 = .ok (.iconst 1, 1) := by decide +kernel
theorem dX12_wallFor_20 : decode cX12_wallFor 20 = .ok (.invokestatic 47, 3) := by decide +kernel
theorem dX12_wallFor_23 : decode cX12_wallFor 23 = .ok (.ifCond .ne 9, 3) := by decide +kernel
theorem dX12_wallFor_26 : decode cX12_wallFor 26 = .ok (.aload_n 0, 1) := by decide +kernel
theorem dX12_wallFor_27 : decode cX12_wallFor 27 = .ok (.iconst 1, 1) := by decide +kernel
theorem dX12_wallFor_28 : decode cX12_wallFor 28 = .ok (.invokevirtual 51, 3) := by decide +kernel
theorem dX12_wallFor_31 : decode cX12_wallFor 31 = .ok (.ireturn, 1) := by decide +kernel
theorem dX12_wallFor_32 : decode cX12_wallFor 32 = .ok (.aload_n 0, 1) := by decide +kernel
theorem dX12_wallFor_33 : decode cX12_wallFor 33 = .ok (.invokevirtual 198, 3) := by decide +kernel
theorem dX12_wallFor_36 : decode cX12_wallFor 36 = .ok (.aload_n 0, 1) := by decide +kernel
theorem dX12_wallFor_37 : decode cX12_wallFor 37 = .ok (.iload_n 2, 1) := by decide +kernel
theorem dX12_wallFor_38 : decode cX12_wallFor 38 = .ok (.invokevirtual 188, 3) := by decide +kernel
theorem dX12_wallFor_41 : decode cX12_wallFor 41 = .ok (.aload_n 0, 1) := by decide +kernel
theorem dX12_wallFor_42 : decode cX12_wallFor 42 = .ok (.getfield 7, 3) := by decide +kernel
theorem dX12_wallFor_45 : decode cX12_wallFor 45 = .ok (.bipush 28, 2) := by decide +kernel
theorem dX12_wallFor_47 : decode cX12_wallFor 47 = .ok (.iload_n 1, 1) := by decide +kernel
theorem dX12_wallFor_48 : decode cX12_wallFor 48 = .ok (.iadd, 1) := by decide +kernel
theorem dX12_wallFor_49 : decode cX12_wallFor 49 = .ok (.iaload, 1) := by decide +kernel
theorem dX12_wallFor_50 : decode cX12_wallFor 50 = .ok (.istore 4, 2) := by decide +kernel
theorem dX12_wallFor_52 : decode cX12_wallFor 52 = .ok (.aload_n 0, 1) := by decide +kernel
theorem dX12_wallFor_53 : decode cX12_wallFor 53 = .ok (.invokevirtual 201, 3) := by decide +kernel
theorem dX12_wallFor_56 : decode cX12_wallFor 56 = .ok (.iconst (-1), 1) := by decide +kernel
theorem dX12_wallFor_57 : decode cX12_wallFor 57 = .ok (.istore 5, 2) := by decide +kernel
theorem dX12_wallFor_59 : decode cX12_wallFor 59 = .ok (.iconst 0, 1) := by decide +kernel
theorem dX12_wallFor_60 : decode cX12_wallFor 60 = .ok (.istore 6, 2) := by decide +kernel
theorem dX12_wallFor_62 : decode cX12_wallFor 62 = .ok (.iload 6, 2) := by decide +kernel
theorem dX12_wallFor_64 : decode cX12_wallFor 64 = .ok (.bipush 16, 2) := by decide +kernel
theorem dX12_wallFor_66 : decode cX12_wallFor 66 = .ok (.if_icmp .ge 72, 3) := by decide +kernel
theorem dX12_wallFor_69 : decode cX12_wallFor 69 = .ok (.aload_n 0, 1) := by decide +kernel
theorem dX12_wallFor_70 : decode cX12_wallFor 70 = .ok (.getfield 7, 3) := by decide +kernel
theorem dX12_wallFor_73 : decode cX12_wallFor 73 = .ok (.bipush 44, 2) := by decide +kernel
theorem dX12_wallFor_75 : decode cX12_wallFor 75 = .ok (.iload 6, 2) := by decide +kernel
theorem dX12_wallFor_77 : decode cX12_wallFor 77 = .ok (.iadd, 1) := by decide +kernel
theorem dX12_wallFor_78 : decode cX12_wallFor 78 = .ok (.iconst 1, 1) := by decide +kernel
theorem dX12_wallFor_79 : decode cX12_wallFor 79 = .ok (.iastore, 1) := by decide +kernel
theorem dX12_wallFor_80 : decode cX12_wallFor 80 = .ok (.aload_n 0, 1) := by decide +kernel
theorem dX12_wallFor_81 : decode cX12_wallFor 81 = .ok (.iload_n 2, 1) := by decide +kernel
theorem dX12_wallFor_82 : decode cX12_wallFor 82 = .ok (.invokevirtual 188, 3) := by decide +kernel
theorem dX12_wallFor_85 : decode cX12_wallFor 85 = .ok (.aload_n 0, 1) := by decide +kernel
theorem dX12_wallFor_86 : decode cX12_wallFor 86 = .ok (.getfield 7, 3) := by decide +kernel
theorem dX12_wallFor_89 : decode cX12_wallFor 89 = .ok (.bipush 28, 2) := by decide +kernel
theorem dX12_wallFor_91 : decode cX12_wallFor 91 = .ok (.iload_n 1, 1) := by decide +kernel
theorem dX12_wallFor_92 : decode cX12_wallFor 92 = .ok (.iadd, 1) := by decide +kernel
theorem dX12_wallFor_93 : decode cX12_wallFor 93 = .ok (.iaload, 1) := by decide +kernel
theorem dX12_wallFor_94 : decode cX12_wallFor 94 = .ok (.istore 7, 2) := by decide +kernel
theorem dX12_wallFor_96 : decode cX12_wallFor 96 = .ok (.aload_n 0, 1) := by decide +kernel
theorem dX12_wallFor_97 : decode cX12_wallFor 97 = .ok (.invokevirtual 201, 3) := by decide +kernel
theorem dX12_wallFor_100 : decode cX12_wallFor 100 = .ok (.iload 7, 2) := by decide +kernel
theorem dX12_wallFor_102 : decode cX12_wallFor 102 = .ok (.iload 4, 2) := by decide +kernel
theorem dX12_wallFor_104 : decode cX12_wallFor 104 = .ok (.if_icmp .ge 8, 3) := by decide +kernel
theorem dX12_wallFor_107 : decode cX12_wallFor 107 = .ok (.iload 6, 2) := by decide +kernel
theorem dX12_wallFor_109 : decode cX12_wallFor 109 = .ok (.goto 5, 3) := by decide +kernel
theorem dX12_wallFor_112 : decode cX12_wallFor 112 = .ok (.iload 5, 2) := by decide +kernel
theorem dX12_wallFor_114 : decode cX12_wallFor 114 = .ok (.istore 5, 2) := by decide +kernel
theorem dX12_wallFor_116 : decode cX12_wallFor 116 = .ok (.iload 7, 2) := by decide +kernel
theorem dX12_wallFor_118 : decode cX12_wallFor 118 = .ok (.iload 4, 2) := by decide +kernel
theorem dX12_wallFor_120 : decode cX12_wallFor 120 = .ok (.if_icmp .ge 8, 3) := by decide +kernel
theorem dX12_wallFor_123 : decode cX12_wallFor 123 = .ok (.iload 7, 2) := by decide +kernel
theorem dX12_wallFor_125 : decode cX12_wallFor 125 = .ok (.goto 5, 3) := by decide +kernel
theorem dX12_wallFor_128 : decode cX12_wallFor 128 = .ok (.iload 4, 2) := by decide +kernel
theorem dX12_wallFor_130 : decode cX12_wallFor 130 = .ok (.istore 4, 2) := by decide +kernel
theorem dX12_wallFor_132 : decode cX12_wallFor 132 = .ok (.iinc 6 1, 3) := by decide +kernel
theorem dX12_wallFor_135 : decode cX12_wallFor 135 = .ok (.goto (-73), 3) := by decide +kernel
theorem dX12_wallFor_138 : decode cX12_wallFor 138 = .ok (.iload 5, 2) := by decide +kernel
theorem dX12_wallFor_140 : decode cX12_wallFor 140 = .ok (.ifCond .ge 11, 3) := by decide +kernel
theorem dX12_wallFor_143 : decode cX12_wallFor 143 = .ok (.aload_n 0, 1) := by decide +kernel
theorem dX12_wallFor_144 : decode cX12_wallFor 144 = .ok (.iconst 2, 1) := by decide +kernel
theorem dX12_wallFor_145 : decode cX12_wallFor 145 = .ok (.invokevirtual 51, 3) := by decide +kernel
theorem dX12_wallFor_148 : decode cX12_wallFor 148 = .ok (.goto 14, 3) := by decide +kernel
theorem dX12_wallFor_151 : decode cX12_wallFor 151 = .ok (.iload_n 3, 1) := by decide +kernel
theorem dX12_wallFor_152 : decode cX12_wallFor 152 = .ok (.ifCond .ne 8, 3) := by decide +kernel
theorem dX12_wallFor_155 : decode cX12_wallFor 155 = .ok (.iload 5, 2) := by decide +kernel
theorem dX12_wallFor_157 : decode cX12_wallFor 157 = .ok (.goto 5, 3) := by decide +kernel
theorem dX12_wallFor_160 : decode cX12_wallFor 160 = .ok (.iload 4, 2) := by decide +kernel
theorem dX12_wallFor_162 : decode cX12_wallFor 162 = .ok (.ireturn, 1) := by decide +kernel
theorem dX12_springFor_0 : decode cX12_springFor 0 = .ok (.iload_n 1, 1) := by decide +kernel
theorem dX12_springFor_1 : decode cX12_springFor 1 = .ok (.iconst 0, 1) := by decide +kernel
theorem dX12_springFor_2 : decode cX12_springFor 2 = .ok (.bipush 40, 2) := by decide +kernel
theorem dX12_springFor_4 : decode cX12_springFor 4 = .ok (.invokestatic 47, 3) := by decide +kernel
theorem dX12_springFor_7 : decode cX12_springFor 7 = .ok (.ifCond .eq 12, 3) := by decide +kernel
theorem dX12_springFor_10 : decode cX12_springFor 10 = .ok (.iload_n 2, 1) := by decide +kernel
theorem dX12_springFor_11 : decode cX12_springFor 11 = .ok (.iconst 0, 1) := by decide +kernel
theorem dX12_springFor_12 : decode cX12_springFor 12 = .ok (.iconst 1, 1) := by decide +kernel
theorem dX12_springFor_13 : decode cX12_springFor 13 = .ok (.invokestatic 47, 3) := by decide +kernel
theorem dX12_springFor_16 : decode cX12_springFor 16 = .ok (.ifCond .ne 9, 3) := by decide +kernel
theorem dX12_springFor_19 : decode cX12_springFor 19 = .ok (.aload_n 0, 1) := by decide +kernel
theorem dX12_springFor_20 : decode cX12_springFor 20 = .ok (.iconst 1, 1) := by decide +kernel
theorem dX12_springFor_21 : decode cX12_springFor 21 = .ok (.invokevirtual 51, 3) := by decide +kernel
theorem dX12_springFor_24 : decode cX12_springFor 24 = .ok (.ireturn, 1) := by decide +kernel
theorem dX12_springFor_25 : decode cX12_springFor 25 = .ok (.aload_n 0, 1) := by decide +kernel
theorem dX12_springFor_26 : decode cX12_springFor 26 = .ok (.invokevirtual 198, 3) := by decide +kernel
theorem dX12_springFor_29 : decode cX12_springFor 29 = .ok (.iconst 0, 1) := by decide +kernel
theorem dX12_springFor_30 : decode cX12_springFor 30 = .ok (.istore_n 3, 1) := by decide +kernel
theorem dX12_springFor_31 : decode cX12_springFor 31 = .ok (.bipush 13, 2) := by decide +kernel
theorem dX12_springFor_33 : decode cX12_springFor 33 = .ok (.istore 4, 2) := by decide +kernel
theorem dX12_springFor_35 : decode cX12_springFor 35 = .ok (.iconst 0, 1) := by decide +kernel
theorem dX12_springFor_36 : decode cX12_springFor 36 = .ok (.istore 5, 2) := by decide +kernel
theorem dX12_springFor_38 : decode cX12_springFor 38 = .ok (.iload 5, 2) := by decide +kernel
theorem dX12_springFor_40 : decode cX12_springFor 40 = .ok (.bipush 16, 2) := by decide +kernel
theorem dX12_springFor_42 : decode cX12_springFor 42 = .ok (.if_icmp .ge 65, 3) := by decide +kernel
theorem dX12_springFor_45 : decode cX12_springFor 45 = .ok (.aload_n 0, 1) := by decide +kernel
theorem dX12_springFor_46 : decode cX12_springFor 46 = .ok (.getfield 7, 3) := by decide +kernel
theorem dX12_springFor_49 : decode cX12_springFor 49 = .ok (.iconst 1, 1) := by decide +kernel
theorem dX12_springFor_50 : decode cX12_springFor 50 = .ok (.iload 5, 2) := by decide +kernel
theorem dX12_springFor_52 : decode cX12_springFor 52 = .ok (.iastore, 1) := by decide +kernel
theorem dX12_springFor_53 : decode cX12_springFor 53 = .ok (.aload_n 0, 1) := by decide +kernel
theorem dX12_springFor_54 : decode cX12_springFor 54 = .ok (.iload_n 1, 1) := by decide +kernel
theorem dX12_springFor_55 : decode cX12_springFor 55 = .ok (.invokevirtual 188, 3) := by decide +kernel
theorem dX12_springFor_58 : decode cX12_springFor 58 = .ok (.aload_n 0, 1) := by decide +kernel
theorem dX12_springFor_59 : decode cX12_springFor 59 = .ok (.invokevirtual 191, 3) := by decide +kernel
theorem dX12_springFor_62 : decode cX12_springFor 62 = .ok (.invokestatic 115, 3) := by decide +kernel
theorem dX12_springFor_65 : decode cX12_springFor 65 = .ok (.istore 6, 2) := by decide +kernel
theorem dX12_springFor_67 : decode cX12_springFor 67 = .ok (.aload_n 0, 1) := by decide +kernel
theorem dX12_springFor_68 : decode cX12_springFor 68 = .ok (.invokevirtual 201, 3) := by decide +kernel
theorem dX12_springFor_71 : decode cX12_springFor 71 = .ok (.iload 6, 2) := by decide +kernel
theorem dX12_springFor_73 : decode cX12_springFor 73 = .ok (.iload 4, 2) := by decide +kernel
theorem dX12_springFor_75 : decode cX12_springFor 75 = .ok (.if_icmp .ge 8, 3) := by decide +kernel
theorem dX12_springFor_78 : decode cX12_springFor 78 = .ok (.iload 5, 2) := by decide +kernel
theorem dX12_springFor_80 : decode cX12_springFor 80 = .ok (.goto 4, 3) := by decide +kernel
theorem dX12_springFor_83 : decode cX12_springFor 83 = .ok (.iload_n 3, 1) := by decide +kernel
theorem dX12_springFor_84 : decode cX12_springFor 84 = .ok (.istore_n 3, 1) := by decide +kernel
theorem dX12_springFor_85 : decode cX12_springFor 85 = .ok (.iload 6, 2) := by decide +kernel
theorem dX12_springFor_87 : decode cX12_springFor 87 = .ok (.iload 4, 2) := by decide +kernel
theorem dX12_springFor_89 : decode cX12_springFor 89 = .ok (.if_icmp .ge 8, 3) := by decide +kernel
theorem dX12_springFor_92 : decode cX12_springFor 92 = .ok (.iload 6, 2) := by decide +kernel
theorem dX12_springFor_94 : decode cX12_springFor 94 = .ok (.goto 5, 3) := by decide +kernel
theorem dX12_springFor_97 : decode cX12_springFor 97 = .ok (.iload 4, 2) := by decide +kernel
theorem dX12_springFor_99 : decode cX12_springFor 99 = .ok (.istore 4, 2) := by decide +kernel
theorem dX12_springFor_101 : decode cX12_springFor 101 = .ok (.iinc 5 1, 3) := by decide +kernel
theorem dX12_springFor_104 : decode cX12_springFor 104 = .ok (.goto (-66), 3) := by decide +kernel
theorem dX12_springFor_107 : decode cX12_springFor 107 = .ok (.iload_n 2, 1) := by decide +kernel
theorem dX12_springFor_108 : decode cX12_springFor 108 = .ok (.ifCond .ne 7, 3) := by decide +kernel
theorem dX12_springFor_111 : decode cX12_springFor 111 = .ok (.iload_n 3, 1) := by decide +kernel
theorem dX12_springFor_112 : decode cX12_springFor 112 = .ok (.goto 5, 3) := by decide +kernel
theorem dX12_springFor_115 : decode cX12_springFor 115 = .ok (.iload 4, 2) := by decide +kernel
theorem dX12_springFor_117 : decode cX12_springFor 117 = .ok (.ireturn, 1) := by decide +kernel
theorem dX12_walk_0 : decode cX12_walk 0 = .ok (.aload_n 0, 1) := by decide +kernel
theorem dX12_walk_1 : decode cX12_walk 1 = .ok (.iload_n 1, 1) := by decide +kernel
theorem dX12_walk_2 : decode cX12_walk 2 = .ok (.invokevirtual 176, 3) := by decide +kernel
theorem dX12_walk_5 : decode cX12_walk 5 = .ok (.ifCond .eq 10, 3) := by decide +kernel
theorem dX12_walk_8 : decode cX12_walk 8 = .ok (.iload_n 2, 1) := by decide +kernel
theorem dX12_walk_9 : decode cX12_walk 9 = .ok (.invokestatic 173, 3) := by decide +kernel
theorem dX12_walk_12 : decode cX12_walk 12 = .ok (.ifCond .ne 9, 3) := by decide +kernel
theorem dX12_walk_15 : decode cX12_walk 15 = .ok (.aload_n 0, 1) := by decide +kernel
theorem dX12_walk_16 : decode cX12_walk 16 = .ok (.iconst 1, 1) := by decide +kernel
theorem dX12_walk_17 : decode cX12_walk 17 = .ok (.invokevirtual 51, 3) := by decide +kernel
theorem dX12_walk_20 : decode cX12_walk 20 = .ok (.ireturn, 1) := by decide +kernel
theorem dX12_walk_21 : decode cX12_walk 21 = .ok (.iconst 1, 1) := by decide +kernel
theorem dX12_walk_22 : decode cX12_walk 22 = .ok (.aload_n 0, 1) := by decide +kernel
theorem dX12_walk_23 : decode cX12_walk 23 = .ok (.iload_n 1, 1) := by decide +kernel
theorem dX12_walk_24 : decode cX12_walk 24 = .ok (.iconst 2, 1) := by decide +kernel
theorem dX12_walk_25 : decode cX12_walk 25 = .ok (.invokevirtual 111, 3) := by decide +kernel
theorem dX12_walk_28 : decode cX12_walk 28 = .ok (.ishl, 1) := by decide +kernel
theorem dX12_walk_29 : decode cX12_walk 29 = .ok (.istore_n 3, 1) := by decide +kernel
theorem dX12_walk_30 : decode cX12_walk 30 = .ok (.iconst 0, 1) := by decide +kernel
theorem dX12_walk_31 : decode cX12_walk 31 = .ok (.istore 4, 2) := by decide +kernel
theorem dX12_walk_33 : decode cX12_walk 33 = .ok (.iload 4, 2) := by decide +kernel
theorem dX12_walk_35 : decode cX12_walk 35 = .ok (.bipush 16, 2) := by decide +kernel
theorem dX12_walk_37 : decode cX12_walk 37 = .ok (.if_icmp .ge 121, 3) := by decide +kernel
theorem dX12_walk_40 : decode cX12_walk 40 = .ok (.iload_n 3, 1) := by decide +kernel
theorem dX12_walk_41 : decode cX12_walk 41 = .ok (.iload_n 2, 1) := by decide +kernel
theorem dX12_walk_42 : decode cX12_walk 42 = .ok (.ishr, 1) := by decide +kernel
theorem dX12_walk_43 : decode cX12_walk 43 = .ok (.iconst 1, 1) := by decide +kernel
theorem dX12_walk_44 : decode cX12_walk 44 = .ok (.iand, 1) := by decide +kernel
theorem dX12_walk_45 : decode cX12_walk 45 = .ok (.iconst 1, 1) := by decide +kernel
theorem dX12_walk_46 : decode cX12_walk 46 = .ok (.if_icmp .ne 6, 3) := by decide +kernel
theorem dX12_walk_49 : decode cX12_walk 49 = .ok (.iload 4, 2) := by decide +kernel
theorem dX12_walk_51 : decode cX12_walk 51 = .ok (.ireturn, 1) := by decide +kernel
theorem dX12_walk_52 : decode cX12_walk 52 = .ok (.iload_n 3, 1) := by decide +kernel
theorem dX12_walk_53 : decode cX12_walk 53 = .ok (.istore 5, 2) := by decide +kernel
theorem dX12_walk_55 : decode cX12_walk 55 = .ok (.iconst 0, 1) := by decide +kernel
theorem dX12_walk_56 : decode cX12_walk 56 = .ok (.istore 6, 2) := by decide +kernel
theorem dX12_walk_58 : decode cX12_walk 58 = .ok (.iload 6, 2) := by decide +kernel
theorem dX12_walk_60 : decode cX12_walk 60 = .ok (.sipush 256, 3) := by decide +kernel
theorem dX12_walk_63 : decode cX12_walk 63 = .ok (.if_icmp .ge 86, 3) := by decide +kernel
theorem dX12_walk_66 : decode cX12_walk 66 = .ok (.iload 6, 2) := by decide +kernel
theorem dX12_walk_68 : decode cX12_walk 68 = .ok (.bipush 16, 2) := by decide +kernel
theorem dX12_walk_70 : decode cX12_walk 70 = .ok (.irem, 1) := by decide +kernel
theorem dX12_walk_71 : decode cX12_walk 71 = .ok (.istore 7, 2) := by decide +kernel
theorem dX12_walk_73 : decode cX12_walk 73 = .ok (.iload_n 3, 1) := by decide +kernel
theorem dX12_walk_74 : decode cX12_walk 74 = .ok (.iload 6, 2) := by decide +kernel
theorem dX12_walk_76 : decode cX12_walk 76 = .ok (.bipush 16, 2) := by decide +kernel
theorem dX12_walk_78 : decode cX12_walk 78 = .ok (.idiv, 1) := by decide +kernel
theorem dX12_walk_79 : decode cX12_walk 79 = .ok (.ishr, 1) := by decide +kernel
theorem dX12_walk_80 : decode cX12_walk 80 = .ok (.iconst 1, 1) := by decide +kernel
theorem dX12_walk_81 : decode cX12_walk 81 = .ok (.iand, 1) := by decide +kernel
theorem dX12_walk_82 : decode cX12_walk 82 = .ok (.iconst 1, 1) := by decide +kernel
theorem dX12_walk_83 : decode cX12_walk 83 = .ok (.if_icmp .ne 39, 3) := by decide +kernel
theorem dX12_walk_86 : decode cX12_walk 86 = .ok (.iload 6, 2) := by decide +kernel
theorem dX12_walk_88 : decode cX12_walk 88 = .ok (.bipush 16, 2) := by decide +kernel
theorem dX12_walk_90 : decode cX12_walk 90 = .ok (.idiv, 1) := by decide +kernel
theorem dX12_walk_91 : decode cX12_walk 91 = .ok (.iload 7, 2) := by decide +kernel
theorem dX12_walk_93 : decode cX12_walk 93 = .ok (.invokestatic 140, 3) := by decide +kernel
theorem dX12_walk_96 : decode cX12_walk 96 = .ok (.ifCond .eq 26, 3) := by decide +kernel
theorem dX12_walk_99 : decode cX12_walk 99 = .ok (.aload_n 0, 1) := by decide +kernel
theorem dX12_walk_100 : decode cX12_walk 100 = .ok (.getfield 7, 3) := by decide +kernel
theorem dX12_walk_103 : decode cX12_walk 103 = .ok (.bipush 28, 2) := by decide +kernel
theorem dX12_walk_105 : decode cX12_walk 105 = .ok (.iload 7, 2) := by decide +kernel
theorem dX12_walk_107 : decode cX12_walk 107 = .ok (.iadd, 1) := by decide +kernel
theorem dX12_walk_108 : decode cX12_walk 108 = .ok (.iaload, 1) := by decide +kernel
theorem dX12_walk_109 : decode cX12_walk 109 = .ok (.aload_n 0, 1) := by decide +kernel
theorem dX12_walk_110 : decode cX12_walk 110 = .ok (.iload_n 1, 1) := by decide +kernel
theorem dX12_walk_111 : decode cX12_walk 111 = .ok (.iconst 3, 1) := by decide +kernel
theorem dX12_walk_112 : decode cX12_walk 112 = .ok (.invokevirtual 111, 3) := by decide +kernel
theorem dX12_walk_115 : decode cX12_walk 115 = .ok (.if_icmp .gt 7, 3) := by decide +kernel
theorem dX12_walk_118 : decode cX12_walk 118 = .ok (.iconst 1, 1) := by decide +kernel
theorem dX12_walk_119 : decode cX12_walk 119 = .ok (.goto 4, 3) := by decide +kernel
theorem dX12_walk_122 : decode cX12_walk 122 = .ok (.iconst 0, 1) := by decide +kernel
theorem dX12_walk_123 : decode cX12_walk 123 = .ok (.istore 8, 2) := by decide +kernel
theorem dX12_walk_125 : decode cX12_walk 125 = .ok (.iload 5, 2) := by decide +kernel
theorem dX12_walk_127 : decode cX12_walk 127 = .ok (.iload 8, 2) := by decide +kernel
theorem dX12_walk_129 : decode cX12_walk 129 = .ok (.ifCond .eq 10, 3) := by decide +kernel
theorem dX12_walk_132 : decode cX12_walk 132 = .ok (.iconst 1, 1) := by decide +kernel
theorem dX12_walk_133 : decode cX12_walk 133 = .ok (.iload 7, 2) := by decide +kernel
theorem dX12_walk_135 : decode cX12_walk 135 = .ok (.ishl, 1) := by decide +kernel
theorem dX12_walk_136 : decode cX12_walk 136 = .ok (.goto 4, 3) := by decide +kernel
theorem dX12_walk_139 : decode cX12_walk 139 = .ok (.iconst 0, 1) := by decide +kernel
theorem dX12_walk_140 : decode cX12_walk 140 = .ok (.ior, 1) := by decide +kernel
theorem dX12_walk_141 : decode cX12_walk 141 = .ok (.istore 5, 2) := by decide +kernel
theorem dX12_walk_143 : decode cX12_walk 143 = .ok (.iinc 6 1, 3) := by decide +kernel
theorem dX12_walk_146 : decode cX12_walk 146 = .ok (.goto (-88), 3) := by decide +kernel
theorem dX12_walk_149 : decode cX12_walk 149 = .ok (.iload 5, 2) := by decide +kernel
theorem dX12_walk_151 : decode cX12_walk 151 = .ok (.istore_n 3, 1) := by decide +kernel
theorem dX12_walk_152 : decode cX12_walk 152 = .ok (.iinc 4 1, 3) := by decide +kernel
theorem dX12_walk_155 : decode cX12_walk 155 = .ok (.goto (-122), 3) := by decide +kernel
theorem dX12_walk_158 : decode cX12_walk 158 = .ok (.aload_n 0, 1) := by decide +kernel
theorem dX12_walk_159 : decode cX12_walk 159 = .ok (.iconst 2, 1) := by decide +kernel
theorem dX12_walk_160 : decode cX12_walk 160 = .ok (.invokevirtual 51, 3) := by decide +kernel
theorem dX12_walk_163 : decode cX12_walk 163 = .ok (.ireturn, 1) := by decide +kernel
theorem dX12_council_0 : decode cX12_council 0 = .ok (.iload_n 1, 1) := by decide +kernel
theorem dX12_council_1 : decode cX12_council 1 = .ok (.iconst 0, 1) := by decide +kernel
theorem dX12_council_2 : decode cX12_council 2 = .ok (.sipush 4095, 3) := by decide +kernel
theorem dX12_council_5 : decode cX12_council 5 = .ok (.invokestatic 47, 3) := by decide +kernel
theorem dX12_council_8 : decode cX12_council 8 = .ok (.ifCond .ne 9, 3) := by decide +kernel
theorem dX12_council_11 : decode cX12_council 11 = .ok (.aload_n 0, 1) := by decide +kernel
theorem dX12_council_12 : decode cX12_council 12 = .ok (.iconst 1, 1) := by decide +kernel
theorem dX12_council_13 : decode cX12_council 13 = .ok (.invokevirtual 51, 3) := by decide +kernel
theorem dX12_council_16 : decode cX12_council 16 = .ok (.ireturn, 1) := by decide +kernel
theorem dX12_council_17 : decode cX12_council 17 = .ok (.iconst (-1), 1) := by decide +kernel
theorem dX12_council_18 : decode cX12_council 18 = .ok (.istore_n 2, 1) := by decide +kernel
theorem dX12_council_19 : decode cX12_council 19 = .ok (.iconst 0, 1) := by decide +kernel
theorem dX12_council_20 : decode cX12_council 20 = .ok (.istore_n 3, 1) := by decide +kernel
theorem dX12_council_21 : decode cX12_council 21 = .ok (.iload_n 3, 1) := by decide +kernel
theorem dX12_council_22 : decode cX12_council 22 = .ok (.iconst 1, 1) := by decide +kernel
theorem dX12_council_23 : decode cX12_council 23 = .ok (.aload_n 0, 1) := by decide +kernel
theorem dX12_council_24 : decode cX12_council 24 = .ok (.getfield 7, 3) := by decide +kernel
theorem dX12_council_27 : decode cX12_council 27 = .ok (.iconst 5, 1) := by decide +kernel
theorem dX12_council_28 : decode cX12_council 28 = .ok (.iaload, 1) := by decide +kernel
theorem dX12_council_29 : decode cX12_council 29 = .ok (.ishl, 1) := by decide +kernel
theorem dX12_council_30 : decode cX12_council 30 = .ok (.if_icmp .ge 100, 3) := by decide +kernel
theorem dX12_council_33 : decode cX12_council 33 = .ok (.iconst 0, 1) := by decide +kernel
theorem dX12_council_34 : decode cX12_council 34 = .ok (.istore 4, 2) := by decide +kernel
theorem dX12_council_36 : decode cX12_council 36 = .ok (.iconst 0, 1) := by decide +kernel
theorem dX12_council_37 : decode cX12_council 37 = .ok (.istore 5, 2) := by decide +kernel
theorem dX12_council_39 : decode cX12_council 39 = .ok (.iload 5, 2) := by decide +kernel
theorem dX12_council_41 : decode cX12_council 41 = .ok (.aload_n 0, 1) := by decide +kernel
theorem dX12_council_42 : decode cX12_council 42 = .ok (.getfield 7, 3) := by decide +kernel
theorem dX12_council_45 : decode cX12_council 45 = .ok (.iconst 5, 1) := by decide +kernel
theorem dX12_council_46 : decode cX12_council 46 = .ok (.iaload, 1) := by decide +kernel
theorem dX12_council_47 : decode cX12_council 47 = .ok (.if_icmp .ge 35, 3) := by decide +kernel
theorem dX12_council_50 : decode cX12_council 50 = .ok (.iload 4, 2) := by decide +kernel
theorem dX12_council_52 : decode cX12_council 52 = .ok (.iload_n 3, 1) := by decide +kernel
theorem dX12_council_53 : decode cX12_council 53 = .ok (.iload 5, 2) := by decide +kernel
theorem dX12_council_55 : decode cX12_council 55 = .ok (.ishr, 1) := by decide +kernel
theorem dX12_council_56 : decode cX12_council 56 = .ok (.iconst 1, 1) := by decide +kernel
theorem dX12_council_57 : decode cX12_council 57 = .ok (.iand, 1) := by decide +kernel
theorem dX12_council_58 : decode cX12_council 58 = .ok (.iconst 1, 1) := by decide +kernel
theorem dX12_council_59 : decode cX12_council 59 = .ok (.if_icmp .ne 13, 3) := by decide +kernel
theorem dX12_council_62 : decode cX12_council 62 = .ok (.aload_n 0, 1) := by decide +kernel
theorem dX12_council_63 : decode cX12_council 63 = .ok (.iload 5, 2) := by decide +kernel
theorem dX12_council_65 : decode cX12_council 65 = .ok (.iconst 4, 1) := by decide +kernel
theorem dX12_council_66 : decode cX12_council 66 = .ok (.invokevirtual 111, 3) := by decide +kernel
theorem dX12_council_69 : decode cX12_council 69 = .ok (.goto 4, 3) := by decide +kernel
theorem dX12_council_72 : decode cX12_council 72 = .ok (.iconst 0, 1) := by decide +kernel
theorem dX12_council_73 : decode cX12_council 73 = .ok (.ior, 1) := by decide +kernel
theorem dX12_council_74 : decode cX12_council 74 = .ok (.istore 4, 2) := by decide +kernel
theorem dX12_council_76 : decode cX12_council 76 = .ok (.iinc 5 1, 3) := by decide +kernel
theorem dX12_council_79 : decode cX12_council 79 = .ok (.goto (-40), 3) := by decide +kernel
theorem dX12_council_82 : decode cX12_council 82 = .ok (.iload_n 2, 1) := by decide +kernel
theorem dX12_council_83 : decode cX12_council 83 = .ok (.ifCond .lt 14, 3) := by decide +kernel
theorem dX12_council_86 : decode cX12_council 86 = .ok (.iload_n 3, 1) := by decide +kernel
theorem dX12_council_87 : decode cX12_council 87 = .ok (.invokestatic 115, 3) := by decide +kernel
theorem dX12_council_90 : decode cX12_council 90 = .ok (.iload_n 2, 1) := by decide +kernel
theorem dX12_council_91 : decode cX12_council 91 = .ok (.invokestatic 115, 3) := by decide +kernel
theorem dX12_council_94 : decode cX12_council 94 = .ok (.if_icmp .ge 7, 3) := by decide +kernel
theorem dX12_council_97 : decode cX12_council 97 = .ok (.iconst 1, 1) := by decide +kernel
theorem dX12_council_98 : decode cX12_council 98 = .ok (.goto 4, 3) := by decide +kernel
theorem dX12_council_101 : decode cX12_council 101 = .ok (.iconst 0, 1) := by decide +kernel
theorem dX12_council_102 : decode cX12_council 102 = .ok (.istore 5, 2) := by decide +kernel
theorem dX12_council_104 : decode cX12_council 104 = .ok (.iload 5, 2) := by decide +kernel
theorem dX12_council_106 : decode cX12_council 106 = .ok (.ifCond .eq 16, 3) := by decide +kernel
theorem dX12_council_109 : decode cX12_council 109 = .ok (.iload_n 1, 1) := by decide +kernel
theorem dX12_council_110 : decode cX12_council 110 = .ok (.iload 4, 2) := by decide +kernel
theorem dX12_council_112 : decode cX12_council 112 = .ok (.iconst (-1), 1) := by decide +kernel
theorem dX12_council_113 : decode cX12_council 113 = .ok (.ixor, 1) := by decide +kernel
theorem dX12_council_114 : decode cX12_council 114 = .ok (.iand, 1) := by decide +kernel
theorem dX12_council_115 : decode cX12_council 115 = .ok (.ifCond .ne 7, 3) := by decide +kernel
theorem dX12_council_118 : decode cX12_council 118 = .ok (.iload_n 3, 1) := by decide +kernel
theorem dX12_council_119 : decode cX12_council 119 = .ok (.goto 4, 3) := by decide +kernel
theorem dX12_council_122 : decode cX12_council 122 = .ok (.iload_n 2, 1) := by decide +kernel
theorem dX12_council_123 : decode cX12_council 123 = .ok (.istore_n 2, 1) := by decide +kernel
theorem dX12_council_124 : decode cX12_council 124 = .ok (.iinc 3 1, 3) := by decide +kernel
theorem dX12_council_127 : decode cX12_council 127 = .ok (.goto (-106), 3) := by decide +kernel
theorem dX12_council_130 : decode cX12_council 130 = .ok (.iload_n 2, 1) := by decide +kernel
theorem dX12_council_131 : decode cX12_council 131 = .ok (.ifCond .ge 11, 3) := by decide +kernel
theorem dX12_council_134 : decode cX12_council 134 = .ok (.aload_n 0, 1) := by decide +kernel
theorem dX12_council_135 : decode cX12_council 135 = .ok (.iconst 2, 1) := by decide +kernel
theorem dX12_council_136 : decode cX12_council 136 = .ok (.invokevirtual 51, 3) := by decide +kernel
theorem dX12_council_139 : decode cX12_council 139 = .ok (.goto 4, 3) := by decide +kernel
theorem dX12_council_142 : decode cX12_council 142 = .ok (.iload_n 2, 1) := by decide +kernel
theorem dX12_council_143 : decode cX12_council 143 = .ok (.ireturn, 1) := by decide +kernel
theorem dX12_common_0 : decode cX12_common 0 = .ok (.iload_n 0, 1) := by decide +kernel
theorem dX12_common_1 : decode cX12_common 1 = .ok (.istore_n 2, 1) := by decide +kernel
theorem dX12_common_2 : decode cX12_common 2 = .ok (.iload_n 1, 1) := by decide +kernel
theorem dX12_common_3 : decode cX12_common 3 = .ok (.istore_n 3, 1) := by decide +kernel
theorem dX12_common_4 : decode cX12_common 4 = .ok (.iload_n 3, 1) := by decide +kernel
theorem dX12_common_5 : decode cX12_common 5 = .ok (.ifCond .eq 16, 3) := by decide +kernel
theorem dX12_common_8 : decode cX12_common 8 = .ok (.iload_n 2, 1) := by decide +kernel
theorem dX12_common_9 : decode cX12_common 9 = .ok (.iload_n 3, 1) := by decide +kernel
theorem dX12_common_10 : decode cX12_common 10 = .ok (.irem, 1) := by decide +kernel
theorem dX12_common_11 : decode cX12_common 11 = .ok (.istore 4, 2) := by decide +kernel
theorem dX12_common_13 : decode cX12_common 13 = .ok (.iload_n 3, 1) := by decide +kernel
theorem dX12_common_14 : decode cX12_common 14 = .ok (.istore_n 2, 1) := by decide +kernel
theorem dX12_common_15 : decode cX12_common 15 = .ok (.iload 4, 2) := by decide +kernel
theorem dX12_common_17 : decode cX12_common 17 = .ok (.istore_n 3, 1) := by decide +kernel
theorem dX12_common_18 : decode cX12_common 18 = .ok (.goto (-14), 3) := by decide +kernel
theorem dX12_common_21 : decode cX12_common 21 = .ok (.iload_n 2, 1) := by decide +kernel
theorem dX12_common_22 : decode cX12_common 22 = .ok (.ireturn, 1) := by decide +kernel
theorem dX12_odds_0 : decode cX12_odds 0 = .ok (.aload_n 0, 1) := by decide +kernel
theorem dX12_odds_1 : decode cX12_odds 1 = .ok (.iload_n 1, 1) := by decide +kernel
theorem dX12_odds_2 : decode cX12_odds 2 = .ok (.invokevirtual 176, 3) := by decide +kernel
theorem dX12_odds_5 : decode cX12_odds 5 = .ok (.ifCond .eq 22, 3) := by decide +kernel
theorem dX12_odds_8 : decode cX12_odds 8 = .ok (.iload_n 2, 1) := by decide +kernel
theorem dX12_odds_9 : decode cX12_odds 9 = .ok (.iconst 0, 1) := by decide +kernel
theorem dX12_odds_10 : decode cX12_odds 10 = .ok (.bipush 40, 2) := by decide +kernel
theorem dX12_odds_12 : decode cX12_odds 12 = .ok (.invokestatic 47, 3) := by decide +kernel
theorem dX12_odds_15 : decode cX12_odds 15 = .ok (.ifCond .eq 12, 3) := by decide +kernel
theorem dX12_odds_18 : decode cX12_odds 18 = .ok (.iload_n 3, 1) := by decide +kernel
theorem dX12_odds_19 : decode cX12_odds 19 = .ok (.iconst 0, 1) := by decide +kernel
theorem dX12_odds_20 : decode cX12_odds 20 = .ok (.iconst 1, 1) := by decide +kernel
theorem dX12_odds_21 : decode cX12_odds 21 = .ok (.invokestatic 47, 3) := by decide +kernel
theorem dX12_odds_24 : decode cX12_odds 24 = .ok (.ifCond .ne 9, 3) := by decide +kernel
theorem dX12_odds_27 : decode cX12_odds 27 = .ok (.aload_n 0, 1) := by decide +kernel
theorem dX12_odds_28 : decode cX12_odds 28 = .ok (.iconst 1, 1) := by decide +kernel
theorem dX12_odds_29 : decode cX12_odds 29 = .ok (.invokevirtual 51, 3) := by decide +kernel
theorem dX12_odds_32 : decode cX12_odds 32 = .ok (.ireturn, 1) := by decide +kernel
theorem dX12_odds_33 : decode cX12_odds 33 = .ok (.aload_n 0, 1) := by decide +kernel
theorem dX12_odds_34 : decode cX12_odds 34 = .ok (.invokevirtual 198, 3) := by decide +kernel
theorem dX12_odds_37 : decode cX12_odds 37 = .ok (.iconst 0, 1) := by decide +kernel
theorem dX12_odds_38 : decode cX12_odds 38 = .ok (.istore 4, 2) := by decide +kernel
theorem dX12_odds_40 : decode cX12_odds 40 = .ok (.iconst 0, 1) := by decide +kernel
theorem dX12_odds_41 : decode cX12_odds 41 = .ok (.istore 5, 2) := by decide +kernel
theorem dX12_odds_43 : decode cX12_odds 43 = .ok (.iload 5, 2) := by decide +kernel
theorem dX12_odds_45 : decode cX12_odds 45 = .ok (.bipush 16, 2) := by decide +kernel
theorem dX12_odds_47 : decode cX12_odds 47 = .ok (.if_icmp .ge 44, 3) := by decide +kernel
theorem dX12_odds_50 : decode cX12_odds 50 = .ok (.aload_n 0, 1) := by decide +kernel
theorem dX12_odds_51 : decode cX12_odds 51 = .ok (.getfield 7, 3) := by decide +kernel
theorem dX12_odds_54 : decode cX12_odds 54 = .ok (.iconst 1, 1) := by decide +kernel
theorem dX12_odds_55 : decode cX12_odds 55 = .ok (.iload 5, 2) := by decide +kernel
theorem dX12_odds_57 : decode cX12_odds 57 = .ok (.iastore, 1) := by decide +kernel
theorem dX12_odds_58 : decode cX12_odds 58 = .ok (.aload_n 0, 1) := by decide +kernel
theorem dX12_odds_59 : decode cX12_odds 59 = .ok (.iload_n 2, 1) := by decide +kernel
theorem dX12_odds_60 : decode cX12_odds 60 = .ok (.invokevirtual 188, 3) := by decide +kernel
theorem dX12_odds_63 : decode cX12_odds 63 = .ok (.iload 4, 2) := by decide +kernel
theorem dX12_odds_65 : decode cX12_odds 65 = .ok (.aload_n 0, 1) := by decide +kernel
theorem dX12_odds_66 : decode cX12_odds 66 = .ok (.iload_n 1, 1) := by decide +kernel
theorem dX12_odds_67 : decode cX12_odds 67 = .ok (.invokevirtual 161, 3) := by decide +kernel
theorem dX12_odds_70 : decode cX12_odds 70 = .ok (.ifCond .eq 7, 3) := by decide +kernel
theorem dX12_odds_73 : decode cX12_odds 73 = .ok (.iconst 1, 1) := by decide +kernel
theorem dX12_odds_74 : decode cX12_odds 74 = .ok (.goto 4, 3) := by decide +kernel
theorem dX12_odds_77 : decode cX12_odds 77 = .ok (.iconst 0, 1) := by decide +kernel
theorem dX12_odds_78 : decode cX12_odds 78 = .ok (.iadd, 1) := by decide +kernel
theorem dX12_odds_79 : decode cX12_odds 79 = .ok (.istore 4, 2) := by decide +kernel
theorem dX12_odds_81 : decode cX12_odds 81 = .ok (.aload_n 0, 1) := by decide +kernel
theorem dX12_odds_82 : decode cX12_odds 82 = .ok (.invokevirtual 201, 3) := by decide +kernel
theorem dX12_odds_85 : decode cX12_odds 85 = .ok (.iinc 5 1, 3) := by decide +kernel
theorem dX12_odds_88 : decode cX12_odds 88 = .ok (.goto (-45), 3) := by decide +kernel
theorem dX12_odds_91 : decode cX12_odds 91 = .ok (.iload_n 3, 1) := by decide +kernel
theorem dX12_odds_92 : decode cX12_odds 92 = .ok (.ifCond .ne 8, 3) := by decide +kernel
theorem dX12_odds_95 : decode cX12_odds 95 = .ok (.iload 4, 2) := by decide +kernel
theorem dX12_odds_97 : decode cX12_odds 97 = .ok (.goto 5, 3) := by decide +kernel
theorem dX12_odds_100 : decode cX12_odds 100 = .ok (.bipush 16, 2) := by decide +kernel
theorem dX12_odds_102 : decode cX12_odds 102 = .ok (.iload 4, 2) := by decide +kernel
theorem dX12_odds_104 : decode cX12_odds 104 = .ok (.bipush 16, 2) := by decide +kernel
theorem dX12_odds_106 : decode cX12_odds 106 = .ok (.invokestatic 207, 3) := by decide +kernel
theorem dX12_odds_109 : decode cX12_odds 109 = .ok (.idiv, 1) := by decide +kernel
theorem dX12_odds_110 : decode cX12_odds 110 = .ok (.ireturn, 1) := by decide +kernel
theorem dX12_fits_0 : decode cX12_fits 0 = .ok (.iload_n 1, 1) := by decide +kernel
theorem dX12_fits_1 : decode cX12_fits 1 = .ok (.invokestatic 210, 3) := by decide +kernel
theorem dX12_fits_4 : decode cX12_fits 4 = .ok (.ifCond .eq 20, 3) := by decide +kernel
theorem dX12_fits_7 : decode cX12_fits 7 = .ok (.aload_n 0, 1) := by decide +kernel
theorem dX12_fits_8 : decode cX12_fits 8 = .ok (.iload_n 2, 1) := by decide +kernel
theorem dX12_fits_9 : decode cX12_fits 9 = .ok (.invokevirtual 176, 3) := by decide +kernel
theorem dX12_fits_12 : decode cX12_fits 12 = .ok (.ifCond .eq 12, 3) := by decide +kernel
theorem dX12_fits_15 : decode cX12_fits 15 = .ok (.iload_n 3, 1) := by decide +kernel
theorem dX12_fits_16 : decode cX12_fits 16 = .ok (.iconst 0, 1) := by decide +kernel
theorem dX12_fits_17 : decode cX12_fits 17 = .ok (.iconst 1, 1) := by decide +kernel
theorem dX12_fits_18 : decode cX12_fits 18 = .ok (.invokestatic 47, 3) := by decide +kernel
theorem dX12_fits_21 : decode cX12_fits 21 = .ok (.ifCond .ne 9, 3) := by decide +kernel
theorem dX12_fits_24 : decode cX12_fits 24 = .ok (.aload_n 0, 1) := by decide +kernel
theorem dX12_fits_25 : decode cX12_fits 25 = .ok (.iconst 1, 1) := by decide +kernel
theorem dX12_fits_26 : decode cX12_fits 26 = .ok (.invokevirtual 51, 3) := by decide +kernel
theorem dX12_fits_29 : decode cX12_fits 29 = .ok (.ireturn, 1) := by decide +kernel
theorem dX12_fits_30 : decode cX12_fits 30 = .ok (.aload_n 0, 1) := by decide +kernel
theorem dX12_fits_31 : decode cX12_fits 31 = .ok (.getfield 34, 3) := by decide +kernel
theorem dX12_fits_34 : decode cX12_fits 34 = .ok (.iload_n 1, 1) := by decide +kernel
theorem dX12_fits_35 : decode cX12_fits 35 = .ok (.iaload, 1) := by decide +kernel
theorem dX12_fits_36 : decode cX12_fits 36 = .ok (.ifCond .ne 9, 3) := by decide +kernel
theorem dX12_fits_39 : decode cX12_fits 39 = .ok (.aload_n 0, 1) := by decide +kernel
theorem dX12_fits_40 : decode cX12_fits 40 = .ok (.iconst 2, 1) := by decide +kernel
theorem dX12_fits_41 : decode cX12_fits 41 = .ok (.invokevirtual 51, 3) := by decide +kernel
theorem dX12_fits_44 : decode cX12_fits 44 = .ok (.ireturn, 1) := by decide +kernel
theorem dX12_fits_45 : decode cX12_fits 45 = .ok (.iconst 0, 1) := by decide +kernel
theorem dX12_fits_46 : decode cX12_fits 46 = .ok (.istore 4, 2) := by decide +kernel
theorem dX12_fits_48 : decode cX12_fits 48 = .ok (.aload_n 0, 1) := by decide +kernel
theorem dX12_fits_49 : decode cX12_fits 49 = .ok (.invokevirtual 198, 3) := by decide +kernel
theorem dX12_fits_52 : decode cX12_fits 52 = .ok (.iconst 0, 1) := by decide +kernel
theorem dX12_fits_53 : decode cX12_fits 53 = .ok (.istore 5, 2) := by decide +kernel
theorem dX12_fits_55 : decode cX12_fits 55 = .ok (.iload 5, 2) := by decide +kernel
theorem dX12_fits_57 : decode cX12_fits 57 = .ok (.bipush 6, 2) := by decide +kernel
theorem dX12_fits_59 : decode cX12_fits 59 = .ok (.if_icmp .gt 99, 3) := by decide +kernel
theorem dX12_fits_62 : decode cX12_fits 62 = .ok (.aload_n 0, 1) := by decide +kernel
theorem dX12_fits_63 : decode cX12_fits 63 = .ok (.iload_n 2, 1) := by decide +kernel
theorem dX12_fits_64 : decode cX12_fits 64 = .ok (.iconst 0, 1) := by decide +kernel
theorem dX12_fits_65 : decode cX12_fits 65 = .ok (.iload 5, 2) := by decide +kernel
theorem dX12_fits_67 : decode cX12_fits 67 = .ok (.invokevirtual 147, 3) := by decide +kernel
theorem dX12_fits_70 : decode cX12_fits 70 = .ok (.iconst 1, 1) := by decide +kernel
theorem dX12_fits_71 : decode cX12_fits 71 = .ok (.istore 6, 2) := by decide +kernel
theorem dX12_fits_73 : decode cX12_fits 73 = .ok (.iconst 0, 1) := by decide +kernel
theorem dX12_fits_74 : decode cX12_fits 74 = .ok (.istore 7, 2) := by decide +kernel
theorem dX12_fits_76 : decode cX12_fits 76 = .ok (.iload 7, 2) := by decide +kernel
theorem dX12_fits_78 : decode cX12_fits 78 = .ok (.aload_n 0, 1) := by decide +kernel
theorem dX12_fits_79 : decode cX12_fits 79 = .ok (.getfield 37, 3) := by decide +kernel
theorem dX12_fits_82 : decode cX12_fits 82 = .ok (.iload_n 1, 1) := by decide +kernel
theorem dX12_fits_83 : decode cX12_fits 83 = .ok (.iaload, 1) := by decide +kernel
theorem dX12_fits_84 : decode cX12_fits 84 = .ok (.if_icmp .ge 46, 3) := by decide +kernel
theorem dX12_fits_87 : decode cX12_fits 87 = .ok (.iload 6, 2) := by decide +kernel
theorem dX12_fits_89 : decode cX12_fits 89 = .ok (.ifCond .eq 41, 3) := by decide +kernel
theorem dX12_fits_92 : decode cX12_fits 92 = .ok (.aload_n 0, 1) := by decide +kernel
theorem dX12_fits_93 : decode cX12_fits 93 = .ok (.getfield 40, 3) := by decide +kernel
theorem dX12_fits_96 : decode cX12_fits 96 = .ok (.bipush 24, 2) := by decide +kernel
theorem dX12_fits_98 : decode cX12_fits 98 = .ok (.iload_n 1, 1) := by decide +kernel
theorem dX12_fits_99 : decode cX12_fits 99 = .ok (.imul, 1) := by decide +kernel
theorem dX12_fits_100 : decode cX12_fits 100 = .ok (.iload 7, 2) := by decide +kernel
theorem dX12_fits_102 : decode cX12_fits 102 = .ok (.iadd, 1) := by decide +kernel
theorem dX12_fits_103 : decode cX12_fits 103 = .ok (.iaload, 1) := by decide +kernel
theorem dX12_fits_104 : decode cX12_fits 104 = .ok (.aload_n 0, 1) := by decide +kernel
theorem dX12_fits_105 : decode cX12_fits 105 = .ok (.iload_n 2, 1) := by decide +kernel
theorem dX12_fits_106 : decode cX12_fits 106 = .ok (.iconst 3, 1) := by decide +kernel
theorem dX12_fits_107 : decode cX12_fits 107 = .ok (.invokevirtual 111, 3) := by decide +kernel
theorem dX12_fits_110 : decode cX12_fits 110 = .ok (.if_icmp .ne 7, 3) := by decide +kernel
theorem dX12_fits_113 : decode cX12_fits 113 = .ok (.iconst 1, 1) := by decide +kernel
theorem dX12_fits_114 : decode cX12_fits 114 = .ok (.goto 4, 3) := by decide +kernel
theorem dX12_fits_117 : decode cX12_fits 117 = .ok (.iconst 0, 1) := by decide +kernel
theorem dX12_fits_118 : decode cX12_fits 118 = .ok (.istore 6, 2) := by decide +kernel
theorem dX12_fits_120 : decode cX12_fits 120 = .ok (.aload_n 0, 1) := by decide +kernel
theorem dX12_fits_121 : decode cX12_fits 121 = .ok (.invokevirtual 167, 3) := by decide +kernel
theorem dX12_fits_124 : decode cX12_fits 124 = .ok (.iinc 7 1, 3) := by decide +kernel
theorem dX12_fits_127 : decode cX12_fits 127 = .ok (.goto (-51), 3) := by decide +kernel
theorem dX12_fits_130 : decode cX12_fits 130 = .ok (.aload_n 0, 1) := by decide +kernel
theorem dX12_fits_131 : decode cX12_fits 131 = .ok (.invokevirtual 201, 3) := by decide +kernel
theorem dX12_fits_134 : decode cX12_fits 134 = .ok (.iload 4, 2) := by decide +kernel
theorem dX12_fits_136 : decode cX12_fits 136 = .ok (.iload 6, 2) := by decide +kernel
theorem dX12_fits_138 : decode cX12_fits 138 = .ok (.ifCond .eq 10, 3) := by decide +kernel
theorem dX12_fits_141 : decode cX12_fits 141 = .ok (.iconst 1, 1) := by decide +kernel
theorem dX12_fits_142 : decode cX12_fits 142 = .ok (.iload 5, 2) := by decide +kernel
theorem dX12_fits_144 : decode cX12_fits 144 = .ok (.ishl, 1) := by decide +kernel
theorem dX12_fits_145 : decode cX12_fits 145 = .ok (.goto 4, 3) := by decide +kernel
theorem dX12_fits_148 : decode cX12_fits 148 = .ok (.iconst 0, 1) := by decide +kernel
theorem dX12_fits_149 : decode cX12_fits 149 = .ok (.ior, 1) := by decide +kernel
theorem dX12_fits_150 : decode cX12_fits 150 = .ok (.istore 4, 2) := by decide +kernel
theorem dX12_fits_152 : decode cX12_fits 152 = .ok (.iinc 5 1, 3) := by decide +kernel
theorem dX12_fits_155 : decode cX12_fits 155 = .ok (.goto (-100), 3) := by decide +kernel
theorem dX12_fits_158 : decode cX12_fits 158 = .ok (.iload_n 3, 1) := by decide +kernel
theorem dX12_fits_159 : decode cX12_fits 159 = .ok (.ifCond .ne 8, 3) := by decide +kernel
theorem dX12_fits_162 : decode cX12_fits 162 = .ok (.iload 4, 2) := by decide +kernel
theorem dX12_fits_164 : decode cX12_fits 164 = .ok (.goto 8, 3) := by decide +kernel
theorem dX12_fits_167 : decode cX12_fits 167 = .ok (.iload 4, 2) := by decide +kernel
theorem dX12_fits_169 : decode cX12_fits 169 = .ok (.invokestatic 115, 3) := by decide +kernel
theorem dX12_fits_172 : decode cX12_fits 172 = .ok (.ireturn, 1) := by decide +kernel
theorem dX12_begins_0 : decode cX12_begins 0 = .ok (.aload_n 0, 1) := by decide +kernel
theorem dX12_begins_1 : decode cX12_begins 1 = .ok (.getfield 213, 3) := by decide +kernel
theorem dX12_begins_4 : decode cX12_begins 4 = .ok (.bipush 30, 2) := by decide +kernel
theorem dX12_begins_6 : decode cX12_begins 6 = .ok (.if_icmp .ge 23, 3) := by decide +kernel
theorem dX12_begins_9 : decode cX12_begins 9 = .ok (.aload_n 0, 1) := by decide +kernel
theorem dX12_begins_10 : decode cX12_begins 10 = .ok (.getfield 31, 3) := by decide +kernel
theorem dX12_begins_13 : decode cX12_begins 13 = .ok (.aload_n 0, 1) := by decide +kernel
theorem dX12_begins_14 : decode cX12_begins 14 = .ok (.getfield 213, 3) := by decide +kernel
theorem dX12_begins_17 : decode cX12_begins 17 = .ok (.iload_n 1, 1) := by decide +kernel
theorem dX12_begins_18 : decode cX12_begins 18 = .ok (.iastore, 1) := by decide +kernel
theorem dX12_begins_19 : decode cX12_begins 19 = .ok (.aload_n 0, 1) := by decide +kernel
theorem dX12_begins_20 : decode cX12_begins 20 = .ok (.dup, 1) := by decide +kernel
theorem dX12_begins_21 : decode cX12_begins 21 = .ok (.getfield 213, 3) := by decide +kernel
theorem dX12_begins_24 : decode cX12_begins 24 = .ok (.iconst 1, 1) := by decide +kernel
theorem dX12_begins_25 : decode cX12_begins 25 = .ok (.iadd, 1) := by decide +kernel
theorem dX12_begins_26 : decode cX12_begins 26 = .ok (.putfield 213, 3) := by decide +kernel
theorem dX12_begins_29 : decode cX12_begins 29 = .ok (.return_, 1) := by decide +kernel
theorem dX12_above_0 : decode cX12_above 0 = .ok (.iload_n 0, 1) := by decide +kernel
theorem dX12_above_1 : decode cX12_above 1 = .ok (.iconst 4, 1) := by decide +kernel
theorem dX12_above_2 : decode cX12_above 2 = .ok (.if_icmp .ne 7, 3) := by decide +kernel
theorem dX12_above_5 : decode cX12_above 5 = .ok (.iconst 1, 1) := by decide +kernel
theorem dX12_above_6 : decode cX12_above 6 = .ok (.goto 13, 3) := by decide +kernel
theorem dX12_above_9 : decode cX12_above 9 = .ok (.iload_n 0, 1) := by decide +kernel
theorem dX12_above_10 : decode cX12_above 10 = .ok (.iconst 5, 1) := by decide +kernel
theorem dX12_above_11 : decode cX12_above 11 = .ok (.if_icmp .ne 7, 3) := by decide +kernel
theorem dX12_above_14 : decode cX12_above 14 = .ok (.iconst 2, 1) := by decide +kernel
theorem dX12_above_15 : decode cX12_above 15 = .ok (.goto 4, 3) := by decide +kernel
theorem dX12_above_18 : decode cX12_above 18 = .ok (.iconst 0, 1) := by decide +kernel
theorem dX12_above_19 : decode cX12_above 19 = .ok (.ireturn, 1) := by decide +kernel
theorem dX12_kindNow_0 : decode cX12_kindNow 0 = .ok (.aload_n 0, 1) := by decide +kernel
theorem dX12_kindNow_1 : decode cX12_kindNow 1 = .ok (.aload_n 0, 1) := by decide +kernel
theorem dX12_kindNow_2 : decode cX12_kindNow 2 = .ok (.getfield 216, 3) := by decide +kernel
theorem dX12_kindNow_5 : decode cX12_kindNow 5 = .ok (.iconst 0, 1) := by decide +kernel
theorem dX12_kindNow_6 : decode cX12_kindNow 6 = .ok (.invokevirtual 111, 3) := by decide +kernel
theorem dX12_kindNow_9 : decode cX12_kindNow 9 = .ok (.ireturn, 1) := by decide +kernel
theorem dX12_mNow_0 : decode cX12_mNow 0 = .ok (.aload_n 0, 1) := by decide +kernel
theorem dX12_mNow_1 : decode cX12_mNow 1 = .ok (.aload_n 0, 1) := by decide +kernel
theorem dX12_mNow_2 : decode cX12_mNow 2 = .ok (.getfield 216, 3) := by decide +kernel
theorem dX12_mNow_5 : decode cX12_mNow 5 = .ok (.iconst 1, 1) := by decide +kernel
theorem dX12_mNow_6 : decode cX12_mNow 6 = .ok (.invokevirtual 111, 3) := by decide +kernel
theorem dX12_mNow_9 : decode cX12_mNow 9 = .ok (.ireturn, 1) := by decide +kernel
theorem dX12_wadesAs_0 : decode cX12_wadesAs 0 = .ok (.iload_n 1, 1) := by decide +kernel
theorem dX12_wadesAs_1 : decode cX12_wadesAs 1 = .ok (.tableswitch 101 0 6 #[43, 56, 101, 101, 74, 101, 92], 43) := by decide +kernel
theorem dX12_wadesAs_44 : decode cX12_wadesAs 44 = .ok (.aload_n 0, 1) := by decide +kernel
theorem dX12_wadesAs_45 : decode cX12_wadesAs 45 = .ok (.bipush 10, 2) := by decide +kernel
theorem dX12_wadesAs_47 : decode cX12_wadesAs 47 = .ok (.invokevirtual 219, 3) := by decide +kernel
theorem dX12_wadesAs_50 : decode cX12_wadesAs 50 = .ok (.iload_n 2, 1) := by decide +kernel
theorem dX12_wadesAs_51 : decode cX12_wadesAs 51 = .ok (.aload_n 0, 1) := by decide +kernel
theorem dX12_wadesAs_52 : decode cX12_wadesAs 52 = .ok (.getfield 216, 3) := by decide +kernel
theorem dX12_wadesAs_55 : decode cX12_wadesAs 55 = .ok (.iadd, 1) := by decide +kernel
theorem dX12_wadesAs_56 : decode cX12_wadesAs 56 = .ok (.ireturn, 1) := by decide +kernel
theorem dX12_wadesAs_57 : decode cX12_wadesAs 57 = .ok (.aload_n 0, 1) := by decide +kernel
theorem dX12_wadesAs_58 : decode cX12_wadesAs 58 = .ok (.bipush 20, 2) := by decide +kernel
theorem dX12_wadesAs_60 : decode cX12_wadesAs 60 = .ok (.invokevirtual 219, 3) := by decide +kernel
theorem dX12_wadesAs_63 : decode cX12_wadesAs 63 = .ok (.aload_n 0, 1) := by decide +kernel
theorem dX12_wadesAs_64 : decode cX12_wadesAs 64 = .ok (.iconst 1, 1) := by decide +kernel
theorem dX12_wadesAs_65 : decode cX12_wadesAs 65 = .ok (.invokestatic 182, 3) := by decide +kernel
theorem dX12_wadesAs_68 : decode cX12_wadesAs 68 = .ok (.iload_n 2, 1) := by decide +kernel
theorem dX12_wadesAs_69 : decode cX12_wadesAs 69 = .ok (.invokevirtual 222, 3) := by decide +kernel
theorem dX12_wadesAs_72 : decode cX12_wadesAs 72 = .ok (.iconst 4, 1) := by decide +kernel
theorem dX12_wadesAs_73 : decode cX12_wadesAs 73 = .ok (.isub, 1) := by decide +kernel
theorem dX12_wadesAs_74 : decode cX12_wadesAs 74 = .ok (.ireturn, 1) := by decide +kernel
theorem dX12_wadesAs_75 : decode cX12_wadesAs 75 = .ok (.aload_n 0, 1) := by decide +kernel
theorem dX12_wadesAs_76 : decode cX12_wadesAs 76 = .ok (.bipush 50, 2) := by decide +kernel
theorem dX12_wadesAs_78 : decode cX12_wadesAs 78 = .ok (.invokevirtual 219, 3) := by decide +kernel
theorem dX12_wadesAs_81 : decode cX12_wadesAs 81 = .ok (.aload_n 0, 1) := by decide +kernel
theorem dX12_wadesAs_82 : decode cX12_wadesAs 82 = .ok (.iconst 4, 1) := by decide +kernel
theorem dX12_wadesAs_83 : decode cX12_wadesAs 83 = .ok (.invokestatic 182, 3) := by decide +kernel
theorem dX12_wadesAs_86 : decode cX12_wadesAs 86 = .ok (.iload_n 2, 1) := by decide +kernel
theorem dX12_wadesAs_87 : decode cX12_wadesAs 87 = .ok (.invokevirtual 222, 3) := by decide +kernel
theorem dX12_wadesAs_90 : decode cX12_wadesAs 90 = .ok (.iconst 3, 1) := by decide +kernel
theorem dX12_wadesAs_91 : decode cX12_wadesAs 91 = .ok (.imul, 1) := by decide +kernel
theorem dX12_wadesAs_92 : decode cX12_wadesAs 92 = .ok (.ireturn, 1) := by decide +kernel
theorem dX12_wadesAs_93 : decode cX12_wadesAs 93 = .ok (.aload_n 0, 1) := by decide +kernel
theorem dX12_wadesAs_94 : decode cX12_wadesAs 94 = .ok (.bipush 70, 2) := by decide +kernel
theorem dX12_wadesAs_96 : decode cX12_wadesAs 96 = .ok (.invokevirtual 219, 3) := by decide +kernel
theorem dX12_wadesAs_99 : decode cX12_wadesAs 99 = .ok (.bipush 9, 2) := by decide +kernel
theorem dX12_wadesAs_101 : decode cX12_wadesAs 101 = .ok (.ireturn, 1) := by decide +kernel
theorem dX12_wadesAs_102 : decode cX12_wadesAs 102 = .ok (.aload_n 0, 1) := by decide +kernel
theorem dX12_wadesAs_103 : decode cX12_wadesAs 103 = .ok (.iload_n 1, 1) := by decide +kernel
theorem dX12_wadesAs_104 : decode cX12_wadesAs 104 = .ok (.invokestatic 182, 3) := by decide +kernel
theorem dX12_wadesAs_107 : decode cX12_wadesAs 107 = .ok (.iload_n 2, 1) := by decide +kernel
theorem dX12_wadesAs_108 : decode cX12_wadesAs 108 = .ok (.invokevirtual 222, 3) := by decide +kernel
theorem dX12_wadesAs_111 : decode cX12_wadesAs 111 = .ok (.ireturn, 1) := by decide +kernel
theorem dX12_knowsAs_0 : decode cX12_knowsAs 0 = .ok (.iload_n 1, 1) := by decide +kernel
theorem dX12_knowsAs_1 : decode cX12_knowsAs 1 = .ok (.tableswitch 119 0 6 #[43, 119, 61, 119, 119, 79, 97], 43) := by decide +kernel
theorem dX12_knowsAs_44 : decode cX12_knowsAs 44 = .ok (.aload_n 0, 1) := by decide +kernel
theorem dX12_knowsAs_45 : decode cX12_knowsAs 45 = .ok (.bipush 11, 2) := by decide +kernel
theorem dX12_knowsAs_47 : decode cX12_knowsAs 47 = .ok (.invokevirtual 219, 3) := by decide +kernel
theorem dX12_knowsAs_50 : decode cX12_knowsAs 50 = .ok (.aload_n 0, 1) := by decide +kernel
theorem dX12_knowsAs_51 : decode cX12_knowsAs 51 = .ok (.aload_n 0, 1) := by decide +kernel
theorem dX12_knowsAs_52 : decode cX12_knowsAs 52 = .ok (.invokevirtual 225, 3) := by decide +kernel
theorem dX12_knowsAs_55 : decode cX12_knowsAs 55 = .ok (.iload_n 2, 1) := by decide +kernel
theorem dX12_knowsAs_56 : decode cX12_knowsAs 56 = .ok (.invokevirtual 222, 3) := by decide +kernel
theorem dX12_knowsAs_59 : decode cX12_knowsAs 59 = .ok (.iconst 2, 1) := by decide +kernel
theorem dX12_knowsAs_60 : decode cX12_knowsAs 60 = .ok (.imul, 1) := by decide +kernel
theorem dX12_knowsAs_61 : decode cX12_knowsAs 61 = .ok (.ireturn, 1) := by decide +kernel
theorem dX12_knowsAs_62 : decode cX12_knowsAs 62 = .ok (.aload_n 0, 1) := by decide +kernel
theorem dX12_knowsAs_63 : decode cX12_knowsAs 63 = .ok (.bipush 30, 2) := by decide +kernel
theorem dX12_knowsAs_65 : decode cX12_knowsAs 65 = .ok (.invokevirtual 219, 3) := by decide +kernel
theorem dX12_knowsAs_68 : decode cX12_knowsAs 68 = .ok (.iconst 0, 1) := by decide +kernel
theorem dX12_knowsAs_69 : decode cX12_knowsAs 69 = .ok (.aload_n 0, 1) := by decide +kernel
theorem dX12_knowsAs_70 : decode cX12_knowsAs 70 = .ok (.iconst 2, 1) := by decide +kernel
theorem dX12_knowsAs_71 : decode cX12_knowsAs 71 = .ok (.invokestatic 182, 3) := by decide +kernel
theorem dX12_knowsAs_74 : decode cX12_knowsAs 74 = .ok (.iload_n 2, 1) := by decide +kernel
theorem dX12_knowsAs_75 : decode cX12_knowsAs 75 = .ok (.invokevirtual 228, 3) := by decide +kernel
theorem dX12_knowsAs_78 : decode cX12_knowsAs 78 = .ok (.isub, 1) := by decide +kernel
theorem dX12_knowsAs_79 : decode cX12_knowsAs 79 = .ok (.ireturn, 1) := by decide +kernel
theorem dX12_knowsAs_80 : decode cX12_knowsAs 80 = .ok (.aload_n 0, 1) := by decide +kernel
theorem dX12_knowsAs_81 : decode cX12_knowsAs 81 = .ok (.bipush 60, 2) := by decide +kernel
theorem dX12_knowsAs_83 : decode cX12_knowsAs 83 = .ok (.invokevirtual 219, 3) := by decide +kernel
theorem dX12_knowsAs_86 : decode cX12_knowsAs 86 = .ok (.aload_n 0, 1) := by decide +kernel
theorem dX12_knowsAs_87 : decode cX12_knowsAs 87 = .ok (.iconst 5, 1) := by decide +kernel
theorem dX12_knowsAs_88 : decode cX12_knowsAs 88 = .ok (.invokestatic 182, 3) := by decide +kernel
theorem dX12_knowsAs_91 : decode cX12_knowsAs 91 = .ok (.iload_n 2, 1) := by decide +kernel
theorem dX12_knowsAs_92 : decode cX12_knowsAs 92 = .ok (.iconst 1, 1) := by decide +kernel
theorem dX12_knowsAs_93 : decode cX12_knowsAs 93 = .ok (.iadd, 1) := by decide +kernel
theorem dX12_knowsAs_94 : decode cX12_knowsAs 94 = .ok (.invokevirtual 228, 3) := by decide +kernel
theorem dX12_knowsAs_97 : decode cX12_knowsAs 97 = .ok (.ireturn, 1) := by decide +kernel
theorem dX12_knowsAs_98 : decode cX12_knowsAs 98 = .ok (.aload_n 0, 1) := by decide +kernel
theorem dX12_knowsAs_99 : decode cX12_knowsAs 99 = .ok (.bipush 71, 2) := by decide +kernel
theorem dX12_knowsAs_101 : decode cX12_knowsAs 101 = .ok (.invokevirtual 219, 3) := by decide +kernel
theorem dX12_knowsAs_104 : decode cX12_knowsAs 104 = .ok (.aload_n 0, 1) := by decide +kernel
theorem dX12_knowsAs_105 : decode cX12_knowsAs 105 = .ok (.bipush 6, 2) := by decide +kernel
theorem dX12_knowsAs_107 : decode cX12_knowsAs 107 = .ok (.invokestatic 182, 3) := by decide +kernel
theorem dX12_knowsAs_110 : decode cX12_knowsAs 110 = .ok (.iload_n 2, 1) := by decide +kernel
theorem dX12_knowsAs_111 : decode cX12_knowsAs 111 = .ok (.invokevirtual 228, 3) := by decide +kernel
theorem dX12_knowsAs_114 : decode cX12_knowsAs 114 = .ok (.aload_n 0, 1) := by decide +kernel
theorem dX12_knowsAs_115 : decode cX12_knowsAs 115 = .ok (.invokevirtual 231, 3) := by decide +kernel
theorem dX12_knowsAs_118 : decode cX12_knowsAs 118 = .ok (.iadd, 1) := by decide +kernel
theorem dX12_knowsAs_119 : decode cX12_knowsAs 119 = .ok (.ireturn, 1) := by decide +kernel
theorem dX12_knowsAs_120 : decode cX12_knowsAs 120 = .ok (.aload_n 0, 1) := by decide +kernel
theorem dX12_knowsAs_121 : decode cX12_knowsAs 121 = .ok (.iload_n 1, 1) := by decide +kernel
theorem dX12_knowsAs_122 : decode cX12_knowsAs 122 = .ok (.invokestatic 182, 3) := by decide +kernel
theorem dX12_knowsAs_125 : decode cX12_knowsAs 125 = .ok (.iload_n 2, 1) := by decide +kernel
theorem dX12_knowsAs_126 : decode cX12_knowsAs 126 = .ok (.invokevirtual 228, 3) := by decide +kernel
theorem dX12_knowsAs_129 : decode cX12_knowsAs 129 = .ok (.ireturn, 1) := by decide +kernel
theorem dX12_sitsAs_0 : decode cX12_sitsAs 0 = .ok (.iload_n 1, 1) := by decide +kernel
theorem dX12_sitsAs_1 : decode cX12_sitsAs 1 = .ok (.tableswitch 95 0 4 #[35, 95, 95, 56, 74], 35) := by decide +kernel
theorem dX12_sitsAs_36 : decode cX12_sitsAs 36 = .ok (.aload_n 0, 1) := by decide +kernel
theorem dX12_sitsAs_37 : decode cX12_sitsAs 37 = .ok (.bipush 12, 2) := by decide +kernel
theorem dX12_sitsAs_39 : decode cX12_sitsAs 39 = .ok (.invokevirtual 219, 3) := by decide +kernel
theorem dX12_sitsAs_42 : decode cX12_sitsAs 42 = .ok (.aload_n 0, 1) := by decide +kernel
theorem dX12_sitsAs_43 : decode cX12_sitsAs 43 = .ok (.aload_n 0, 1) := by decide +kernel
theorem dX12_sitsAs_44 : decode cX12_sitsAs 44 = .ok (.invokevirtual 225, 3) := by decide +kernel
theorem dX12_sitsAs_47 : decode cX12_sitsAs 47 = .ok (.iload_n 2, 1) := by decide +kernel
theorem dX12_sitsAs_48 : decode cX12_sitsAs 48 = .ok (.invokevirtual 228, 3) := by decide +kernel
theorem dX12_sitsAs_51 : decode cX12_sitsAs 51 = .ok (.aload_n 0, 1) := by decide +kernel
theorem dX12_sitsAs_52 : decode cX12_sitsAs 52 = .ok (.invokevirtual 231, 3) := by decide +kernel
theorem dX12_sitsAs_55 : decode cX12_sitsAs 55 = .ok (.isub, 1) := by decide +kernel
theorem dX12_sitsAs_56 : decode cX12_sitsAs 56 = .ok (.ireturn, 1) := by decide +kernel
theorem dX12_sitsAs_57 : decode cX12_sitsAs 57 = .ok (.aload_n 0, 1) := by decide +kernel
theorem dX12_sitsAs_58 : decode cX12_sitsAs 58 = .ok (.bipush 40, 2) := by decide +kernel
theorem dX12_sitsAs_60 : decode cX12_sitsAs 60 = .ok (.invokevirtual 219, 3) := by decide +kernel
theorem dX12_sitsAs_63 : decode cX12_sitsAs 63 = .ok (.aload_n 0, 1) := by decide +kernel
theorem dX12_sitsAs_64 : decode cX12_sitsAs 64 = .ok (.iconst 3, 1) := by decide +kernel
theorem dX12_sitsAs_65 : decode cX12_sitsAs 65 = .ok (.invokestatic 182, 3) := by decide +kernel
theorem dX12_sitsAs_68 : decode cX12_sitsAs 68 = .ok (.iload_n 2, 1) := by decide +kernel
theorem dX12_sitsAs_69 : decode cX12_sitsAs 69 = .ok (.iconst 2, 1) := by decide +kernel
theorem dX12_sitsAs_70 : decode cX12_sitsAs 70 = .ok (.idiv, 1) := by decide +kernel
theorem dX12_sitsAs_71 : decode cX12_sitsAs 71 = .ok (.invokevirtual 234, 3) := by decide +kernel
theorem dX12_sitsAs_74 : decode cX12_sitsAs 74 = .ok (.ireturn, 1) := by decide +kernel
theorem dX12_sitsAs_75 : decode cX12_sitsAs 75 = .ok (.aload_n 0, 1) := by decide +kernel
theorem dX12_sitsAs_76 : decode cX12_sitsAs 76 = .ok (.bipush 51, 2) := by decide +kernel
theorem dX12_sitsAs_78 : decode cX12_sitsAs 78 = .ok (.invokevirtual 219, 3) := by decide +kernel
theorem dX12_sitsAs_81 : decode cX12_sitsAs 81 = .ok (.aload_n 0, 1) := by decide +kernel
theorem dX12_sitsAs_82 : decode cX12_sitsAs 82 = .ok (.iconst 4, 1) := by decide +kernel
theorem dX12_sitsAs_83 : decode cX12_sitsAs 83 = .ok (.invokestatic 182, 3) := by decide +kernel
theorem dX12_sitsAs_86 : decode cX12_sitsAs 86 = .ok (.iload_n 2, 1) := by decide +kernel
theorem dX12_sitsAs_87 : decode cX12_sitsAs 87 = .ok (.invokevirtual 234, 3) := by decide +kernel
theorem dX12_sitsAs_90 : decode cX12_sitsAs 90 = .ok (.aload_n 0, 1) := by decide +kernel
theorem dX12_sitsAs_91 : decode cX12_sitsAs 91 = .ok (.getfield 216, 3) := by decide +kernel
theorem dX12_sitsAs_94 : decode cX12_sitsAs 94 = .ok (.ixor, 1) := by decide +kernel
theorem dX12_sitsAs_95 : decode cX12_sitsAs 95 = .ok (.ireturn, 1) := by decide +kernel
theorem dX12_sitsAs_96 : decode cX12_sitsAs 96 = .ok (.aload_n 0, 1) := by decide +kernel
theorem dX12_sitsAs_97 : decode cX12_sitsAs 97 = .ok (.iload_n 1, 1) := by decide +kernel
theorem dX12_sitsAs_98 : decode cX12_sitsAs 98 = .ok (.invokestatic 182, 3) := by decide +kernel
theorem dX12_sitsAs_101 : decode cX12_sitsAs 101 = .ok (.iload_n 2, 1) := by decide +kernel
theorem dX12_sitsAs_102 : decode cX12_sitsAs 102 = .ok (.invokevirtual 234, 3) := by decide +kernel
theorem dX12_sitsAs_105 : decode cX12_sitsAs 105 = .ok (.ireturn, 1) := by decide +kernel
theorem dX12_partsAs_0 : decode cX12_partsAs 0 = .ok (.iload_n 1, 1) := by decide +kernel
theorem dX12_partsAs_1 : decode cX12_partsAs 1 = .ok (.lookupswitch 119 #[(0, 27), (1, 78)], 27) := by decide +kernel
theorem dX12_partsAs_28 : decode cX12_partsAs 28 = .ok (.aload_n 0, 1) := by decide +kernel
theorem dX12_partsAs_29 : decode cX12_partsAs 29 = .ok (.bipush 13, 2) := by decide +kernel
theorem dX12_partsAs_31 : decode cX12_partsAs 31 = .ok (.invokevirtual 219, 3) := by decide +kernel
theorem dX12_partsAs_34 : decode cX12_partsAs 34 = .ok (.aload_n 0, 1) := by decide +kernel
theorem dX12_partsAs_35 : decode cX12_partsAs 35 = .ok (.invokevirtual 231, 3) := by decide +kernel
theorem dX12_partsAs_38 : decode cX12_partsAs 38 = .ok (.aload_n 0, 1) := by decide +kernel
theorem dX12_partsAs_39 : decode cX12_partsAs 39 = .ok (.getfield 216, 3) := by decide +kernel
theorem dX12_partsAs_42 : decode cX12_partsAs 42 = .ok (.isub, 1) := by decide +kernel
theorem dX12_partsAs_43 : decode cX12_partsAs 43 = .ok (.istore_n 3, 1) := by decide +kernel
theorem dX12_partsAs_44 : decode cX12_partsAs 44 = .ok (.aload_n 0, 1) := by decide +kernel
theorem dX12_partsAs_45 : decode cX12_partsAs 45 = .ok (.iload_n 3, 1) := by decide +kernel
theorem dX12_partsAs_46 : decode cX12_partsAs 46 = .ok (.ifCond .ne 7, 3) := by decide +kernel
theorem dX12_partsAs_49 : decode cX12_partsAs 49 = .ok (.iconst 1, 1) := by decide +kernel
theorem dX12_partsAs_50 : decode cX12_partsAs 50 = .ok (.goto 4, 3) := by decide +kernel
theorem dX12_partsAs_53 : decode cX12_partsAs 53 = .ok (.iconst 0, 1) := by decide +kernel
theorem dX12_partsAs_54 : decode cX12_partsAs 54 = .ok (.putfield 237, 3) := by decide +kernel
theorem dX12_partsAs_57 : decode cX12_partsAs 57 = .ok (.iload_n 3, 1) := by decide +kernel
theorem dX12_partsAs_58 : decode cX12_partsAs 58 = .ok (.ifCond .ne 7, 3) := by decide +kernel
theorem dX12_partsAs_61 : decode cX12_partsAs 61 = .ok (.iconst 0, 1) := by decide +kernel
theorem dX12_partsAs_62 : decode cX12_partsAs 62 = .ok (.goto 16, 3) := by decide +kernel
theorem dX12_partsAs_65 : decode cX12_partsAs 65 = .ok (.iload_n 3, 1) := by decide +kernel
theorem dX12_partsAs_66 : decode cX12_partsAs 66 = .ok (.iconst (-1), 1) := by decide +kernel
theorem dX12_partsAs_67 : decode cX12_partsAs 67 = .ok (.if_icmp .ne 8, 3) := by decide +kernel
theorem dX12_partsAs_70 : decode cX12_partsAs 70 = .ok (.iload_n 2, 1) := by decide +kernel
theorem dX12_partsAs_71 : decode cX12_partsAs 71 = .ok (.ineg, 1) := by decide +kernel
theorem dX12_partsAs_72 : decode cX12_partsAs 72 = .ok (.goto 6, 3) := by decide +kernel
theorem dX12_partsAs_75 : decode cX12_partsAs 75 = .ok (.iload_n 2, 1) := by decide +kernel
theorem dX12_partsAs_76 : decode cX12_partsAs 76 = .ok (.iload_n 3, 1) := by decide +kernel
theorem dX12_partsAs_77 : decode cX12_partsAs 77 = .ok (.idiv, 1) := by decide +kernel
theorem dX12_partsAs_78 : decode cX12_partsAs 78 = .ok (.ireturn, 1) := by decide +kernel
theorem dX12_partsAs_79 : decode cX12_partsAs 79 = .ok (.aload_n 0, 1) := by decide +kernel
theorem dX12_partsAs_80 : decode cX12_partsAs 80 = .ok (.bipush 21, 2) := by decide +kernel
theorem dX12_partsAs_82 : decode cX12_partsAs 82 = .ok (.invokevirtual 219, 3) := by decide +kernel
theorem dX12_partsAs_85 : decode cX12_partsAs 85 = .ok (.aload_n 0, 1) := by decide +kernel
theorem dX12_partsAs_86 : decode cX12_partsAs 86 = .ok (.iconst 1, 1) := by decide +kernel
theorem dX12_partsAs_87 : decode cX12_partsAs 87 = .ok (.invokestatic 182, 3) := by decide +kernel
theorem dX12_partsAs_90 : decode cX12_partsAs 90 = .ok (.iload_n 2, 1) := by decide +kernel
theorem dX12_partsAs_91 : decode cX12_partsAs 91 = .ok (.invokevirtual 241, 3) := by decide +kernel
theorem dX12_partsAs_94 : decode cX12_partsAs 94 = .ok (.istore 4, 2) := by decide +kernel
theorem dX12_partsAs_96 : decode cX12_partsAs 96 = .ok (.aload_n 0, 1) := by decide +kernel
theorem dX12_partsAs_97 : decode cX12_partsAs 97 = .ok (.getfield 237, 3) := by decide +kernel
theorem dX12_partsAs_100 : decode cX12_partsAs 100 = .ok (.ifCond .eq 7, 3) := by decide +kernel
theorem dX12_partsAs_103 : decode cX12_partsAs 103 = .ok (.iconst 0, 1) := by decide +kernel
theorem dX12_partsAs_104 : decode cX12_partsAs 104 = .ok (.goto 15, 3) := by decide +kernel
theorem dX12_partsAs_107 : decode cX12_partsAs 107 = .ok (.iload 4, 2) := by decide +kernel
theorem dX12_partsAs_109 : decode cX12_partsAs 109 = .ok (.aload_n 0, 1) := by decide +kernel
theorem dX12_partsAs_110 : decode cX12_partsAs 110 = .ok (.aload_n 0, 1) := by decide +kernel
theorem dX12_partsAs_111 : decode cX12_partsAs 111 = .ok (.invokevirtual 225, 3) := by decide +kernel
theorem dX12_partsAs_114 : decode cX12_partsAs 114 = .ok (.iconst 1, 1) := by decide +kernel
theorem dX12_partsAs_115 : decode cX12_partsAs 115 = .ok (.invokevirtual 228, 3) := by decide +kernel
theorem dX12_partsAs_118 : decode cX12_partsAs 118 = .ok (.iadd, 1) := by decide +kernel
theorem dX12_partsAs_119 : decode cX12_partsAs 119 = .ok (.ireturn, 1) := by decide +kernel
theorem dX12_partsAs_120 : decode cX12_partsAs 120 = .ok (.aload_n 0, 1) := by decide +kernel
theorem dX12_partsAs_121 : decode cX12_partsAs 121 = .ok (.iload_n 1, 1) := by decide +kernel
theorem dX12_partsAs_122 : decode cX12_partsAs 122 = .ok (.invokestatic 182, 3) := by decide +kernel
theorem dX12_partsAs_125 : decode cX12_partsAs 125 = .ok (.iload_n 2, 1) := by decide +kernel
theorem dX12_partsAs_126 : decode cX12_partsAs 126 = .ok (.invokevirtual 241, 3) := by decide +kernel
theorem dX12_partsAs_129 : decode cX12_partsAs 129 = .ok (.ireturn, 1) := by decide +kernel
theorem dX12_voice_0 : decode cX12_voice 0 = .ok (.aload_n 0, 1) := by decide +kernel
theorem dX12_voice_1 : decode cX12_voice 1 = .ok (.iload_n 1, 1) := by decide +kernel
theorem dX12_voice_2 : decode cX12_voice 2 = .ok (.invokevirtual 176, 3) := by decide +kernel
theorem dX12_voice_5 : decode cX12_voice 5 = .ok (.ifCond .eq 12, 3) := by decide +kernel
theorem dX12_voice_8 : decode cX12_voice 8 = .ok (.iload_n 2, 1) := by decide +kernel
theorem dX12_voice_9 : decode cX12_voice 9 = .ok (.iconst 0, 1) := by decide +kernel
theorem dX12_voice_10 : decode cX12_voice 10 = .ok (.iconst 3, 1) := by decide +kernel
theorem dX12_voice_11 : decode cX12_voice 11 = .ok (.invokestatic 47, 3) := by decide +kernel
theorem dX12_voice_14 : decode cX12_voice 14 = .ok (.ifCond .ne 9, 3) := by decide +kernel
theorem dX12_voice_17 : decode cX12_voice 17 = .ok (.aload_n 0, 1) := by decide +kernel
theorem dX12_voice_18 : decode cX12_voice 18 = .ok (.iconst 1, 1) := by decide +kernel
theorem dX12_voice_19 : decode cX12_voice 19 = .ok (.invokevirtual 51, 3) := by decide +kernel
theorem dX12_voice_22 : decode cX12_voice 22 = .ok (.ireturn, 1) := by decide +kernel
theorem dX12_voice_23 : decode cX12_voice 23 = .ok (.aload_n 0, 1) := by decide +kernel
theorem dX12_voice_24 : decode cX12_voice 24 = .ok (.iconst 0, 1) := by decide +kernel
theorem dX12_voice_25 : decode cX12_voice 25 = .ok (.putfield 213, 3) := by decide +kernel
theorem dX12_voice_28 : decode cX12_voice 28 = .ok (.aload_n 0, 1) := by decide +kernel
theorem dX12_voice_29 : decode cX12_voice 29 = .ok (.iload_n 1, 1) := by decide +kernel
theorem dX12_voice_30 : decode cX12_voice 30 = .ok (.putfield 216, 3) := by decide +kernel
theorem dX12_voice_33 : decode cX12_voice 33 = .ok (.aload_n 0, 1) := by decide +kernel
theorem dX12_voice_34 : decode cX12_voice 34 = .ok (.iconst 0, 1) := by decide +kernel
theorem dX12_voice_35 : decode cX12_voice 35 = .ok (.putfield 237, 3) := by decide +kernel
theorem dX12_voice_38 : decode cX12_voice 38 = .ok (.aload_n 0, 1) := by decide +kernel
theorem dX12_voice_39 : decode cX12_voice 39 = .ok (.invokevirtual 225, 3) := by decide +kernel
theorem dX12_voice_42 : decode cX12_voice 42 = .ok (.istore 4, 2) := by decide +kernel
theorem dX12_voice_44 : decode cX12_voice 44 = .ok (.iload_n 2, 1) := by decide +kernel
theorem dX12_voice_45 : decode cX12_voice 45 = .ok (.ifCond .ne 13, 3) := by decide +kernel
theorem dX12_voice_48 : decode cX12_voice 48 = .ok (.aload_n 0, 1) := by decide +kernel
theorem dX12_voice_49 : decode cX12_voice 49 = .ok (.iload 4, 2) := by decide +kernel
theorem dX12_voice_51 : decode cX12_voice 51 = .ok (.iload_n 3, 1) := by decide +kernel
theorem dX12_voice_52 : decode cX12_voice 52 = .ok (.invokevirtual 222, 3) := by decide +kernel
theorem dX12_voice_55 : decode cX12_voice 55 = .ok (.goto 40, 3) := by decide +kernel
theorem dX12_voice_58 : decode cX12_voice 58 = .ok (.iload_n 2, 1) := by decide +kernel
theorem dX12_voice_59 : decode cX12_voice 59 = .ok (.iconst 1, 1) := by decide +kernel
theorem dX12_voice_60 : decode cX12_voice 60 = .ok (.if_icmp .ne 13, 3) := by decide +kernel
theorem dX12_voice_63 : decode cX12_voice 63 = .ok (.aload_n 0, 1) := by decide +kernel
theorem dX12_voice_64 : decode cX12_voice 64 = .ok (.iload 4, 2) := by decide +kernel
theorem dX12_voice_66 : decode cX12_voice 66 = .ok (.iload_n 3, 1) := by decide +kernel
theorem dX12_voice_67 : decode cX12_voice 67 = .ok (.invokevirtual 228, 3) := by decide +kernel
theorem dX12_voice_70 : decode cX12_voice 70 = .ok (.goto 25, 3) := by decide +kernel
theorem dX12_voice_73 : decode cX12_voice 73 = .ok (.iload_n 2, 1) := by decide +kernel
theorem dX12_voice_74 : decode cX12_voice 74 = .ok (.iconst 2, 1) := by decide +kernel
theorem dX12_voice_75 : decode cX12_voice 75 = .ok (.if_icmp .ne 13, 3) := by decide +kernel
theorem dX12_voice_78 : decode cX12_voice 78 = .ok (.aload_n 0, 1) := by decide +kernel
theorem dX12_voice_79 : decode cX12_voice 79 = .ok (.iload 4, 2) := by decide +kernel
theorem dX12_voice_81 : decode cX12_voice 81 = .ok (.iload_n 3, 1) := by decide +kernel
theorem dX12_voice_82 : decode cX12_voice 82 = .ok (.invokevirtual 234, 3) := by decide +kernel
theorem dX12_voice_85 : decode cX12_voice 85 = .ok (.goto 10, 3) := by decide +kernel
theorem dX12_voice_88 : decode cX12_voice 88 = .ok (.aload_n 0, 1) := by decide +kernel
theorem dX12_voice_89 : decode cX12_voice 89 = .ok (.iload 4, 2) := by decide +kernel
theorem dX12_voice_91 : decode cX12_voice 91 = .ok (.iload_n 3, 1) := by decide +kernel
theorem dX12_voice_92 : decode cX12_voice 92 = .ok (.invokevirtual 241, 3) := by decide +kernel
theorem dX12_voice_95 : decode cX12_voice 95 = .ok (.istore 5, 2) := by decide +kernel
theorem dX12_voice_97 : decode cX12_voice 97 = .ok (.aload_n 0, 1) := by decide +kernel
theorem dX12_voice_98 : decode cX12_voice 98 = .ok (.getfield 237, 3) := by decide +kernel
theorem dX12_voice_101 : decode cX12_voice 101 = .ok (.ifCond .eq 12, 3) := by decide +kernel
theorem dX12_voice_104 : decode cX12_voice 104 = .ok (.aload_n 0, 1) := by decide +kernel
theorem dX12_voice_105 : decode cX12_voice 105 = .ok (.bipush 6, 2) := by decide +kernel
theorem dX12_voice_107 : decode cX12_voice 107 = .ok (.invokevirtual 51, 3) := by decide +kernel
theorem dX12_voice_110 : decode cX12_voice 110 = .ok (.goto 5, 3) := by decide +kernel
theorem dX12_voice_113 : decode cX12_voice 113 = .ok (.iload 5, 2) := by decide +kernel
theorem dX12_voice_115 : decode cX12_voice 115 = .ok (.ireturn, 1) := by decide +kernel
theorem dX12_body_0 : decode cX12_body 0 = .ok (.iload_n 1, 1) := by decide +kernel
theorem dX12_body_1 : decode cX12_body 1 = .ok (.iconst 0, 1) := by decide +kernel
theorem dX12_body_2 : decode cX12_body 2 = .ok (.aload_n 0, 1) := by decide +kernel
theorem dX12_body_3 : decode cX12_body 3 = .ok (.getfield 213, 3) := by decide +kernel
theorem dX12_body_6 : decode cX12_body 6 = .ok (.iconst 1, 1) := by decide +kernel
theorem dX12_body_7 : decode cX12_body 7 = .ok (.isub, 1) := by decide +kernel
theorem dX12_body_8 : decode cX12_body 8 = .ok (.invokestatic 47, 3) := by decide +kernel
theorem dX12_body_11 : decode cX12_body 11 = .ok (.ifCond .eq 12, 3) := by decide +kernel
theorem dX12_body_14 : decode cX12_body 14 = .ok (.aload_n 0, 1) := by decide +kernel
theorem dX12_body_15 : decode cX12_body 15 = .ok (.getfield 31, 3) := by decide +kernel
theorem dX12_body_18 : decode cX12_body 18 = .ok (.iload_n 1, 1) := by decide +kernel
theorem dX12_body_19 : decode cX12_body 19 = .ok (.iaload, 1) := by decide +kernel
theorem dX12_body_20 : decode cX12_body 20 = .ok (.goto 8, 3) := by decide +kernel
theorem dX12_body_23 : decode cX12_body 23 = .ok (.aload_n 0, 1) := by decide +kernel
theorem dX12_body_24 : decode cX12_body 24 = .ok (.iconst 2, 1) := by decide +kernel
theorem dX12_body_25 : decode cX12_body 25 = .ok (.invokevirtual 51, 3) := by decide +kernel
theorem dX12_body_28 : decode cX12_body 28 = .ok (.ireturn, 1) := by decide +kernel
theorem dX12_isSheet_0 : decode cX12_isSheet 0 = .ok (.iload_n 0, 1) := by decide +kernel
theorem dX12_isSheet_1 : decode cX12_isSheet 1 = .ok (.iconst 0, 1) := by decide +kernel
theorem dX12_isSheet_2 : decode cX12_isSheet 2 = .ok (.iconst 3, 1) := by decide +kernel
theorem dX12_isSheet_3 : decode cX12_isSheet 3 = .ok (.invokestatic 47, 3) := by decide +kernel
theorem dX12_isSheet_6 : decode cX12_isSheet 6 = .ok (.ireturn, 1) := by decide +kernel
theorem dX12_sheet_0 : decode cX12_sheet 0 = .ok (.iload_n 1, 1) := by decide +kernel
theorem dX12_sheet_1 : decode cX12_sheet 1 = .ok (.invokestatic 210, 3) := by decide +kernel
theorem dX12_sheet_4 : decode cX12_sheet 4 = .ok (.ifCond .eq 25, 3) := by decide +kernel
theorem dX12_sheet_7 : decode cX12_sheet 7 = .ok (.iload_n 2, 1) := by decide +kernel
theorem dX12_sheet_8 : decode cX12_sheet 8 = .ok (.ifCond .eq 27, 3) := by decide +kernel
theorem dX12_sheet_11 : decode cX12_sheet 11 = .ok (.iload_n 2, 1) := by decide +kernel
theorem dX12_sheet_12 : decode cX12_sheet 12 = .ok (.bipush 8, 2) := by decide +kernel
theorem dX12_sheet_14 : decode cX12_sheet 14 = .ok (.if_icmp .eq 21, 3) := by decide +kernel
theorem dX12_sheet_17 : decode cX12_sheet 17 = .ok (.iload_n 2, 1) := by decide +kernel
theorem dX12_sheet_18 : decode cX12_sheet 18 = .ok (.bipush 16, 2) := by decide +kernel
theorem dX12_sheet_20 : decode cX12_sheet 20 = .ok (.if_icmp .eq 15, 3) := by decide +kernel
theorem dX12_sheet_23 : decode cX12_sheet 23 = .ok (.iload_n 2, 1) := by decide +kernel
theorem dX12_sheet_24 : decode cX12_sheet 24 = .ok (.bipush 32, 2) := by decide +kernel
theorem dX12_sheet_26 : decode cX12_sheet 26 = .ok (.if_icmp .eq 9, 3) := by decide +kernel
theorem dX12_sheet_29 : decode cX12_sheet 29 = .ok (.aload_n 0, 1) := by decide +kernel
theorem dX12_sheet_30 : decode cX12_sheet 30 = .ok (.iconst 1, 1) := by decide +kernel
theorem dX12_sheet_31 : decode cX12_sheet 31 = .ok (.invokevirtual 51, 3) := by decide +kernel
theorem dX12_sheet_34 : decode cX12_sheet 34 = .ok (.ireturn, 1) := by decide +kernel
theorem dX12_sheet_35 : decode cX12_sheet 35 = .ok (.iload_n 2, 1) := by decide +kernel
theorem dX12_sheet_36 : decode cX12_sheet 36 = .ok (.ifCond .eq 13, 3) := by decide +kernel
theorem dX12_sheet_39 : decode cX12_sheet 39 = .ok (.iload_n 3, 1) := by decide +kernel
theorem dX12_sheet_40 : decode cX12_sheet 40 = .ok (.ifCond .ge 9, 3) := by decide +kernel
theorem dX12_sheet_43 : decode cX12_sheet 43 = .ok (.aload_n 0, 1) := by decide +kernel
theorem dX12_sheet_44 : decode cX12_sheet 44 = .ok (.iconst 3, 1) := by decide +kernel
theorem dX12_sheet_45 : decode cX12_sheet 45 = .ok (.invokevirtual 51, 3) := by decide +kernel
theorem dX12_sheet_48 : decode cX12_sheet 48 = .ok (.ireturn, 1) := by decide +kernel
theorem dX12_sheet_49 : decode cX12_sheet 49 = .ok (.iload_n 2, 1) := by decide +kernel
theorem dX12_sheet_50 : decode cX12_sheet 50 = .ok (.ifCond .eq 15, 3) := by decide +kernel
theorem dX12_sheet_53 : decode cX12_sheet 53 = .ok (.iload_n 3, 1) := by decide +kernel
theorem dX12_sheet_54 : decode cX12_sheet 54 = .ok (.bipush 24, 2) := by decide +kernel
theorem dX12_sheet_56 : decode cX12_sheet 56 = .ok (.if_icmp .le 9, 3) := by decide +kernel
theorem dX12_sheet_59 : decode cX12_sheet 59 = .ok (.aload_n 0, 1) := by decide +kernel
theorem dX12_sheet_60 : decode cX12_sheet 60 = .ok (.iconst 1, 1) := by decide +kernel
theorem dX12_sheet_61 : decode cX12_sheet 61 = .ok (.invokevirtual 51, 3) := by decide +kernel
theorem dX12_sheet_64 : decode cX12_sheet 64 = .ok (.ireturn, 1) := by decide +kernel
theorem dX12_sheet_65 : decode cX12_sheet 65 = .ok (.aload_n 0, 1) := by decide +kernel
theorem dX12_sheet_66 : decode cX12_sheet 66 = .ok (.getfield 34, 3) := by decide +kernel
theorem dX12_sheet_69 : decode cX12_sheet 69 = .ok (.iload_n 1, 1) := by decide +kernel
theorem dX12_sheet_70 : decode cX12_sheet 70 = .ok (.iload_n 2, 1) := by decide +kernel
theorem dX12_sheet_71 : decode cX12_sheet 71 = .ok (.iastore, 1) := by decide +kernel
theorem dX12_sheet_72 : decode cX12_sheet 72 = .ok (.aload_n 0, 1) := by decide +kernel
theorem dX12_sheet_73 : decode cX12_sheet 73 = .ok (.getfield 37, 3) := by decide +kernel
theorem dX12_sheet_76 : decode cX12_sheet 76 = .ok (.iload_n 1, 1) := by decide +kernel
theorem dX12_sheet_77 : decode cX12_sheet 77 = .ok (.iload_n 2, 1) := by decide +kernel
theorem dX12_sheet_78 : decode cX12_sheet 78 = .ok (.ifCond .ne 7, 3) := by decide +kernel
theorem dX12_sheet_81 : decode cX12_sheet 81 = .ok (.iconst 0, 1) := by decide +kernel
theorem dX12_sheet_82 : decode cX12_sheet 82 = .ok (.goto 4, 3) := by decide +kernel
theorem dX12_sheet_85 : decode cX12_sheet 85 = .ok (.iload_n 3, 1) := by decide +kernel
theorem dX12_sheet_86 : decode cX12_sheet 86 = .ok (.iastore, 1) := by decide +kernel
theorem dX12_sheet_87 : decode cX12_sheet 87 = .ok (.iconst 0, 1) := by decide +kernel
theorem dX12_sheet_88 : decode cX12_sheet 88 = .ok (.istore 4, 2) := by decide +kernel
theorem dX12_sheet_90 : decode cX12_sheet 90 = .ok (.iload 4, 2) := by decide +kernel
theorem dX12_sheet_92 : decode cX12_sheet 92 = .ok (.bipush 24, 2) := by decide +kernel
theorem dX12_sheet_94 : decode cX12_sheet 94 = .ok (.if_icmp .ge 22, 3) := by decide +kernel
theorem dX12_sheet_97 : decode cX12_sheet 97 = .ok (.aload_n 0, 1) := by decide +kernel
theorem dX12_sheet_98 : decode cX12_sheet 98 = .ok (.getfield 40, 3) := by decide +kernel
theorem dX12_sheet_101 : decode cX12_sheet 101 = .ok (.bipush 24, 2) := by decide +kernel
theorem dX12_sheet_103 : decode cX12_sheet 103 = .ok (.iload_n 1, 1) := by decide +kernel
theorem dX12_sheet_104 : decode cX12_sheet 104 = .ok (.imul, 1) := by decide +kernel
theorem dX12_sheet_105 : decode cX12_sheet 105 = .ok (.iload 4, 2) := by decide +kernel
theorem dX12_sheet_107 : decode cX12_sheet 107 = .ok (.iadd, 1) := by decide +kernel
theorem dX12_sheet_108 : decode cX12_sheet 108 = .ok (.iconst 0, 1) := by decide +kernel
theorem dX12_sheet_109 : decode cX12_sheet 109 = .ok (.iastore, 1) := by decide +kernel
theorem dX12_sheet_110 : decode cX12_sheet 110 = .ok (.iinc 4 1, 3) := by decide +kernel
theorem dX12_sheet_113 : decode cX12_sheet 113 = .ok (.goto (-23), 3) := by decide +kernel
theorem dX12_sheet_116 : decode cX12_sheet 116 = .ok (.iconst 1, 1) := by decide +kernel
theorem dX12_sheet_117 : decode cX12_sheet 117 = .ok (.ireturn, 1) := by decide +kernel
theorem dX12_put_0 : decode cX12_put 0 = .ok (.iload_n 1, 1) := by decide +kernel
theorem dX12_put_1 : decode cX12_put 1 = .ok (.invokestatic 210, 3) := by decide +kernel
theorem dX12_put_4 : decode cX12_put 4 = .ok (.ifCond .ne 9, 3) := by decide +kernel
theorem dX12_put_7 : decode cX12_put 7 = .ok (.aload_n 0, 1) := by decide +kernel
theorem dX12_put_8 : decode cX12_put 8 = .ok (.iconst 1, 1) := by decide +kernel
theorem dX12_put_9 : decode cX12_put 9 = .ok (.invokevirtual 51, 3) := by decide +kernel
theorem dX12_put_12 : decode cX12_put 12 = .ok (.ireturn, 1) := by decide +kernel
theorem dX12_put_13 : decode cX12_put 13 = .ok (.aload_n 0, 1) := by decide +kernel
theorem dX12_put_14 : decode cX12_put 14 = .ok (.getfield 34, 3) := by decide +kernel
theorem dX12_put_17 : decode cX12_put 17 = .ok (.iload_n 1, 1) := by decide +kernel
theorem dX12_put_18 : decode cX12_put 18 = .ok (.iaload, 1) := by decide +kernel
theorem dX12_put_19 : decode cX12_put 19 = .ok (.ifCond .ne 9, 3) := by decide +kernel
theorem dX12_put_22 : decode cX12_put 22 = .ok (.aload_n 0, 1) := by decide +kernel
theorem dX12_put_23 : decode cX12_put 23 = .ok (.iconst 2, 1) := by decide +kernel
theorem dX12_put_24 : decode cX12_put 24 = .ok (.invokevirtual 51, 3) := by decide +kernel
theorem dX12_put_27 : decode cX12_put 27 = .ok (.ireturn, 1) := by decide +kernel
theorem dX12_put_28 : decode cX12_put 28 = .ok (.iload_n 2, 1) := by decide +kernel
theorem dX12_put_29 : decode cX12_put 29 = .ok (.iconst 0, 1) := by decide +kernel
theorem dX12_put_30 : decode cX12_put 30 = .ok (.aload_n 0, 1) := by decide +kernel
theorem dX12_put_31 : decode cX12_put 31 = .ok (.getfield 37, 3) := by decide +kernel
theorem dX12_put_34 : decode cX12_put 34 = .ok (.iload_n 1, 1) := by decide +kernel
theorem dX12_put_35 : decode cX12_put 35 = .ok (.iaload, 1) := by decide +kernel
theorem dX12_put_36 : decode cX12_put 36 = .ok (.iconst 1, 1) := by decide +kernel
theorem dX12_put_37 : decode cX12_put 37 = .ok (.isub, 1) := by decide +kernel
theorem dX12_put_38 : decode cX12_put 38 = .ok (.invokestatic 47, 3) := by decide +kernel
theorem dX12_put_41 : decode cX12_put 41 = .ok (.ifCond .ne 9, 3) := by decide +kernel
theorem dX12_put_44 : decode cX12_put 44 = .ok (.aload_n 0, 1) := by decide +kernel
theorem dX12_put_45 : decode cX12_put 45 = .ok (.iconst 1, 1) := by decide +kernel
theorem dX12_put_46 : decode cX12_put 46 = .ok (.invokevirtual 51, 3) := by decide +kernel
theorem dX12_put_49 : decode cX12_put 49 = .ok (.ireturn, 1) := by decide +kernel
theorem dX12_put_50 : decode cX12_put 50 = .ok (.bipush 32, 2) := by decide +kernel
theorem dX12_put_52 : decode cX12_put 52 = .ok (.aload_n 0, 1) := by decide +kernel
theorem dX12_put_53 : decode cX12_put 53 = .ok (.getfield 34, 3) := by decide +kernel
theorem dX12_put_56 : decode cX12_put 56 = .ok (.iload_n 1, 1) := by decide +kernel
theorem dX12_put_57 : decode cX12_put 57 = .ok (.iaload, 1) := by decide +kernel
theorem dX12_put_58 : decode cX12_put 58 = .ok (.isub, 1) := by decide +kernel
theorem dX12_put_59 : decode cX12_put 59 = .ok (.istore 4, 2) := by decide +kernel
theorem dX12_put_61 : decode cX12_put 61 = .ok (.aload_n 0, 1) := by decide +kernel
theorem dX12_put_62 : decode cX12_put 62 = .ok (.getfield 40, 3) := by decide +kernel
theorem dX12_put_65 : decode cX12_put 65 = .ok (.bipush 24, 2) := by decide +kernel
theorem dX12_put_67 : decode cX12_put 67 = .ok (.iload_n 1, 1) := by decide +kernel
theorem dX12_put_68 : decode cX12_put 68 = .ok (.imul, 1) := by decide +kernel
theorem dX12_put_69 : decode cX12_put 69 = .ok (.iload_n 2, 1) := by decide +kernel
theorem dX12_put_70 : decode cX12_put 70 = .ok (.iadd, 1) := by decide +kernel
theorem dX12_put_71 : decode cX12_put 71 = .ok (.iload_n 3, 1) := by decide +kernel
theorem dX12_put_72 : decode cX12_put 72 = .ok (.iload 4, 2) := by decide +kernel
theorem dX12_put_74 : decode cX12_put 74 = .ok (.ishl, 1) := by decide +kernel
theorem dX12_put_75 : decode cX12_put 75 = .ok (.iload 4, 2) := by decide +kernel
theorem dX12_put_77 : decode cX12_put 77 = .ok (.ishr, 1) := by decide +kernel
theorem dX12_put_78 : decode cX12_put 78 = .ok (.iastore, 1) := by decide +kernel
theorem dX12_put_79 : decode cX12_put 79 = .ok (.iconst 1, 1) := by decide +kernel
theorem dX12_put_80 : decode cX12_put 80 = .ok (.ireturn, 1) := by decide +kernel
theorem dX12_move_0 : decode cX12_move 0 = .ok (.iload_n 1, 1) := by decide +kernel
theorem dX12_move_1 : decode cX12_move 1 = .ok (.invokestatic 210, 3) := by decide +kernel
theorem dX12_move_4 : decode cX12_move 4 = .ok (.ifCond .eq 10, 3) := by decide +kernel
theorem dX12_move_7 : decode cX12_move 7 = .ok (.iload_n 3, 1) := by decide +kernel
theorem dX12_move_8 : decode cX12_move 8 = .ok (.invokestatic 210, 3) := by decide +kernel
theorem dX12_move_11 : decode cX12_move 11 = .ok (.ifCond .ne 9, 3) := by decide +kernel
theorem dX12_move_14 : decode cX12_move 14 = .ok (.aload_n 0, 1) := by decide +kernel
theorem dX12_move_15 : decode cX12_move 15 = .ok (.iconst 1, 1) := by decide +kernel
theorem dX12_move_16 : decode cX12_move 16 = .ok (.invokevirtual 51, 3) := by decide +kernel
theorem dX12_move_19 : decode cX12_move 19 = .ok (.ireturn, 1) := by decide +kernel
theorem dX12_move_20 : decode cX12_move 20 = .ok (.aload_n 0, 1) := by decide +kernel
theorem dX12_move_21 : decode cX12_move 21 = .ok (.getfield 34, 3) := by decide +kernel
theorem dX12_move_24 : decode cX12_move 24 = .ok (.iload_n 1, 1) := by decide +kernel
theorem dX12_move_25 : decode cX12_move 25 = .ok (.iaload, 1) := by decide +kernel
theorem dX12_move_26 : decode cX12_move 26 = .ok (.ifCond .eq 12, 3) := by decide +kernel
theorem dX12_move_29 : decode cX12_move 29 = .ok (.aload_n 0, 1) := by decide +kernel
theorem dX12_move_30 : decode cX12_move 30 = .ok (.getfield 34, 3) := by decide +kernel
theorem dX12_move_33 : decode cX12_move 33 = .ok (.iload_n 3, 1) := by decide +kernel
theorem dX12_move_34 : decode cX12_move 34 = .ok (.iaload, 1) := by decide +kernel
theorem dX12_move_35 : decode cX12_move 35 = .ok (.ifCond .ne 9, 3) := by decide +kernel
theorem dX12_move_38 : decode cX12_move 38 = .ok (.aload_n 0, 1) := by decide +kernel
theorem dX12_move_39 : decode cX12_move 39 = .ok (.iconst 2, 1) := by decide +kernel
theorem dX12_move_40 : decode cX12_move 40 = .ok (.invokevirtual 51, 3) := by decide +kernel
theorem dX12_move_43 : decode cX12_move 43 = .ok (.ireturn, 1) := by decide +kernel
theorem dX12_move_44 : decode cX12_move 44 = .ok (.aload_n 0, 1) := by decide +kernel
theorem dX12_move_45 : decode cX12_move 45 = .ok (.getfield 34, 3) := by decide +kernel
theorem dX12_move_48 : decode cX12_move 48 = .ok (.iload_n 1, 1) := by decide +kernel
theorem dX12_move_49 : decode cX12_move 49 = .ok (.iaload, 1) := by decide +kernel
theorem dX12_move_50 : decode cX12_move 50 = .ok (.aload_n 0, 1) := by decide +kernel
theorem dX12_move_51 : decode cX12_move 51 = .ok (.getfield 34, 3) := by decide +kernel
theorem dX12_move_54 : decode cX12_move 54 = .ok (.iload_n 3, 1) := by decide +kernel
theorem dX12_move_55 : decode cX12_move 55 = .ok (.iaload, 1) := by decide +kernel
theorem dX12_move_56 : decode cX12_move 56 = .ok (.if_icmp .eq 9, 3) := by decide +kernel
theorem dX12_move_59 : decode cX12_move 59 = .ok (.aload_n 0, 1) := by decide +kernel
theorem dX12_move_60 : decode cX12_move 60 = .ok (.iconst 5, 1) := by decide +kernel
theorem dX12_move_61 : decode cX12_move 61 = .ok (.invokevirtual 51, 3) := by decide +kernel
theorem dX12_move_64 : decode cX12_move 64 = .ok (.ireturn, 1) := by decide +kernel
theorem dX12_move_65 : decode cX12_move 65 = .ok (.iload 5, 2) := by decide +kernel
theorem dX12_move_67 : decode cX12_move 67 = .ok (.ifCond .lt 39, 3) := by decide +kernel
theorem dX12_move_70 : decode cX12_move 70 = .ok (.iload_n 2, 1) := by decide +kernel
theorem dX12_move_71 : decode cX12_move 71 = .ok (.ifCond .lt 35, 3) := by decide +kernel
theorem dX12_move_74 : decode cX12_move 74 = .ok (.iload 4, 2) := by decide +kernel
theorem dX12_move_76 : decode cX12_move 76 = .ok (.ifCond .lt 30, 3) := by decide +kernel
theorem dX12_move_79 : decode cX12_move 79 = .ok (.iload_n 2, 1) := by decide +kernel
theorem dX12_move_80 : decode cX12_move 80 = .ok (.aload_n 0, 1) := by decide +kernel
theorem dX12_move_81 : decode cX12_move 81 = .ok (.getfield 37, 3) := by decide +kernel
theorem dX12_move_84 : decode cX12_move 84 = .ok (.iload_n 1, 1) := by decide +kernel
theorem dX12_move_85 : decode cX12_move 85 = .ok (.iaload, 1) := by decide +kernel
theorem dX12_move_86 : decode cX12_move 86 = .ok (.iload 5, 2) := by decide +kernel
theorem dX12_move_88 : decode cX12_move 88 = .ok (.isub, 1) := by decide +kernel
theorem dX12_move_89 : decode cX12_move 89 = .ok (.if_icmp .gt 17, 3) := by decide +kernel
theorem dX12_move_92 : decode cX12_move 92 = .ok (.iload 4, 2) := by decide +kernel
theorem dX12_move_94 : decode cX12_move 94 = .ok (.aload_n 0, 1) := by decide +kernel
theorem dX12_move_95 : decode cX12_move 95 = .ok (.getfield 37, 3) := by decide +kernel
theorem dX12_move_98 : decode cX12_move 98 = .ok (.iload_n 3, 1) := by decide +kernel
theorem dX12_move_99 : decode cX12_move 99 = .ok (.iaload, 1) := by decide +kernel
theorem dX12_move_100 : decode cX12_move 100 = .ok (.iload 5, 2) := by decide +kernel
theorem dX12_move_102 : decode cX12_move 102 = .ok (.isub, 1) := by decide +kernel
theorem dX12_move_103 : decode cX12_move 103 = .ok (.if_icmp .le 9, 3) := by decide +kernel
theorem dX12_move_106 : decode cX12_move 106 = .ok (.aload_n 0, 1) := by decide +kernel
theorem dX12_move_107 : decode cX12_move 107 = .ok (.iconst 1, 1) := by decide +kernel
theorem dX12_move_108 : decode cX12_move 108 = .ok (.invokevirtual 51, 3) := by decide +kernel
theorem dX12_move_111 : decode cX12_move 111 = .ok (.ireturn, 1) := by decide +kernel
theorem dX12_move_112 : decode cX12_move 112 = .ok (.iconst 0, 1) := by decide +kernel
theorem dX12_move_113 : decode cX12_move 113 = .ok (.istore 6, 2) := by decide +kernel
theorem dX12_move_115 : decode cX12_move 115 = .ok (.iload 6, 2) := by decide +kernel
theorem dX12_move_117 : decode cX12_move 117 = .ok (.iload 5, 2) := by decide +kernel
theorem dX12_move_119 : decode cX12_move 119 = .ok (.if_icmp .ge 30, 3) := by decide +kernel
theorem dX12_move_122 : decode cX12_move 122 = .ok (.aload_n 0, 1) := by decide +kernel
theorem dX12_move_123 : decode cX12_move 123 = .ok (.getfield 43, 3) := by decide +kernel
theorem dX12_move_126 : decode cX12_move 126 = .ok (.iload 6, 2) := by decide +kernel
theorem dX12_move_128 : decode cX12_move 128 = .ok (.aload_n 0, 1) := by decide +kernel
theorem dX12_move_129 : decode cX12_move 129 = .ok (.getfield 40, 3) := by decide +kernel
theorem dX12_move_132 : decode cX12_move 132 = .ok (.bipush 24, 2) := by decide +kernel
theorem dX12_move_134 : decode cX12_move 134 = .ok (.iload_n 1, 1) := by decide +kernel
theorem dX12_move_135 : decode cX12_move 135 = .ok (.imul, 1) := by decide +kernel
theorem dX12_move_136 : decode cX12_move 136 = .ok (.iload_n 2, 1) := by decide +kernel
theorem dX12_move_137 : decode cX12_move 137 = .ok (.iadd, 1) := by decide +kernel
theorem dX12_move_138 : decode cX12_move 138 = .ok (.iload 6, 2) := by decide +kernel
theorem dX12_move_140 : decode cX12_move 140 = .ok (.iadd, 1) := by decide +kernel
theorem dX12_move_141 : decode cX12_move 141 = .ok (.iaload, 1) := by decide +kernel
theorem dX12_move_142 : decode cX12_move 142 = .ok (.iastore, 1) := by decide +kernel
theorem dX12_move_143 : decode cX12_move 143 = .ok (.iinc 6 1, 3) := by decide +kernel
theorem dX12_move_146 : decode cX12_move 146 = .ok (.goto (-31), 3) := by decide +kernel
theorem dX12_move_149 : decode cX12_move 149 = .ok (.iconst 0, 1) := by decide +kernel
theorem dX12_move_150 : decode cX12_move 150 = .ok (.istore 6, 2) := by decide +kernel
theorem dX12_move_152 : decode cX12_move 152 = .ok (.iload 6, 2) := by decide +kernel
theorem dX12_move_154 : decode cX12_move 154 = .ok (.iload 5, 2) := by decide +kernel
theorem dX12_move_156 : decode cX12_move 156 = .ok (.if_icmp .ge 31, 3) := by decide +kernel
theorem dX12_move_159 : decode cX12_move 159 = .ok (.aload_n 0, 1) := by decide +kernel
theorem dX12_move_160 : decode cX12_move 160 = .ok (.getfield 40, 3) := by decide +kernel
theorem dX12_move_163 : decode cX12_move 163 = .ok (.bipush 24, 2) := by decide +kernel
theorem dX12_move_165 : decode cX12_move 165 = .ok (.iload_n 3, 1) := by decide +kernel
theorem dX12_move_166 : decode cX12_move 166 = .ok (.imul, 1) := by decide +kernel
theorem dX12_move_167 : decode cX12_move 167 = .ok (.iload 4, 2) := by decide +kernel
theorem dX12_move_169 : decode cX12_move 169 = .ok (.iadd, 1) := by decide +kernel
theorem dX12_move_170 : decode cX12_move 170 = .ok (.iload 6, 2) := by decide +kernel
theorem dX12_move_172 : decode cX12_move 172 = .ok (.iadd, 1) := by decide +kernel
theorem dX12_move_173 : decode cX12_move 173 = .ok (.aload_n 0, 1) := by decide +kernel
theorem dX12_move_174 : decode cX12_move 174 = .ok (.getfield 43, 3) := by decide +kernel
theorem dX12_move_177 : decode cX12_move 177 = .ok (.iload 6, 2) := by decide +kernel
theorem dX12_move_179 : decode cX12_move 179 = .ok (.iaload, 1) := by decide +kernel
theorem dX12_move_180 : decode cX12_move 180 = .ok (.iastore, 1) := by decide +kernel
theorem dX12_move_181 : decode cX12_move 181 = .ok (.iinc 6 1, 3) := by decide +kernel
theorem dX12_move_184 : decode cX12_move 184 = .ok (.goto (-32), 3) := by decide +kernel
theorem dX12_move_187 : decode cX12_move 187 = .ok (.iload 5, 2) := by decide +kernel
theorem dX12_move_189 : decode cX12_move 189 = .ok (.ireturn, 1) := by decide +kernel
theorem dX12_lacks_0 : decode cX12_lacks 0 = .ok (.iload_n 1, 1) := by decide +kernel
theorem dX12_lacks_1 : decode cX12_lacks 1 = .ok (.invokestatic 210, 3) := by decide +kernel
theorem dX12_lacks_4 : decode cX12_lacks 4 = .ok (.ifCond .ne 7, 3) := by decide +kernel
theorem dX12_lacks_7 : decode cX12_lacks 7 = .ok (.iconst 1, 1) := by decide +kernel
theorem dX12_lacks_8 : decode cX12_lacks 8 = .ok (.goto 17, 3) := by decide +kernel
theorem dX12_lacks_11 : decode cX12_lacks 11 = .ok (.aload_n 0, 1) := by decide +kernel
theorem dX12_lacks_12 : decode cX12_lacks 12 = .ok (.getfield 34, 3) := by decide +kernel
theorem dX12_lacks_15 : decode cX12_lacks 15 = .ok (.iload_n 1, 1) := by decide +kernel
theorem dX12_lacks_16 : decode cX12_lacks 16 = .ok (.iaload, 1) := by decide +kernel
theorem dX12_lacks_17 : decode cX12_lacks 17 = .ok (.ifCond .ne 7, 3) := by decide +kernel
theorem dX12_lacks_20 : decode cX12_lacks 20 = .ok (.iconst 2, 1) := by decide +kernel
theorem dX12_lacks_21 : decode cX12_lacks 21 = .ok (.goto 4, 3) := by decide +kernel
theorem dX12_lacks_24 : decode cX12_lacks 24 = .ok (.iconst 0, 1) := by decide +kernel
theorem dX12_lacks_25 : decode cX12_lacks 25 = .ok (.ireturn, 1) := by decide +kernel
theorem dX12_grounds_0 : decode cX12_grounds 0 = .ok (.aload_n 0, 1) := by decide +kernel
theorem dX12_grounds_1 : decode cX12_grounds 1 = .ok (.iload_n 1, 1) := by decide +kernel
theorem dX12_grounds_2 : decode cX12_grounds 2 = .ok (.invokevirtual 244, 3) := by decide +kernel
theorem dX12_grounds_5 : decode cX12_grounds 5 = .ok (.istore_n 2, 1) := by decide +kernel
theorem dX12_grounds_6 : decode cX12_grounds 6 = .ok (.iload_n 2, 1) := by decide +kernel
theorem dX12_grounds_7 : decode cX12_grounds 7 = .ok (.ifCond .eq 9, 3) := by decide +kernel
theorem dX12_grounds_10 : decode cX12_grounds 10 = .ok (.aload_n 0, 1) := by decide +kernel
theorem dX12_grounds_11 : decode cX12_grounds 11 = .ok (.iload_n 2, 1) := by decide +kernel
theorem dX12_grounds_12 : decode cX12_grounds 12 = .ok (.invokevirtual 51, 3) := by decide +kernel
theorem dX12_grounds_15 : decode cX12_grounds 15 = .ok (.ireturn, 1) := by decide +kernel
theorem dX12_grounds_16 : decode cX12_grounds 16 = .ok (.iconst 0, 1) := by decide +kernel
theorem dX12_grounds_17 : decode cX12_grounds 17 = .ok (.istore_n 3, 1) := by decide +kernel
theorem dX12_grounds_18 : decode cX12_grounds 18 = .ok (.iload_n 3, 1) := by decide +kernel
theorem dX12_grounds_19 : decode cX12_grounds 19 = .ok (.aload_n 0, 1) := by decide +kernel
theorem dX12_grounds_20 : decode cX12_grounds 20 = .ok (.getfield 37, 3) := by decide +kernel
theorem dX12_grounds_23 : decode cX12_grounds 23 = .ok (.iload_n 1, 1) := by decide +kernel
theorem dX12_grounds_24 : decode cX12_grounds 24 = .ok (.iaload, 1) := by decide +kernel
theorem dX12_grounds_25 : decode cX12_grounds 25 = .ok (.if_icmp .ge 55, 3) := by decide +kernel
theorem dX12_grounds_28 : decode cX12_grounds 28 = .ok (.iload_n 3, 1) := by decide +kernel
theorem dX12_grounds_29 : decode cX12_grounds 29 = .ok (.bipush 16, 2) := by decide +kernel
theorem dX12_grounds_31 : decode cX12_grounds 31 = .ok (.if_icmp .ge 49, 3) := by decide +kernel
theorem dX12_grounds_34 : decode cX12_grounds 34 = .ok (.aload_n 0, 1) := by decide +kernel
theorem dX12_grounds_35 : decode cX12_grounds 35 = .ok (.getfield 40, 3) := by decide +kernel
theorem dX12_grounds_38 : decode cX12_grounds 38 = .ok (.bipush 24, 2) := by decide +kernel
theorem dX12_grounds_40 : decode cX12_grounds 40 = .ok (.iload_n 1, 1) := by decide +kernel
theorem dX12_grounds_41 : decode cX12_grounds 41 = .ok (.imul, 1) := by decide +kernel
theorem dX12_grounds_42 : decode cX12_grounds 42 = .ok (.iload_n 3, 1) := by decide +kernel
theorem dX12_grounds_43 : decode cX12_grounds 43 = .ok (.iadd, 1) := by decide +kernel
theorem dX12_grounds_44 : decode cX12_grounds 44 = .ok (.iaload, 1) := by decide +kernel
theorem dX12_grounds_45 : decode cX12_grounds 45 = .ok (.iconst 0, 1) := by decide +kernel
theorem dX12_grounds_46 : decode cX12_grounds 46 = .ok (.bipush 9, 2) := by decide +kernel
theorem dX12_grounds_48 : decode cX12_grounds 48 = .ok (.invokestatic 47, 3) := by decide +kernel
theorem dX12_grounds_51 : decode cX12_grounds 51 = .ok (.ifCond .eq 29, 3) := by decide +kernel
theorem dX12_grounds_54 : decode cX12_grounds 54 = .ok (.aload_n 0, 1) := by decide +kernel
theorem dX12_grounds_55 : decode cX12_grounds 55 = .ok (.getfield 7, 3) := by decide +kernel
theorem dX12_grounds_58 : decode cX12_grounds 58 = .ok (.bipush 12, 2) := by decide +kernel
theorem dX12_grounds_60 : decode cX12_grounds 60 = .ok (.iload_n 3, 1) := by decide +kernel
theorem dX12_grounds_61 : decode cX12_grounds 61 = .ok (.iadd, 1) := by decide +kernel
theorem dX12_grounds_62 : decode cX12_grounds 62 = .ok (.aload_n 0, 1) := by decide +kernel
theorem dX12_grounds_63 : decode cX12_grounds 63 = .ok (.getfield 40, 3) := by decide +kernel
theorem dX12_grounds_66 : decode cX12_grounds 66 = .ok (.bipush 24, 2) := by decide +kernel
theorem dX12_grounds_68 : decode cX12_grounds 68 = .ok (.iload_n 1, 1) := by decide +kernel
theorem dX12_grounds_69 : decode cX12_grounds 69 = .ok (.imul, 1) := by decide +kernel
theorem dX12_grounds_70 : decode cX12_grounds 70 = .ok (.iload_n 3, 1) := by decide +kernel
theorem dX12_grounds_71 : decode cX12_grounds 71 = .ok (.iadd, 1) := by decide +kernel
theorem dX12_grounds_72 : decode cX12_grounds 72 = .ok (.iaload, 1) := by decide +kernel
theorem dX12_grounds_73 : decode cX12_grounds 73 = .ok (.iastore, 1) := by decide +kernel
theorem dX12_grounds_74 : decode cX12_grounds 74 = .ok (.iinc 3 1, 3) := by decide +kernel
theorem dX12_grounds_77 : decode cX12_grounds 77 = .ok (.goto (-59), 3) := by decide +kernel
theorem dX12_grounds_80 : decode cX12_grounds 80 = .ok (.iload_n 3, 1) := by decide +kernel
theorem dX12_grounds_81 : decode cX12_grounds 81 = .ok (.ireturn, 1) := by decide +kernel
theorem dX12_judge_0 : decode cX12_judge 0 = .ok (.aload_n 0, 1) := by decide +kernel
theorem dX12_judge_1 : decode cX12_judge 1 = .ok (.iload_n 1, 1) := by decide +kernel
theorem dX12_judge_2 : decode cX12_judge 2 = .ok (.invokevirtual 244, 3) := by decide +kernel
theorem dX12_judge_5 : decode cX12_judge 5 = .ok (.istore_n 2, 1) := by decide +kernel
theorem dX12_judge_6 : decode cX12_judge 6 = .ok (.iload_n 2, 1) := by decide +kernel
theorem dX12_judge_7 : decode cX12_judge 7 = .ok (.ifCond .eq 9, 3) := by decide +kernel
theorem dX12_judge_10 : decode cX12_judge 10 = .ok (.aload_n 0, 1) := by decide +kernel
theorem dX12_judge_11 : decode cX12_judge 11 = .ok (.iload_n 2, 1) := by decide +kernel
theorem dX12_judge_12 : decode cX12_judge 12 = .ok (.invokevirtual 51, 3) := by decide +kernel
theorem dX12_judge_15 : decode cX12_judge 15 = .ok (.ireturn, 1) := by decide +kernel
theorem dX12_judge_16 : decode cX12_judge 16 = .ok (.iconst 0, 1) := by decide +kernel
theorem dX12_judge_17 : decode cX12_judge 17 = .ok (.istore_n 3, 1) := by decide +kernel
theorem dX12_judge_18 : decode cX12_judge 18 = .ok (.iload_n 3, 1) := by decide +kernel
theorem dX12_judge_19 : decode cX12_judge 19 = .ok (.aload_n 0, 1) := by decide +kernel
theorem dX12_judge_20 : decode cX12_judge 20 = .ok (.getfield 37, 3) := by decide +kernel
theorem dX12_judge_23 : decode cX12_judge 23 = .ok (.iload_n 1, 1) := by decide +kernel
theorem dX12_judge_24 : decode cX12_judge 24 = .ok (.iaload, 1) := by decide +kernel
theorem dX12_judge_25 : decode cX12_judge 25 = .ok (.if_icmp .ge 38, 3) := by decide +kernel
theorem dX12_judge_28 : decode cX12_judge 28 = .ok (.iload_n 3, 1) := by decide +kernel
theorem dX12_judge_29 : decode cX12_judge 29 = .ok (.bipush 16, 2) := by decide +kernel
theorem dX12_judge_31 : decode cX12_judge 31 = .ok (.if_icmp .ge 32, 3) := by decide +kernel
theorem dX12_judge_34 : decode cX12_judge 34 = .ok (.aload_n 0, 1) := by decide +kernel
theorem dX12_judge_35 : decode cX12_judge 35 = .ok (.getfield 40, 3) := by decide +kernel
theorem dX12_judge_38 : decode cX12_judge 38 = .ok (.bipush 24, 2) := by decide +kernel
theorem dX12_judge_40 : decode cX12_judge 40 = .ok (.iload_n 1, 1) := by decide +kernel
theorem dX12_judge_41 : decode cX12_judge 41 = .ok (.imul, 1) := by decide +kernel
theorem dX12_judge_42 : decode cX12_judge 42 = .ok (.iload_n 3, 1) := by decide +kernel
theorem dX12_judge_43 : decode cX12_judge 43 = .ok (.iadd, 1) := by decide +kernel
theorem dX12_judge_44 : decode cX12_judge 44 = .ok (.iaload, 1) := by decide +kernel
theorem dX12_judge_45 : decode cX12_judge 45 = .ok (.aload_n 0, 1) := by decide +kernel
theorem dX12_judge_46 : decode cX12_judge 46 = .ok (.getfield 7, 3) := by decide +kernel
theorem dX12_judge_49 : decode cX12_judge 49 = .ok (.bipush 28, 2) := by decide +kernel
theorem dX12_judge_51 : decode cX12_judge 51 = .ok (.iload_n 3, 1) := by decide +kernel
theorem dX12_judge_52 : decode cX12_judge 52 = .ok (.iadd, 1) := by decide +kernel
theorem dX12_judge_53 : decode cX12_judge 53 = .ok (.iaload, 1) := by decide +kernel
theorem dX12_judge_54 : decode cX12_judge 54 = .ok (.if_icmp .ne 9, 3) := by decide +kernel
theorem dX12_judge_57 : decode cX12_judge 57 = .ok (.iinc 3 1, 3) := by decide +kernel
theorem dX12_judge_60 : decode cX12_judge 60 = .ok (.goto (-42), 3) := by decide +kernel
theorem dX12_judge_63 : decode cX12_judge 63 = .ok (.iload_n 3, 1) := by decide +kernel
theorem dX12_judge_64 : decode cX12_judge 64 = .ok (.ireturn, 1) := by decide +kernel
theorem dX12_image_0 : decode cX12_image 0 = .ok (.aload_n 0, 1) := by decide +kernel
theorem dX12_image_1 : decode cX12_image 1 = .ok (.getfield 7, 3) := by decide +kernel
theorem dX12_image_4 : decode cX12_image 4 = .ok (.aload_n 0, 1) := by decide +kernel
theorem dX12_image_5 : decode cX12_image 5 = .ok (.getfield 13, 3) := by decide +kernel
theorem dX12_image_8 : decode cX12_image 8 = .ok (.invokestatic 247, 3) := by decide +kernel
theorem dX12_image_11 : decode cX12_image 11 = .ok (.aload_n 0, 1) := by decide +kernel
theorem dX12_image_12 : decode cX12_image 12 = .ok (.dup, 1) := by decide +kernel
