theorem dX11_learnsNothing_48 : decode cX11_learnsNothing 48 = .ok (.if_icmp .ne 16, 3) := by decide +kernel
theorem dX11_learnsNothing_51 : decode cX11_learnsNothing 51 = .ok (.aload_n 0, 1) := by decide +kernel
theorem dX11_learnsNothing_52 : decode cX11_learnsNothing 52 = .ok (.getfield 79, 3) := by decide +kernel
theorem dX11_learnsNothing_55 : decode cX11_learnsNothing 55 = .ok (.invokevirtual 206, 3) := by decide +kernel
theorem dX11_learnsNothing_58 : decode cX11_learnsNothing 58 = .ok (.iinc 4 1, 3) := by decide +kernel
theorem dX11_learnsNothing_61 : decode cX11_learnsNothing 61 = .ok (.goto (-37), 3) := by decide +kernel
theorem dX11_learnsNothing_64 : decode cX11_learnsNothing 64 = .ok (.aload_n 0, 1) := by decide +kernel
theorem dX11_learnsNothing_65 : decode cX11_learnsNothing 65 = .ok (.getfield 79, 3) := by decide +kernel
theorem dX11_learnsNothing_68 : decode cX11_learnsNothing 68 = .ok (.getfield 117, 3) := by decide +kernel
theorem dX11_learnsNothing_71 : decode cX11_learnsNothing 71 = .ok (.iload_n 1, 1) := by decide +kernel
theorem dX11_learnsNothing_72 : decode cX11_learnsNothing 72 = .ok (.iaload, 1) := by decide +kernel
theorem dX11_learnsNothing_73 : decode cX11_learnsNothing 73 = .ok (.aload_n 0, 1) := by decide +kernel
theorem dX11_learnsNothing_74 : decode cX11_learnsNothing 74 = .ok (.getfield 75, 3) := by decide +kernel
theorem dX11_learnsNothing_77 : decode cX11_learnsNothing 77 = .ok (.getfield 117, 3) := by decide +kernel
theorem dX11_learnsNothing_80 : decode cX11_learnsNothing 80 = .ok (.iload_n 1, 1) := by decide +kernel
theorem dX11_learnsNothing_81 : decode cX11_learnsNothing 81 = .ok (.iaload, 1) := by decide +kernel
theorem dX11_learnsNothing_82 : decode cX11_learnsNothing 82 = .ok (.if_icmp .ne 7, 3) := by decide +kernel
theorem dX11_learnsNothing_85 : decode cX11_learnsNothing 85 = .ok (.iconst 1, 1) := by decide +kernel
theorem dX11_learnsNothing_86 : decode cX11_learnsNothing 86 = .ok (.goto 4, 3) := by decide +kernel
theorem dX11_learnsNothing_89 : decode cX11_learnsNothing 89 = .ok (.iconst 0, 1) := by decide +kernel
theorem dX11_learnsNothing_90 : decode cX11_learnsNothing 90 = .ok (.ireturn, 1) := by decide +kernel
theorem dX11_fitsKind_0 : decode cX11_fitsKind 0 = .ok (.aload_n 0, 1) := by decide +kernel
theorem dX11_fitsKind_1 : decode cX11_fitsKind 1 = .ok (.getfield 79, 3) := by decide +kernel
theorem dX11_fitsKind_4 : decode cX11_fitsKind 4 = .ok (.aload_n 0, 1) := by decide +kernel
theorem dX11_fitsKind_5 : decode cX11_fitsKind 5 = .ok (.getfield 75, 3) := by decide +kernel
theorem dX11_fitsKind_8 : decode cX11_fitsKind 8 = .ok (.invokevirtual 212, 3) := by decide +kernel
theorem dX11_fitsKind_11 : decode cX11_fitsKind 11 = .ok (.aload_n 0, 1) := by decide +kernel
theorem dX11_fitsKind_12 : decode cX11_fitsKind 12 = .ok (.getfield 79, 3) := by decide +kernel
theorem dX11_fitsKind_15 : decode cX11_fitsKind 15 = .ok (.getfield 105, 3) := by decide +kernel
theorem dX11_fitsKind_18 : decode cX11_fitsKind 18 = .ok (.iload_n 2, 1) := by decide +kernel
theorem dX11_fitsKind_19 : decode cX11_fitsKind 19 = .ok (.iload_n 3, 1) := by decide +kernel
theorem dX11_fitsKind_20 : decode cX11_fitsKind 20 = .ok (.iastore, 1) := by decide +kernel
theorem dX11_fitsKind_21 : decode cX11_fitsKind 21 = .ok (.iconst 0, 1) := by decide +kernel
theorem dX11_fitsKind_22 : decode cX11_fitsKind 22 = .ok (.istore 4, 2) := by decide +kernel
theorem dX11_fitsKind_24 : decode cX11_fitsKind 24 = .ok (.iload 4, 2) := by decide +kernel
theorem dX11_fitsKind_26 : decode cX11_fitsKind 26 = .ok (.aload_n 1, 1) := by decide +kernel
theorem dX11_fitsKind_27 : decode cX11_fitsKind 27 = .ok (.getfield 163, 3) := by decide +kernel
theorem dX11_fitsKind_30 : decode cX11_fitsKind 30 = .ok (.if_icmp .ge 37, 3) := by decide +kernel
theorem dX11_fitsKind_33 : decode cX11_fitsKind 33 = .ok (.aload_n 1, 1) := by decide +kernel
theorem dX11_fitsKind_34 : decode cX11_fitsKind 34 = .ok (.getfield 276, 3) := by decide +kernel
theorem dX11_fitsKind_37 : decode cX11_fitsKind 37 = .ok (.iload 4, 2) := by decide +kernel
theorem dX11_fitsKind_39 : decode cX11_fitsKind 39 = .ok (.iaload, 1) := by decide +kernel
theorem dX11_fitsKind_40 : decode cX11_fitsKind 40 = .ok (.aload_n 0, 1) := by decide +kernel
theorem dX11_fitsKind_41 : decode cX11_fitsKind 41 = .ok (.getfield 79, 3) := by decide +kernel
theorem dX11_fitsKind_44 : decode cX11_fitsKind 44 = .ok (.getfield 114, 3) := by decide +kernel
theorem dX11_fitsKind_47 : decode cX11_fitsKind 47 = .ok (.iload_n 2, 1) := by decide +kernel
theorem dX11_fitsKind_48 : decode cX11_fitsKind 48 = .ok (.iaload, 1) := by decide +kernel
theorem dX11_fitsKind_49 : decode cX11_fitsKind 49 = .ok (.if_icmp .eq 5, 3) := by decide +kernel
theorem dX11_fitsKind_52 : decode cX11_fitsKind 52 = .ok (.iconst 0, 1) := by decide +kernel
theorem dX11_fitsKind_53 : decode cX11_fitsKind 53 = .ok (.ireturn, 1) := by decide +kernel
theorem dX11_fitsKind_54 : decode cX11_fitsKind 54 = .ok (.aload_n 0, 1) := by decide +kernel
theorem dX11_fitsKind_55 : decode cX11_fitsKind 55 = .ok (.getfield 79, 3) := by decide +kernel
theorem dX11_fitsKind_58 : decode cX11_fitsKind 58 = .ok (.invokevirtual 206, 3) := by decide +kernel
theorem dX11_fitsKind_61 : decode cX11_fitsKind 61 = .ok (.iinc 4 1, 3) := by decide +kernel
theorem dX11_fitsKind_64 : decode cX11_fitsKind 64 = .ok (.goto (-40), 3) := by decide +kernel
theorem dX11_fitsKind_67 : decode cX11_fitsKind 67 = .ok (.iconst 1, 1) := by decide +kernel
theorem dX11_fitsKind_68 : decode cX11_fitsKind 68 = .ok (.ireturn, 1) := by decide +kernel
theorem dX12_init_0 : decode cX12_init 0 = .ok (.aload_n 0, 1) := by decide +kernel
theorem dX12_init_1 : decode cX12_init 1 = .ok (.invokespecial 1, 3) := by decide +kernel
theorem dX12_init_4 : decode cX12_init 4 = .ok (.aload_n 0, 1) := by decide +kernel
theorem dX12_init_5 : decode cX12_init 5 = .ok (.sipush 450, 3) := by decide +kernel
theorem dX12_init_8 : decode cX12_init 8 = .ok (.newarray .int, 2) := by decide +kernel
theorem dX12_init_10 : decode cX12_init 10 = .ok (.putfield 7, 3) := by decide +kernel
theorem dX12_init_13 : decode cX12_init 13 = .ok (.aload_n 0, 1) := by decide +kernel
theorem dX12_init_14 : decode cX12_init 14 = .ok (.sipush 450, 3) := by decide +kernel
theorem dX12_init_17 : decode cX12_init 17 = .ok (.newarray .int, 2) := by decide +kernel
theorem dX12_init_19 : decode cX12_init 19 = .ok (.putfield 13, 3) := by decide +kernel
theorem dX12_init_22 : decode cX12_init 22 = .ok (.aload_n 0, 1) := by decide +kernel
theorem dX12_init_23 : decode cX12_init 23 = .ok (.bipush 116, 2) := by decide +kernel
theorem dX12_init_25 : decode cX12_init 25 = .ok (.newarray .int, 2) := by decide +kernel
theorem dX12_init_27 : decode cX12_init 27 = .ok (.putfield 16, 3) := by decide +kernel
theorem dX12_init_30 : decode cX12_init 30 = .ok (.aload_n 0, 1) := by decide +kernel
theorem dX12_init_31 : decode cX12_init 31 = .ok (.bipush 7, 2) := by decide +kernel
theorem dX12_init_33 : decode cX12_init 33 = .ok (.newarray .int, 2) := by decide +kernel
theorem dX12_init_35 : decode cX12_init 35 = .ok (.putfield 19, 3) := by decide +kernel
theorem dX12_init_38 : decode cX12_init 38 = .ok (.aload_n 0, 1) := by decide +kernel
theorem dX12_init_39 : decode cX12_init 39 = .ok (.bipush 124, 2) := by decide +kernel
theorem dX12_init_41 : decode cX12_init 41 = .ok (.newarray .int, 2) := by decide +kernel
theorem dX12_init_43 : decode cX12_init 43 = .ok (.putfield 22, 3) := by decide +kernel
theorem dX12_init_46 : decode cX12_init 46 = .ok (.aload_n 0, 1) := by decide +kernel
theorem dX12_init_47 : decode cX12_init 47 = .ok (.sipush 128, 3) := by decide +kernel
theorem dX12_init_50 : decode cX12_init 50 = .ok (.newarray .int, 2) := by decide +kernel
theorem dX12_init_52 : decode cX12_init 52 = .ok (.putfield 25, 3) := by decide +kernel
theorem dX12_init_55 : decode cX12_init 55 = .ok (.aload_n 0, 1) := by decide +kernel
theorem dX12_init_56 : decode cX12_init 56 = .ok (.bipush 64, 2) := by decide +kernel
theorem dX12_init_58 : decode cX12_init 58 = .ok (.newarray .int, 2) := by decide +kernel
theorem dX12_init_60 : decode cX12_init 60 = .ok (.putfield 28, 3) := by decide +kernel
theorem dX12_init_63 : decode cX12_init 63 = .ok (.aload_n 0, 1) := by decide +kernel
theorem dX12_init_64 : decode cX12_init 64 = .ok (.bipush 30, 2) := by decide +kernel
theorem dX12_init_66 : decode cX12_init 66 = .ok (.newarray .int, 2) := by decide +kernel
theorem dX12_init_68 : decode cX12_init 68 = .ok (.putfield 31, 3) := by decide +kernel
theorem dX12_init_71 : decode cX12_init 71 = .ok (.aload_n 0, 1) := by decide +kernel
theorem dX12_init_72 : decode cX12_init 72 = .ok (.iconst 4, 1) := by decide +kernel
theorem dX12_init_73 : decode cX12_init 73 = .ok (.newarray .int, 2) := by decide +kernel
theorem dX12_init_75 : decode cX12_init 75 = .ok (.putfield 34, 3) := by decide +kernel
theorem dX12_init_78 : decode cX12_init 78 = .ok (.aload_n 0, 1) := by decide +kernel
theorem dX12_init_79 : decode cX12_init 79 = .ok (.iconst 4, 1) := by decide +kernel
theorem dX12_init_80 : decode cX12_init 80 = .ok (.newarray .int, 2) := by decide +kernel
theorem dX12_init_82 : decode cX12_init 82 = .ok (.putfield 37, 3) := by decide +kernel
theorem dX12_init_85 : decode cX12_init 85 = .ok (.aload_n 0, 1) := by decide +kernel
theorem dX12_init_86 : decode cX12_init 86 = .ok (.bipush 96, 2) := by decide +kernel
theorem dX12_init_88 : decode cX12_init 88 = .ok (.newarray .int, 2) := by decide +kernel
theorem dX12_init_90 : decode cX12_init 90 = .ok (.putfield 40, 3) := by decide +kernel
theorem dX12_init_93 : decode cX12_init 93 = .ok (.aload_n 0, 1) := by decide +kernel
theorem dX12_init_94 : decode cX12_init 94 = .ok (.bipush 24, 2) := by decide +kernel
theorem dX12_init_96 : decode cX12_init 96 = .ok (.newarray .int, 2) := by decide +kernel
theorem dX12_init_98 : decode cX12_init 98 = .ok (.putfield 43, 3) := by decide +kernel
theorem dX12_init_101 : decode cX12_init 101 = .ok (.aload_n 0, 1) := by decide +kernel
theorem dX12_init_102 : decode cX12_init 102 = .ok (.getfield 7, 3) := by decide +kernel
theorem dX12_init_105 : decode cX12_init 105 = .ok (.iconst 2, 1) := by decide +kernel
theorem dX12_init_106 : decode cX12_init 106 = .ok (.iconst 1, 1) := by decide +kernel
theorem dX12_init_107 : decode cX12_init 107 = .ok (.iastore, 1) := by decide +kernel
theorem dX12_init_108 : decode cX12_init 108 = .ok (.iconst 0, 1) := by decide +kernel
theorem dX12_init_109 : decode cX12_init 109 = .ok (.istore_n 1, 1) := by decide +kernel
theorem dX12_init_110 : decode cX12_init 110 = .ok (.iload_n 1, 1) := by decide +kernel
theorem dX12_init_111 : decode cX12_init 111 = .ok (.bipush 16, 2) := by decide +kernel
theorem dX12_init_113 : decode cX12_init 113 = .ok (.if_icmp .ge 25, 3) := by decide +kernel
theorem dX12_init_116 : decode cX12_init 116 = .ok (.aload_n 0, 1) := by decide +kernel
theorem dX12_init_117 : decode cX12_init 117 = .ok (.getfield 7, 3) := by decide +kernel
theorem dX12_init_120 : decode cX12_init 120 = .ok (.bipush 12, 2) := by decide +kernel
theorem dX12_init_122 : decode cX12_init 122 = .ok (.iload_n 1, 1) := by decide +kernel
theorem dX12_init_123 : decode cX12_init 123 = .ok (.iadd, 1) := by decide +kernel
theorem dX12_init_124 : decode cX12_init 124 = .ok (.bipush 7, 2) := by decide +kernel
theorem dX12_init_126 : decode cX12_init 126 = .ok (.iload_n 1, 1) := by decide +kernel
theorem dX12_init_127 : decode cX12_init 127 = .ok (.imul, 1) := by decide +kernel
theorem dX12_init_128 : decode cX12_init 128 = .ok (.bipush 10, 2) := by decide +kernel
theorem dX12_init_130 : decode cX12_init 130 = .ok (.irem, 1) := by decide +kernel
theorem dX12_init_131 : decode cX12_init 131 = .ok (.iastore, 1) := by decide +kernel
theorem dX12_init_132 : decode cX12_init 132 = .ok (.iinc 1 1, 3) := by decide +kernel
theorem dX12_init_135 : decode cX12_init 135 = .ok (.goto (-25), 3) := by decide +kernel
theorem dX12_init_138 : decode cX12_init 138 = .ok (.iconst 0, 1) := by decide +kernel
theorem dX12_init_139 : decode cX12_init 139 = .ok (.istore_n 1, 1) := by decide +kernel
theorem dX12_init_140 : decode cX12_init 140 = .ok (.iload_n 1, 1) := by decide +kernel
theorem dX12_init_141 : decode cX12_init 141 = .ok (.bipush 6, 2) := by decide +kernel
theorem dX12_init_143 : decode cX12_init 143 = .ok (.if_icmp .ge 19, 3) := by decide +kernel
theorem dX12_init_146 : decode cX12_init 146 = .ok (.aload_n 0, 1) := by decide +kernel
theorem dX12_init_147 : decode cX12_init 147 = .ok (.getfield 7, 3) := by decide +kernel
theorem dX12_init_150 : decode cX12_init 150 = .ok (.bipush 6, 2) := by decide +kernel
theorem dX12_init_152 : decode cX12_init 152 = .ok (.iload_n 1, 1) := by decide +kernel
theorem dX12_init_153 : decode cX12_init 153 = .ok (.iadd, 1) := by decide +kernel
theorem dX12_init_154 : decode cX12_init 154 = .ok (.iload_n 1, 1) := by decide +kernel
theorem dX12_init_155 : decode cX12_init 155 = .ok (.iastore, 1) := by decide +kernel
theorem dX12_init_156 : decode cX12_init 156 = .ok (.iinc 1 1, 3) := by decide +kernel
theorem dX12_init_159 : decode cX12_init 159 = .ok (.goto (-19), 3) := by decide +kernel
theorem dX12_init_162 : decode cX12_init 162 = .ok (.return_, 1) := by decide +kernel
theorem dX12_error_0 : decode cX12_error 0 = .ok (.aload_n 0, 1) := by decide +kernel
theorem dX12_error_1 : decode cX12_error 1 = .ok (.getfield 19, 3) := by decide +kernel
theorem dX12_error_4 : decode cX12_error 4 = .ok (.iload_n 1, 1) := by decide +kernel
theorem dX12_error_5 : decode cX12_error 5 = .ok (.dup2, 1) := by decide +kernel
theorem dX12_error_6 : decode cX12_error 6 = .ok (.iaload, 1) := by decide +kernel
theorem dX12_error_7 : decode cX12_error 7 = .ok (.iconst 1, 1) := by decide +kernel
theorem dX12_error_8 : decode cX12_error 8 = .ok (.iadd, 1) := by decide +kernel
theorem dX12_error_9 : decode cX12_error 9 = .ok (.iastore, 1) := by decide +kernel
theorem dX12_error_10 : decode cX12_error 10 = .ok (.ldc 46, 2) := by decide +kernel
theorem dX12_error_12 : decode cX12_error 12 = .ok (.iload_n 1, 1) := by decide +kernel
theorem dX12_error_13 : decode cX12_error 13 = .ok (.isub, 1) := by decide +kernel
theorem dX12_error_14 : decode cX12_error 14 = .ok (.ireturn, 1) := by decide +kernel
theorem dX12_in_0 : decode cX12_in 0 = .ok (.iload_n 0, 1) := by decide +kernel
theorem dX12_in_1 : decode cX12_in 1 = .ok (.iload_n 1, 1) := by decide +kernel
theorem dX12_in_2 : decode cX12_in 2 = .ok (.if_icmp .lt 12, 3) := by decide +kernel
theorem dX12_in_5 : decode cX12_in 5 = .ok (.iload_n 0, 1) := by decide +kernel
theorem dX12_in_6 : decode cX12_in 6 = .ok (.iload_n 2, 1) := by decide +kernel
theorem dX12_in_7 : decode cX12_in 7 = .ok (.if_icmp .gt 7, 3) := by decide +kernel
theorem dX12_in_10 : decode cX12_in 10 = .ok (.iconst 1, 1) := by decide +kernel
theorem dX12_in_11 : decode cX12_in 11 = .ok (.goto 4, 3) := by decide +kernel
theorem dX12_in_14 : decode cX12_in 14 = .ok (.iconst 0, 1) := by decide +kernel
theorem dX12_in_15 : decode cX12_in 15 = .ok (.ireturn, 1) := by decide +kernel
theorem dX12_held_0 : decode cX12_held 0 = .ok (.iload_n 0, 1) := by decide +kernel
theorem dX12_held_1 : decode cX12_held 1 = .ok (.iload_n 1, 1) := by decide +kernel
theorem dX12_held_2 : decode cX12_held 2 = .ok (.if_icmp .ge 7, 3) := by decide +kernel
theorem dX12_held_5 : decode cX12_held 5 = .ok (.iload_n 1, 1) := by decide +kernel
theorem dX12_held_6 : decode cX12_held 6 = .ok (.goto 13, 3) := by decide +kernel
theorem dX12_held_9 : decode cX12_held 9 = .ok (.iload_n 0, 1) := by decide +kernel
theorem dX12_held_10 : decode cX12_held 10 = .ok (.iload_n 2, 1) := by decide +kernel
theorem dX12_held_11 : decode cX12_held 11 = .ok (.if_icmp .le 7, 3) := by decide +kernel
theorem dX12_held_14 : decode cX12_held 14 = .ok (.iload_n 2, 1) := by decide +kernel
theorem dX12_held_15 : decode cX12_held 15 = .ok (.goto 4, 3) := by decide +kernel
theorem dX12_held_18 : decode cX12_held 18 = .ok (.iload_n 0, 1) := by decide +kernel
theorem dX12_held_19 : decode cX12_held 19 = .ok (.ireturn, 1) := by decide +kernel
theorem dX12_copyAll_0 : decode cX12_copyAll 0 = .ok (.iconst 0, 1) := by decide +kernel
theorem dX12_copyAll_1 : decode cX12_copyAll 1 = .ok (.istore_n 2, 1) := by decide +kernel
theorem dX12_copyAll_2 : decode cX12_copyAll 2 = .ok (.iload_n 2, 1) := by decide +kernel
theorem dX12_copyAll_3 : decode cX12_copyAll 3 = .ok (.sipush 450, 3) := by decide +kernel
theorem dX12_copyAll_6 : decode cX12_copyAll 6 = .ok (.if_icmp .ge 15, 3) := by decide +kernel
theorem dX12_copyAll_9 : decode cX12_copyAll 9 = .ok (.aload_n 1, 1) := by decide +kernel
theorem dX12_copyAll_10 : decode cX12_copyAll 10 = .ok (.iload_n 2, 1) := by decide +kernel
theorem dX12_copyAll_11 : decode cX12_copyAll 11 = .ok (.aload_n 0, 1) := by decide +kernel
theorem dX12_copyAll_12 : decode cX12_copyAll 12 = .ok (.iload_n 2, 1) := by decide +kernel
theorem dX12_copyAll_13 : decode cX12_copyAll 13 = .ok (.iaload, 1) := by decide +kernel
theorem dX12_copyAll_14 : decode cX12_copyAll 14 = .ok (.iastore, 1) := by decide +kernel
theorem dX12_copyAll_15 : decode cX12_copyAll 15 = .ok (.iinc 2 1, 3) := by decide +kernel
theorem dX12_copyAll_18 : decode cX12_copyAll 18 = .ok (.goto (-16), 3) := by decide +kernel
theorem dX12_copyAll_21 : decode cX12_copyAll 21 = .ok (.return_, 1) := by decide +kernel
theorem dX12_saves_0 : decode cX12_saves 0 = .ok (.iconst 0, 1) := by decide +kernel
theorem dX12_saves_1 : decode cX12_saves 1 = .ok (.istore_n 1, 1) := by decide +kernel
theorem dX12_saves_2 : decode cX12_saves 2 = .ok (.iload_n 1, 1) := by decide +kernel
theorem dX12_saves_3 : decode cX12_saves 3 = .ok (.bipush 116, 2) := by decide +kernel
theorem dX12_saves_5 : decode cX12_saves 5 = .ok (.if_icmp .ge 21, 3) := by decide +kernel
theorem dX12_saves_8 : decode cX12_saves 8 = .ok (.aload_n 0, 1) := by decide +kernel
theorem dX12_saves_9 : decode cX12_saves 9 = .ok (.getfield 16, 3) := by decide +kernel
theorem dX12_saves_12 : decode cX12_saves 12 = .ok (.iload_n 1, 1) := by decide +kernel
theorem dX12_saves_13 : decode cX12_saves 13 = .ok (.aload_n 0, 1) := by decide +kernel
theorem dX12_saves_14 : decode cX12_saves 14 = .ok (.getfield 7, 3) := by decide +kernel
theorem dX12_saves_17 : decode cX12_saves 17 = .ok (.iload_n 1, 1) := by decide +kernel
theorem dX12_saves_18 : decode cX12_saves 18 = .ok (.iaload, 1) := by decide +kernel
theorem dX12_saves_19 : decode cX12_saves 19 = .ok (.iastore, 1) := by decide +kernel
theorem dX12_saves_20 : decode cX12_saves 20 = .ok (.iinc 1 1, 3) := by decide +kernel
theorem dX12_saves_23 : decode cX12_saves 23 = .ok (.goto (-21), 3) := by decide +kernel
theorem dX12_saves_26 : decode cX12_saves 26 = .ok (.return_, 1) := by decide +kernel
theorem dX12_putsBack_0 : decode cX12_putsBack 0 = .ok (.iconst 0, 1) := by decide +kernel
theorem dX12_putsBack_1 : decode cX12_putsBack 1 = .ok (.istore_n 1, 1) := by decide +kernel
theorem dX12_putsBack_2 : decode cX12_putsBack 2 = .ok (.iload_n 1, 1) := by decide +kernel
theorem dX12_putsBack_3 : decode cX12_putsBack 3 = .ok (.bipush 116, 2) := by decide +kernel
theorem dX12_putsBack_5 : decode cX12_putsBack 5 = .ok (.if_icmp .ge 21, 3) := by decide +kernel
theorem dX12_putsBack_8 : decode cX12_putsBack 8 = .ok (.aload_n 0, 1) := by decide +kernel
theorem dX12_putsBack_9 : decode cX12_putsBack 9 = .ok (.getfield 7, 3) := by decide +kernel
theorem dX12_putsBack_12 : decode cX12_putsBack 12 = .ok (.iload_n 1, 1) := by decide +kernel
theorem dX12_putsBack_13 : decode cX12_putsBack 13 = .ok (.aload_n 0, 1) := by decide +kernel
theorem dX12_putsBack_14 : decode cX12_putsBack 14 = .ok (.getfield 16, 3) := by decide +kernel
theorem dX12_putsBack_17 : decode cX12_putsBack 17 = .ok (.iload_n 1, 1) := by decide +kernel
theorem dX12_putsBack_18 : decode cX12_putsBack 18 = .ok (.iaload, 1) := by decide +kernel
theorem dX12_putsBack_19 : decode cX12_putsBack 19 = .ok (.iastore, 1) := by decide +kernel
theorem dX12_putsBack_20 : decode cX12_putsBack 20 = .ok (.iinc 1 1, 3) := by decide +kernel
theorem dX12_putsBack_23 : decode cX12_putsBack 23 = .ok (.goto (-21), 3) := by decide +kernel
theorem dX12_putsBack_26 : decode cX12_putsBack 26 = .ok (.return_, 1) := by decide +kernel
theorem dX12_isOne_0 : decode cX12_isOne 0 = .ok (.iload_n 1, 1) := by decide +kernel
theorem dX12_isOne_1 : decode cX12_isOne 1 = .ok (.iconst 0, 1) := by decide +kernel
theorem dX12_isOne_2 : decode cX12_isOne 2 = .ok (.aload_n 0, 1) := by decide +kernel
theorem dX12_isOne_3 : decode cX12_isOne 3 = .ok (.getfield 7, 3) := by decide +kernel
theorem dX12_isOne_6 : decode cX12_isOne 6 = .ok (.iconst 5, 1) := by decide +kernel
theorem dX12_isOne_7 : decode cX12_isOne 7 = .ok (.iaload, 1) := by decide +kernel
theorem dX12_isOne_8 : decode cX12_isOne 8 = .ok (.iconst 1, 1) := by decide +kernel
theorem dX12_isOne_9 : decode cX12_isOne 9 = .ok (.isub, 1) := by decide +kernel
theorem dX12_isOne_10 : decode cX12_isOne 10 = .ok (.invokestatic 47, 3) := by decide +kernel
theorem dX12_isOne_13 : decode cX12_isOne 13 = .ok (.ireturn, 1) := by decide +kernel
theorem dX12_isCell_0 : decode cX12_isCell 0 = .ok (.iload_n 0, 1) := by decide +kernel
theorem dX12_isCell_1 : decode cX12_isCell 1 = .ok (.iconst 0, 1) := by decide +kernel
theorem dX12_isCell_2 : decode cX12_isCell 2 = .ok (.bipush 15, 2) := by decide +kernel
theorem dX12_isCell_4 : decode cX12_isCell 4 = .ok (.invokestatic 47, 3) := by decide +kernel
theorem dX12_isCell_7 : decode cX12_isCell 7 = .ok (.ireturn, 1) := by decide +kernel
theorem dX12_its_0 : decode cX12_its 0 = .ok (.aload_n 0, 1) := by decide +kernel
theorem dX12_its_1 : decode cX12_its 1 = .ok (.getfield 7, 3) := by decide +kernel
theorem dX12_its_4 : decode cX12_its 4 = .ok (.bipush 76, 2) := by decide +kernel
theorem dX12_its_6 : decode cX12_its 6 = .ok (.iconst 5, 1) := by decide +kernel
theorem dX12_its_7 : decode cX12_its 7 = .ok (.iload_n 1, 1) := by decide +kernel
theorem dX12_its_8 : decode cX12_its 8 = .ok (.imul, 1) := by decide +kernel
theorem dX12_its_9 : decode cX12_its 9 = .ok (.iadd, 1) := by decide +kernel
theorem dX12_its_10 : decode cX12_its 10 = .ok (.iload_n 2, 1) := by decide +kernel
theorem dX12_its_11 : decode cX12_its 11 = .ok (.iadd, 1) := by decide +kernel
theorem dX12_its_12 : decode cX12_its 12 = .ok (.iaload, 1) := by decide +kernel
theorem dX12_its_13 : decode cX12_its 13 = .ok (.ireturn, 1) := by decide +kernel
theorem dX12_lays1_0 : decode cX12_lays1 0 = .ok (.aload_n 0, 1) := by decide +kernel
theorem dX12_lays1_1 : decode cX12_lays1 1 = .ok (.getfield 7, 3) := by decide +kernel
theorem dX12_lays1_4 : decode cX12_lays1 4 = .ok (.bipush 76, 2) := by decide +kernel
theorem dX12_lays1_6 : decode cX12_lays1 6 = .ok (.iconst 5, 1) := by decide +kernel
theorem dX12_lays1_7 : decode cX12_lays1 7 = .ok (.iload_n 1, 1) := by decide +kernel
theorem dX12_lays1_8 : decode cX12_lays1 8 = .ok (.imul, 1) := by decide +kernel
theorem dX12_lays1_9 : decode cX12_lays1 9 = .ok (.iadd, 1) := by decide +kernel
theorem dX12_lays1_10 : decode cX12_lays1 10 = .ok (.iload_n 2, 1) := by decide +kernel
theorem dX12_lays1_11 : decode cX12_lays1 11 = .ok (.iadd, 1) := by decide +kernel
theorem dX12_lays1_12 : decode cX12_lays1 12 = .ok (.iload_n 3, 1) := by decide +kernel
theorem dX12_lays1_13 : decode cX12_lays1 13 = .ok (.iastore, 1) := by decide +kernel
theorem dX12_lays1_14 : decode cX12_lays1 14 = .ok (.return_, 1) := by decide +kernel
theorem dX12_change1_0 : decode cX12_change1 0 = .ok (.aload_n 0, 1) := by decide +kernel
theorem dX12_change1_1 : decode cX12_change1 1 = .ok (.getfield 7, 3) := by decide +kernel
theorem dX12_change1_4 : decode cX12_change1 4 = .ok (.iload_n 1, 1) := by decide +kernel
theorem dX12_change1_5 : decode cX12_change1 5 = .ok (.iaload, 1) := by decide +kernel
theorem dX12_change1_6 : decode cX12_change1 6 = .ok (.istore_n 3, 1) := by decide +kernel
theorem dX12_change1_7 : decode cX12_change1 7 = .ok (.aload_n 0, 1) := by decide +kernel
theorem dX12_change1_8 : decode cX12_change1 8 = .ok (.getfield 7, 3) := by decide +kernel
theorem dX12_change1_11 : decode cX12_change1 11 = .ok (.iload_n 1, 1) := by decide +kernel
theorem dX12_change1_12 : decode cX12_change1 12 = .ok (.iload_n 2, 1) := by decide +kernel
theorem dX12_change1_13 : decode cX12_change1 13 = .ok (.iastore, 1) := by decide +kernel
theorem dX12_change1_14 : decode cX12_change1 14 = .ok (.iload_n 3, 1) := by decide +kernel
theorem dX12_change1_15 : decode cX12_change1 15 = .ok (.ireturn, 1) := by decide +kernel
theorem dX12_ones_0 : decode cX12_ones 0 = .ok (.iconst 0, 1) := by decide +kernel
theorem dX12_ones_1 : decode cX12_ones 1 = .ok (.istore_n 1, 1) := by decide +kernel
theorem dX12_ones_2 : decode cX12_ones 2 = .ok (.iload_n 0, 1) := by decide +kernel
theorem dX12_ones_3 : decode cX12_ones 3 = .ok (.istore_n 2, 1) := by decide +kernel
theorem dX12_ones_4 : decode cX12_ones 4 = .ok (.iload_n 2, 1) := by decide +kernel
theorem dX12_ones_5 : decode cX12_ones 5 = .ok (.ifCond .eq 15, 3) := by decide +kernel
theorem dX12_ones_8 : decode cX12_ones 8 = .ok (.iinc 1 1, 3) := by decide +kernel
theorem dX12_ones_11 : decode cX12_ones 11 = .ok (.iload_n 2, 1) := by decide +kernel
theorem dX12_ones_12 : decode cX12_ones 12 = .ok (.iload_n 2, 1) := by decide +kernel
theorem dX12_ones_13 : decode cX12_ones 13 = .ok (.iconst 1, 1) := by decide +kernel
theorem dX12_ones_14 : decode cX12_ones 14 = .ok (.isub, 1) := by decide +kernel
theorem dX12_ones_15 : decode cX12_ones 15 = .ok (.iand, 1) := by decide +kernel
theorem dX12_ones_16 : decode cX12_ones 16 = .ok (.istore_n 2, 1) := by decide +kernel
theorem dX12_ones_17 : decode cX12_ones 17 = .ok (.goto (-13), 3) := by decide +kernel
theorem dX12_ones_20 : decode cX12_ones 20 = .ok (.iload_n 1, 1) := by decide +kernel
theorem dX12_ones_21 : decode cX12_ones 21 = .ok (.ireturn, 1) := by decide +kernel
theorem dX12_feed_0 : decode cX12_feed 0 = .ok (.iload_n 3, 1) := by decide +kernel
theorem dX12_feed_1 : decode cX12_feed 1 = .ok (.iconst 1, 1) := by decide +kernel
theorem dX12_feed_2 : decode cX12_feed 2 = .ok (.bipush 8, 2) := by decide +kernel
theorem dX12_feed_4 : decode cX12_feed 4 = .ok (.invokestatic 47, 3) := by decide +kernel
theorem dX12_feed_7 : decode cX12_feed 7 = .ok (.ifCond .ne 9, 3) := by decide +kernel
theorem dX12_feed_10 : decode cX12_feed 10 = .ok (.aload_n 0, 1) := by decide +kernel
theorem dX12_feed_11 : decode cX12_feed 11 = .ok (.iconst 1, 1) := by decide +kernel
theorem dX12_feed_12 : decode cX12_feed 12 = .ok (.invokevirtual 51, 3) := by decide +kernel
theorem dX12_feed_15 : decode cX12_feed 15 = .ok (.ireturn, 1) := by decide +kernel
theorem dX12_feed_16 : decode cX12_feed 16 = .ok (.aload_n 0, 1) := by decide +kernel
theorem dX12_feed_17 : decode cX12_feed 17 = .ok (.getfield 7, 3) := by decide +kernel
theorem dX12_feed_20 : decode cX12_feed 20 = .ok (.iconst 3, 1) := by decide +kernel
theorem dX12_feed_21 : decode cX12_feed 21 = .ok (.iaload, 1) := by decide +kernel
theorem dX12_feed_22 : decode cX12_feed 22 = .ok (.iload_n 3, 1) := by decide +kernel
theorem dX12_feed_23 : decode cX12_feed 23 = .ok (.iadd, 1) := by decide +kernel
theorem dX12_feed_24 : decode cX12_feed 24 = .ok (.bipush 60, 2) := by decide +kernel
theorem dX12_feed_26 : decode cX12_feed 26 = .ok (.if_icmp .le 9, 3) := by decide +kernel
theorem dX12_feed_29 : decode cX12_feed 29 = .ok (.aload_n 0, 1) := by decide +kernel
theorem dX12_feed_30 : decode cX12_feed 30 = .ok (.iconst 4, 1) := by decide +kernel
theorem dX12_feed_31 : decode cX12_feed 31 = .ok (.invokevirtual 51, 3) := by decide +kernel
theorem dX12_feed_34 : decode cX12_feed 34 = .ok (.ireturn, 1) := by decide +kernel
theorem dX12_feed_35 : decode cX12_feed 35 = .ok (.iconst 0, 1) := by decide +kernel
theorem dX12_feed_36 : decode cX12_feed 36 = .ok (.istore 4, 2) := by decide +kernel
theorem dX12_feed_38 : decode cX12_feed 38 = .ok (.iload 4, 2) := by decide +kernel
theorem dX12_feed_40 : decode cX12_feed 40 = .ok (.iload_n 3, 1) := by decide +kernel
theorem dX12_feed_41 : decode cX12_feed 41 = .ok (.if_icmp .ge 46, 3) := by decide +kernel
theorem dX12_feed_44 : decode cX12_feed 44 = .ok (.aload_n 0, 1) := by decide +kernel
theorem dX12_feed_45 : decode cX12_feed 45 = .ok (.getfield 7, 3) := by decide +kernel
theorem dX12_feed_48 : decode cX12_feed 48 = .ok (.sipush 366, 3) := by decide +kernel
theorem dX12_feed_51 : decode cX12_feed 51 = .ok (.aload_n 0, 1) := by decide +kernel
theorem dX12_feed_52 : decode cX12_feed 52 = .ok (.getfield 7, 3) := by decide +kernel
theorem dX12_feed_55 : decode cX12_feed 55 = .ok (.iconst 3, 1) := by decide +kernel
theorem dX12_feed_56 : decode cX12_feed 56 = .ok (.iaload, 1) := by decide +kernel
theorem dX12_feed_57 : decode cX12_feed 57 = .ok (.iadd, 1) := by decide +kernel
theorem dX12_feed_58 : decode cX12_feed 58 = .ok (.lload_n 1, 1) := by decide +kernel
theorem dX12_feed_59 : decode cX12_feed 59 = .ok (.bipush 8, 2) := by decide +kernel
theorem dX12_feed_61 : decode cX12_feed 61 = .ok (.iload 4, 2) := by decide +kernel
theorem dX12_feed_63 : decode cX12_feed 63 = .ok (.imul, 1) := by decide +kernel
theorem dX12_feed_64 : decode cX12_feed 64 = .ok (.lshr, 1) := by decide +kernel
theorem dX12_feed_65 : decode cX12_feed 65 = .ok (.ldc2_w 55, 3) := by decide +kernel
theorem dX12_feed_68 : decode cX12_feed 68 = .ok (.land, 1) := by decide +kernel
theorem dX12_feed_69 : decode cX12_feed 69 = .ok (.l2i, 1) := by decide +kernel
theorem dX12_feed_70 : decode cX12_feed 70 = .ok (.iastore, 1) := by decide +kernel
theorem dX12_feed_71 : decode cX12_feed 71 = .ok (.aload_n 0, 1) := by decide +kernel
theorem dX12_feed_72 : decode cX12_feed 72 = .ok (.getfield 7, 3) := by decide +kernel
theorem dX12_feed_75 : decode cX12_feed 75 = .ok (.iconst 3, 1) := by decide +kernel
theorem dX12_feed_76 : decode cX12_feed 76 = .ok (.dup2, 1) := by decide +kernel
theorem dX12_feed_77 : decode cX12_feed 77 = .ok (.iaload, 1) := by decide +kernel
theorem dX12_feed_78 : decode cX12_feed 78 = .ok (.iconst 1, 1) := by decide +kernel
theorem dX12_feed_79 : decode cX12_feed 79 = .ok (.iadd, 1) := by decide +kernel
theorem dX12_feed_80 : decode cX12_feed 80 = .ok (.iastore, 1) := by decide +kernel
theorem dX12_feed_81 : decode cX12_feed 81 = .ok (.iinc 4 1, 3) := by decide +kernel
theorem dX12_feed_84 : decode cX12_feed 84 = .ok (.goto (-46), 3) := by decide +kernel
theorem dX12_feed_87 : decode cX12_feed 87 = .ok (.aload_n 0, 1) := by decide +kernel
theorem dX12_feed_88 : decode cX12_feed 88 = .ok (.getfield 7, 3) := by decide +kernel
theorem dX12_feed_91 : decode cX12_feed 91 = .ok (.iconst 3, 1) := by decide +kernel
theorem dX12_feed_92 : decode cX12_feed 92 = .ok (.iaload, 1) := by decide +kernel
theorem dX12_feed_93 : decode cX12_feed 93 = .ok (.ireturn, 1) := by decide +kernel
theorem dX12_look_0 : decode cX12_look 0 = .ok (.aload_n 0, 1) := by decide +kernel
theorem dX12_look_1 : decode cX12_look 1 = .ok (.getfield 57, 3) := by decide +kernel
theorem dX12_look_4 : decode cX12_look 4 = .ok (.aload_n 0, 1) := by decide +kernel
theorem dX12_look_5 : decode cX12_look 5 = .ok (.getfield 7, 3) := by decide +kernel
theorem dX12_look_8 : decode cX12_look 8 = .ok (.iconst 3, 1) := by decide +kernel
theorem dX12_look_9 : decode cX12_look 9 = .ok (.iaload, 1) := by decide +kernel
theorem dX12_look_10 : decode cX12_look 10 = .ok (.if_icmp .ge 19, 3) := by decide +kernel
theorem dX12_look_13 : decode cX12_look 13 = .ok (.aload_n 0, 1) := by decide +kernel
theorem dX12_look_14 : decode cX12_look 14 = .ok (.getfield 7, 3) := by decide +kernel
theorem dX12_look_17 : decode cX12_look 17 = .ok (.sipush 366, 3) := by decide +kernel
theorem dX12_look_20 : decode cX12_look 20 = .ok (.aload_n 0, 1) := by decide +kernel
theorem dX12_look_21 : decode cX12_look 21 = .ok (.getfield 57, 3) := by decide +kernel
theorem dX12_look_24 : decode cX12_look 24 = .ok (.iadd, 1) := by decide +kernel
theorem dX12_look_25 : decode cX12_look 25 = .ok (.iaload, 1) := by decide +kernel
theorem dX12_look_26 : decode cX12_look 26 = .ok (.goto 4, 3) := by decide +kernel
theorem dX12_look_29 : decode cX12_look 29 = .ok (.iconst (-1), 1) := by decide +kernel
theorem dX12_look_30 : decode cX12_look 30 = .ok (.ireturn, 1) := by decide +kernel
theorem dX12_isName_0 : decode cX12_isName 0 = .ok (.aload_n 0, 1) := by decide +kernel
theorem dX12_isName_1 : decode cX12_isName 1 = .ok (.getfield 61, 3) := by decide +kernel
theorem dX12_isName_4 : decode cX12_isName 4 = .ok (.ifCond .ne 23, 3) := by decide +kernel
theorem dX12_isName_7 : decode cX12_isName 7 = .ok (.iload_n 1, 1) := by decide +kernel
theorem dX12_isName_8 : decode cX12_isName 8 = .ok (.bipush 121, 2) := by decide +kernel
theorem dX12_isName_10 : decode cX12_isName 10 = .ok (.if_icmp .eq 9, 3) := by decide +kernel
theorem dX12_isName_13 : decode cX12_isName 13 = .ok (.iload_n 1, 1) := by decide +kernel
theorem dX12_isName_14 : decode cX12_isName 14 = .ok (.bipush 107, 2) := by decide +kernel
theorem dX12_isName_16 : decode cX12_isName 16 = .ok (.if_icmp .ne 7, 3) := by decide +kernel
theorem dX12_isName_19 : decode cX12_isName 19 = .ok (.iconst 1, 1) := by decide +kernel
theorem dX12_isName_20 : decode cX12_isName 20 = .ok (.goto 24, 3) := by decide +kernel
theorem dX12_isName_23 : decode cX12_isName 23 = .ok (.iconst 0, 1) := by decide +kernel
theorem dX12_isName_24 : decode cX12_isName 24 = .ok (.goto 20, 3) := by decide +kernel
theorem dX12_isName_27 : decode cX12_isName 27 = .ok (.iload_n 1, 1) := by decide +kernel
theorem dX12_isName_28 : decode cX12_isName 28 = .ok (.bipush 116, 2) := by decide +kernel
theorem dX12_isName_30 : decode cX12_isName 30 = .ok (.if_icmp .eq 9, 3) := by decide +kernel
theorem dX12_isName_33 : decode cX12_isName 33 = .ok (.iload_n 1, 1) := by decide +kernel
theorem dX12_isName_34 : decode cX12_isName 34 = .ok (.bipush 103, 2) := by decide +kernel
theorem dX12_isName_36 : decode cX12_isName 36 = .ok (.if_icmp .ne 7, 3) := by decide +kernel
theorem dX12_isName_39 : decode cX12_isName 39 = .ok (.iconst 1, 1) := by decide +kernel
theorem dX12_isName_40 : decode cX12_isName 40 = .ok (.goto 4, 3) := by decide +kernel
theorem dX12_isName_43 : decode cX12_isName 43 = .ok (.iconst 0, 1) := by decide +kernel
theorem dX12_isName_44 : decode cX12_isName 44 = .ok (.istore_n 2, 1) := by decide +kernel
theorem dX12_isName_45 : decode cX12_isName 45 = .ok (.iload_n 2, 1) := by decide +kernel
theorem dX12_isName_46 : decode cX12_isName 46 = .ok (.ifCond .ne 9, 3) := by decide +kernel
theorem dX12_isName_49 : decode cX12_isName 49 = .ok (.iload_n 1, 1) := by decide +kernel
theorem dX12_isName_50 : decode cX12_isName 50 = .ok (.bipush 100, 2) := by decide +kernel
theorem dX12_isName_52 : decode cX12_isName 52 = .ok (.if_icmp .ne 7, 3) := by decide +kernel
theorem dX12_isName_55 : decode cX12_isName 55 = .ok (.iconst 1, 1) := by decide +kernel
theorem dX12_isName_56 : decode cX12_isName 56 = .ok (.goto 4, 3) := by decide +kernel
theorem dX12_isName_59 : decode cX12_isName 59 = .ok (.iconst 0, 1) := by decide +kernel
theorem dX12_isName_60 : decode cX12_isName 60 = .ok (.ireturn, 1) := by decide +kernel
theorem dX12_step1_0 : decode cX12_step1 0 = .ok (.aload_n 0, 1) := by decide +kernel
theorem dX12_step1_1 : decode cX12_step1 1 = .ok (.getfield 22, 3) := by decide +kernel
theorem dX12_step1_4 : decode cX12_step1 4 = .ok (.iconst 2, 1) := by decide +kernel
theorem dX12_step1_5 : decode cX12_step1 5 = .ok (.aload_n 0, 1) := by decide +kernel
theorem dX12_step1_6 : decode cX12_step1 6 = .ok (.getfield 64, 3) := by decide +kernel
theorem dX12_step1_9 : decode cX12_step1 9 = .ok (.imul, 1) := by decide +kernel
theorem dX12_step1_10 : decode cX12_step1 10 = .ok (.iload_n 1, 1) := by decide +kernel
theorem dX12_step1_11 : decode cX12_step1 11 = .ok (.iastore, 1) := by decide +kernel
theorem dX12_step1_12 : decode cX12_step1 12 = .ok (.aload_n 0, 1) := by decide +kernel
theorem dX12_step1_13 : decode cX12_step1 13 = .ok (.getfield 22, 3) := by decide +kernel
theorem dX12_step1_16 : decode cX12_step1 16 = .ok (.iconst 2, 1) := by decide +kernel
theorem dX12_step1_17 : decode cX12_step1 17 = .ok (.aload_n 0, 1) := by decide +kernel
theorem dX12_step1_18 : decode cX12_step1 18 = .ok (.getfield 64, 3) := by decide +kernel
theorem dX12_step1_21 : decode cX12_step1 21 = .ok (.imul, 1) := by decide +kernel
theorem dX12_step1_22 : decode cX12_step1 22 = .ok (.iconst 1, 1) := by decide +kernel
theorem dX12_step1_23 : decode cX12_step1 23 = .ok (.iadd, 1) := by decide +kernel
theorem dX12_step1_24 : decode cX12_step1 24 = .ok (.iload_n 2, 1) := by decide +kernel
theorem dX12_step1_25 : decode cX12_step1 25 = .ok (.iastore, 1) := by decide +kernel
theorem dX12_step1_26 : decode cX12_step1 26 = .ok (.aload_n 0, 1) := by decide +kernel
theorem dX12_step1_27 : decode cX12_step1 27 = .ok (.dup, 1) := by decide +kernel
theorem dX12_step1_28 : decode cX12_step1 28 = .ok (.getfield 64, 3) := by decide +kernel
theorem dX12_step1_31 : decode cX12_step1 31 = .ok (.iconst 1, 1) := by decide +kernel
theorem dX12_step1_32 : decode cX12_step1 32 = .ok (.iadd, 1) := by decide +kernel
theorem dX12_step1_33 : decode cX12_step1 33 = .ok (.putfield 64, 3) := by decide +kernel
theorem dX12_step1_36 : decode cX12_step1 36 = .ok (.return_, 1) := by decide +kernel
theorem dX12_whole_0 : decode cX12_whole 0 = .ok (.aload_n 0, 1) := by decide +kernel
theorem dX12_whole_1 : decode cX12_whole 1 = .ok (.invokevirtual 67, 3) := by decide +kernel
theorem dX12_whole_4 : decode cX12_whole 4 = .ok (.ifCond .ne 5, 3) := by decide +kernel
theorem dX12_whole_7 : decode cX12_whole 7 = .ok (.iconst 0, 1) := by decide +kernel
theorem dX12_whole_8 : decode cX12_whole 8 = .ok (.ireturn, 1) := by decide +kernel
theorem dX12_whole_9 : decode cX12_whole 9 = .ok (.aload_n 0, 1) := by decide +kernel
theorem dX12_whole_10 : decode cX12_whole 10 = .ok (.invokevirtual 71, 3) := by decide +kernel
theorem dX12_whole_13 : decode cX12_whole 13 = .ok (.bipush 124, 2) := by decide +kernel
theorem dX12_whole_15 : decode cX12_whole 15 = .ok (.if_icmp .ne 32, 3) := by decide +kernel
theorem dX12_whole_18 : decode cX12_whole 18 = .ok (.aload_n 0, 1) := by decide +kernel
theorem dX12_whole_19 : decode cX12_whole 19 = .ok (.dup, 1) := by decide +kernel
theorem dX12_whole_20 : decode cX12_whole 20 = .ok (.getfield 57, 3) := by decide +kernel
theorem dX12_whole_23 : decode cX12_whole 23 = .ok (.iconst 1, 1) := by decide +kernel
theorem dX12_whole_24 : decode cX12_whole 24 = .ok (.iadd, 1) := by decide +kernel
theorem dX12_whole_25 : decode cX12_whole 25 = .ok (.putfield 57, 3) := by decide +kernel
theorem dX12_whole_28 : decode cX12_whole 28 = .ok (.aload_n 0, 1) := by decide +kernel
theorem dX12_whole_29 : decode cX12_whole 29 = .ok (.invokevirtual 67, 3) := by decide +kernel
theorem dX12_whole_32 : decode cX12_whole 32 = .ok (.ifCond .ne 5, 3) := by decide +kernel
theorem dX12_whole_35 : decode cX12_whole 35 = .ok (.iconst 0, 1) := by decide +kernel
theorem dX12_whole_36 : decode cX12_whole 36 = .ok (.ireturn, 1) := by decide +kernel
theorem dX12_whole_37 : decode cX12_whole 37 = .ok (.aload_n 0, 1) := by decide +kernel
theorem dX12_whole_38 : decode cX12_whole 38 = .ok (.iconst 3, 1) := by decide +kernel
theorem dX12_whole_39 : decode cX12_whole 39 = .ok (.bipush 124, 2) := by decide +kernel
theorem dX12_whole_41 : decode cX12_whole 41 = .ok (.invokevirtual 75, 3) := by decide +kernel
theorem dX12_whole_44 : decode cX12_whole 44 = .ok (.goto (-35), 3) := by decide +kernel
theorem dX12_whole_47 : decode cX12_whole 47 = .ok (.iconst 1, 1) := by decide +kernel
theorem dX12_whole_48 : decode cX12_whole 48 = .ok (.ireturn, 1) := by decide +kernel
theorem dX12_both_0 : decode cX12_both 0 = .ok (.aload_n 0, 1) := by decide +kernel
theorem dX12_both_1 : decode cX12_both 1 = .ok (.invokevirtual 79, 3) := by decide +kernel
theorem dX12_both_4 : decode cX12_both 4 = .ok (.ifCond .ne 5, 3) := by decide +kernel
theorem dX12_both_7 : decode cX12_both 7 = .ok (.iconst 0, 1) := by decide +kernel
theorem dX12_both_8 : decode cX12_both 8 = .ok (.ireturn, 1) := by decide +kernel
theorem dX12_both_9 : decode cX12_both 9 = .ok (.aload_n 0, 1) := by decide +kernel
theorem dX12_both_10 : decode cX12_both 10 = .ok (.invokevirtual 71, 3) := by decide +kernel
theorem dX12_both_13 : decode cX12_both 13 = .ok (.bipush 38, 2) := by decide +kernel
theorem dX12_both_15 : decode cX12_both 15 = .ok (.if_icmp .ne 32, 3) := by decide +kernel
theorem dX12_both_18 : decode cX12_both 18 = .ok (.aload_n 0, 1) := by decide +kernel
theorem dX12_both_19 : decode cX12_both 19 = .ok (.dup, 1) := by decide +kernel
theorem dX12_both_20 : decode cX12_both 20 = .ok (.getfield 57, 3) := by decide +kernel
theorem dX12_both_23 : decode cX12_both 23 = .ok (.iconst 1, 1) := by decide +kernel
theorem dX12_both_24 : decode cX12_both 24 = .ok (.iadd, 1) := by decide +kernel
theorem dX12_both_25 : decode cX12_both 25 = .ok (.putfield 57, 3) := by decide +kernel
theorem dX12_both_28 : decode cX12_both 28 = .ok (.aload_n 0, 1) := by decide +kernel
theorem dX12_both_29 : decode cX12_both 29 = .ok (.invokevirtual 79, 3) := by decide +kernel
theorem dX12_both_32 : decode cX12_both 32 = .ok (.ifCond .ne 5, 3) := by decide +kernel
theorem dX12_both_35 : decode cX12_both 35 = .ok (.iconst 0, 1) := by decide +kernel
theorem dX12_both_36 : decode cX12_both 36 = .ok (.ireturn, 1) := by decide +kernel
theorem dX12_both_37 : decode cX12_both 37 = .ok (.aload_n 0, 1) := by decide +kernel
theorem dX12_both_38 : decode cX12_both 38 = .ok (.iconst 3, 1) := by decide +kernel
theorem dX12_both_39 : decode cX12_both 39 = .ok (.bipush 38, 2) := by decide +kernel
theorem dX12_both_41 : decode cX12_both 41 = .ok (.invokevirtual 75, 3) := by decide +kernel
theorem dX12_both_44 : decode cX12_both 44 = .ok (.goto (-35), 3) := by decide +kernel
theorem dX12_both_47 : decode cX12_both 47 = .ok (.iconst 1, 1) := by decide +kernel
theorem dX12_both_48 : decode cX12_both 48 = .ok (.ireturn, 1) := by decide +kernel
theorem dX12_compared_0 : decode cX12_compared 0 = .ok (.aload_n 0, 1) := by decide +kernel
theorem dX12_compared_1 : decode cX12_compared 1 = .ok (.invokevirtual 82, 3) := by decide +kernel
theorem dX12_compared_4 : decode cX12_compared 4 = .ok (.ifCond .ne 5, 3) := by decide +kernel
theorem dX12_compared_7 : decode cX12_compared 7 = .ok (.iconst 0, 1) := by decide +kernel
theorem dX12_compared_8 : decode cX12_compared 8 = .ok (.ireturn, 1) := by decide +kernel
theorem dX12_compared_9 : decode cX12_compared 9 = .ok (.aload_n 0, 1) := by decide +kernel
theorem dX12_compared_10 : decode cX12_compared 10 = .ok (.invokevirtual 71, 3) := by decide +kernel
theorem dX12_compared_13 : decode cX12_compared 13 = .ok (.istore_n 1, 1) := by decide +kernel
theorem dX12_compared_14 : decode cX12_compared 14 = .ok (.iload_n 1, 1) := by decide +kernel
theorem dX12_compared_15 : decode cX12_compared 15 = .ok (.bipush 60, 2) := by decide +kernel
theorem dX12_compared_17 : decode cX12_compared 17 = .ok (.if_icmp .eq 17, 3) := by decide +kernel
theorem dX12_compared_20 : decode cX12_compared 20 = .ok (.iload_n 1, 1) := by decide +kernel
theorem dX12_compared_21 : decode cX12_compared 21 = .ok (.bipush 61, 2) := by decide +kernel
theorem dX12_compared_23 : decode cX12_compared 23 = .ok (.if_icmp .eq 11, 3) := by decide +kernel
theorem dX12_compared_26 : decode cX12_compared 26 = .ok (.iload_n 1, 1) := by decide +kernel
theorem dX12_compared_27 : decode cX12_compared 27 = .ok (.bipush 62, 2) := by decide +kernel
theorem dX12_compared_29 : decode cX12_compared 29 = .ok (.if_icmp .eq 5, 3) := by decide +kernel
theorem dX12_compared_32 : decode cX12_compared 32 = .ok (.iconst 1, 1) := by decide +kernel
theorem dX12_compared_33 : decode cX12_compared 33 = .ok (.ireturn, 1) := by decide +kernel
theorem dX12_compared_34 : decode cX12_compared 34 = .ok (.aload_n 0, 1) := by decide +kernel
theorem dX12_compared_35 : decode cX12_compared 35 = .ok (.dup, 1) := by decide +kernel
theorem dX12_compared_36 : decode cX12_compared 36 = .ok (.getfield 57, 3) := by decide +kernel
theorem dX12_compared_39 : decode cX12_compared 39 = .ok (.iconst 1, 1) := by decide +kernel
theorem dX12_compared_40 : decode cX12_compared 40 = .ok (.iadd, 1) := by decide +kernel
theorem dX12_compared_41 : decode cX12_compared 41 = .ok (.putfield 57, 3) := by decide +kernel
theorem dX12_compared_44 : decode cX12_compared 44 = .ok (.aload_n 0, 1) := by decide +kernel
theorem dX12_compared_45 : decode cX12_compared 45 = .ok (.invokevirtual 82, 3) := by decide +kernel
theorem dX12_compared_48 : decode cX12_compared 48 = .ok (.ifCond .ne 5, 3) := by decide +kernel
theorem dX12_compared_51 : decode cX12_compared 51 = .ok (.iconst 0, 1) := by decide +kernel
theorem dX12_compared_52 : decode cX12_compared 52 = .ok (.ireturn, 1) := by decide +kernel
theorem dX12_compared_53 : decode cX12_compared 53 = .ok (.aload_n 0, 1) := by decide +kernel
theorem dX12_compared_54 : decode cX12_compared 54 = .ok (.iconst 3, 1) := by decide +kernel
theorem dX12_compared_55 : decode cX12_compared 55 = .ok (.iload_n 1, 1) := by decide +kernel
theorem dX12_compared_56 : decode cX12_compared 56 = .ok (.invokevirtual 75, 3) := by decide +kernel
theorem dX12_compared_59 : decode cX12_compared 59 = .ok (.iconst 1, 1) := by decide +kernel
theorem dX12_compared_60 : decode cX12_compared 60 = .ok (.ireturn, 1) := by decide +kernel
theorem dX12_sum_0 : decode cX12_sum 0 = .ok (.aload_n 0, 1) := by decide +kernel
theorem dX12_sum_1 : decode cX12_sum 1 = .ok (.invokevirtual 85, 3) := by decide +kernel
theorem dX12_sum_4 : decode cX12_sum 4 = .ok (.ifCond .ne 5, 3) := by decide +kernel
theorem dX12_sum_7 : decode cX12_sum 7 = .ok (.iconst 0, 1) := by decide +kernel
theorem dX12_sum_8 : decode cX12_sum 8 = .ok (.ireturn, 1) := by decide +kernel
theorem dX12_sum_9 : decode cX12_sum 9 = .ok (.aload_n 0, 1) := by decide +kernel
theorem dX12_sum_10 : decode cX12_sum 10 = .ok (.invokevirtual 71, 3) := by decide +kernel
theorem dX12_sum_13 : decode cX12_sum 13 = .ok (.bipush 43, 2) := by decide +kernel
theorem dX12_sum_15 : decode cX12_sum 15 = .ok (.if_icmp .eq 12, 3) := by decide +kernel
theorem dX12_sum_18 : decode cX12_sum 18 = .ok (.aload_n 0, 1) := by decide +kernel
theorem dX12_sum_19 : decode cX12_sum 19 = .ok (.invokevirtual 71, 3) := by decide +kernel
theorem dX12_sum_22 : decode cX12_sum 22 = .ok (.bipush 45, 2) := by decide +kernel
theorem dX12_sum_24 : decode cX12_sum 24 = .ok (.if_icmp .ne 36, 3) := by decide +kernel
theorem dX12_sum_27 : decode cX12_sum 27 = .ok (.aload_n 0, 1) := by decide +kernel
theorem dX12_sum_28 : decode cX12_sum 28 = .ok (.invokevirtual 71, 3) := by decide +kernel
theorem dX12_sum_31 : decode cX12_sum 31 = .ok (.istore_n 1, 1) := by decide +kernel
theorem dX12_sum_32 : decode cX12_sum 32 = .ok (.aload_n 0, 1) := by decide +kernel
theorem dX12_sum_33 : decode cX12_sum 33 = .ok (.dup, 1) := by decide +kernel
theorem dX12_sum_34 : decode cX12_sum 34 = .ok (.getfield 57, 3) := by decide +kernel
theorem dX12_sum_37 : decode cX12_sum 37 = .ok (.iconst 1, 1) := by decide +kernel
theorem dX12_sum_38 : decode cX12_sum 38 = .ok (.iadd, 1) := by decide +kernel
theorem dX12_sum_39 : decode cX12_sum 39 = .ok (.putfield 57, 3) := by decide +kernel
theorem dX12_sum_42 : decode cX12_sum 42 = .ok (.aload_n 0, 1) := by decide +kernel
theorem dX12_sum_43 : decode cX12_sum 43 = .ok (.invokevirtual 85, 3) := by decide +kernel
theorem dX12_sum_46 : decode cX12_sum 46 = .ok (.ifCond .ne 5, 3) := by decide +kernel
theorem dX12_sum_49 : decode cX12_sum 49 = .ok (.iconst 0, 1) := by decide +kernel
theorem dX12_sum_50 : decode cX12_sum 50 = .ok (.ireturn, 1) := by decide +kernel
theorem dX12_sum_51 : decode cX12_sum 51 = .ok (.aload_n 0, 1) := by decide +kernel
theorem dX12_sum_52 : decode cX12_sum 52 = .ok (.iconst 3, 1) := by decide +kernel
theorem dX12_sum_53 : decode cX12_sum 53 = .ok (.iload_n 1, 1) := by decide +kernel
theorem dX12_sum_54 : decode cX12_sum 54 = .ok (.invokevirtual 75, 3) := by decide +kernel
theorem dX12_sum_57 : decode cX12_sum 57 = .ok (.goto (-48), 3) := by decide +kernel
theorem dX12_sum_60 : decode cX12_sum 60 = .ok (.iconst 1, 1) := by decide +kernel
theorem dX12_sum_61 : decode cX12_sum 61 = .ok (.ireturn, 1) := by decide +kernel
theorem dX12_product_0 : decode cX12_product 0 = .ok (.aload_n 0, 1) := by decide +kernel
theorem dX12_product_1 : decode cX12_product 1 = .ok (.invokevirtual 88, 3) := by decide +kernel
theorem dX12_product_4 : decode cX12_product 4 = .ok (.ifCond .ne 5, 3) := by decide +kernel
theorem dX12_product_7 : decode cX12_product 7 = .ok (.iconst 0, 1) := by decide +kernel
theorem dX12_product_8 : decode cX12_product 8 = .ok (.ireturn, 1) := by decide +kernel
theorem dX12_product_9 : decode cX12_product 9 = .ok (.aload_n 0, 1) := by decide +kernel
theorem dX12_product_10 : decode cX12_product 10 = .ok (.invokevirtual 71, 3) := by decide +kernel
theorem dX12_product_13 : decode cX12_product 13 = .ok (.bipush 42, 2) := by decide +kernel
theorem dX12_product_15 : decode cX12_product 15 = .ok (.if_icmp .eq 21, 3) := by decide +kernel
theorem dX12_product_18 : decode cX12_product 18 = .ok (.aload_n 0, 1) := by decide +kernel
theorem dX12_product_19 : decode cX12_product 19 = .ok (.invokevirtual 71, 3) := by decide +kernel
theorem dX12_product_22 : decode cX12_product 22 = .ok (.bipush 47, 2) := by decide +kernel
theorem dX12_product_24 : decode cX12_product 24 = .ok (.if_icmp .eq 12, 3) := by decide +kernel
theorem dX12_product_27 : decode cX12_product 27 = .ok (.aload_n 0, 1) := by decide +kernel
theorem dX12_product_28 : decode cX12_product 28 = .ok (.invokevirtual 71, 3) := by decide +kernel
theorem dX12_product_31 : decode cX12_product 31 = .ok (.bipush 37, 2) := by decide +kernel
theorem dX12_product_33 : decode cX12_product 33 = .ok (.if_icmp .ne 36, 3) := by decide +kernel
theorem dX12_product_36 : decode cX12_product 36 = .ok (.aload_n 0, 1) := by decide +kernel
theorem dX12_product_37 : decode cX12_product 37 = .ok (.invokevirtual 71, 3) := by decide +kernel
theorem dX12_product_40 : decode cX12_product 40 = .ok (.istore_n 1, 1) := by decide +kernel
theorem dX12_product_41 : decode cX12_product 41 = .ok (.aload_n 0, 1) := by decide +kernel
theorem dX12_product_42 : decode cX12_product 42 = .ok (.dup, 1) := by decide +kernel
theorem dX12_product_43 : decode cX12_product 43 = .ok (.getfield 57, 3) := by decide +kernel
theorem dX12_product_46 : decode cX12_product 46 = .ok (.iconst 1, 1) := by decide +kernel
theorem dX12_product_47 : decode cX12_product 47 = .ok (.iadd, 1) := by decide +kernel
theorem dX12_product_48 : decode cX12_product 48 = .ok (.putfield 57, 3) := by decide +kernel
theorem dX12_product_51 : decode cX12_product 51 = .ok (.aload_n 0, 1) := by decide +kernel
theorem dX12_product_52 : decode cX12_product 52 = .ok (.invokevirtual 88, 3) := by decide +kernel
theorem dX12_product_55 : decode cX12_product 55 = .ok (.ifCond .ne 5, 3) := by decide +kernel
theorem dX12_product_58 : decode cX12_product 58 = .ok (.iconst 0, 1) := by decide +kernel
theorem dX12_product_59 : decode cX12_product 59 = .ok (.ireturn, 1) := by decide +kernel
theorem dX12_product_60 : decode cX12_product 60 = .ok (.aload_n 0, 1) := by decide +kernel
theorem dX12_product_61 : decode cX12_product 61 = .ok (.iconst 3, 1) := by decide +kernel
theorem dX12_product_62 : decode cX12_product 62 = .ok (.iload_n 1, 1) := by decide +kernel
theorem dX12_product_63 : decode cX12_product 63 = .ok (.invokevirtual 75, 3) := by decide +kernel
theorem dX12_product_66 : decode cX12_product 66 = .ok (.goto (-57), 3) := by decide +kernel
theorem dX12_product_69 : decode cX12_product 69 = .ok (.iconst 1, 1) := by decide +kernel
theorem dX12_product_70 : decode cX12_product 70 = .ok (.ireturn, 1) := by decide +kernel
theorem dX12_opens_0 : decode cX12_opens 0 = .ok (.aload_n 0, 1) := by decide +kernel
theorem dX12_opens_1 : decode cX12_opens 1 = .ok (.getfield 91, 3) := by decide +kernel
theorem dX12_opens_4 : decode cX12_opens 4 = .ok (.iconst 5, 1) := by decide +kernel
theorem dX12_opens_5 : decode cX12_opens 5 = .ok (.if_icmp .ne 5, 3) := by decide +kernel
theorem dX12_opens_8 : decode cX12_opens 8 = .ok (.iconst 0, 1) := by decide +kernel
theorem dX12_opens_9 : decode cX12_opens 9 = .ok (.ireturn, 1) := by decide +kernel
theorem dX12_opens_10 : decode cX12_opens 10 = .ok (.aload_n 0, 1) := by decide +kernel
theorem dX12_opens_11 : decode cX12_opens 11 = .ok (.dup, 1) := by decide +kernel
theorem dX12_opens_12 : decode cX12_opens 12 = .ok (.getfield 91, 3) := by decide +kernel
theorem dX12_opens_15 : decode cX12_opens 15 = .ok (.iconst 1, 1) := by decide +kernel
theorem dX12_opens_16 : decode cX12_opens 16 = .ok (.iadd, 1) := by decide +kernel
theorem dX12_opens_17 : decode cX12_opens 17 = .ok (.putfield 91, 3) := by decide +kernel
theorem dX12_opens_20 : decode cX12_opens 20 = .ok (.aload_n 0, 1) := by decide +kernel
theorem dX12_opens_21 : decode cX12_opens 21 = .ok (.dup, 1) := by decide +kernel
theorem dX12_opens_22 : decode cX12_opens 22 = .ok (.getfield 57, 3) := by decide +kernel
theorem dX12_opens_25 : decode cX12_opens 25 = .ok (.iconst 1, 1) := by decide +kernel
theorem dX12_opens_26 : decode cX12_opens 26 = .ok (.iadd, 1) := by decide +kernel
theorem dX12_opens_27 : decode cX12_opens 27 = .ok (.putfield 57, 3) := by decide +kernel
theorem dX12_opens_30 : decode cX12_opens 30 = .ok (.iconst 1, 1) := by decide +kernel
theorem dX12_opens_31 : decode cX12_opens 31 = .ok (.ireturn, 1) := by decide +kernel
theorem dX12_one_0 : decode cX12_one 0 = .ok (.aload_n 0, 1) := by decide +kernel
theorem dX12_one_1 : decode cX12_one 1 = .ok (.invokevirtual 71, 3) := by decide +kernel
theorem dX12_one_4 : decode cX12_one 4 = .ok (.istore_n 1, 1) := by decide +kernel
theorem dX12_one_5 : decode cX12_one 5 = .ok (.aload_n 0, 1) := by decide +kernel
theorem dX12_one_6 : decode cX12_one 6 = .ok (.iload_n 1, 1) := by decide +kernel
theorem dX12_one_7 : decode cX12_one 7 = .ok (.invokevirtual 94, 3) := by decide +kernel
theorem dX12_one_10 : decode cX12_one 10 = .ok (.ifCond .eq 21, 3) := by decide +kernel
theorem dX12_one_13 : decode cX12_one 13 = .ok (.aload_n 0, 1) := by decide +kernel
theorem dX12_one_14 : decode cX12_one 14 = .ok (.dup, 1) := by decide +kernel
theorem dX12_one_15 : decode cX12_one 15 = .ok (.getfield 57, 3) := by decide +kernel
theorem dX12_one_18 : decode cX12_one 18 = .ok (.iconst 1, 1) := by decide +kernel
theorem dX12_one_19 : decode cX12_one 19 = .ok (.iadd, 1) := by decide +kernel
theorem dX12_one_20 : decode cX12_one 20 = .ok (.putfield 57, 3) := by decide +kernel
theorem dX12_one_23 : decode cX12_one 23 = .ok (.aload_n 0, 1) := by decide +kernel
theorem dX12_one_24 : decode cX12_one 24 = .ok (.iconst 1, 1) := by decide +kernel
theorem dX12_one_25 : decode cX12_one 25 = .ok (.iload_n 1, 1) := by decide +kernel
theorem dX12_one_26 : decode cX12_one 26 = .ok (.invokevirtual 75, 3) := by decide +kernel
theorem dX12_one_29 : decode cX12_one 29 = .ok (.iconst 1, 1) := by decide +kernel
theorem dX12_one_30 : decode cX12_one 30 = .ok (.ireturn, 1) := by decide +kernel
theorem dX12_one_31 : decode cX12_one 31 = .ok (.iload_n 1, 1) := by decide +kernel
theorem dX12_one_32 : decode cX12_one 32 = .ok (.bipush 48, 2) := by decide +kernel
theorem dX12_one_34 : decode cX12_one 34 = .ok (.bipush 57, 2) := by decide +kernel
theorem dX12_one_36 : decode cX12_one 36 = .ok (.invokestatic 47, 3) := by decide +kernel
theorem dX12_one_39 : decode cX12_one 39 = .ok (.ifCond .eq 63, 3) := by decide +kernel
theorem dX12_one_42 : decode cX12_one 42 = .ok (.iconst 0, 1) := by decide +kernel
theorem dX12_one_43 : decode cX12_one 43 = .ok (.istore_n 2, 1) := by decide +kernel
theorem dX12_one_44 : decode cX12_one 44 = .ok (.iconst 0, 1) := by decide +kernel
theorem dX12_one_45 : decode cX12_one 45 = .ok (.istore_n 3, 1) := by decide +kernel
theorem dX12_one_46 : decode cX12_one 46 = .ok (.iload_n 3, 1) := by decide +kernel
theorem dX12_one_47 : decode cX12_one 47 = .ok (.iconst 4, 1) := by decide +kernel
theorem dX12_one_48 : decode cX12_one 48 = .ok (.if_icmp .ge 46, 3) := by decide +kernel
theorem dX12_one_51 : decode cX12_one 51 = .ok (.aload_n 0, 1) := by decide +kernel
theorem dX12_one_52 : decode cX12_one 52 = .ok (.invokevirtual 71, 3) := by decide +kernel
theorem dX12_one_55 : decode cX12_one 55 = .ok (.bipush 48, 2) := by decide +kernel
theorem dX12_one_57 : decode cX12_one 57 = .ok (.bipush 57, 2) := by decide +kernel
theorem dX12_one_59 : decode cX12_one 59 = .ok (.invokestatic 47, 3) := by decide +kernel
theorem dX12_one_62 : decode cX12_one 62 = .ok (.ifCond .eq 32, 3) := by decide +kernel
theorem dX12_one_65 : decode cX12_one 65 = .ok (.bipush 10, 2) := by decide +kernel
theorem dX12_one_67 : decode cX12_one 67 = .ok (.iload_n 2, 1) := by decide +kernel
theorem dX12_one_68 : decode cX12_one 68 = .ok (.imul, 1) := by decide +kernel
theorem dX12_one_69 : decode cX12_one 69 = .ok (.aload_n 0, 1) := by decide +kernel
theorem dX12_one_70 : decode cX12_one 70 = .ok (.invokevirtual 71, 3) := by decide +kernel
theorem dX12_one_73 : decode cX12_one 73 = .ok (.iadd, 1) := by decide +kernel
theorem dX12_one_74 : decode cX12_one 74 = .ok (.bipush 48, 2) := by decide +kernel
theorem dX12_one_76 : decode cX12_one 76 = .ok (.isub, 1) := by decide +kernel
theorem dX12_one_77 : decode cX12_one 77 = .ok (.istore_n 2, 1) := by decide +kernel
theorem dX12_one_78 : decode cX12_one 78 = .ok (.aload_n 0, 1) := by decide +kernel
theorem dX12_one_79 : decode cX12_one 79 = .ok (.dup, 1) := by decide +kernel
theorem dX12_one_80 : decode cX12_one 80 = .ok (.getfield 57, 3) := by decide +kernel
theorem dX12_one_83 : decode cX12_one 83 = .ok (.iconst 1, 1) := by decide +kernel
theorem dX12_one_84 : decode cX12_one 84 = .ok (.iadd, 1) := by decide +kernel
theorem dX12_one_85 : decode cX12_one 85 = .ok (.putfield 57, 3) := by decide +kernel
theorem dX12_one_88 : decode cX12_one 88 = .ok (.iinc 3 1, 3) := by decide +kernel
theorem dX12_one_91 : decode cX12_one 91 = .ok (.goto (-45), 3) := by decide +kernel
theorem dX12_one_94 : decode cX12_one 94 = .ok (.aload_n 0, 1) := by decide +kernel
theorem dX12_one_95 : decode cX12_one 95 = .ok (.iconst 0, 1) := by decide +kernel
theorem dX12_one_96 : decode cX12_one 96 = .ok (.iload_n 2, 1) := by decide +kernel
theorem dX12_one_97 : decode cX12_one 97 = .ok (.invokevirtual 75, 3) := by decide +kernel
theorem dX12_one_100 : decode cX12_one 100 = .ok (.iconst 1, 1) := by decide +kernel
theorem dX12_one_101 : decode cX12_one 101 = .ok (.ireturn, 1) := by decide +kernel
theorem dX12_one_102 : decode cX12_one 102 = .ok (.iload_n 1, 1) := by decide +kernel
theorem dX12_one_103 : decode cX12_one 103 = .ok (.bipush 33, 2) := by decide +kernel
theorem dX12_one_105 : decode cX12_one 105 = .ok (.if_icmp .ne 37, 3) := by decide +kernel
theorem dX12_one_108 : decode cX12_one 108 = .ok (.aload_n 0, 1) := by decide +kernel
theorem dX12_one_109 : decode cX12_one 109 = .ok (.invokevirtual 98, 3) := by decide +kernel
theorem dX12_one_112 : decode cX12_one 112 = .ok (.ifCond .eq 10, 3) := by decide +kernel
theorem dX12_one_115 : decode cX12_one 115 = .ok (.aload_n 0, 1) := by decide +kernel
theorem dX12_one_116 : decode cX12_one 116 = .ok (.invokevirtual 88, 3) := by decide +kernel
theorem dX12_one_119 : decode cX12_one 119 = .ok (.ifCond .ne 5, 3) := by decide +kernel
theorem dX12_one_122 : decode cX12_one 122 = .ok (.iconst 0, 1) := by decide +kernel
theorem dX12_one_123 : decode cX12_one 123 = .ok (.ireturn, 1) := by decide +kernel
theorem dX12_one_124 : decode cX12_one 124 = .ok (.aload_n 0, 1) := by decide +kernel
theorem dX12_one_125 : decode cX12_one 125 = .ok (.dup, 1) := by decide +kernel
theorem dX12_one_126 : decode cX12_one 126 = .ok (.getfield 91, 3) := by decide +kernel
theorem dX12_one_129 : decode cX12_one 129 = .ok (.iconst 1, 1) := by decide +kernel
theorem dX12_one_130 : decode cX12_one 130 = .ok (.isub, 1) := by decide +kernel
theorem dX12_one_131 : decode cX12_one 131 = .ok (.putfield 91, 3) := by decide +kernel
theorem dX12_one_134 : decode cX12_one 134 = .ok (.aload_n 0, 1) := by decide +kernel
theorem dX12_one_135 : decode cX12_one 135 = .ok (.iconst 2, 1) := by decide +kernel
theorem dX12_one_136 : decode cX12_one 136 = .ok (.iconst 0, 1) := by decide +kernel
theorem dX12_one_137 : decode cX12_one 137 = .ok (.invokevirtual 75, 3) := by decide +kernel
theorem dX12_one_140 : decode cX12_one 140 = .ok (.iconst 1, 1) := by decide +kernel
theorem dX12_one_141 : decode cX12_one 141 = .ok (.ireturn, 1) := by decide +kernel
theorem dX12_one_142 : decode cX12_one 142 = .ok (.iload_n 1, 1) := by decide +kernel
theorem dX12_one_143 : decode cX12_one 143 = .ok (.bipush 40, 2) := by decide +kernel
theorem dX12_one_145 : decode cX12_one 145 = .ok (.if_icmp .ne 26, 3) := by decide +kernel
theorem dX12_one_148 : decode cX12_one 148 = .ok (.aload_n 0, 1) := by decide +kernel
theorem dX12_one_149 : decode cX12_one 149 = .ok (.invokevirtual 98, 3) := by decide +kernel
theorem dX12_one_152 : decode cX12_one 152 = .ok (.ifCond .eq 19, 3) := by decide +kernel
theorem dX12_one_155 : decode cX12_one 155 = .ok (.aload_n 0, 1) := by decide +kernel
theorem dX12_one_156 : decode cX12_one 156 = .ok (.invokevirtual 101, 3) := by decide +kernel
theorem dX12_one_159 : decode cX12_one 159 = .ok (.ifCond .eq 12, 3) := by decide +kernel
theorem dX12_one_162 : decode cX12_one 162 = .ok (.aload_n 0, 1) := by decide +kernel
theorem dX12_one_163 : decode cX12_one 163 = .ok (.invokevirtual 71, 3) := by decide +kernel
theorem dX12_one_166 : decode cX12_one 166 = .ok (.bipush 41, 2) := by decide +kernel
theorem dX12_one_168 : decode cX12_one 168 = .ok (.if_icmp .eq 5, 3) := by decide +kernel
theorem dX12_one_171 : decode cX12_one 171 = .ok (.iconst 0, 1) := by decide +kernel
theorem dX12_one_172 : decode cX12_one 172 = .ok (.ireturn, 1) := by decide +kernel
theorem dX12_one_173 : decode cX12_one 173 = .ok (.aload_n 0, 1) := by decide +kernel
theorem dX12_one_174 : decode cX12_one 174 = .ok (.dup, 1) := by decide +kernel
theorem dX12_one_175 : decode cX12_one 175 = .ok (.getfield 57, 3) := by decide +kernel
theorem dX12_one_178 : decode cX12_one 178 = .ok (.iconst 1, 1) := by decide +kernel
theorem dX12_one_179 : decode cX12_one 179 = .ok (.iadd, 1) := by decide +kernel
theorem dX12_one_180 : decode cX12_one 180 = .ok (.putfield 57, 3) := by decide +kernel
theorem dX12_one_183 : decode cX12_one 183 = .ok (.aload_n 0, 1) := by decide +kernel
theorem dX12_one_184 : decode cX12_one 184 = .ok (.dup, 1) := by decide +kernel
theorem dX12_one_185 : decode cX12_one 185 = .ok (.getfield 91, 3) := by decide +kernel
theorem dX12_one_188 : decode cX12_one 188 = .ok (.iconst 1, 1) := by decide +kernel
theorem dX12_one_189 : decode cX12_one 189 = .ok (.isub, 1) := by decide +kernel
theorem dX12_one_190 : decode cX12_one 190 = .ok (.putfield 91, 3) := by decide +kernel
theorem dX12_one_193 : decode cX12_one 193 = .ok (.iconst 1, 1) := by decide +kernel
theorem dX12_one_194 : decode cX12_one 194 = .ok (.ireturn, 1) := by decide +kernel
theorem dX12_hasText_0 : decode cX12_hasText 0 = .ok (.aload_n 0, 1) := by decide +kernel
theorem dX12_hasText_1 : decode cX12_hasText 1 = .ok (.getfield 7, 3) := by decide +kernel
theorem dX12_hasText_4 : decode cX12_hasText 4 = .ok (.bipush 116, 2) := by decide +kernel
theorem dX12_hasText_6 : decode cX12_hasText 6 = .ok (.bipush 125, 2) := by decide +kernel
theorem dX12_hasText_8 : decode cX12_hasText 8 = .ok (.iload_n 1, 1) := by decide +kernel
theorem dX12_hasText_9 : decode cX12_hasText 9 = .ok (.imul, 1) := by decide +kernel
theorem dX12_hasText_10 : decode cX12_hasText 10 = .ok (.iadd, 1) := by decide +kernel
theorem dX12_hasText_11 : decode cX12_hasText 11 = .ok (.iaload, 1) := by decide +kernel
theorem dX12_hasText_12 : decode cX12_hasText 12 = .ok (.ifCond .le 7, 3) := by decide +kernel
theorem dX12_hasText_15 : decode cX12_hasText 15 = .ok (.iconst 1, 1) := by decide +kernel
theorem dX12_hasText_16 : decode cX12_hasText 16 = .ok (.goto 4, 3) := by decide +kernel
theorem dX12_hasText_19 : decode cX12_hasText 19 = .ok (.iconst 0, 1) := by decide +kernel
theorem dX12_hasText_20 : decode cX12_hasText 20 = .ok (.ireturn, 1) := by decide +kernel
theorem dX12_text_0 : decode cX12_text 0 = .ok (.iload_n 1, 1) := by decide +kernel
theorem dX12_text_1 : decode cX12_text 1 = .ok (.iconst 0, 1) := by decide +kernel
theorem dX12_text_2 : decode cX12_text 2 = .ok (.iconst 1, 1) := by decide +kernel
theorem dX12_text_3 : decode cX12_text 3 = .ok (.invokestatic 47, 3) := by decide +kernel
theorem dX12_text_6 : decode cX12_text 6 = .ok (.ifCond .ne 9, 3) := by decide +kernel
theorem dX12_text_9 : decode cX12_text 9 = .ok (.aload_n 0, 1) := by decide +kernel
theorem dX12_text_10 : decode cX12_text 10 = .ok (.iconst 1, 1) := by decide +kernel
theorem dX12_text_11 : decode cX12_text 11 = .ok (.invokevirtual 51, 3) := by decide +kernel
theorem dX12_text_14 : decode cX12_text 14 = .ok (.ireturn, 1) := by decide +kernel
theorem dX12_text_15 : decode cX12_text 15 = .ok (.aload_n 0, 1) := by decide +kernel
theorem dX12_text_16 : decode cX12_text 16 = .ok (.iload_n 1, 1) := by decide +kernel
theorem dX12_text_17 : decode cX12_text 17 = .ok (.putfield 61, 3) := by decide +kernel
theorem dX12_text_20 : decode cX12_text 20 = .ok (.aload_n 0, 1) := by decide +kernel
theorem dX12_text_21 : decode cX12_text 21 = .ok (.iconst 0, 1) := by decide +kernel
theorem dX12_text_22 : decode cX12_text 22 = .ok (.putfield 57, 3) := by decide +kernel
theorem dX12_text_25 : decode cX12_text 25 = .ok (.aload_n 0, 1) := by decide +kernel
theorem dX12_text_26 : decode cX12_text 26 = .ok (.iconst 0, 1) := by decide +kernel
theorem dX12_text_27 : decode cX12_text 27 = .ok (.putfield 91, 3) := by decide +kernel
theorem dX12_text_30 : decode cX12_text 30 = .ok (.aload_n 0, 1) := by decide +kernel
theorem dX12_text_31 : decode cX12_text 31 = .ok (.iconst 0, 1) := by decide +kernel
theorem dX12_text_32 : decode cX12_text 32 = .ok (.putfield 64, 3) := by decide +kernel
theorem dX12_text_35 : decode cX12_text 35 = .ok (.aload_n 0, 1) := by decide +kernel
theorem dX12_text_36 : decode cX12_text 36 = .ok (.invokevirtual 101, 3) := by decide +kernel
theorem dX12_text_39 : decode cX12_text 39 = .ok (.ifCond .eq 20, 3) := by decide +kernel
theorem dX12_text_42 : decode cX12_text 42 = .ok (.aload_n 0, 1) := by decide +kernel
theorem dX12_text_43 : decode cX12_text 43 = .ok (.getfield 57, 3) := by decide +kernel
theorem dX12_text_46 : decode cX12_text 46 = .ok (.aload_n 0, 1) := by decide +kernel
theorem dX12_text_47 : decode cX12_text 47 = .ok (.getfield 7, 3) := by decide +kernel
theorem dX12_text_50 : decode cX12_text 50 = .ok (.iconst 3, 1) := by decide +kernel
theorem dX12_text_51 : decode cX12_text 51 = .ok (.iaload, 1) := by decide +kernel
theorem dX12_text_52 : decode cX12_text 52 = .ok (.if_icmp .ne 7, 3) := by decide +kernel
theorem dX12_text_55 : decode cX12_text 55 = .ok (.iconst 1, 1) := by decide +kernel
theorem dX12_text_56 : decode cX12_text 56 = .ok (.goto 4, 3) := by decide +kernel
theorem dX12_text_59 : decode cX12_text 59 = .ok (.iconst 0, 1) := by decide +kernel
theorem dX12_text_60 : decode cX12_text 60 = .ok (.istore_n 2, 1) := by decide +kernel
theorem dX12_text_61 : decode cX12_text 61 = .ok (.aload_n 0, 1) := by decide +kernel
theorem dX12_text_62 : decode cX12_text 62 = .ok (.getfield 7, 3) := by decide +kernel
theorem dX12_text_65 : decode cX12_text 65 = .ok (.iconst 3, 1) := by decide +kernel
theorem dX12_text_66 : decode cX12_text 66 = .ok (.iconst 0, 1) := by decide +kernel
theorem dX12_text_67 : decode cX12_text 67 = .ok (.iastore, 1) := by decide +kernel
theorem dX12_text_68 : decode cX12_text 68 = .ok (.iload_n 2, 1) := by decide +kernel
theorem dX12_text_69 : decode cX12_text 69 = .ok (.ifCond .ne 11, 3) := by decide +kernel
theorem dX12_text_72 : decode cX12_text 72 = .ok (.bipush (-10), 2) := by decide +kernel
theorem dX12_text_74 : decode cX12_text 74 = .ok (.aload_n 0, 1) := by decide +kernel
theorem dX12_text_75 : decode cX12_text 75 = .ok (.getfield 57, 3) := by decide +kernel
theorem dX12_text_78 : decode cX12_text 78 = .ok (.isub, 1) := by decide +kernel
theorem dX12_text_79 : decode cX12_text 79 = .ok (.ireturn, 1) := by decide +kernel
theorem dX12_text_80 : decode cX12_text 80 = .ok (.bipush 116, 2) := by decide +kernel
theorem dX12_text_82 : decode cX12_text 82 = .ok (.bipush 125, 2) := by decide +kernel
theorem dX12_text_84 : decode cX12_text 84 = .ok (.iload_n 1, 1) := by decide +kernel
theorem dX12_text_85 : decode cX12_text 85 = .ok (.imul, 1) := by decide +kernel
theorem dX12_text_86 : decode cX12_text 86 = .ok (.iadd, 1) := by decide +kernel
theorem dX12_text_87 : decode cX12_text 87 = .ok (.istore_n 3, 1) := by decide +kernel
theorem dX12_text_88 : decode cX12_text 88 = .ok (.aload_n 0, 1) := by decide +kernel
theorem dX12_text_89 : decode cX12_text 89 = .ok (.getfield 7, 3) := by decide +kernel
theorem dX12_text_92 : decode cX12_text 92 = .ok (.iload_n 3, 1) := by decide +kernel
theorem dX12_text_93 : decode cX12_text 93 = .ok (.aload_n 0, 1) := by decide +kernel
theorem dX12_text_94 : decode cX12_text 94 = .ok (.getfield 64, 3) := by decide +kernel
theorem dX12_text_97 : decode cX12_text 97 = .ok (.iastore, 1) := by decide +kernel
theorem dX12_text_98 : decode cX12_text 98 = .ok (.iconst 0, 1) := by decide +kernel
theorem dX12_text_99 : decode cX12_text 99 = .ok (.istore 4, 2) := by decide +kernel
theorem dX12_text_101 : decode cX12_text 101 = .ok (.iload 4, 2) := by decide +kernel
theorem dX12_text_103 : decode cX12_text 103 = .ok (.iconst 2, 1) := by decide +kernel
theorem dX12_text_104 : decode cX12_text 104 = .ok (.aload_n 0, 1) := by decide +kernel
theorem dX12_text_105 : decode cX12_text 105 = .ok (.getfield 64, 3) := by decide +kernel
theorem dX12_text_108 : decode cX12_text 108 = .ok (.imul, 1) := by decide +kernel
theorem dX12_text_109 : decode cX12_text 109 = .ok (.if_icmp .ge 27, 3) := by decide +kernel
theorem dX12_text_112 : decode cX12_text 112 = .ok (.aload_n 0, 1) := by decide +kernel
theorem dX12_text_113 : decode cX12_text 113 = .ok (.getfield 7, 3) := by decide +kernel
theorem dX12_text_116 : decode cX12_text 116 = .ok (.iload_n 3, 1) := by decide +kernel
theorem dX12_text_117 : decode cX12_text 117 = .ok (.iconst 1, 1) := by decide +kernel
theorem dX12_text_118 : decode cX12_text 118 = .ok (.iadd, 1) := by decide +kernel
theorem dX12_text_119 : decode cX12_text 119 = .ok (.iload 4, 2) := by decide +kernel
theorem dX12_text_121 : decode cX12_text 121 = .ok (.iadd, 1) := by decide +kernel
theorem dX12_text_122 : decode cX12_text 122 = .ok (.aload_n 0, 1) := by decide +kernel
theorem dX12_text_123 : decode cX12_text 123 = .ok (.getfield 22, 3) := by decide +kernel
theorem dX12_text_126 : decode cX12_text 126 = .ok (.iload 4, 2) := by decide +kernel
theorem dX12_text_128 : decode cX12_text 128 = .ok (.iaload, 1) := by decide +kernel
theorem dX12_text_129 : decode cX12_text 129 = .ok (.iastore, 1) := by decide +kernel
theorem dX12_text_130 : decode cX12_text 130 = .ok (.iinc 4 1, 3) := by decide +kernel
theorem dX12_text_133 : decode cX12_text 133 = .ok (.goto (-32), 3) := by decide +kernel
theorem dX12_text_136 : decode cX12_text 136 = .ok (.iconst 1, 1) := by decide +kernel
theorem dX12_text_137 : decode cX12_text 137 = .ok (.ireturn, 1) := by decide +kernel
theorem dX12_untell_0 : decode cX12_untell 0 = .ok (.iload_n 1, 1) := by decide +kernel
theorem dX12_untell_1 : decode cX12_untell 1 = .ok (.iconst 0, 1) := by decide +kernel
theorem dX12_untell_2 : decode cX12_untell 2 = .ok (.iconst 1, 1) := by decide +kernel
theorem dX12_untell_3 : decode cX12_untell 3 = .ok (.invokestatic 47, 3) := by decide +kernel
theorem dX12_untell_6 : decode cX12_untell 6 = .ok (.ifCond .ne 9, 3) := by decide +kernel
theorem dX12_untell_9 : decode cX12_untell 9 = .ok (.aload_n 0, 1) := by decide +kernel
theorem dX12_untell_10 : decode cX12_untell 10 = .ok (.iconst 1, 1) := by decide +kernel
theorem dX12_untell_11 : decode cX12_untell 11 = .ok (.invokevirtual 51, 3) := by decide +kernel
theorem dX12_untell_14 : decode cX12_untell 14 = .ok (.ireturn, 1) := by decide +kernel
theorem dX12_untell_15 : decode cX12_untell 15 = .ok (.aload_n 0, 1) := by decide +kernel
theorem dX12_untell_16 : decode cX12_untell 16 = .ok (.iload_n 1, 1) := by decide +kernel
theorem dX12_untell_17 : decode cX12_untell 17 = .ok (.invokevirtual 104, 3) := by decide +kernel
theorem dX12_untell_20 : decode cX12_untell 20 = .ok (.ifCond .eq 7, 3) := by decide +kernel
theorem dX12_untell_23 : decode cX12_untell 23 = .ok (.iconst 1, 1) := by decide +kernel
theorem dX12_untell_24 : decode cX12_untell 24 = .ok (.goto 4, 3) := by decide +kernel
theorem dX12_untell_27 : decode cX12_untell 27 = .ok (.iconst 0, 1) := by decide +kernel
theorem dX12_untell_28 : decode cX12_untell 28 = .ok (.istore_n 2, 1) := by decide +kernel
theorem dX12_untell_29 : decode cX12_untell 29 = .ok (.aload_n 0, 1) := by decide +kernel
theorem dX12_untell_30 : decode cX12_untell 30 = .ok (.getfield 7, 3) := by decide +kernel
theorem dX12_untell_33 : decode cX12_untell 33 = .ok (.bipush 116, 2) := by decide +kernel
theorem dX12_untell_35 : decode cX12_untell 35 = .ok (.bipush 125, 2) := by decide +kernel
theorem dX12_untell_37 : decode cX12_untell 37 = .ok (.iload_n 1, 1) := by decide +kernel
theorem dX12_untell_38 : decode cX12_untell 38 = .ok (.imul, 1) := by decide +kernel
theorem dX12_untell_39 : decode cX12_untell 39 = .ok (.iadd, 1) := by decide +kernel
theorem dX12_untell_40 : decode cX12_untell 40 = .ok (.iconst 0, 1) := by decide +kernel
theorem dX12_untell_41 : decode cX12_untell 41 = .ok (.iastore, 1) := by decide +kernel
theorem dX12_untell_42 : decode cX12_untell 42 = .ok (.iload_n 2, 1) := by decide +kernel
theorem dX12_untell_43 : decode cX12_untell 43 = .ok (.ireturn, 1) := by decide +kernel
theorem dX12_joined_0 : decode cX12_joined 0 = .ok (.iload_n 0, 1) := by decide +kernel
theorem dX12_joined_1 : decode cX12_joined 1 = .ok (.tableswitch 217 37 62 #[153, 203, 217, 217, 217, 127, 119, 217, 123, 217, 131, 217, 217, 217, 217, 217, 217, 217, 217, 217, 217, 217, 217, 170, 192, 181], 119) := by decide +kernel
theorem dX12_joined_120 : decode cX12_joined 120 = .ok (.iload_n 1, 1) := by decide +kernel
theorem dX12_joined_121 : decode cX12_joined 121 = .ok (.iload_n 2, 1) := by decide +kernel
theorem dX12_joined_122 : decode cX12_joined 122 = .ok (.iadd, 1) := by decide +kernel
theorem dX12_joined_123 : decode cX12_joined 123 = .ok (.ireturn, 1) := by decide +kernel
theorem dX12_joined_124 : decode cX12_joined 124 = .ok (.iload_n 1, 1) := by decide +kernel
theorem dX12_joined_125 : decode cX12_joined 125 = .ok (.iload_n 2, 1) := by decide +kernel
theorem dX12_joined_126 : decode cX12_joined 126 = .ok (.isub, 1) := by decide +kernel
theorem dX12_joined_127 : decode cX12_joined 127 = .ok (.ireturn, 1) := by decide +kernel
theorem dX12_joined_128 : decode cX12_joined 128 = .ok (.iload_n 1, 1) := by decide +kernel
theorem dX12_joined_129 : decode cX12_joined 129 = .ok (.iload_n 2, 1) := by decide +kernel
theorem dX12_joined_130 : decode cX12_joined 130 = .ok (.imul, 1) := by decide +kernel
theorem dX12_joined_131 : decode cX12_joined 131 = .ok (.ireturn, 1) := by decide +kernel
theorem dX12_joined_132 : decode cX12_joined 132 = .ok (.iload_n 2, 1) := by decide +kernel
theorem dX12_joined_133 : decode cX12_joined 133 = .ok (.ifCond .ne 7, 3) := by decide +kernel
theorem dX12_joined_136 : decode cX12_joined 136 = .ok (.iconst 0, 1) := by decide +kernel
theorem dX12_joined_137 : decode cX12_joined 137 = .ok (.goto 16, 3) := by decide +kernel
theorem dX12_joined_140 : decode cX12_joined 140 = .ok (.iload_n 2, 1) := by decide +kernel
theorem dX12_joined_141 : decode cX12_joined 141 = .ok (.iconst (-1), 1) := by decide +kernel
theorem dX12_joined_142 : decode cX12_joined 142 = .ok (.if_icmp .ne 8, 3) := by decide +kernel
theorem dX12_joined_145 : decode cX12_joined 145 = .ok (.iload_n 1, 1) := by decide +kernel
theorem dX12_joined_146 : decode cX12_joined 146 = .ok (.ineg, 1) := by decide +kernel
theorem dX12_joined_147 : decode cX12_joined 147 = .ok (.goto 6, 3) := by decide +kernel
theorem dX12_joined_150 : decode cX12_joined 150 = .ok (.iload_n 1, 1) := by decide +kernel
theorem dX12_joined_151 : decode cX12_joined 151 = .ok (.iload_n 2, 1) := by decide +kernel
theorem dX12_joined_152 : decode cX12_joined 152 = .ok (.idiv, 1) := by decide +kernel
theorem dX12_joined_153 : decode cX12_joined 153 = .ok (.ireturn, 1) := by decide +kernel
theorem dX12_joined_154 : decode cX12_joined 154 = .ok (.iload_n 2, 1) := by decide +kernel
theorem dX12_joined_155 : decode cX12_joined 155 = .ok (.ifCond .eq 8, 3) := by decide +kernel
theorem dX12_joined_158 : decode cX12_joined 158 = .ok (.iload_n 2, 1) := by decide +kernel
theorem dX12_joined_159 : decode cX12_joined 159 = .ok (.iconst (-1), 1) := by decide +kernel
theorem dX12_joined_160 : decode cX12_joined 160 = .ok (.if_icmp .ne 7, 3) := by decide +kernel
theorem dX12_joined_163 : decode cX12_joined 163 = .ok (.iconst 0, 1) := by decide +kernel
theorem dX12_joined_164 : decode cX12_joined 164 = .ok (.goto 6, 3) := by decide +kernel
theorem dX12_joined_167 : decode cX12_joined 167 = .ok (.iload_n 1, 1) := by decide +kernel
theorem dX12_joined_168 : decode cX12_joined 168 = .ok (.iload_n 2, 1) := by decide +kernel
theorem dX12_joined_169 : decode cX12_joined 169 = .ok (.irem, 1) := by decide +kernel
theorem dX12_joined_170 : decode cX12_joined 170 = .ok (.ireturn, 1) := by decide +kernel
theorem dX12_joined_171 : decode cX12_joined 171 = .ok (.iload_n 1, 1) := by decide +kernel
theorem dX12_joined_172 : decode cX12_joined 172 = .ok (.iload_n 2, 1) := by decide +kernel
theorem dX12_joined_173 : decode cX12_joined 173 = .ok (.if_icmp .ge 7, 3) := by decide +kernel
theorem dX12_joined_176 : decode cX12_joined 176 = .ok (.iconst 1, 1) := by decide +kernel
theorem dX12_joined_177 : decode cX12_joined 177 = .ok (.goto 4, 3) := by decide +kernel
theorem dX12_joined_180 : decode cX12_joined 180 = .ok (.iconst 0, 1) := by decide +kernel
theorem dX12_joined_181 : decode cX12_joined 181 = .ok (.ireturn, 1) := by decide +kernel
theorem dX12_joined_182 : decode cX12_joined 182 = .ok (.iload_n 1, 1) := by decide +kernel
theorem dX12_joined_183 : decode cX12_joined 183 = .ok (.iload_n 2, 1) := by decide +kernel
theorem dX12_joined_184 : decode cX12_joined 184 = .ok (.if_icmp .le 7, 3) := by decide +kernel
theorem dX12_joined_187 : decode cX12_joined 187 = .ok (.iconst 1, 1) := by decide +kernel
theorem dX12_joined_188 : decode cX12_joined 188 = .ok (.goto 4, 3) := by decide +kernel
theorem dX12_joined_191 : decode cX12_joined 191 = .ok (.iconst 0, 1) := by decide +kernel
theorem dX12_joined_192 : decode cX12_joined 192 = .ok (.ireturn, 1) := by decide +kernel
theorem dX12_joined_193 : decode cX12_joined 193 = .ok (.iload_n 1, 1) := by decide +kernel
theorem dX12_joined_194 : decode cX12_joined 194 = .ok (.iload_n 2, 1) := by decide +kernel
theorem dX12_joined_195 : decode cX12_joined 195 = .ok (.if_icmp .ne 7, 3) := by decide +kernel
theorem dX12_joined_198 : decode cX12_joined 198 = .ok (.iconst 1, 1) := by decide +kernel
theorem dX12_joined_199 : decode cX12_joined 199 = .ok (.goto 4, 3) := by decide +kernel
theorem dX12_joined_202 : decode cX12_joined 202 = .ok (.iconst 0, 1) := by decide +kernel
theorem dX12_joined_203 : decode cX12_joined 203 = .ok (.ireturn, 1) := by decide +kernel
theorem dX12_joined_204 : decode cX12_joined 204 = .ok (.iload_n 1, 1) := by decide +kernel
theorem dX12_joined_205 : decode cX12_joined 205 = .ok (.ifCond .eq 11, 3) := by decide +kernel
theorem dX12_joined_208 : decode cX12_joined 208 = .ok (.iload_n 2, 1) := by decide +kernel
theorem dX12_joined_209 : decode cX12_joined 209 = .ok (.ifCond .eq 7, 3) := by decide +kernel
theorem dX12_joined_212 : decode cX12_joined 212 = .ok (.iconst 1, 1) := by decide +kernel
theorem dX12_joined_213 : decode cX12_joined 213 = .ok (.goto 4, 3) := by decide +kernel
theorem dX12_joined_216 : decode cX12_joined 216 = .ok (.iconst 0, 1) := by decide +kernel
theorem dX12_joined_217 : decode cX12_joined 217 = .ok (.ireturn, 1) := by decide +kernel
theorem dX12_joined_218 : decode cX12_joined 218 = .ok (.iload_n 1, 1) := by decide +kernel
theorem dX12_joined_219 : decode cX12_joined 219 = .ok (.ifCond .ne 7, 3) := by decide +kernel
theorem dX12_joined_222 : decode cX12_joined 222 = .ok (.iload_n 2, 1) := by decide +kernel
theorem dX12_joined_223 : decode cX12_joined 223 = .ok (.ifCond .eq 7, 3) := by decide +kernel
theorem dX12_joined_226 : decode cX12_joined 226 = .ok (.iconst 1, 1) := by decide +kernel
theorem dX12_joined_227 : decode cX12_joined 227 = .ok (.goto 4, 3) := by decide +kernel
theorem dX12_joined_230 : decode cX12_joined 230 = .ok (.iconst 0, 1) := by decide +kernel
theorem dX12_joined_231 : decode cX12_joined 231 = .ok (.ireturn, 1) := by decide +kernel
theorem dX12_worked_0 : decode cX12_worked 0 = .ok (.bipush 116, 2) := by decide +kernel
theorem dX12_worked_2 : decode cX12_worked 2 = .ok (.bipush 125, 2) := by decide +kernel
theorem dX12_worked_4 : decode cX12_worked 4 = .ok (.iload_n 1, 1) := by decide +kernel
theorem dX12_worked_5 : decode cX12_worked 5 = .ok (.imul, 1) := by decide +kernel
theorem dX12_worked_6 : decode cX12_worked 6 = .ok (.iadd, 1) := by decide +kernel
theorem dX12_worked_7 : decode cX12_worked 7 = .ok (.istore_n 2, 1) := by decide +kernel
theorem dX12_worked_8 : decode cX12_worked 8 = .ok (.iconst 0, 1) := by decide +kernel
theorem dX12_worked_9 : decode cX12_worked 9 = .ok (.istore_n 3, 1) := by decide +kernel
theorem dX12_worked_10 : decode cX12_worked 10 = .ok (.iconst 0, 1) := by decide +kernel
theorem dX12_worked_11 : decode cX12_worked 11 = .ok (.istore 4, 2) := by decide +kernel
theorem dX12_worked_13 : decode cX12_worked 13 = .ok (.iload 4, 2) := by decide +kernel
theorem dX12_worked_15 : decode cX12_worked 15 = .ok (.aload_n 0, 1) := by decide +kernel
theorem dX12_worked_16 : decode cX12_worked 16 = .ok (.getfield 7, 3) := by decide +kernel
theorem dX12_worked_19 : decode cX12_worked 19 = .ok (.iload_n 2, 1) := by decide +kernel
theorem dX12_worked_20 : decode cX12_worked 20 = .ok (.iaload, 1) := by decide +kernel
theorem dX12_worked_21 : decode cX12_worked 21 = .ok (.if_icmp .ge 142, 3) := by decide +kernel
theorem dX12_worked_24 : decode cX12_worked 24 = .ok (.aload_n 0, 1) := by decide +kernel
theorem dX12_worked_25 : decode cX12_worked 25 = .ok (.getfield 7, 3) := by decide +kernel
theorem dX12_worked_28 : decode cX12_worked 28 = .ok (.iload_n 2, 1) := by decide +kernel
theorem dX12_worked_29 : decode cX12_worked 29 = .ok (.iconst 1, 1) := by decide +kernel
theorem dX12_worked_30 : decode cX12_worked 30 = .ok (.iadd, 1) := by decide +kernel
theorem dX12_worked_31 : decode cX12_worked 31 = .ok (.iconst 2, 1) := by decide +kernel
theorem dX12_worked_32 : decode cX12_worked 32 = .ok (.iload 4, 2) := by decide +kernel
theorem dX12_worked_34 : decode cX12_worked 34 = .ok (.imul, 1) := by decide +kernel
theorem dX12_worked_35 : decode cX12_worked 35 = .ok (.iadd, 1) := by decide +kernel
theorem dX12_worked_36 : decode cX12_worked 36 = .ok (.iaload, 1) := by decide +kernel
theorem dX12_worked_37 : decode cX12_worked 37 = .ok (.istore 5, 2) := by decide +kernel
theorem dX12_worked_39 : decode cX12_worked 39 = .ok (.aload_n 0, 1) := by decide +kernel
theorem dX12_worked_40 : decode cX12_worked 40 = .ok (.getfield 7, 3) := by decide +kernel
theorem dX12_worked_43 : decode cX12_worked 43 = .ok (.iload_n 2, 1) := by decide +kernel
theorem dX12_worked_44 : decode cX12_worked 44 = .ok (.iconst 2, 1) := by decide +kernel
theorem dX12_worked_45 : decode cX12_worked 45 = .ok (.iadd, 1) := by decide +kernel
theorem dX12_worked_46 : decode cX12_worked 46 = .ok (.iconst 2, 1) := by decide +kernel
theorem dX12_worked_47 : decode cX12_worked 47 = .ok (.iload 4, 2) := by decide +kernel
theorem dX12_worked_49 : decode cX12_worked 49 = .ok (.imul, 1) := by decide +kernel
theorem dX12_worked_50 : decode cX12_worked 50 = .ok (.iadd, 1) := by decide +kernel
theorem dX12_worked_51 : decode cX12_worked 51 = .ok (.iaload, 1) := by decide +kernel
theorem dX12_worked_52 : decode cX12_worked 52 = .ok (.istore 6, 2) := by decide +kernel
theorem dX12_worked_54 : decode cX12_worked 54 = .ok (.iload 5, 2) := by decide +kernel
theorem dX12_worked_56 : decode cX12_worked 56 = .ok (.ifCond .eq 9, 3) := by decide +kernel
theorem dX12_worked_59 : decode cX12_worked 59 = .ok (.iload 5, 2) := by decide +kernel
theorem dX12_worked_61 : decode cX12_worked 61 = .ok (.iconst 1, 1) := by decide +kernel
theorem dX12_worked_62 : decode cX12_worked 62 = .ok (.if_icmp .ne 32, 3) := by decide +kernel
theorem dX12_worked_65 : decode cX12_worked 65 = .ok (.aload_n 0, 1) := by decide +kernel
theorem dX12_worked_66 : decode cX12_worked 66 = .ok (.getfield 28, 3) := by decide +kernel
theorem dX12_worked_69 : decode cX12_worked 69 = .ok (.iload_n 3, 1) := by decide +kernel
theorem dX12_worked_70 : decode cX12_worked 70 = .ok (.iload 5, 2) := by decide +kernel
theorem dX12_worked_72 : decode cX12_worked 72 = .ok (.ifCond .ne 8, 3) := by decide +kernel
theorem dX12_worked_75 : decode cX12_worked 75 = .ok (.iload 6, 2) := by decide +kernel
theorem dX12_worked_77 : decode cX12_worked 77 = .ok (.goto 10, 3) := by decide +kernel
theorem dX12_worked_80 : decode cX12_worked 80 = .ok (.aload_n 0, 1) := by decide +kernel
theorem dX12_worked_81 : decode cX12_worked 81 = .ok (.getfield 25, 3) := by decide +kernel
theorem dX12_worked_84 : decode cX12_worked 84 = .ok (.iload 6, 2) := by decide +kernel
theorem dX12_worked_86 : decode cX12_worked 86 = .ok (.iaload, 1) := by decide +kernel
theorem dX12_worked_87 : decode cX12_worked 87 = .ok (.iastore, 1) := by decide +kernel
theorem dX12_worked_88 : decode cX12_worked 88 = .ok (.iinc 3 1, 3) := by decide +kernel
theorem dX12_worked_91 : decode cX12_worked 91 = .ok (.goto 66, 3) := by decide +kernel
theorem dX12_worked_94 : decode cX12_worked 94 = .ok (.iload 5, 2) := by decide +kernel
theorem dX12_worked_96 : decode cX12_worked 96 = .ok (.iconst 2, 1) := by decide +kernel
theorem dX12_worked_97 : decode cX12_worked 97 = .ok (.if_icmp .ne 30, 3) := by decide +kernel
theorem dX12_worked_100 : decode cX12_worked 100 = .ok (.aload_n 0, 1) := by decide +kernel
theorem dX12_worked_101 : decode cX12_worked 101 = .ok (.getfield 28, 3) := by decide +kernel
theorem dX12_worked_104 : decode cX12_worked 104 = .ok (.iload_n 3, 1) := by decide +kernel
theorem dX12_worked_105 : decode cX12_worked 105 = .ok (.iconst 1, 1) := by decide +kernel
theorem dX12_worked_106 : decode cX12_worked 106 = .ok (.isub, 1) := by decide +kernel
theorem dX12_worked_107 : decode cX12_worked 107 = .ok (.aload_n 0, 1) := by decide +kernel
theorem dX12_worked_108 : decode cX12_worked 108 = .ok (.getfield 28, 3) := by decide +kernel
theorem dX12_worked_111 : decode cX12_worked 111 = .ok (.iload_n 3, 1) := by decide +kernel
theorem dX12_worked_112 : decode cX12_worked 112 = .ok (.iconst 1, 1) := by decide +kernel
theorem dX12_worked_113 : decode cX12_worked 113 = .ok (.isub, 1) := by decide +kernel
theorem dX12_worked_114 : decode cX12_worked 114 = .ok (.iaload, 1) := by decide +kernel
theorem dX12_worked_115 : decode cX12_worked 115 = .ok (.ifCond .ne 7, 3) := by decide +kernel
theorem dX12_worked_118 : decode cX12_worked 118 = .ok (.iconst 1, 1) := by decide +kernel
theorem dX12_worked_119 : decode cX12_worked 119 = .ok (.goto 4, 3) := by decide +kernel
theorem dX12_worked_122 : decode cX12_worked 122 = .ok (.iconst 0, 1) := by decide +kernel
theorem dX12_worked_123 : decode cX12_worked 123 = .ok (.iastore, 1) := by decide +kernel
theorem dX12_worked_124 : decode cX12_worked 124 = .ok (.goto 33, 3) := by decide +kernel
theorem dX12_worked_127 : decode cX12_worked 127 = .ok (.iinc 3 (-1), 3) := by decide +kernel
theorem dX12_worked_130 : decode cX12_worked 130 = .ok (.aload_n 0, 1) := by decide +kernel
theorem dX12_worked_131 : decode cX12_worked 131 = .ok (.getfield 28, 3) := by decide +kernel
theorem dX12_worked_134 : decode cX12_worked 134 = .ok (.iload_n 3, 1) := by decide +kernel
theorem dX12_worked_135 : decode cX12_worked 135 = .ok (.iconst 1, 1) := by decide +kernel
theorem dX12_worked_136 : decode cX12_worked 136 = .ok (.isub, 1) := by decide +kernel
theorem dX12_worked_137 : decode cX12_worked 137 = .ok (.iload 6, 2) := by decide +kernel
theorem dX12_worked_139 : decode cX12_worked 139 = .ok (.aload_n 0, 1) := by decide +kernel
theorem dX12_worked_140 : decode cX12_worked 140 = .ok (.getfield 28, 3) := by decide +kernel
theorem dX12_worked_143 : decode cX12_worked 143 = .ok (.iload_n 3, 1) := by decide +kernel
theorem dX12_worked_144 : decode cX12_worked 144 = .ok (.iconst 1, 1) := by decide +kernel
theorem dX12_worked_145 : decode cX12_worked 145 = .ok (.isub, 1) := by decide +kernel
theorem dX12_worked_146 : decode cX12_worked 146 = .ok (.iaload, 1) := by decide +kernel
theorem dX12_worked_147 : decode cX12_worked 147 = .ok (.aload_n 0, 1) := by decide +kernel
theorem dX12_worked_148 : decode cX12_worked 148 = .ok (.getfield 28, 3) := by decide +kernel
theorem dX12_worked_151 : decode cX12_worked 151 = .ok (.iload_n 3, 1) := by decide +kernel
theorem dX12_worked_152 : decode cX12_worked 152 = .ok (.iaload, 1) := by decide +kernel
theorem dX12_worked_153 : decode cX12_worked 153 = .ok (.invokestatic 107, 3) := by decide +kernel
theorem dX12_worked_156 : decode cX12_worked 156 = .ok (.iastore, 1) := by decide +kernel
theorem dX12_worked_157 : decode cX12_worked 157 = .ok (.iinc 4 1, 3) := by decide +kernel
theorem dX12_worked_160 : decode cX12_worked 160 = .ok (.goto (-147), 3) := by decide +kernel
theorem dX12_worked_163 : decode cX12_worked 163 = .ok (.aload_n 0, 1) := by decide +kernel
theorem dX12_worked_164 : decode cX12_worked 164 = .ok (.getfield 28, 3) := by decide +kernel
theorem dX12_worked_167 : decode cX12_worked 167 = .ok (.iconst 0, 1) := by decide +kernel
theorem dX12_worked_168 : decode cX12_worked 168 = .ok (.iaload, 1) := by decide +kernel
theorem dX12_worked_169 : decode cX12_worked 169 = .ok (.ireturn, 1) := by decide +kernel
theorem dX12_downNow_0 : decode cX12_downNow 0 = .ok (.iconst 0, 1) := by decide +kernel
theorem dX12_downNow_1 : decode cX12_downNow 1 = .ok (.istore_n 1, 1) := by decide +kernel
theorem dX12_downNow_2 : decode cX12_downNow 2 = .ok (.iconst 0, 1) := by decide +kernel
theorem dX12_downNow_3 : decode cX12_downNow 3 = .ok (.istore_n 2, 1) := by decide +kernel
theorem dX12_downNow_4 : decode cX12_downNow 4 = .ok (.iload_n 2, 1) := by decide +kernel
theorem dX12_downNow_5 : decode cX12_downNow 5 = .ok (.aload_n 0, 1) := by decide +kernel
theorem dX12_downNow_6 : decode cX12_downNow 6 = .ok (.getfield 7, 3) := by decide +kernel
theorem dX12_downNow_9 : decode cX12_downNow 9 = .ok (.iconst 5, 1) := by decide +kernel
theorem dX12_downNow_10 : decode cX12_downNow 10 = .ok (.iaload, 1) := by decide +kernel
theorem dX12_downNow_11 : decode cX12_downNow 11 = .ok (.if_icmp .ge 26, 3) := by decide +kernel
theorem dX12_downNow_14 : decode cX12_downNow 14 = .ok (.iload_n 1, 1) := by decide +kernel
theorem dX12_downNow_15 : decode cX12_downNow 15 = .ok (.aload_n 0, 1) := by decide +kernel
theorem dX12_downNow_16 : decode cX12_downNow 16 = .ok (.iload_n 2, 1) := by decide +kernel
theorem dX12_downNow_17 : decode cX12_downNow 17 = .ok (.iconst 3, 1) := by decide +kernel
theorem dX12_downNow_18 : decode cX12_downNow 18 = .ok (.invokevirtual 111, 3) := by decide +kernel
theorem dX12_downNow_21 : decode cX12_downNow 21 = .ok (.ifCond .ne 7, 3) := by decide +kernel
theorem dX12_downNow_24 : decode cX12_downNow 24 = .ok (.iconst 1, 1) := by decide +kernel
theorem dX12_downNow_25 : decode cX12_downNow 25 = .ok (.goto 4, 3) := by decide +kernel
theorem dX12_downNow_28 : decode cX12_downNow 28 = .ok (.iconst 0, 1) := by decide +kernel
theorem dX12_downNow_29 : decode cX12_downNow 29 = .ok (.iadd, 1) := by decide +kernel
theorem dX12_downNow_30 : decode cX12_downNow 30 = .ok (.istore_n 1, 1) := by decide +kernel
theorem dX12_downNow_31 : decode cX12_downNow 31 = .ok (.iinc 2 1, 3) := by decide +kernel
theorem dX12_downNow_34 : decode cX12_downNow 34 = .ok (.goto (-30), 3) := by decide +kernel
theorem dX12_downNow_37 : decode cX12_downNow 37 = .ok (.iload_n 1, 1) := by decide +kernel
theorem dX12_downNow_38 : decode cX12_downNow 38 = .ok (.ireturn, 1) := by decide +kernel
theorem dX12_actsOf_0 : decode cX12_actsOf 0 = .ok (.aload_n 0, 1) := by decide +kernel
theorem dX12_actsOf_1 : decode cX12_actsOf 1 = .ok (.iload_n 1, 1) := by decide +kernel
theorem dX12_actsOf_2 : decode cX12_actsOf 2 = .ok (.iconst 4, 1) := by decide +kernel
theorem dX12_actsOf_3 : decode cX12_actsOf 3 = .ok (.invokevirtual 111, 3) := by decide +kernel
theorem dX12_actsOf_6 : decode cX12_actsOf 6 = .ok (.invokestatic 115, 3) := by decide +kernel
theorem dX12_actsOf_9 : decode cX12_actsOf 9 = .ok (.iconst 3, 1) := by decide +kernel
theorem dX12_actsOf_10 : decode cX12_actsOf 10 = .ok (.if_icmp .le 7, 3) := by decide +kernel
theorem dX12_actsOf_13 : decode cX12_actsOf 13 = .ok (.iconst 2, 1) := by decide +kernel
theorem dX12_actsOf_14 : decode cX12_actsOf 14 = .ok (.goto 4, 3) := by decide +kernel
theorem dX12_actsOf_17 : decode cX12_actsOf 17 = .ok (.iconst 1, 1) := by decide +kernel
theorem dX12_actsOf_18 : decode cX12_actsOf 18 = .ok (.istore_n 2, 1) := by decide +kernel
theorem dX12_actsOf_19 : decode cX12_actsOf 19 = .ok (.aload_n 0, 1) := by decide +kernel
theorem dX12_actsOf_20 : decode cX12_actsOf 20 = .ok (.iload_n 1, 1) := by decide +kernel
theorem dX12_actsOf_21 : decode cX12_actsOf 21 = .ok (.iconst 0, 1) := by decide +kernel
theorem dX12_actsOf_22 : decode cX12_actsOf 22 = .ok (.invokevirtual 111, 3) := by decide +kernel
theorem dX12_actsOf_25 : decode cX12_actsOf 25 = .ok (.tableswitch 92 1 6 #[39, 41, 43, 45, 62, 76], 39) := by decide +kernel
theorem dX12_actsOf_64 : decode cX12_actsOf 64 = .ok (.iconst 3, 1) := by decide +kernel
theorem dX12_actsOf_65 : decode cX12_actsOf 65 = .ok (.ireturn, 1) := by decide +kernel
theorem dX12_actsOf_66 : decode cX12_actsOf 66 = .ok (.iload_n 2, 1) := by decide +kernel
theorem dX12_actsOf_67 : decode cX12_actsOf 67 = .ok (.ireturn, 1) := by decide +kernel
theorem dX12_actsOf_68 : decode cX12_actsOf 68 = .ok (.iconst 0, 1) := by decide +kernel
theorem dX12_actsOf_69 : decode cX12_actsOf 69 = .ok (.ireturn, 1) := by decide +kernel
theorem dX12_actsOf_70 : decode cX12_actsOf 70 = .ok (.aload_n 0, 1) := by decide +kernel
theorem dX12_actsOf_71 : decode cX12_actsOf 71 = .ok (.getfield 7, 3) := by decide +kernel
theorem dX12_actsOf_74 : decode cX12_actsOf 74 = .ok (.iconst 0, 1) := by decide +kernel
theorem dX12_actsOf_75 : decode cX12_actsOf 75 = .ok (.iaload, 1) := by decide +kernel
theorem dX12_actsOf_76 : decode cX12_actsOf 76 = .ok (.iconst 2, 1) := by decide +kernel
theorem dX12_actsOf_77 : decode cX12_actsOf 77 = .ok (.irem, 1) := by decide +kernel
theorem dX12_actsOf_78 : decode cX12_actsOf 78 = .ok (.ifCond .ne 7, 3) := by decide +kernel
theorem dX12_actsOf_81 : decode cX12_actsOf 81 = .ok (.iconst 3, 1) := by decide +kernel
theorem dX12_actsOf_82 : decode cX12_actsOf 82 = .ok (.goto 4, 3) := by decide +kernel
theorem dX12_actsOf_85 : decode cX12_actsOf 85 = .ok (.iconst 1, 1) := by decide +kernel
theorem dX12_actsOf_86 : decode cX12_actsOf 86 = .ok (.ireturn, 1) := by decide +kernel
theorem dX12_actsOf_87 : decode cX12_actsOf 87 = .ok (.aload_n 0, 1) := by decide +kernel
theorem dX12_actsOf_88 : decode cX12_actsOf 88 = .ok (.invokevirtual 118, 3) := by decide +kernel
theorem dX12_actsOf_91 : decode cX12_actsOf 91 = .ok (.iconst 1, 1) := by decide +kernel
theorem dX12_actsOf_92 : decode cX12_actsOf 92 = .ok (.if_icmp .le 7, 3) := by decide +kernel
theorem dX12_actsOf_95 : decode cX12_actsOf 95 = .ok (.iconst 2, 1) := by decide +kernel
theorem dX12_actsOf_96 : decode cX12_actsOf 96 = .ok (.goto 4, 3) := by decide +kernel
theorem dX12_actsOf_99 : decode cX12_actsOf 99 = .ok (.iload_n 2, 1) := by decide +kernel
theorem dX12_actsOf_100 : decode cX12_actsOf 100 = .ok (.ireturn, 1) := by decide +kernel
theorem dX12_actsOf_101 : decode cX12_actsOf 101 = .ok (.aload_n 0, 1) := by decide +kernel
theorem dX12_actsOf_102 : decode cX12_actsOf 102 = .ok (.iload_n 1, 1) := by decide +kernel
theorem dX12_actsOf_103 : decode cX12_actsOf 103 = .ok (.iconst 1, 1) := by decide +kernel
theorem dX12_actsOf_104 : decode cX12_actsOf 104 = .ok (.invokevirtual 111, 3) := by decide +kernel
theorem dX12_actsOf_107 : decode cX12_actsOf 107 = .ok (.iconst 4, 1) := by decide +kernel
theorem dX12_actsOf_108 : decode cX12_actsOf 108 = .ok (.if_icmp .le 7, 3) := by decide +kernel
theorem dX12_actsOf_111 : decode cX12_actsOf 111 = .ok (.iconst 2, 1) := by decide +kernel
theorem dX12_actsOf_112 : decode cX12_actsOf 112 = .ok (.goto 4, 3) := by decide +kernel
theorem dX12_actsOf_115 : decode cX12_actsOf 115 = .ok (.iconst 0, 1) := by decide +kernel
theorem dX12_actsOf_116 : decode cX12_actsOf 116 = .ok (.ireturn, 1) := by decide +kernel
theorem dX12_actsOf_117 : decode cX12_actsOf 117 = .ok (.iconst 1, 1) := by decide +kernel
theorem dX12_actsOf_118 : decode cX12_actsOf 118 = .ok (.ireturn, 1) := by decide +kernel
theorem dX12_tallOf_0 : decode cX12_tallOf 0 = .ok (.aload_n 0, 1) := by decide +kernel
theorem dX12_tallOf_1 : decode cX12_tallOf 1 = .ok (.iload_n 1, 1) := by decide +kernel
theorem dX12_tallOf_2 : decode cX12_tallOf 2 = .ok (.iconst 1, 1) := by decide +kernel
theorem dX12_tallOf_3 : decode cX12_tallOf 3 = .ok (.invokevirtual 111, 3) := by decide +kernel
theorem dX12_tallOf_6 : decode cX12_tallOf 6 = .ok (.istore_n 2, 1) := by decide +kernel
theorem dX12_tallOf_7 : decode cX12_tallOf 7 = .ok (.bipush 6, 2) := by decide +kernel
theorem dX12_tallOf_9 : decode cX12_tallOf 9 = .ok (.iload_n 2, 1) := by decide +kernel
theorem dX12_tallOf_10 : decode cX12_tallOf 10 = .ok (.iconst 2, 1) := by decide +kernel
theorem dX12_tallOf_11 : decode cX12_tallOf 11 = .ok (.idiv, 1) := by decide +kernel
theorem dX12_tallOf_12 : decode cX12_tallOf 12 = .ok (.isub, 1) := by decide +kernel
theorem dX12_tallOf_13 : decode cX12_tallOf 13 = .ok (.istore_n 3, 1) := by decide +kernel
theorem dX12_tallOf_14 : decode cX12_tallOf 14 = .ok (.aload_n 0, 1) := by decide +kernel
theorem dX12_tallOf_15 : decode cX12_tallOf 15 = .ok (.iload_n 1, 1) := by decide +kernel
theorem dX12_tallOf_16 : decode cX12_tallOf 16 = .ok (.iconst 0, 1) := by decide +kernel
theorem dX12_tallOf_17 : decode cX12_tallOf 17 = .ok (.invokevirtual 111, 3) := by decide +kernel
theorem dX12_tallOf_20 : decode cX12_tallOf 20 = .ok (.tableswitch 66 1 6 #[40, 43, 45, 47, 52, 56], 40) := by decide +kernel
theorem dX12_tallOf_60 : decode cX12_tallOf 60 = .ok (.bipush 8, 2) := by decide +kernel
theorem dX12_tallOf_62 : decode cX12_tallOf 62 = .ok (.ireturn, 1) := by decide +kernel
theorem dX12_tallOf_63 : decode cX12_tallOf 63 = .ok (.iload_n 3, 1) := by decide +kernel
theorem dX12_tallOf_64 : decode cX12_tallOf 64 = .ok (.ireturn, 1) := by decide +kernel
theorem dX12_tallOf_65 : decode cX12_tallOf 65 = .ok (.iconst 0, 1) := by decide +kernel
theorem dX12_tallOf_66 : decode cX12_tallOf 66 = .ok (.ireturn, 1) := by decide +kernel
theorem dX12_tallOf_67 : decode cX12_tallOf 67 = .ok (.bipush 8, 2) := by decide +kernel
theorem dX12_tallOf_69 : decode cX12_tallOf 69 = .ok (.iload_n 2, 1) := by decide +kernel
theorem dX12_tallOf_70 : decode cX12_tallOf 70 = .ok (.iadd, 1) := by decide +kernel
theorem dX12_tallOf_71 : decode cX12_tallOf 71 = .ok (.ireturn, 1) := by decide +kernel
theorem dX12_tallOf_72 : decode cX12_tallOf 72 = .ok (.iload_n 3, 1) := by decide +kernel
theorem dX12_tallOf_73 : decode cX12_tallOf 73 = .ok (.iconst 2, 1) := by decide +kernel
theorem dX12_tallOf_74 : decode cX12_tallOf 74 = .ok (.idiv, 1) := by decide +kernel
theorem dX12_tallOf_75 : decode cX12_tallOf 75 = .ok (.ireturn, 1) := by decide +kernel
theorem dX12_tallOf_76 : decode cX12_tallOf 76 = .ok (.aload_n 0, 1) := by decide +kernel
theorem dX12_tallOf_77 : decode cX12_tallOf 77 = .ok (.iload_n 1, 1) := by decide +kernel
theorem dX12_tallOf_78 : decode cX12_tallOf 78 = .ok (.iconst 4, 1) := by decide +kernel
theorem dX12_tallOf_79 : decode cX12_tallOf 79 = .ok (.invokevirtual 111, 3) := by decide +kernel
theorem dX12_tallOf_82 : decode cX12_tallOf 82 = .ok (.invokestatic 115, 3) := by decide +kernel
theorem dX12_tallOf_85 : decode cX12_tallOf 85 = .ok (.ireturn, 1) := by decide +kernel
theorem dX12_tallOf_86 : decode cX12_tallOf 86 = .ok (.bipush 6, 2) := by decide +kernel
theorem dX12_tallOf_88 : decode cX12_tallOf 88 = .ok (.ireturn, 1) := by decide +kernel
theorem dX12_restOf_0 : decode cX12_restOf 0 = .ok (.iload_n 0, 1) := by decide +kernel
theorem dX12_restOf_1 : decode cX12_restOf 1 = .ok (.iconst 4, 1) := by decide +kernel
theorem dX12_restOf_2 : decode cX12_restOf 2 = .ok (.irem, 1) := by decide +kernel
theorem dX12_restOf_3 : decode cX12_restOf 3 = .ok (.istore_n 1, 1) := by decide +kernel
theorem dX12_restOf_4 : decode cX12_restOf 4 = .ok (.iload_n 1, 1) := by decide +kernel
theorem dX12_restOf_5 : decode cX12_restOf 5 = .ok (.ifCond .ge 9, 3) := by decide +kernel
theorem dX12_restOf_8 : decode cX12_restOf 8 = .ok (.iload_n 1, 1) := by decide +kernel
theorem dX12_restOf_9 : decode cX12_restOf 9 = .ok (.iconst 4, 1) := by decide +kernel
theorem dX12_restOf_10 : decode cX12_restOf 10 = .ok (.iadd, 1) := by decide +kernel
theorem dX12_restOf_11 : decode cX12_restOf 11 = .ok (.goto 4, 3) := by decide +kernel
theorem dX12_restOf_14 : decode cX12_restOf 14 = .ok (.iload_n 1, 1) := by decide +kernel
theorem dX12_restOf_15 : decode cX12_restOf 15 = .ok (.ireturn, 1) := by decide +kernel
theorem dX12_givenBy_0 : decode cX12_givenBy 0 = .ok (.aload_n 0, 1) := by decide +kernel
theorem dX12_givenBy_1 : decode cX12_givenBy 1 = .ok (.getfield 25, 3) := by decide +kernel
theorem dX12_givenBy_4 : decode cX12_givenBy 4 = .ok (.iload_n 1, 1) := by decide +kernel
theorem dX12_givenBy_5 : decode cX12_givenBy 5 = .ok (.ifCond .ne 8, 3) := by decide +kernel
theorem dX12_givenBy_8 : decode cX12_givenBy 8 = .ok (.bipush 121, 2) := by decide +kernel
theorem dX12_givenBy_10 : decode cX12_givenBy 10 = .ok (.goto 5, 3) := by decide +kernel
theorem dX12_givenBy_13 : decode cX12_givenBy 13 = .ok (.bipush 116, 2) := by decide +kernel
theorem dX12_givenBy_15 : decode cX12_givenBy 15 = .ok (.iload_n 2, 1) := by decide +kernel
theorem dX12_givenBy_16 : decode cX12_givenBy 16 = .ok (.iastore, 1) := by decide +kernel
theorem dX12_givenBy_17 : decode cX12_givenBy 17 = .ok (.aload_n 0, 1) := by decide +kernel
theorem dX12_givenBy_18 : decode cX12_givenBy 18 = .ok (.getfield 25, 3) := by decide +kernel
theorem dX12_givenBy_21 : decode cX12_givenBy 21 = .ok (.iload_n 1, 1) := by decide +kernel
theorem dX12_givenBy_22 : decode cX12_givenBy 22 = .ok (.ifCond .ne 8, 3) := by decide +kernel
theorem dX12_givenBy_25 : decode cX12_givenBy 25 = .ok (.bipush 107, 2) := by decide +kernel
theorem dX12_givenBy_27 : decode cX12_givenBy 27 = .ok (.goto 5, 3) := by decide +kernel
theorem dX12_givenBy_30 : decode cX12_givenBy 30 = .ok (.bipush 103, 2) := by decide +kernel
theorem dX12_givenBy_32 : decode cX12_givenBy 32 = .ok (.iload_n 3, 1) := by decide +kernel
theorem dX12_givenBy_33 : decode cX12_givenBy 33 = .ok (.iastore, 1) := by decide +kernel
theorem dX12_givenBy_34 : decode cX12_givenBy 34 = .ok (.aload_n 0, 1) := by decide +kernel
theorem dX12_givenBy_35 : decode cX12_givenBy 35 = .ok (.getfield 25, 3) := by decide +kernel
theorem dX12_givenBy_38 : decode cX12_givenBy 38 = .ok (.bipush 100, 2) := by decide +kernel
theorem dX12_givenBy_40 : decode cX12_givenBy 40 = .ok (.iload 4, 2) := by decide +kernel
theorem dX12_givenBy_42 : decode cX12_givenBy 42 = .ok (.iastore, 1) := by decide +kernel
theorem dX12_givenBy_43 : decode cX12_givenBy 43 = .ok (.aload_n 0, 1) := by decide +kernel
theorem dX12_givenBy_44 : decode cX12_givenBy 44 = .ok (.iload_n 1, 1) := by decide +kernel
theorem dX12_givenBy_45 : decode cX12_givenBy 45 = .ok (.invokevirtual 104, 3) := by decide +kernel
theorem dX12_givenBy_48 : decode cX12_givenBy 48 = .ok (.ifCond .eq 11, 3) := by decide +kernel
theorem dX12_givenBy_51 : decode cX12_givenBy 51 = .ok (.aload_n 0, 1) := by decide +kernel
theorem dX12_givenBy_52 : decode cX12_givenBy 52 = .ok (.iload_n 1, 1) := by decide +kernel
theorem dX12_givenBy_53 : decode cX12_givenBy 53 = .ok (.invokevirtual 121, 3) := by decide +kernel
theorem dX12_givenBy_56 : decode cX12_givenBy 56 = .ok (.goto 4, 3) := by decide +kernel
theorem dX12_givenBy_59 : decode cX12_givenBy 59 = .ok (.iload_n 2, 1) := by decide +kernel
theorem dX12_givenBy_60 : decode cX12_givenBy 60 = .ok (.istore 5, 2) := by decide +kernel
theorem dX12_givenBy_62 : decode cX12_givenBy 62 = .ok (.iload_n 1, 1) := by decide +kernel
theorem dX12_givenBy_63 : decode cX12_givenBy 63 = .ok (.ifCond .ne 11, 3) := by decide +kernel
theorem dX12_givenBy_66 : decode cX12_givenBy 66 = .ok (.iload 5, 2) := by decide +kernel
theorem dX12_givenBy_68 : decode cX12_givenBy 68 = .ok (.invokestatic 124, 3) := by decide +kernel
theorem dX12_givenBy_71 : decode cX12_givenBy 71 = .ok (.goto 11, 3) := by decide +kernel
theorem dX12_givenBy_74 : decode cX12_givenBy 74 = .ok (.iload 5, 2) := by decide +kernel
theorem dX12_givenBy_76 : decode cX12_givenBy 76 = .ok (.iconst 0, 1) := by decide +kernel
theorem dX12_givenBy_77 : decode cX12_givenBy 77 = .ok (.bipush 20, 2) := by decide +kernel
theorem dX12_givenBy_79 : decode cX12_givenBy 79 = .ok (.invokestatic 127, 3) := by decide +kernel
theorem dX12_givenBy_82 : decode cX12_givenBy 82 = .ok (.ireturn, 1) := by decide +kernel
theorem dX12_doesNow_0 : decode cX12_doesNow 0 = .ok (.aload_n 0, 1) := by decide +kernel
theorem dX12_doesNow_1 : decode cX12_doesNow 1 = .ok (.iconst 0, 1) := by decide +kernel
theorem dX12_doesNow_2 : decode cX12_doesNow 2 = .ok (.aload_n 0, 1) := by decide +kernel
theorem dX12_doesNow_3 : decode cX12_doesNow 3 = .ok (.iload_n 1, 1) := by decide +kernel
theorem dX12_doesNow_4 : decode cX12_doesNow 4 = .ok (.invokevirtual 130, 3) := by decide +kernel
theorem dX12_doesNow_7 : decode cX12_doesNow 7 = .ok (.aload_n 0, 1) := by decide +kernel
theorem dX12_doesNow_8 : decode cX12_doesNow 8 = .ok (.iload_n 1, 1) := by decide +kernel
theorem dX12_doesNow_9 : decode cX12_doesNow 9 = .ok (.iconst 4, 1) := by decide +kernel
theorem dX12_doesNow_10 : decode cX12_doesNow 10 = .ok (.invokevirtual 111, 3) := by decide +kernel
theorem dX12_doesNow_13 : decode cX12_doesNow 13 = .ok (.invokestatic 115, 3) := by decide +kernel
theorem dX12_doesNow_16 : decode cX12_doesNow 16 = .ok (.aload_n 0, 1) := by decide +kernel
theorem dX12_doesNow_17 : decode cX12_doesNow 17 = .ok (.getfield 7, 3) := by decide +kernel
theorem dX12_doesNow_20 : decode cX12_doesNow 20 = .ok (.iconst 0, 1) := by decide +kernel
theorem dX12_doesNow_21 : decode cX12_doesNow 21 = .ok (.iaload, 1) := by decide +kernel
theorem dX12_doesNow_22 : decode cX12_doesNow 22 = .ok (.bipush 8, 2) := by decide +kernel
theorem dX12_doesNow_24 : decode cX12_doesNow 24 = .ok (.irem, 1) := by decide +kernel
theorem dX12_doesNow_25 : decode cX12_doesNow 25 = .ok (.invokevirtual 133, 3) := by decide +kernel
theorem dX12_doesNow_28 : decode cX12_doesNow 28 = .ok (.ireturn, 1) := by decide +kernel
theorem dX12_madeNow_0 : decode cX12_madeNow 0 = .ok (.aload_n 0, 1) := by decide +kernel
theorem dX12_madeNow_1 : decode cX12_madeNow 1 = .ok (.iconst 1, 1) := by decide +kernel
theorem dX12_madeNow_2 : decode cX12_madeNow 2 = .ok (.aload_n 0, 1) := by decide +kernel
theorem dX12_madeNow_3 : decode cX12_madeNow 3 = .ok (.iload_n 1, 1) := by decide +kernel
theorem dX12_madeNow_4 : decode cX12_madeNow 4 = .ok (.invokevirtual 137, 3) := by decide +kernel
theorem dX12_madeNow_7 : decode cX12_madeNow 7 = .ok (.aload_n 0, 1) := by decide +kernel
theorem dX12_madeNow_8 : decode cX12_madeNow 8 = .ok (.getfield 7, 3) := by decide +kernel
theorem dX12_madeNow_11 : decode cX12_madeNow 11 = .ok (.bipush 12, 2) := by decide +kernel
theorem dX12_madeNow_13 : decode cX12_madeNow 13 = .ok (.aload_n 0, 1) := by decide +kernel
theorem dX12_madeNow_14 : decode cX12_madeNow 14 = .ok (.iload_n 1, 1) := by decide +kernel
theorem dX12_madeNow_15 : decode cX12_madeNow 15 = .ok (.iconst 2, 1) := by decide +kernel
theorem dX12_madeNow_16 : decode cX12_madeNow 16 = .ok (.invokevirtual 111, 3) := by decide +kernel
theorem dX12_madeNow_19 : decode cX12_madeNow 19 = .ok (.iadd, 1) := by decide +kernel
theorem dX12_madeNow_20 : decode cX12_madeNow 20 = .ok (.iaload, 1) := by decide +kernel
theorem dX12_madeNow_21 : decode cX12_madeNow 21 = .ok (.aload_n 0, 1) := by decide +kernel
theorem dX12_madeNow_22 : decode cX12_madeNow 22 = .ok (.getfield 7, 3) := by decide +kernel
theorem dX12_madeNow_25 : decode cX12_madeNow 25 = .ok (.iconst 0, 1) := by decide +kernel
theorem dX12_madeNow_26 : decode cX12_madeNow 26 = .ok (.iaload, 1) := by decide +kernel
theorem dX12_madeNow_27 : decode cX12_madeNow 27 = .ok (.bipush 8, 2) := by decide +kernel
theorem dX12_madeNow_29 : decode cX12_madeNow 29 = .ok (.irem, 1) := by decide +kernel
theorem dX12_madeNow_30 : decode cX12_madeNow 30 = .ok (.invokevirtual 133, 3) := by decide +kernel
theorem dX12_madeNow_33 : decode cX12_madeNow 33 = .ok (.ireturn, 1) := by decide +kernel
theorem dX12_isWet_0 : decode cX12_isWet 0 = .ok (.aload_n 0, 1) := by decide +kernel
theorem dX12_isWet_1 : decode cX12_isWet 1 = .ok (.getfield 7, 3) := by decide +kernel
theorem dX12_isWet_4 : decode cX12_isWet 4 = .ok (.bipush 28, 2) := by decide +kernel
theorem dX12_isWet_6 : decode cX12_isWet 6 = .ok (.aload_n 0, 1) := by decide +kernel
theorem dX12_isWet_7 : decode cX12_isWet 7 = .ok (.iload_n 1, 1) := by decide +kernel
theorem dX12_isWet_8 : decode cX12_isWet 8 = .ok (.iconst 2, 1) := by decide +kernel
theorem dX12_isWet_9 : decode cX12_isWet 9 = .ok (.invokevirtual 111, 3) := by decide +kernel
theorem dX12_isWet_12 : decode cX12_isWet 12 = .ok (.iadd, 1) := by decide +kernel
theorem dX12_isWet_13 : decode cX12_isWet 13 = .ok (.iaload, 1) := by decide +kernel
theorem dX12_isWet_14 : decode cX12_isWet 14 = .ok (.aload_n 0, 1) := by decide +kernel
theorem dX12_isWet_15 : decode cX12_isWet 15 = .ok (.iload_n 1, 1) := by decide +kernel
theorem dX12_isWet_16 : decode cX12_isWet 16 = .ok (.iconst 3, 1) := by decide +kernel
theorem dX12_isWet_17 : decode cX12_isWet 17 = .ok (.invokevirtual 111, 3) := by decide +kernel
theorem dX12_isWet_20 : decode cX12_isWet 20 = .ok (.if_icmp .le 7, 3) := by decide +kernel
theorem dX12_isWet_23 : decode cX12_isWet 23 = .ok (.iconst 1, 1) := by decide +kernel
theorem dX12_isWet_24 : decode cX12_isWet 24 = .ok (.goto 4, 3) := by decide +kernel
theorem dX12_isWet_27 : decode cX12_isWet 27 = .ok (.iconst 0, 1) := by decide +kernel
theorem dX12_isWet_28 : decode cX12_isWet 28 = .ok (.ireturn, 1) := by decide +kernel
theorem dX12_areBeside_0 : decode cX12_areBeside 0 = .ok (.iload_n 0, 1) := by decide +kernel
theorem dX12_areBeside_1 : decode cX12_areBeside 1 = .ok (.iconst 4, 1) := by decide +kernel
theorem dX12_areBeside_2 : decode cX12_areBeside 2 = .ok (.irem, 1) := by decide +kernel
theorem dX12_areBeside_3 : decode cX12_areBeside 3 = .ok (.iload_n 1, 1) := by decide +kernel
theorem dX12_areBeside_4 : decode cX12_areBeside 4 = .ok (.iconst 4, 1) := by decide +kernel
theorem dX12_areBeside_5 : decode cX12_areBeside 5 = .ok (.irem, 1) := by decide +kernel
theorem dX12_areBeside_6 : decode cX12_areBeside 6 = .ok (.isub, 1) := by decide +kernel
theorem dX12_areBeside_7 : decode cX12_areBeside 7 = .ok (.istore_n 2, 1) := by decide +kernel
theorem dX12_areBeside_8 : decode cX12_areBeside 8 = .ok (.iload_n 0, 1) := by decide +kernel
theorem dX12_areBeside_9 : decode cX12_areBeside 9 = .ok (.iconst 4, 1) := by decide +kernel
theorem dX12_areBeside_10 : decode cX12_areBeside 10 = .ok (.idiv, 1) := by decide +kernel
theorem dX12_areBeside_11 : decode cX12_areBeside 11 = .ok (.iload_n 1, 1) := by decide +kernel
theorem dX12_areBeside_12 : decode cX12_areBeside 12 = .ok (.iconst 4, 1) := by decide +kernel
theorem dX12_areBeside_13 : decode cX12_areBeside 13 = .ok (.idiv, 1) := by decide +kernel
theorem dX12_areBeside_14 : decode cX12_areBeside 14 = .ok (.isub, 1) := by decide +kernel
theorem dX12_areBeside_15 : decode cX12_areBeside 15 = .ok (.istore_n 3, 1) := by decide +kernel
theorem dX12_areBeside_16 : decode cX12_areBeside 16 = .ok (.iload_n 2, 1) := by decide +kernel
theorem dX12_areBeside_17 : decode cX12_areBeside 17 = .ok (.iload_n 2, 1) := by decide +kernel
theorem dX12_areBeside_18 : decode cX12_areBeside 18 = .ok (.imul, 1) := by decide +kernel
theorem dX12_areBeside_19 : decode cX12_areBeside 19 = .ok (.iload_n 3, 1) := by decide +kernel
theorem dX12_areBeside_20 : decode cX12_areBeside 20 = .ok (.iload_n 3, 1) := by decide +kernel
theorem dX12_areBeside_21 : decode cX12_areBeside 21 = .ok (.imul, 1) := by decide +kernel
theorem dX12_areBeside_22 : decode cX12_areBeside 22 = .ok (.iadd, 1) := by decide +kernel
theorem dX12_areBeside_23 : decode cX12_areBeside 23 = .ok (.iconst 1, 1) := by decide +kernel
theorem dX12_areBeside_24 : decode cX12_areBeside 24 = .ok (.if_icmp .ne 7, 3) := by decide +kernel
theorem dX12_areBeside_27 : decode cX12_areBeside 27 = .ok (.iconst 1, 1) := by decide +kernel
theorem dX12_areBeside_28 : decode cX12_areBeside 28 = .ok (.goto 4, 3) := by decide +kernel
theorem dX12_areBeside_31 : decode cX12_areBeside 31 = .ok (.iconst 0, 1) := by decide +kernel
theorem dX12_areBeside_32 : decode cX12_areBeside 32 = .ok (.ireturn, 1) := by decide +kernel
theorem dX12_levelOf_0 : decode cX12_levelOf 0 = .ok (.aload_n 0, 1) := by decide +kernel
theorem dX12_levelOf_1 : decode cX12_levelOf 1 = .ok (.getfield 7, 3) := by decide +kernel
theorem dX12_levelOf_4 : decode cX12_levelOf 4 = .ok (.bipush 12, 2) := by decide +kernel
theorem dX12_levelOf_6 : decode cX12_levelOf 6 = .ok (.iload_n 1, 1) := by decide +kernel
theorem dX12_levelOf_7 : decode cX12_levelOf 7 = .ok (.iadd, 1) := by decide +kernel
theorem dX12_levelOf_8 : decode cX12_levelOf 8 = .ok (.iaload, 1) := by decide +kernel
theorem dX12_levelOf_9 : decode cX12_levelOf 9 = .ok (.aload_n 0, 1) := by decide +kernel
theorem dX12_levelOf_10 : decode cX12_levelOf 10 = .ok (.getfield 7, 3) := by decide +kernel
theorem dX12_levelOf_13 : decode cX12_levelOf 13 = .ok (.bipush 28, 2) := by decide +kernel
theorem dX12_levelOf_15 : decode cX12_levelOf 15 = .ok (.iload_n 1, 1) := by decide +kernel
theorem dX12_levelOf_16 : decode cX12_levelOf 16 = .ok (.iadd, 1) := by decide +kernel
theorem dX12_levelOf_17 : decode cX12_levelOf 17 = .ok (.iaload, 1) := by decide +kernel
theorem dX12_levelOf_18 : decode cX12_levelOf 18 = .ok (.iadd, 1) := by decide +kernel
theorem dX12_levelOf_19 : decode cX12_levelOf 19 = .ok (.ireturn, 1) := by decide +kernel
theorem dX12_flowsFrom_0 : decode cX12_flowsFrom 0 = .ok (.iconst (-1), 1) := by decide +kernel
theorem dX12_flowsFrom_1 : decode cX12_flowsFrom 1 = .ok (.istore_n 2, 1) := by decide +kernel
theorem dX12_flowsFrom_2 : decode cX12_flowsFrom 2 = .ok (.iconst 0, 1) := by decide +kernel
theorem dX12_flowsFrom_3 : decode cX12_flowsFrom 3 = .ok (.istore_n 3, 1) := by decide +kernel
theorem dX12_flowsFrom_4 : decode cX12_flowsFrom 4 = .ok (.iload_n 3, 1) := by decide +kernel
theorem dX12_flowsFrom_5 : decode cX12_flowsFrom 5 = .ok (.bipush 16, 2) := by decide +kernel
theorem dX12_flowsFrom_7 : decode cX12_flowsFrom 7 = .ok (.if_icmp .ge 64, 3) := by decide +kernel
theorem dX12_flowsFrom_10 : decode cX12_flowsFrom 10 = .ok (.iload_n 1, 1) := by decide +kernel
theorem dX12_flowsFrom_11 : decode cX12_flowsFrom 11 = .ok (.iload_n 3, 1) := by decide +kernel
theorem dX12_flowsFrom_12 : decode cX12_flowsFrom 12 = .ok (.invokestatic 140, 3) := by decide +kernel
theorem dX12_flowsFrom_15 : decode cX12_flowsFrom 15 = .ok (.ifCond .eq 19, 3) := by decide +kernel
theorem dX12_flowsFrom_18 : decode cX12_flowsFrom 18 = .ok (.aload_n 0, 1) := by decide +kernel
theorem dX12_flowsFrom_19 : decode cX12_flowsFrom 19 = .ok (.getfield 7, 3) := by decide +kernel
theorem dX12_flowsFrom_22 : decode cX12_flowsFrom 22 = .ok (.bipush 44, 2) := by decide +kernel
theorem dX12_flowsFrom_24 : decode cX12_flowsFrom 24 = .ok (.iload_n 3, 1) := by decide +kernel
theorem dX12_flowsFrom_25 : decode cX12_flowsFrom 25 = .ok (.iadd, 1) := by decide +kernel
theorem dX12_flowsFrom_26 : decode cX12_flowsFrom 26 = .ok (.iaload, 1) := by decide +kernel
theorem dX12_flowsFrom_27 : decode cX12_flowsFrom 27 = .ok (.ifCond .ne 7, 3) := by decide +kernel
theorem dX12_flowsFrom_30 : decode cX12_flowsFrom 30 = .ok (.iconst 1, 1) := by decide +kernel
theorem dX12_flowsFrom_31 : decode cX12_flowsFrom 31 = .ok (.goto 4, 3) := by decide +kernel
theorem dX12_flowsFrom_34 : decode cX12_flowsFrom 34 = .ok (.iconst 0, 1) := by decide +kernel
theorem dX12_flowsFrom_35 : decode cX12_flowsFrom 35 = .ok (.istore 4, 2) := by decide +kernel
theorem dX12_flowsFrom_37 : decode cX12_flowsFrom 37 = .ok (.iload 4, 2) := by decide +kernel
theorem dX12_flowsFrom_39 : decode cX12_flowsFrom 39 = .ok (.ifCond .eq 24, 3) := by decide +kernel
theorem dX12_flowsFrom_42 : decode cX12_flowsFrom 42 = .ok (.iload_n 2, 1) := by decide +kernel
theorem dX12_flowsFrom_43 : decode cX12_flowsFrom 43 = .ok (.ifCond .lt 16, 3) := by decide +kernel
theorem dX12_flowsFrom_46 : decode cX12_flowsFrom 46 = .ok (.aload_n 0, 1) := by decide +kernel
theorem dX12_flowsFrom_47 : decode cX12_flowsFrom 47 = .ok (.iload_n 3, 1) := by decide +kernel
theorem dX12_flowsFrom_48 : decode cX12_flowsFrom 48 = .ok (.invokevirtual 144, 3) := by decide +kernel
theorem dX12_flowsFrom_51 : decode cX12_flowsFrom 51 = .ok (.aload_n 0, 1) := by decide +kernel
theorem dX12_flowsFrom_52 : decode cX12_flowsFrom 52 = .ok (.iload_n 2, 1) := by decide +kernel
theorem dX12_flowsFrom_53 : decode cX12_flowsFrom 53 = .ok (.invokevirtual 144, 3) := by decide +kernel
theorem dX12_flowsFrom_56 : decode cX12_flowsFrom 56 = .ok (.if_icmp .ge 7, 3) := by decide +kernel
theorem dX12_flowsFrom_59 : decode cX12_flowsFrom 59 = .ok (.iload_n 3, 1) := by decide +kernel
theorem dX12_flowsFrom_60 : decode cX12_flowsFrom 60 = .ok (.goto 4, 3) := by decide +kernel
theorem dX12_flowsFrom_63 : decode cX12_flowsFrom 63 = .ok (.iload_n 2, 1) := by decide +kernel
theorem dX12_flowsFrom_64 : decode cX12_flowsFrom 64 = .ok (.istore_n 2, 1) := by decide +kernel
theorem dX12_flowsFrom_65 : decode cX12_flowsFrom 65 = .ok (.iinc 3 1, 3) := by decide +kernel
theorem dX12_flowsFrom_68 : decode cX12_flowsFrom 68 = .ok (.goto (-64), 3) := by decide +kernel
theorem dX12_flowsFrom_71 : decode cX12_flowsFrom 71 = .ok (.aload_n 0, 1) := by decide +kernel
theorem dX12_flowsFrom_72 : decode cX12_flowsFrom 72 = .ok (.getfield 7, 3) := by decide +kernel
theorem dX12_flowsFrom_75 : decode cX12_flowsFrom 75 = .ok (.bipush 28, 2) := by decide +kernel
theorem dX12_flowsFrom_77 : decode cX12_flowsFrom 77 = .ok (.iload_n 1, 1) := by decide +kernel
theorem dX12_flowsFrom_78 : decode cX12_flowsFrom 78 = .ok (.iadd, 1) := by decide +kernel
theorem dX12_flowsFrom_79 : decode cX12_flowsFrom 79 = .ok (.iaload, 1) := by decide +kernel
theorem dX12_flowsFrom_80 : decode cX12_flowsFrom 80 = .ok (.ifCond .le 23, 3) := by decide +kernel
theorem dX12_flowsFrom_83 : decode cX12_flowsFrom 83 = .ok (.aload_n 0, 1) := by decide +kernel
theorem dX12_flowsFrom_84 : decode cX12_flowsFrom 84 = .ok (.getfield 7, 3) := by decide +kernel
theorem dX12_flowsFrom_87 : decode cX12_flowsFrom 87 = .ok (.bipush 44, 2) := by decide +kernel
theorem dX12_flowsFrom_89 : decode cX12_flowsFrom 89 = .ok (.iload_n 1, 1) := by decide +kernel
theorem dX12_flowsFrom_90 : decode cX12_flowsFrom 90 = .ok (.iadd, 1) := by decide +kernel
theorem dX12_flowsFrom_91 : decode cX12_flowsFrom 91 = .ok (.iaload, 1) := by decide +kernel
theorem dX12_flowsFrom_92 : decode cX12_flowsFrom 92 = .ok (.ifCond .ne 11, 3) := by decide +kernel
theorem dX12_flowsFrom_95 : decode cX12_flowsFrom 95 = .ok (.iload_n 2, 1) := by decide +kernel
theorem dX12_flowsFrom_96 : decode cX12_flowsFrom 96 = .ok (.ifCond .lt 7, 3) := by decide +kernel
theorem dX12_flowsFrom_99 : decode cX12_flowsFrom 99 = .ok (.iconst 1, 1) := by decide +kernel
theorem dX12_flowsFrom_100 : decode cX12_flowsFrom 100 = .ok (.goto 4, 3) := by decide +kernel
theorem dX12_flowsFrom_103 : decode cX12_flowsFrom 103 = .ok (.iconst 0, 1) := by decide +kernel
theorem dX12_flowsFrom_104 : decode cX12_flowsFrom 104 = .ok (.istore_n 3, 1) := by decide +kernel
theorem dX12_flowsFrom_105 : decode cX12_flowsFrom 105 = .ok (.iload_n 3, 1) := by decide +kernel
theorem dX12_flowsFrom_106 : decode cX12_flowsFrom 106 = .ok (.ifCond .eq 58, 3) := by decide +kernel
theorem dX12_flowsFrom_109 : decode cX12_flowsFrom 109 = .ok (.aload_n 0, 1) := by decide +kernel
theorem dX12_flowsFrom_110 : decode cX12_flowsFrom 110 = .ok (.iload_n 1, 1) := by decide +kernel
theorem dX12_flowsFrom_111 : decode cX12_flowsFrom 111 = .ok (.invokevirtual 144, 3) := by decide +kernel
theorem dX12_flowsFrom_114 : decode cX12_flowsFrom 114 = .ok (.aload_n 0, 1) := by decide +kernel
theorem dX12_flowsFrom_115 : decode cX12_flowsFrom 115 = .ok (.iload_n 2, 1) := by decide +kernel
theorem dX12_flowsFrom_116 : decode cX12_flowsFrom 116 = .ok (.invokevirtual 144, 3) := by decide +kernel
theorem dX12_flowsFrom_119 : decode cX12_flowsFrom 119 = .ok (.isub, 1) := by decide +kernel
theorem dX12_flowsFrom_120 : decode cX12_flowsFrom 120 = .ok (.iconst 2, 1) := by decide +kernel
theorem dX12_flowsFrom_121 : decode cX12_flowsFrom 121 = .ok (.if_icmp .lt 43, 3) := by decide +kernel
theorem dX12_flowsFrom_124 : decode cX12_flowsFrom 124 = .ok (.aload_n 0, 1) := by decide +kernel
theorem dX12_flowsFrom_125 : decode cX12_flowsFrom 125 = .ok (.getfield 7, 3) := by decide +kernel
theorem dX12_flowsFrom_128 : decode cX12_flowsFrom 128 = .ok (.bipush 28, 2) := by decide +kernel
theorem dX12_flowsFrom_130 : decode cX12_flowsFrom 130 = .ok (.iload_n 2, 1) := by decide +kernel
theorem dX12_flowsFrom_131 : decode cX12_flowsFrom 131 = .ok (.iadd, 1) := by decide +kernel
theorem dX12_flowsFrom_132 : decode cX12_flowsFrom 132 = .ok (.iaload, 1) := by decide +kernel
theorem dX12_flowsFrom_133 : decode cX12_flowsFrom 133 = .ok (.bipush 99, 2) := by decide +kernel
theorem dX12_flowsFrom_135 : decode cX12_flowsFrom 135 = .ok (.if_icmp .ge 29, 3) := by decide +kernel
theorem dX12_flowsFrom_138 : decode cX12_flowsFrom 138 = .ok (.aload_n 0, 1) := by decide +kernel
theorem dX12_flowsFrom_139 : decode cX12_flowsFrom 139 = .ok (.getfield 7, 3) := by decide +kernel
theorem dX12_flowsFrom_142 : decode cX12_flowsFrom 142 = .ok (.bipush 28, 2) := by decide +kernel
theorem dX12_flowsFrom_144 : decode cX12_flowsFrom 144 = .ok (.iload_n 1, 1) := by decide +kernel
theorem dX12_flowsFrom_145 : decode cX12_flowsFrom 145 = .ok (.iadd, 1) := by decide +kernel
theorem dX12_flowsFrom_146 : decode cX12_flowsFrom 146 = .ok (.dup2, 1) := by decide +kernel
theorem dX12_flowsFrom_147 : decode cX12_flowsFrom 147 = .ok (.iaload, 1) := by decide +kernel
theorem dX12_flowsFrom_148 : decode cX12_flowsFrom 148 = .ok (.iconst 1, 1) := by decide +kernel
theorem dX12_flowsFrom_149 : decode cX12_flowsFrom 149 = .ok (.isub, 1) := by decide +kernel
theorem dX12_flowsFrom_150 : decode cX12_flowsFrom 150 = .ok (.iastore, 1) := by decide +kernel
theorem dX12_flowsFrom_151 : decode cX12_flowsFrom 151 = .ok (.aload_n 0, 1) := by decide +kernel
theorem dX12_flowsFrom_152 : decode cX12_flowsFrom 152 = .ok (.getfield 7, 3) := by decide +kernel
theorem dX12_flowsFrom_155 : decode cX12_flowsFrom 155 = .ok (.bipush 28, 2) := by decide +kernel
theorem dX12_flowsFrom_157 : decode cX12_flowsFrom 157 = .ok (.iload_n 2, 1) := by decide +kernel
theorem dX12_flowsFrom_158 : decode cX12_flowsFrom 158 = .ok (.iadd, 1) := by decide +kernel
theorem dX12_flowsFrom_159 : decode cX12_flowsFrom 159 = .ok (.dup2, 1) := by decide +kernel
theorem dX12_flowsFrom_160 : decode cX12_flowsFrom 160 = .ok (.iaload, 1) := by decide +kernel
theorem dX12_flowsFrom_161 : decode cX12_flowsFrom 161 = .ok (.iconst 1, 1) := by decide +kernel
theorem dX12_flowsFrom_162 : decode cX12_flowsFrom 162 = .ok (.iadd, 1) := by decide +kernel
theorem dX12_flowsFrom_163 : decode cX12_flowsFrom 163 = .ok (.iastore, 1) := by decide +kernel
theorem dX12_flowsFrom_164 : decode cX12_flowsFrom 164 = .ok (.return_, 1) := by decide +kernel
theorem dX12_goesAway_0 : decode cX12_goesAway 0 = .ok (.aload_n 0, 1) := by decide +kernel
theorem dX12_goesAway_1 : decode cX12_goesAway 1 = .ok (.iload_n 1, 1) := by decide +kernel
theorem dX12_goesAway_2 : decode cX12_goesAway 2 = .ok (.iconst 2, 1) := by decide +kernel
theorem dX12_goesAway_3 : decode cX12_goesAway 3 = .ok (.invokevirtual 111, 3) := by decide +kernel
theorem dX12_goesAway_6 : decode cX12_goesAway 6 = .ok (.istore_n 2, 1) := by decide +kernel
theorem dX12_goesAway_7 : decode cX12_goesAway 7 = .ok (.iconst (-1), 1) := by decide +kernel
theorem dX12_goesAway_8 : decode cX12_goesAway 8 = .ok (.istore_n 3, 1) := by decide +kernel
theorem dX12_goesAway_9 : decode cX12_goesAway 9 = .ok (.iconst 0, 1) := by decide +kernel
theorem dX12_goesAway_10 : decode cX12_goesAway 10 = .ok (.istore 4, 2) := by decide +kernel
theorem dX12_goesAway_12 : decode cX12_goesAway 12 = .ok (.iload 4, 2) := by decide +kernel
theorem dX12_goesAway_14 : decode cX12_goesAway 14 = .ok (.bipush 16, 2) := by decide +kernel
theorem dX12_goesAway_16 : decode cX12_goesAway 16 = .ok (.if_icmp .ge 51, 3) := by decide +kernel
theorem dX12_goesAway_19 : decode cX12_goesAway 19 = .ok (.iload_n 2, 1) := by decide +kernel
theorem dX12_goesAway_20 : decode cX12_goesAway 20 = .ok (.iload 4, 2) := by decide +kernel
theorem dX12_goesAway_22 : decode cX12_goesAway 22 = .ok (.invokestatic 140, 3) := by decide +kernel
theorem dX12_goesAway_25 : decode cX12_goesAway 25 = .ok (.ifCond .eq 34, 3) := by decide +kernel
theorem dX12_goesAway_28 : decode cX12_goesAway 28 = .ok (.iload_n 3, 1) := by decide +kernel
theorem dX12_goesAway_29 : decode cX12_goesAway 29 = .ok (.ifCond .lt 25, 3) := by decide +kernel
theorem dX12_goesAway_32 : decode cX12_goesAway 32 = .ok (.aload_n 0, 1) := by decide +kernel
theorem dX12_goesAway_33 : decode cX12_goesAway 33 = .ok (.getfield 7, 3) := by decide +kernel
theorem dX12_goesAway_36 : decode cX12_goesAway 36 = .ok (.bipush 12, 2) := by decide +kernel
theorem dX12_goesAway_38 : decode cX12_goesAway 38 = .ok (.iload 4, 2) := by decide +kernel
theorem dX12_goesAway_40 : decode cX12_goesAway 40 = .ok (.iadd, 1) := by decide +kernel
theorem dX12_goesAway_41 : decode cX12_goesAway 41 = .ok (.iaload, 1) := by decide +kernel
theorem dX12_goesAway_42 : decode cX12_goesAway 42 = .ok (.aload_n 0, 1) := by decide +kernel
theorem dX12_goesAway_43 : decode cX12_goesAway 43 = .ok (.getfield 7, 3) := by decide +kernel
theorem dX12_goesAway_46 : decode cX12_goesAway 46 = .ok (.bipush 12, 2) := by decide +kernel
theorem dX12_goesAway_48 : decode cX12_goesAway 48 = .ok (.iload_n 3, 1) := by decide +kernel
theorem dX12_goesAway_49 : decode cX12_goesAway 49 = .ok (.iadd, 1) := by decide +kernel
theorem dX12_goesAway_50 : decode cX12_goesAway 50 = .ok (.iaload, 1) := by decide +kernel
theorem dX12_goesAway_51 : decode cX12_goesAway 51 = .ok (.if_icmp .le 8, 3) := by decide +kernel
theorem dX12_goesAway_54 : decode cX12_goesAway 54 = .ok (.iload 4, 2) := by decide +kernel
theorem dX12_goesAway_56 : decode cX12_goesAway 56 = .ok (.goto 4, 3) := by decide +kernel
theorem dX12_goesAway_59 : decode cX12_goesAway 59 = .ok (.iload_n 3, 1) := by decide +kernel
theorem dX12_goesAway_60 : decode cX12_goesAway 60 = .ok (.istore_n 3, 1) := by decide +kernel
theorem dX12_goesAway_61 : decode cX12_goesAway 61 = .ok (.iinc 4 1, 3) := by decide +kernel
theorem dX12_goesAway_64 : decode cX12_goesAway 64 = .ok (.goto (-52), 3) := by decide +kernel
theorem dX12_goesAway_67 : decode cX12_goesAway 67 = .ok (.aload_n 0, 1) := by decide +kernel
theorem dX12_goesAway_68 : decode cX12_goesAway 68 = .ok (.iload_n 1, 1) := by decide +kernel
theorem dX12_goesAway_69 : decode cX12_goesAway 69 = .ok (.iconst 2, 1) := by decide +kernel
theorem dX12_goesAway_70 : decode cX12_goesAway 70 = .ok (.iload_n 3, 1) := by decide +kernel
theorem dX12_goesAway_71 : decode cX12_goesAway 71 = .ok (.invokevirtual 147, 3) := by decide +kernel
theorem dX12_goesAway_74 : decode cX12_goesAway 74 = .ok (.return_, 1) := by decide +kernel
theorem dX12_getsWet_0 : decode cX12_getsWet 0 = .ok (.aload_n 0, 1) := by decide +kernel
theorem dX12_getsWet_1 : decode cX12_getsWet 1 = .ok (.iload_n 1, 1) := by decide +kernel
theorem dX12_getsWet_2 : decode cX12_getsWet 2 = .ok (.iconst 4, 1) := by decide +kernel
theorem dX12_getsWet_3 : decode cX12_getsWet 3 = .ok (.aload_n 0, 1) := by decide +kernel
theorem dX12_getsWet_4 : decode cX12_getsWet 4 = .ok (.iload_n 1, 1) := by decide +kernel
theorem dX12_getsWet_5 : decode cX12_getsWet 5 = .ok (.iconst 4, 1) := by decide +kernel
theorem dX12_getsWet_6 : decode cX12_getsWet 6 = .ok (.invokevirtual 111, 3) := by decide +kernel
theorem dX12_getsWet_9 : decode cX12_getsWet 9 = .ok (.aload_n 0, 1) := by decide +kernel
theorem dX12_getsWet_10 : decode cX12_getsWet 10 = .ok (.getfield 7, 3) := by decide +kernel
theorem dX12_getsWet_13 : decode cX12_getsWet 13 = .ok (.bipush 60, 2) := by decide +kernel
theorem dX12_getsWet_15 : decode cX12_getsWet 15 = .ok (.aload_n 0, 1) := by decide +kernel
theorem dX12_getsWet_16 : decode cX12_getsWet 16 = .ok (.iload_n 1, 1) := by decide +kernel
theorem dX12_getsWet_17 : decode cX12_getsWet 17 = .ok (.iconst 2, 1) := by decide +kernel
theorem dX12_getsWet_18 : decode cX12_getsWet 18 = .ok (.invokevirtual 111, 3) := by decide +kernel
theorem dX12_getsWet_21 : decode cX12_getsWet 21 = .ok (.iadd, 1) := by decide +kernel
theorem dX12_getsWet_22 : decode cX12_getsWet 22 = .ok (.iaload, 1) := by decide +kernel
theorem dX12_getsWet_23 : decode cX12_getsWet 23 = .ok (.ior, 1) := by decide +kernel
theorem dX12_getsWet_24 : decode cX12_getsWet 24 = .ok (.invokevirtual 147, 3) := by decide +kernel
theorem dX12_getsWet_27 : decode cX12_getsWet 27 = .ok (.aload_n 0, 1) := by decide +kernel
theorem dX12_getsWet_28 : decode cX12_getsWet 28 = .ok (.iload_n 1, 1) := by decide +kernel
theorem dX12_getsWet_29 : decode cX12_getsWet 29 = .ok (.invokevirtual 151, 3) := by decide +kernel
theorem dX12_getsWet_32 : decode cX12_getsWet 32 = .ok (.istore_n 2, 1) := by decide +kernel
theorem dX12_getsWet_33 : decode cX12_getsWet 33 = .ok (.iload_n 2, 1) := by decide +kernel
theorem dX12_getsWet_34 : decode cX12_getsWet 34 = .ok (.iconst 1, 1) := by decide +kernel
theorem dX12_getsWet_35 : decode cX12_getsWet 35 = .ok (.if_icmp .ne 26, 3) := by decide +kernel
theorem dX12_getsWet_38 : decode cX12_getsWet 38 = .ok (.aload_n 0, 1) := by decide +kernel
theorem dX12_getsWet_39 : decode cX12_getsWet 39 = .ok (.iload_n 1, 1) := by decide +kernel
theorem dX12_getsWet_40 : decode cX12_getsWet 40 = .ok (.iconst 3, 1) := by decide +kernel
theorem dX12_getsWet_41 : decode cX12_getsWet 41 = .ok (.aload_n 0, 1) := by decide +kernel
theorem dX12_getsWet_42 : decode cX12_getsWet 42 = .ok (.iload_n 1, 1) := by decide +kernel
theorem dX12_getsWet_43 : decode cX12_getsWet 43 = .ok (.iconst 3, 1) := by decide +kernel
theorem dX12_getsWet_44 : decode cX12_getsWet 44 = .ok (.invokevirtual 111, 3) := by decide +kernel
theorem dX12_getsWet_47 : decode cX12_getsWet 47 = .ok (.iconst 1, 1) := by decide +kernel
theorem dX12_getsWet_48 : decode cX12_getsWet 48 = .ok (.iadd, 1) := by decide +kernel
theorem dX12_getsWet_49 : decode cX12_getsWet 49 = .ok (.iconst 0, 1) := by decide +kernel
theorem dX12_getsWet_50 : decode cX12_getsWet 50 = .ok (.bipush 20, 2) := by decide +kernel
theorem dX12_getsWet_52 : decode cX12_getsWet 52 = .ok (.invokestatic 127, 3) := by decide +kernel
theorem dX12_getsWet_55 : decode cX12_getsWet 55 = .ok (.invokevirtual 147, 3) := by decide +kernel
theorem dX12_getsWet_58 : decode cX12_getsWet 58 = .ok (.goto 28, 3) := by decide +kernel
theorem dX12_getsWet_61 : decode cX12_getsWet 61 = .ok (.iload_n 2, 1) := by decide +kernel
theorem dX12_getsWet_62 : decode cX12_getsWet 62 = .ok (.iconst 2, 1) := by decide +kernel
theorem dX12_getsWet_63 : decode cX12_getsWet 63 = .ok (.if_icmp .ne 13, 3) := by decide +kernel
theorem dX12_getsWet_66 : decode cX12_getsWet 66 = .ok (.aload_n 0, 1) := by decide +kernel
theorem dX12_getsWet_67 : decode cX12_getsWet 67 = .ok (.iload_n 1, 1) := by decide +kernel
theorem dX12_getsWet_68 : decode cX12_getsWet 68 = .ok (.iconst 3, 1) := by decide +kernel
theorem dX12_getsWet_69 : decode cX12_getsWet 69 = .ok (.iconst 0, 1) := by decide +kernel
theorem dX12_getsWet_70 : decode cX12_getsWet 70 = .ok (.invokevirtual 147, 3) := by decide +kernel
theorem dX12_getsWet_73 : decode cX12_getsWet 73 = .ok (.goto 13, 3) := by decide +kernel
theorem dX12_getsWet_76 : decode cX12_getsWet 76 = .ok (.iload_n 2, 1) := by decide +kernel
theorem dX12_getsWet_77 : decode cX12_getsWet 77 = .ok (.iconst 3, 1) := by decide +kernel
theorem dX12_getsWet_78 : decode cX12_getsWet 78 = .ok (.if_icmp .ne 8, 3) := by decide +kernel
theorem dX12_getsWet_81 : decode cX12_getsWet 81 = .ok (.aload_n 0, 1) := by decide +kernel
theorem dX12_getsWet_82 : decode cX12_getsWet 82 = .ok (.iload_n 1, 1) := by decide +kernel
theorem dX12_getsWet_83 : decode cX12_getsWet 83 = .ok (.invokevirtual 154, 3) := by decide +kernel
theorem dX12_getsWet_86 : decode cX12_getsWet 86 = .ok (.return_, 1) := by decide +kernel
theorem dX12_day1_0 : decode cX12_day1 0 = .ok (.bipush 28, 2) := by decide +kernel
theorem dX12_day1_2 : decode cX12_day1 2 = .ok (.aload_n 0, 1) := by decide +kernel
theorem dX12_day1_3 : decode cX12_day1 3 = .ok (.getfield 7, 3) := by decide +kernel
theorem dX12_day1_6 : decode cX12_day1 6 = .ok (.iconst 1, 1) := by decide +kernel
theorem dX12_day1_7 : decode cX12_day1 7 = .ok (.iaload, 1) := by decide +kernel
theorem dX12_day1_8 : decode cX12_day1 8 = .ok (.iadd, 1) := by decide +kernel
theorem dX12_day1_9 : decode cX12_day1 9 = .ok (.istore_n 1, 1) := by decide +kernel
theorem dX12_day1_10 : decode cX12_day1 10 = .ok (.aload_n 0, 1) := by decide +kernel
theorem dX12_day1_11 : decode cX12_day1 11 = .ok (.getfield 7, 3) := by decide +kernel
theorem dX12_day1_14 : decode cX12_day1 14 = .ok (.iload_n 1, 1) := by decide +kernel
theorem dX12_day1_15 : decode cX12_day1 15 = .ok (.aload_n 0, 1) := by decide +kernel
theorem dX12_day1_16 : decode cX12_day1 16 = .ok (.getfield 7, 3) := by decide +kernel
theorem dX12_day1_19 : decode cX12_day1 19 = .ok (.iload_n 1, 1) := by decide +kernel
theorem dX12_day1_20 : decode cX12_day1 20 = .ok (.iaload, 1) := by decide +kernel
theorem dX12_day1_21 : decode cX12_day1 21 = .ok (.aload_n 0, 1) := by decide +kernel
theorem dX12_day1_22 : decode cX12_day1 22 = .ok (.getfield 7, 3) := by decide +kernel
theorem dX12_day1_25 : decode cX12_day1 25 = .ok (.bipush 6, 2) := by decide +kernel
theorem dX12_day1_27 : decode cX12_day1 27 = .ok (.aload_n 0, 1) := by decide +kernel
theorem dX12_day1_28 : decode cX12_day1 28 = .ok (.getfield 7, 3) := by decide +kernel
theorem dX12_day1_31 : decode cX12_day1 31 = .ok (.iconst 0, 1) := by decide +kernel
theorem dX12_day1_32 : decode cX12_day1 32 = .ok (.iaload, 1) := by decide +kernel
theorem dX12_day1_33 : decode cX12_day1 33 = .ok (.bipush 6, 2) := by decide +kernel
theorem dX12_day1_35 : decode cX12_day1 35 = .ok (.irem, 1) := by decide +kernel
theorem dX12_day1_36 : decode cX12_day1 36 = .ok (.iadd, 1) := by decide +kernel
theorem dX12_day1_37 : decode cX12_day1 37 = .ok (.iaload, 1) := by decide +kernel
theorem dX12_day1_38 : decode cX12_day1 38 = .ok (.iadd, 1) := by decide +kernel
theorem dX12_day1_39 : decode cX12_day1 39 = .ok (.iconst 0, 1) := by decide +kernel
theorem dX12_day1_40 : decode cX12_day1 40 = .ok (.bipush 99, 2) := by decide +kernel
theorem dX12_day1_42 : decode cX12_day1 42 = .ok (.invokestatic 127, 3) := by decide +kernel
theorem dX12_day1_45 : decode cX12_day1 45 = .ok (.iastore, 1) := by decide +kernel
theorem dX12_day1_46 : decode cX12_day1 46 = .ok (.iconst 0, 1) := by decide +kernel
theorem dX12_day1_47 : decode cX12_day1 47 = .ok (.istore_n 2, 1) := by decide +kernel
theorem dX12_day1_48 : decode cX12_day1 48 = .ok (.iload_n 2, 1) := by decide +kernel
theorem dX12_day1_49 : decode cX12_day1 49 = .ok (.iconst 4, 1) := by decide +kernel
theorem dX12_day1_50 : decode cX12_day1 50 = .ok (.if_icmp .ge 28, 3) := by decide +kernel
theorem dX12_day1_53 : decode cX12_day1 53 = .ok (.iconst 0, 1) := by decide +kernel
theorem dX12_day1_54 : decode cX12_day1 54 = .ok (.istore_n 3, 1) := by decide +kernel
theorem dX12_day1_55 : decode cX12_day1 55 = .ok (.iload_n 3, 1) := by decide +kernel
theorem dX12_day1_56 : decode cX12_day1 56 = .ok (.bipush 16, 2) := by decide +kernel
theorem dX12_day1_58 : decode cX12_day1 58 = .ok (.if_icmp .ge 14, 3) := by decide +kernel
theorem dX12_day1_61 : decode cX12_day1 61 = .ok (.aload_n 0, 1) := by decide +kernel
theorem dX12_day1_62 : decode cX12_day1 62 = .ok (.iload_n 3, 1) := by decide +kernel
theorem dX12_day1_63 : decode cX12_day1 63 = .ok (.invokevirtual 158, 3) := by decide +kernel
theorem dX12_day1_66 : decode cX12_day1 66 = .ok (.iinc 3 1, 3) := by decide +kernel
theorem dX12_day1_69 : decode cX12_day1 69 = .ok (.goto (-14), 3) := by decide +kernel
theorem dX12_day1_72 : decode cX12_day1 72 = .ok (.iinc 2 1, 3) := by decide +kernel
theorem dX12_day1_75 : decode cX12_day1 75 = .ok (.goto (-27), 3) := by decide +kernel
theorem dX12_day1_78 : decode cX12_day1 78 = .ok (.iconst 0, 1) := by decide +kernel
theorem dX12_day1_79 : decode cX12_day1 79 = .ok (.istore_n 2, 1) := by decide +kernel
theorem dX12_day1_80 : decode cX12_day1 80 = .ok (.iload_n 2, 1) := by decide +kernel
theorem dX12_day1_81 : decode cX12_day1 81 = .ok (.aload_n 0, 1) := by decide +kernel
theorem dX12_day1_82 : decode cX12_day1 82 = .ok (.getfield 7, 3) := by decide +kernel
theorem dX12_day1_85 : decode cX12_day1 85 = .ok (.iconst 5, 1) := by decide +kernel
theorem dX12_day1_86 : decode cX12_day1 86 = .ok (.iaload, 1) := by decide +kernel
theorem dX12_day1_87 : decode cX12_day1 87 = .ok (.if_icmp .ge 22, 3) := by decide +kernel
theorem dX12_day1_90 : decode cX12_day1 90 = .ok (.aload_n 0, 1) := by decide +kernel
theorem dX12_day1_91 : decode cX12_day1 91 = .ok (.iload_n 2, 1) := by decide +kernel
theorem dX12_day1_92 : decode cX12_day1 92 = .ok (.invokevirtual 161, 3) := by decide +kernel
theorem dX12_day1_95 : decode cX12_day1 95 = .ok (.ifCond .eq 8, 3) := by decide +kernel
theorem dX12_day1_98 : decode cX12_day1 98 = .ok (.aload_n 0, 1) := by decide +kernel
theorem dX12_day1_99 : decode cX12_day1 99 = .ok (.iload_n 2, 1) := by decide +kernel
theorem dX12_day1_100 : decode cX12_day1 100 = .ok (.invokevirtual 164, 3) := by decide +kernel
theorem dX12_day1_103 : decode cX12_day1 103 = .ok (.iinc 2 1, 3) := by decide +kernel
theorem dX12_day1_106 : decode cX12_day1 106 = .ok (.goto (-26), 3) := by decide +kernel
theorem dX12_day1_109 : decode cX12_day1 109 = .ok (.aload_n 0, 1) := by decide +kernel
theorem dX12_day1_110 : decode cX12_day1 110 = .ok (.getfield 7, 3) := by decide +kernel
theorem dX12_day1_113 : decode cX12_day1 113 = .ok (.iconst 0, 1) := by decide +kernel
theorem dX12_day1_114 : decode cX12_day1 114 = .ok (.dup2, 1) := by decide +kernel
theorem dX12_day1_115 : decode cX12_day1 115 = .ok (.iaload, 1) := by decide +kernel
theorem dX12_day1_116 : decode cX12_day1 116 = .ok (.iconst 1, 1) := by decide +kernel
theorem dX12_day1_117 : decode cX12_day1 117 = .ok (.iadd, 1) := by decide +kernel
theorem dX12_day1_118 : decode cX12_day1 118 = .ok (.iastore, 1) := by decide +kernel
theorem dX12_day1_119 : decode cX12_day1 119 = .ok (.return_, 1) := by decide +kernel
theorem dX12_goesOn_0 : decode cX12_goesOn 0 = .ok (.iconst 0, 1) := by decide +kernel
theorem dX12_goesOn_1 : decode cX12_goesOn 1 = .ok (.istore_n 2, 1) := by decide +kernel
theorem dX12_goesOn_2 : decode cX12_goesOn 2 = .ok (.iload_n 2, 1) := by decide +kernel
theorem dX12_goesOn_3 : decode cX12_goesOn 3 = .ok (.iload_n 1, 1) := by decide +kernel
theorem dX12_goesOn_4 : decode cX12_goesOn 4 = .ok (.if_icmp .ge 13, 3) := by decide +kernel
theorem dX12_goesOn_7 : decode cX12_goesOn 7 = .ok (.aload_n 0, 1) := by decide +kernel
theorem dX12_goesOn_8 : decode cX12_goesOn 8 = .ok (.invokevirtual 167, 3) := by decide +kernel
theorem dX12_goesOn_11 : decode cX12_goesOn 11 = .ok (.iinc 2 1, 3) := by decide +kernel
theorem dX12_goesOn_14 : decode cX12_goesOn 14 = .ok (.goto (-12), 3) := by decide +kernel
theorem dX12_goesOn_17 : decode cX12_goesOn 17 = .ok (.return_, 1) := by decide +kernel
theorem dX12_knownNow_0 : decode cX12_knownNow 0 = .ok (.iconst 0, 1) := by decide +kernel
theorem dX12_knownNow_1 : decode cX12_knownNow 1 = .ok (.istore_n 1, 1) := by decide +kernel
theorem dX12_knownNow_2 : decode cX12_knownNow 2 = .ok (.iconst 0, 1) := by decide +kernel
theorem dX12_knownNow_3 : decode cX12_knownNow 3 = .ok (.istore_n 2, 1) := by decide +kernel
theorem dX12_knownNow_4 : decode cX12_knownNow 4 = .ok (.iload_n 2, 1) := by decide +kernel
theorem dX12_knownNow_5 : decode cX12_knownNow 5 = .ok (.aload_n 0, 1) := by decide +kernel
theorem dX12_knownNow_6 : decode cX12_knownNow 6 = .ok (.getfield 7, 3) := by decide +kernel
theorem dX12_knownNow_9 : decode cX12_knownNow 9 = .ok (.iconst 5, 1) := by decide +kernel
theorem dX12_knownNow_10 : decode cX12_knownNow 10 = .ok (.iaload, 1) := by decide +kernel
theorem dX12_knownNow_11 : decode cX12_knownNow 11 = .ok (.if_icmp .ge 18, 3) := by decide +kernel
theorem dX12_knownNow_14 : decode cX12_knownNow 14 = .ok (.iload_n 1, 1) := by decide +kernel
theorem dX12_knownNow_15 : decode cX12_knownNow 15 = .ok (.aload_n 0, 1) := by decide +kernel
theorem dX12_knownNow_16 : decode cX12_knownNow 16 = .ok (.iload_n 2, 1) := by decide +kernel
theorem dX12_knownNow_17 : decode cX12_knownNow 17 = .ok (.iconst 4, 1) := by decide +kernel
theorem dX12_knownNow_18 : decode cX12_knownNow 18 = .ok (.invokevirtual 111, 3) := by decide +kernel
theorem dX12_knownNow_21 : decode cX12_knownNow 21 = .ok (.ior, 1) := by decide +kernel
theorem dX12_knownNow_22 : decode cX12_knownNow 22 = .ok (.istore_n 1, 1) := by decide +kernel
theorem dX12_knownNow_23 : decode cX12_knownNow 23 = .ok (.iinc 2 1, 3) := by decide +kernel
theorem dX12_knownNow_26 : decode cX12_knownNow 26 = .ok (.goto (-22), 3) := by decide +kernel
theorem dX12_knownNow_29 : decode cX12_knownNow 29 = .ok (.iload_n 1, 1) := by decide +kernel
theorem dX12_knownNow_30 : decode cX12_knownNow 30 = .ok (.ireturn, 1) := by decide +kernel
theorem dX12_isKm_0 : decode cX12_isKm 0 = .ok (.iload_n 0, 1) := by decide +kernel
theorem dX12_isKm_1 : decode cX12_isKm 1 = .ok (.iconst 0, 1) := by decide +kernel
theorem dX12_isKm_2 : decode cX12_isKm 2 = .ok (.bipush 69, 2) := by decide +kernel
theorem dX12_isKm_4 : decode cX12_isKm 4 = .ok (.invokestatic 47, 3) := by decide +kernel
theorem dX12_isKm_7 : decode cX12_isKm 7 = .ok (.ireturn, 1) := by decide +kernel
theorem dX12_one__0 : decode cX12_one_ 0 = .ok (.iload_n 1, 1) := by decide +kernel
theorem dX12_one__1 : decode cX12_one_ 1 = .ok (.invokestatic 170, 3) := by decide +kernel
theorem dX12_one__4 : decode cX12_one_ 4 = .ok (.ifCond .eq 10, 3) := by decide +kernel
theorem dX12_one__7 : decode cX12_one_ 7 = .ok (.iload_n 2, 1) := by decide +kernel
theorem dX12_one__8 : decode cX12_one_ 8 = .ok (.invokestatic 173, 3) := by decide +kernel
theorem dX12_one__11 : decode cX12_one_ 11 = .ok (.ifCond .ne 9, 3) := by decide +kernel
theorem dX12_one__14 : decode cX12_one_ 14 = .ok (.aload_n 0, 1) := by decide +kernel
theorem dX12_one__15 : decode cX12_one_ 15 = .ok (.iconst 1, 1) := by decide +kernel
theorem dX12_one__16 : decode cX12_one_ 16 = .ok (.invokevirtual 51, 3) := by decide +kernel
theorem dX12_one__19 : decode cX12_one_ 19 = .ok (.ireturn, 1) := by decide +kernel
theorem dX12_one__20 : decode cX12_one_ 20 = .ok (.aload_n 0, 1) := by decide +kernel
theorem dX12_one__21 : decode cX12_one_ 21 = .ok (.getfield 7, 3) := by decide +kernel
theorem dX12_one__24 : decode cX12_one_ 24 = .ok (.iconst 5, 1) := by decide +kernel
theorem dX12_one__25 : decode cX12_one_ 25 = .ok (.iaload, 1) := by decide +kernel
theorem dX12_one__26 : decode cX12_one_ 26 = .ok (.bipush 8, 2) := by decide +kernel
theorem dX12_one__28 : decode cX12_one_ 28 = .ok (.if_icmp .ne 9, 3) := by decide +kernel
theorem dX12_one__31 : decode cX12_one_ 31 = .ok (.aload_n 0, 1) := by decide +kernel
theorem dX12_one__32 : decode cX12_one_ 32 = .ok (.iconst 4, 1) := by decide +kernel
theorem dX12_one__33 : decode cX12_one_ 33 = .ok (.invokevirtual 51, 3) := by decide +kernel
theorem dX12_one__36 : decode cX12_one_ 36 = .ok (.ireturn, 1) := by decide +kernel
theorem dX12_one__37 : decode cX12_one_ 37 = .ok (.aload_n 0, 1) := by decide +kernel
theorem dX12_one__38 : decode cX12_one_ 38 = .ok (.getfield 7, 3) := by decide +kernel
theorem dX12_one__41 : decode cX12_one_ 41 = .ok (.iconst 5, 1) := by decide +kernel
theorem dX12_one__42 : decode cX12_one_ 42 = .ok (.iaload, 1) := by decide +kernel
theorem dX12_one__43 : decode cX12_one_ 43 = .ok (.istore_n 3, 1) := by decide +kernel
theorem dX12_one__44 : decode cX12_one_ 44 = .ok (.aload_n 0, 1) := by decide +kernel
theorem dX12_one__45 : decode cX12_one_ 45 = .ok (.iload_n 3, 1) := by decide +kernel
theorem dX12_one__46 : decode cX12_one_ 46 = .ok (.iconst 0, 1) := by decide +kernel
theorem dX12_one__47 : decode cX12_one_ 47 = .ok (.iload_n 1, 1) := by decide +kernel
theorem dX12_one__48 : decode cX12_one_ 48 = .ok (.bipush 10, 2) := by decide +kernel
theorem dX12_one__50 : decode cX12_one_ 50 = .ok (.idiv, 1) := by decide +kernel
theorem dX12_one__51 : decode cX12_one_ 51 = .ok (.invokevirtual 147, 3) := by decide +kernel
theorem dX12_one__54 : decode cX12_one_ 54 = .ok (.aload_n 0, 1) := by decide +kernel
theorem dX12_one__55 : decode cX12_one_ 55 = .ok (.iload_n 3, 1) := by decide +kernel
theorem dX12_one__56 : decode cX12_one_ 56 = .ok (.iconst 1, 1) := by decide +kernel
theorem dX12_one__57 : decode cX12_one_ 57 = .ok (.iload_n 1, 1) := by decide +kernel
theorem dX12_one__58 : decode cX12_one_ 58 = .ok (.bipush 10, 2) := by decide +kernel
theorem dX12_one__60 : decode cX12_one_ 60 = .ok (.irem, 1) := by decide +kernel
theorem dX12_one__61 : decode cX12_one_ 61 = .ok (.invokevirtual 147, 3) := by decide +kernel
theorem dX12_one__64 : decode cX12_one_ 64 = .ok (.aload_n 0, 1) := by decide +kernel
theorem dX12_one__65 : decode cX12_one_ 65 = .ok (.iload_n 3, 1) := by decide +kernel
theorem dX12_one__66 : decode cX12_one_ 66 = .ok (.iconst 2, 1) := by decide +kernel
theorem dX12_one__67 : decode cX12_one_ 67 = .ok (.iload_n 2, 1) := by decide +kernel
theorem dX12_one__68 : decode cX12_one_ 68 = .ok (.invokevirtual 147, 3) := by decide +kernel
theorem dX12_one__71 : decode cX12_one_ 71 = .ok (.aload_n 0, 1) := by decide +kernel
theorem dX12_one__72 : decode cX12_one_ 72 = .ok (.iload_n 3, 1) := by decide +kernel
theorem dX12_one__73 : decode cX12_one_ 73 = .ok (.iconst 3, 1) := by decide +kernel
theorem dX12_one__74 : decode cX12_one_ 74 = .ok (.bipush 6, 2) := by decide +kernel
theorem dX12_one__76 : decode cX12_one_ 76 = .ok (.invokevirtual 147, 3) := by decide +kernel
theorem dX12_one__79 : decode cX12_one_ 79 = .ok (.aload_n 0, 1) := by decide +kernel
theorem dX12_one__80 : decode cX12_one_ 80 = .ok (.iload_n 3, 1) := by decide +kernel
theorem dX12_one__81 : decode cX12_one_ 81 = .ok (.iconst 4, 1) := by decide +kernel
theorem dX12_one__82 : decode cX12_one_ 82 = .ok (.iconst 0, 1) := by decide +kernel
theorem dX12_one__83 : decode cX12_one_ 83 = .ok (.invokevirtual 147, 3) := by decide +kernel
theorem dX12_one__86 : decode cX12_one_ 86 = .ok (.aload_n 0, 1) := by decide +kernel
theorem dX12_one__87 : decode cX12_one_ 87 = .ok (.getfield 7, 3) := by decide +kernel
theorem dX12_one__90 : decode cX12_one_ 90 = .ok (.iconst 5, 1) := by decide +kernel
theorem dX12_one__91 : decode cX12_one_ 91 = .ok (.dup2, 1) := by decide +kernel
theorem dX12_one__92 : decode cX12_one_ 92 = .ok (.iaload, 1) := by decide +kernel
theorem dX12_one__93 : decode cX12_one_ 93 = .ok (.iconst 1, 1) := by decide +kernel
theorem dX12_one__94 : decode cX12_one_ 94 = .ok (.iadd, 1) := by decide +kernel
theorem dX12_one__95 : decode cX12_one_ 95 = .ok (.iastore, 1) := by decide +kernel
theorem dX12_one__96 : decode cX12_one_ 96 = .ok (.iload_n 3, 1) := by decide +kernel
theorem dX12_one__97 : decode cX12_one_ 97 = .ok (.ireturn, 1) := by decide +kernel
theorem dX12_oneIs_0 : decode cX12_oneIs 0 = .ok (.aload_n 0, 1) := by decide +kernel
theorem dX12_oneIs_1 : decode cX12_oneIs 1 = .ok (.iload_n 1, 1) := by decide +kernel
theorem dX12_oneIs_2 : decode cX12_oneIs 2 = .ok (.invokevirtual 176, 3) := by decide +kernel
theorem dX12_oneIs_5 : decode cX12_oneIs 5 = .ok (.ifCond .eq 13, 3) := by decide +kernel
theorem dX12_oneIs_8 : decode cX12_oneIs 8 = .ok (.iload_n 2, 1) := by decide +kernel
theorem dX12_oneIs_9 : decode cX12_oneIs 9 = .ok (.iconst 0, 1) := by decide +kernel
theorem dX12_oneIs_10 : decode cX12_oneIs 10 = .ok (.bipush 7, 2) := by decide +kernel
theorem dX12_oneIs_12 : decode cX12_oneIs 12 = .ok (.invokestatic 47, 3) := by decide +kernel
theorem dX12_oneIs_15 : decode cX12_oneIs 15 = .ok (.ifCond .ne 9, 3) := by decide +kernel
theorem dX12_oneIs_18 : decode cX12_oneIs 18 = .ok (.aload_n 0, 1) := by decide +kernel
theorem dX12_oneIs_19 : decode cX12_oneIs 19 = .ok (.iconst 1, 1) := by decide +kernel
theorem dX12_oneIs_20 : decode cX12_oneIs 20 = .ok (.invokevirtual 51, 3) := by decide +kernel
theorem dX12_oneIs_23 : decode cX12_oneIs 23 = .ok (.ireturn, 1) := by decide +kernel
theorem dX12_oneIs_24 : decode cX12_oneIs 24 = .ok (.iload_n 2, 1) := by decide +kernel
theorem dX12_oneIs_25 : decode cX12_oneIs 25 = .ok (.iconst 5, 1) := by decide +kernel
theorem dX12_oneIs_26 : decode cX12_oneIs 26 = .ok (.if_icmp .ne 19, 3) := by decide +kernel
theorem dX12_oneIs_29 : decode cX12_oneIs 29 = .ok (.aload_n 0, 1) := by decide +kernel
theorem dX12_oneIs_30 : decode cX12_oneIs 30 = .ok (.iload_n 1, 1) := by decide +kernel
theorem dX12_oneIs_31 : decode cX12_oneIs 31 = .ok (.invokevirtual 161, 3) := by decide +kernel
theorem dX12_oneIs_34 : decode cX12_oneIs 34 = .ok (.ifCond .eq 7, 3) := by decide +kernel
theorem dX12_oneIs_37 : decode cX12_oneIs 37 = .ok (.iconst 1, 1) := by decide +kernel
theorem dX12_oneIs_38 : decode cX12_oneIs 38 = .ok (.goto 41, 3) := by decide +kernel
theorem dX12_oneIs_41 : decode cX12_oneIs 41 = .ok (.iconst 0, 1) := by decide +kernel
theorem dX12_oneIs_42 : decode cX12_oneIs 42 = .ok (.goto 37, 3) := by decide +kernel
theorem dX12_oneIs_45 : decode cX12_oneIs 45 = .ok (.iload_n 2, 1) := by decide +kernel
theorem dX12_oneIs_46 : decode cX12_oneIs 46 = .ok (.bipush 6, 2) := by decide +kernel
theorem dX12_oneIs_48 : decode cX12_oneIs 48 = .ok (.if_icmp .ne 11, 3) := by decide +kernel
theorem dX12_oneIs_51 : decode cX12_oneIs 51 = .ok (.aload_n 0, 1) := by decide +kernel
theorem dX12_oneIs_52 : decode cX12_oneIs 52 = .ok (.iload_n 1, 1) := by decide +kernel
theorem dX12_oneIs_53 : decode cX12_oneIs 53 = .ok (.invokevirtual 151, 3) := by decide +kernel
theorem dX12_oneIs_56 : decode cX12_oneIs 56 = .ok (.goto 23, 3) := by decide +kernel
theorem dX12_oneIs_59 : decode cX12_oneIs 59 = .ok (.iload_n 2, 1) := by decide +kernel
theorem dX12_oneIs_60 : decode cX12_oneIs 60 = .ok (.bipush 7, 2) := by decide +kernel
theorem dX12_oneIs_62 : decode cX12_oneIs 62 = .ok (.if_icmp .ne 11, 3) := by decide +kernel
theorem dX12_oneIs_65 : decode cX12_oneIs 65 = .ok (.aload_n 0, 1) := by decide +kernel
theorem dX12_oneIs_66 : decode cX12_oneIs 66 = .ok (.iload_n 1, 1) := by decide +kernel
theorem dX12_oneIs_67 : decode cX12_oneIs 67 = .ok (.invokevirtual 179, 3) := by decide +kernel
theorem dX12_oneIs_70 : decode cX12_oneIs 70 = .ok (.goto 9, 3) := by decide +kernel
