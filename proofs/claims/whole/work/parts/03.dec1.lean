theorem dX11_init_178 : decode cX11_init 178 = .ok (.astore_n 2, 1) := by decide +kernel
theorem dX11_init_179 : decode cX11_init 179 = .ok (.new 27, 3) := by decide +kernel
theorem dX11_init_182 : decode cX11_init 182 = .ok (.dup, 1) := by decide +kernel
theorem dX11_init_183 : decode cX11_init 183 = .ok (.invokespecial 29, 3) := by decide +kernel
theorem dX11_init_186 : decode cX11_init 186 = .ok (.astore_n 3, 1) := by decide +kernel
theorem dX11_init_187 : decode cX11_init 187 = .ok (.aload_n 0, 1) := by decide +kernel
theorem dX11_init_188 : decode cX11_init 188 = .ok (.new 70, 3) := by decide +kernel
theorem dX11_init_191 : decode cX11_init 191 = .ok (.dup, 1) := by decide +kernel
theorem dX11_init_192 : decode cX11_init 192 = .ok (.aload_n 1, 1) := by decide +kernel
theorem dX11_init_193 : decode cX11_init 193 = .ok (.aload_n 2, 1) := by decide +kernel
theorem dX11_init_194 : decode cX11_init 194 = .ok (.aload_n 3, 1) := by decide +kernel
theorem dX11_init_195 : decode cX11_init 195 = .ok (.invokespecial 72, 3) := by decide +kernel
theorem dX11_init_198 : decode cX11_init 198 = .ok (.putfield 75, 3) := by decide +kernel
theorem dX11_init_201 : decode cX11_init 201 = .ok (.aload_n 0, 1) := by decide +kernel
theorem dX11_init_202 : decode cX11_init 202 = .ok (.new 70, 3) := by decide +kernel
theorem dX11_init_205 : decode cX11_init 205 = .ok (.dup, 1) := by decide +kernel
theorem dX11_init_206 : decode cX11_init 206 = .ok (.aload_n 1, 1) := by decide +kernel
theorem dX11_init_207 : decode cX11_init 207 = .ok (.aload_n 2, 1) := by decide +kernel
theorem dX11_init_208 : decode cX11_init 208 = .ok (.aload_n 3, 1) := by decide +kernel
theorem dX11_init_209 : decode cX11_init 209 = .ok (.invokespecial 72, 3) := by decide +kernel
theorem dX11_init_212 : decode cX11_init 212 = .ok (.putfield 79, 3) := by decide +kernel
theorem dX11_init_215 : decode cX11_init 215 = .ok (.aload_n 0, 1) := by decide +kernel
theorem dX11_init_216 : decode cX11_init 216 = .ok (.new 70, 3) := by decide +kernel
theorem dX11_init_219 : decode cX11_init 219 = .ok (.dup, 1) := by decide +kernel
theorem dX11_init_220 : decode cX11_init 220 = .ok (.aload_n 1, 1) := by decide +kernel
theorem dX11_init_221 : decode cX11_init 221 = .ok (.new 27, 3) := by decide +kernel
theorem dX11_init_224 : decode cX11_init 224 = .ok (.dup, 1) := by decide +kernel
theorem dX11_init_225 : decode cX11_init 225 = .ok (.invokespecial 29, 3) := by decide +kernel
theorem dX11_init_228 : decode cX11_init 228 = .ok (.new 27, 3) := by decide +kernel
theorem dX11_init_231 : decode cX11_init 231 = .ok (.dup, 1) := by decide +kernel
theorem dX11_init_232 : decode cX11_init 232 = .ok (.invokespecial 29, 3) := by decide +kernel
theorem dX11_init_235 : decode cX11_init 235 = .ok (.invokespecial 72, 3) := by decide +kernel
theorem dX11_init_238 : decode cX11_init 238 = .ok (.putfield 82, 3) := by decide +kernel
theorem dX11_init_241 : decode cX11_init 241 = .ok (.iconst 0, 1) := by decide +kernel
theorem dX11_init_242 : decode cX11_init 242 = .ok (.istore 4, 2) := by decide +kernel
theorem dX11_init_244 : decode cX11_init 244 = .ok (.iload 4, 2) := by decide +kernel
theorem dX11_init_246 : decode cX11_init 246 = .ok (.iconst 4, 1) := by decide +kernel
theorem dX11_init_247 : decode cX11_init 247 = .ok (.if_icmp .ge 25, 3) := by decide +kernel
theorem dX11_init_250 : decode cX11_init 250 = .ok (.aload_n 0, 1) := by decide +kernel
theorem dX11_init_251 : decode cX11_init 251 = .ok (.getfield 34, 3) := by decide +kernel
theorem dX11_init_254 : decode cX11_init 254 = .ok (.iload 4, 2) := by decide +kernel
theorem dX11_init_256 : decode cX11_init 256 = .ok (.new 7, 3) := by decide +kernel
theorem dX11_init_259 : decode cX11_init 259 = .ok (.dup, 1) := by decide +kernel
theorem dX11_init_260 : decode cX11_init 260 = .ok (.bipush 24, 2) := by decide +kernel
theorem dX11_init_262 : decode cX11_init 262 = .ok (.invokespecial 11, 3) := by decide +kernel
theorem dX11_init_265 : decode cX11_init 265 = .ok (.aastore, 1) := by decide +kernel
theorem dX11_init_266 : decode cX11_init 266 = .ok (.iinc 4 1, 3) := by decide +kernel
theorem dX11_init_269 : decode cX11_init 269 = .ok (.goto (-25), 3) := by decide +kernel
theorem dX11_init_272 : decode cX11_init 272 = .ok (.return_, 1) := by decide +kernel
theorem dX11_one_0 : decode cX11_one 0 = .ok (.iload_n 1, 1) := by decide +kernel
theorem dX11_one_1 : decode cX11_one 1 = .ok (.bipush 69, 2) := by decide +kernel
theorem dX11_one_3 : decode cX11_one 3 = .ok (.invokestatic 85, 3) := by decide +kernel
theorem dX11_one_6 : decode cX11_one 6 = .ok (.ifCond .ne 12, 3) := by decide +kernel
theorem dX11_one_9 : decode cX11_one 9 = .ok (.iload_n 2, 1) := by decide +kernel
theorem dX11_one_10 : decode cX11_one 10 = .ok (.bipush 15, 2) := by decide +kernel
theorem dX11_one_12 : decode cX11_one 12 = .ok (.invokestatic 85, 3) := by decide +kernel
theorem dX11_one_15 : decode cX11_one 15 = .ok (.ifCond .eq 9, 3) := by decide +kernel
theorem dX11_one_18 : decode cX11_one 18 = .ok (.aload_n 0, 1) := by decide +kernel
theorem dX11_one_19 : decode cX11_one 19 = .ok (.iconst 1, 1) := by decide +kernel
theorem dX11_one_20 : decode cX11_one 20 = .ok (.invokevirtual 89, 3) := by decide +kernel
theorem dX11_one_23 : decode cX11_one 23 = .ok (.ireturn, 1) := by decide +kernel
theorem dX11_one_24 : decode cX11_one 24 = .ok (.aload_n 0, 1) := by decide +kernel
theorem dX11_one_25 : decode cX11_one 25 = .ok (.getfield 75, 3) := by decide +kernel
theorem dX11_one_28 : decode cX11_one 28 = .ok (.getfield 93, 3) := by decide +kernel
theorem dX11_one_31 : decode cX11_one 31 = .ok (.bipush 8, 2) := by decide +kernel
theorem dX11_one_33 : decode cX11_one 33 = .ok (.if_icmp .lt 9, 3) := by decide +kernel
theorem dX11_one_36 : decode cX11_one 36 = .ok (.aload_n 0, 1) := by decide +kernel
theorem dX11_one_37 : decode cX11_one 37 = .ok (.iconst 4, 1) := by decide +kernel
theorem dX11_one_38 : decode cX11_one 38 = .ok (.invokevirtual 89, 3) := by decide +kernel
theorem dX11_one_41 : decode cX11_one 41 = .ok (.ireturn, 1) := by decide +kernel
theorem dX11_one_42 : decode cX11_one 42 = .ok (.aload_n 0, 1) := by decide +kernel
theorem dX11_one_43 : decode cX11_one 43 = .ok (.getfield 75, 3) := by decide +kernel
theorem dX11_one_46 : decode cX11_one 46 = .ok (.iload_n 1, 1) := by decide +kernel
theorem dX11_one_47 : decode cX11_one 47 = .ok (.iload_n 2, 1) := by decide +kernel
theorem dX11_one_48 : decode cX11_one 48 = .ok (.invokevirtual 97, 3) := by decide +kernel
theorem dX11_one_51 : decode cX11_one 51 = .ok (.ireturn, 1) := by decide +kernel
theorem dX11_oneIs_0 : decode cX11_oneIs 0 = .ok (.aload_n 0, 1) := by decide +kernel
theorem dX11_oneIs_1 : decode cX11_oneIs 1 = .ok (.iload_n 1, 1) := by decide +kernel
theorem dX11_oneIs_2 : decode cX11_oneIs 2 = .ok (.invokevirtual 101, 3) := by decide +kernel
theorem dX11_oneIs_5 : decode cX11_oneIs 5 = .ok (.ifCond .eq 9, 3) := by decide +kernel
theorem dX11_oneIs_8 : decode cX11_oneIs 8 = .ok (.aload_n 0, 1) := by decide +kernel
theorem dX11_oneIs_9 : decode cX11_oneIs 9 = .ok (.iconst 1, 1) := by decide +kernel
theorem dX11_oneIs_10 : decode cX11_oneIs 10 = .ok (.invokevirtual 89, 3) := by decide +kernel
theorem dX11_oneIs_13 : decode cX11_oneIs 13 = .ok (.ireturn, 1) := by decide +kernel
theorem dX11_oneIs_14 : decode cX11_oneIs 14 = .ok (.iload_n 2, 1) := by decide +kernel
theorem dX11_oneIs_15 : decode cX11_oneIs 15 = .ok (.tableswitch 130 0 7 #[45, 55, 65, 75, 85, 95, 112, 121], 45) := by decide +kernel
theorem dX11_oneIs_60 : decode cX11_oneIs 60 = .ok (.aload_n 0, 1) := by decide +kernel
theorem dX11_oneIs_61 : decode cX11_oneIs 61 = .ok (.getfield 75, 3) := by decide +kernel
theorem dX11_oneIs_64 : decode cX11_oneIs 64 = .ok (.getfield 105, 3) := by decide +kernel
theorem dX11_oneIs_67 : decode cX11_oneIs 67 = .ok (.iload_n 1, 1) := by decide +kernel
theorem dX11_oneIs_68 : decode cX11_oneIs 68 = .ok (.iaload, 1) := by decide +kernel
theorem dX11_oneIs_69 : decode cX11_oneIs 69 = .ok (.ireturn, 1) := by decide +kernel
theorem dX11_oneIs_70 : decode cX11_oneIs 70 = .ok (.aload_n 0, 1) := by decide +kernel
theorem dX11_oneIs_71 : decode cX11_oneIs 71 = .ok (.getfield 75, 3) := by decide +kernel
theorem dX11_oneIs_74 : decode cX11_oneIs 74 = .ok (.getfield 108, 3) := by decide +kernel
theorem dX11_oneIs_77 : decode cX11_oneIs 77 = .ok (.iload_n 1, 1) := by decide +kernel
theorem dX11_oneIs_78 : decode cX11_oneIs 78 = .ok (.iaload, 1) := by decide +kernel
theorem dX11_oneIs_79 : decode cX11_oneIs 79 = .ok (.ireturn, 1) := by decide +kernel
theorem dX11_oneIs_80 : decode cX11_oneIs 80 = .ok (.aload_n 0, 1) := by decide +kernel
theorem dX11_oneIs_81 : decode cX11_oneIs 81 = .ok (.getfield 75, 3) := by decide +kernel
theorem dX11_oneIs_84 : decode cX11_oneIs 84 = .ok (.getfield 111, 3) := by decide +kernel
theorem dX11_oneIs_87 : decode cX11_oneIs 87 = .ok (.iload_n 1, 1) := by decide +kernel
theorem dX11_oneIs_88 : decode cX11_oneIs 88 = .ok (.iaload, 1) := by decide +kernel
theorem dX11_oneIs_89 : decode cX11_oneIs 89 = .ok (.ireturn, 1) := by decide +kernel
theorem dX11_oneIs_90 : decode cX11_oneIs 90 = .ok (.aload_n 0, 1) := by decide +kernel
theorem dX11_oneIs_91 : decode cX11_oneIs 91 = .ok (.getfield 75, 3) := by decide +kernel
theorem dX11_oneIs_94 : decode cX11_oneIs 94 = .ok (.getfield 114, 3) := by decide +kernel
theorem dX11_oneIs_97 : decode cX11_oneIs 97 = .ok (.iload_n 1, 1) := by decide +kernel
theorem dX11_oneIs_98 : decode cX11_oneIs 98 = .ok (.iaload, 1) := by decide +kernel
theorem dX11_oneIs_99 : decode cX11_oneIs 99 = .ok (.ireturn, 1) := by decide +kernel
theorem dX11_oneIs_100 : decode cX11_oneIs 100 = .ok (.aload_n 0, 1) := by decide +kernel
theorem dX11_oneIs_101 : decode cX11_oneIs 101 = .ok (.getfield 75, 3) := by decide +kernel
theorem dX11_oneIs_104 : decode cX11_oneIs 104 = .ok (.getfield 117, 3) := by decide +kernel
theorem dX11_oneIs_107 : decode cX11_oneIs 107 = .ok (.iload_n 1, 1) := by decide +kernel
theorem dX11_oneIs_108 : decode cX11_oneIs 108 = .ok (.iaload, 1) := by decide +kernel
theorem dX11_oneIs_109 : decode cX11_oneIs 109 = .ok (.ireturn, 1) := by decide +kernel
theorem dX11_oneIs_110 : decode cX11_oneIs 110 = .ok (.aload_n 0, 1) := by decide +kernel
theorem dX11_oneIs_111 : decode cX11_oneIs 111 = .ok (.getfield 75, 3) := by decide +kernel
theorem dX11_oneIs_114 : decode cX11_oneIs 114 = .ok (.iload_n 1, 1) := by decide +kernel
theorem dX11_oneIs_115 : decode cX11_oneIs 115 = .ok (.invokevirtual 120, 3) := by decide +kernel
theorem dX11_oneIs_118 : decode cX11_oneIs 118 = .ok (.ifCond .eq 7, 3) := by decide +kernel
theorem dX11_oneIs_121 : decode cX11_oneIs 121 = .ok (.iconst 1, 1) := by decide +kernel
theorem dX11_oneIs_122 : decode cX11_oneIs 122 = .ok (.goto 4, 3) := by decide +kernel
theorem dX11_oneIs_125 : decode cX11_oneIs 125 = .ok (.iconst 0, 1) := by decide +kernel
theorem dX11_oneIs_126 : decode cX11_oneIs 126 = .ok (.ireturn, 1) := by decide +kernel
theorem dX11_oneIs_127 : decode cX11_oneIs 127 = .ok (.aload_n 0, 1) := by decide +kernel
theorem dX11_oneIs_128 : decode cX11_oneIs 128 = .ok (.getfield 75, 3) := by decide +kernel
theorem dX11_oneIs_131 : decode cX11_oneIs 131 = .ok (.iload_n 1, 1) := by decide +kernel
theorem dX11_oneIs_132 : decode cX11_oneIs 132 = .ok (.invokevirtual 123, 3) := by decide +kernel
theorem dX11_oneIs_135 : decode cX11_oneIs 135 = .ok (.ireturn, 1) := by decide +kernel
theorem dX11_oneIs_136 : decode cX11_oneIs 136 = .ok (.aload_n 0, 1) := by decide +kernel
theorem dX11_oneIs_137 : decode cX11_oneIs 137 = .ok (.getfield 75, 3) := by decide +kernel
theorem dX11_oneIs_140 : decode cX11_oneIs 140 = .ok (.iload_n 1, 1) := by decide +kernel
theorem dX11_oneIs_141 : decode cX11_oneIs 141 = .ok (.invokevirtual 126, 3) := by decide +kernel
theorem dX11_oneIs_144 : decode cX11_oneIs 144 = .ok (.ireturn, 1) := by decide +kernel
theorem dX11_oneIs_145 : decode cX11_oneIs 145 = .ok (.aload_n 0, 1) := by decide +kernel
theorem dX11_oneIs_146 : decode cX11_oneIs 146 = .ok (.iconst 1, 1) := by decide +kernel
theorem dX11_oneIs_147 : decode cX11_oneIs 147 = .ok (.invokevirtual 89, 3) := by decide +kernel
theorem dX11_oneIs_150 : decode cX11_oneIs 150 = .ok (.ireturn, 1) := by decide +kernel
theorem dX11_become_0 : decode cX11_become 0 = .ok (.aload_n 0, 1) := by decide +kernel
theorem dX11_become_1 : decode cX11_become 1 = .ok (.iload_n 1, 1) := by decide +kernel
theorem dX11_become_2 : decode cX11_become 2 = .ok (.invokevirtual 101, 3) := by decide +kernel
theorem dX11_become_5 : decode cX11_become 5 = .ok (.ifCond .ne 12, 3) := by decide +kernel
theorem dX11_become_8 : decode cX11_become 8 = .ok (.iload_n 2, 1) := by decide +kernel
theorem dX11_become_9 : decode cX11_become 9 = .ok (.bipush 69, 2) := by decide +kernel
theorem dX11_become_11 : decode cX11_become 11 = .ok (.invokestatic 85, 3) := by decide +kernel
theorem dX11_become_14 : decode cX11_become 14 = .ok (.ifCond .eq 9, 3) := by decide +kernel
theorem dX11_become_17 : decode cX11_become 17 = .ok (.aload_n 0, 1) := by decide +kernel
theorem dX11_become_18 : decode cX11_become 18 = .ok (.iconst 1, 1) := by decide +kernel
theorem dX11_become_19 : decode cX11_become 19 = .ok (.invokevirtual 89, 3) := by decide +kernel
theorem dX11_become_22 : decode cX11_become 22 = .ok (.ireturn, 1) := by decide +kernel
theorem dX11_become_23 : decode cX11_become 23 = .ok (.aload_n 0, 1) := by decide +kernel
theorem dX11_become_24 : decode cX11_become 24 = .ok (.getfield 75, 3) := by decide +kernel
theorem dX11_become_27 : decode cX11_become 27 = .ok (.getfield 105, 3) := by decide +kernel
theorem dX11_become_30 : decode cX11_become 30 = .ok (.iload_n 1, 1) := by decide +kernel
theorem dX11_become_31 : decode cX11_become 31 = .ok (.iaload, 1) := by decide +kernel
theorem dX11_become_32 : decode cX11_become 32 = .ok (.istore_n 3, 1) := by decide +kernel
theorem dX11_become_33 : decode cX11_become 33 = .ok (.aload_n 0, 1) := by decide +kernel
theorem dX11_become_34 : decode cX11_become 34 = .ok (.getfield 75, 3) := by decide +kernel
theorem dX11_become_37 : decode cX11_become 37 = .ok (.getfield 105, 3) := by decide +kernel
theorem dX11_become_40 : decode cX11_become 40 = .ok (.iload_n 1, 1) := by decide +kernel
theorem dX11_become_41 : decode cX11_become 41 = .ok (.iload_n 2, 1) := by decide +kernel
theorem dX11_become_42 : decode cX11_become 42 = .ok (.bipush 10, 2) := by decide +kernel
theorem dX11_become_44 : decode cX11_become 44 = .ok (.idiv, 1) := by decide +kernel
theorem dX11_become_45 : decode cX11_become 45 = .ok (.iastore, 1) := by decide +kernel
theorem dX11_become_46 : decode cX11_become 46 = .ok (.aload_n 0, 1) := by decide +kernel
theorem dX11_become_47 : decode cX11_become 47 = .ok (.getfield 75, 3) := by decide +kernel
theorem dX11_become_50 : decode cX11_become 50 = .ok (.getfield 108, 3) := by decide +kernel
theorem dX11_become_53 : decode cX11_become 53 = .ok (.iload_n 1, 1) := by decide +kernel
theorem dX11_become_54 : decode cX11_become 54 = .ok (.iload_n 2, 1) := by decide +kernel
theorem dX11_become_55 : decode cX11_become 55 = .ok (.bipush 10, 2) := by decide +kernel
theorem dX11_become_57 : decode cX11_become 57 = .ok (.irem, 1) := by decide +kernel
theorem dX11_become_58 : decode cX11_become 58 = .ok (.iastore, 1) := by decide +kernel
theorem dX11_become_59 : decode cX11_become 59 = .ok (.iload_n 3, 1) := by decide +kernel
theorem dX11_become_60 : decode cX11_become 60 = .ok (.ireturn, 1) := by decide +kernel
theorem dX11_as_0 : decode cX11_as 0 = .ok (.aload_n 0, 1) := by decide +kernel
theorem dX11_as_1 : decode cX11_as 1 = .ok (.iload_n 1, 1) := by decide +kernel
theorem dX11_as_2 : decode cX11_as 2 = .ok (.invokevirtual 101, 3) := by decide +kernel
theorem dX11_as_5 : decode cX11_as 5 = .ok (.ifCond .ne 12, 3) := by decide +kernel
theorem dX11_as_8 : decode cX11_as 8 = .ok (.iload_n 2, 1) := by decide +kernel
theorem dX11_as_9 : decode cX11_as 9 = .ok (.bipush 6, 2) := by decide +kernel
theorem dX11_as_11 : decode cX11_as 11 = .ok (.invokestatic 85, 3) := by decide +kernel
theorem dX11_as_14 : decode cX11_as 14 = .ok (.ifCond .eq 9, 3) := by decide +kernel
theorem dX11_as_17 : decode cX11_as 17 = .ok (.aload_n 0, 1) := by decide +kernel
theorem dX11_as_18 : decode cX11_as 18 = .ok (.iconst 1, 1) := by decide +kernel
theorem dX11_as_19 : decode cX11_as 19 = .ok (.invokevirtual 89, 3) := by decide +kernel
theorem dX11_as_22 : decode cX11_as 22 = .ok (.ireturn, 1) := by decide +kernel
theorem dX11_as_23 : decode cX11_as 23 = .ok (.aload_n 0, 1) := by decide +kernel
theorem dX11_as_24 : decode cX11_as 24 = .ok (.getfield 75, 3) := by decide +kernel
theorem dX11_as_27 : decode cX11_as 27 = .ok (.getfield 129, 3) := by decide +kernel
theorem dX11_as_30 : decode cX11_as 30 = .ok (.aload_n 0, 1) := by decide +kernel
theorem dX11_as_31 : decode cX11_as 31 = .ok (.getfield 75, 3) := by decide +kernel
theorem dX11_as_34 : decode cX11_as 34 = .ok (.getfield 105, 3) := by decide +kernel
theorem dX11_as_37 : decode cX11_as 37 = .ok (.iload_n 1, 1) := by decide +kernel
theorem dX11_as_38 : decode cX11_as 38 = .ok (.iaload, 1) := by decide +kernel
theorem dX11_as_39 : decode cX11_as 39 = .ok (.aaload, 1) := by decide +kernel
theorem dX11_as_40 : decode cX11_as 40 = .ok (.iload_n 2, 1) := by decide +kernel
theorem dX11_as_41 : decode cX11_as 41 = .ok (.invokestatic 133, 3) := by decide +kernel
theorem dX11_as_44 : decode cX11_as 44 = .ok (.ifCond .ne 9, 3) := by decide +kernel
theorem dX11_as_47 : decode cX11_as 47 = .ok (.aload_n 0, 1) := by decide +kernel
theorem dX11_as_48 : decode cX11_as 48 = .ok (.iconst 5, 1) := by decide +kernel
theorem dX11_as_49 : decode cX11_as 49 = .ok (.invokevirtual 89, 3) := by decide +kernel
theorem dX11_as_52 : decode cX11_as 52 = .ok (.ireturn, 1) := by decide +kernel
theorem dX11_as_53 : decode cX11_as 53 = .ok (.aload_n 0, 1) := by decide +kernel
theorem dX11_as_54 : decode cX11_as 54 = .ok (.getfield 75, 3) := by decide +kernel
theorem dX11_as_57 : decode cX11_as 57 = .ok (.getfield 108, 3) := by decide +kernel
theorem dX11_as_60 : decode cX11_as 60 = .ok (.iload_n 1, 1) := by decide +kernel
theorem dX11_as_61 : decode cX11_as 61 = .ok (.iaload, 1) := by decide +kernel
theorem dX11_as_62 : decode cX11_as 62 = .ok (.ireturn, 1) := by decide +kernel
theorem dX11_set_0 : decode cX11_set 0 = .ok (.aload_n 0, 1) := by decide +kernel
theorem dX11_set_1 : decode cX11_set 1 = .ok (.iload_n 1, 1) := by decide +kernel
theorem dX11_set_2 : decode cX11_set 2 = .ok (.invokevirtual 101, 3) := by decide +kernel
theorem dX11_set_5 : decode cX11_set 5 = .ok (.ifCond .ne 28, 3) := by decide +kernel
theorem dX11_set_8 : decode cX11_set 8 = .ok (.iload_n 2, 1) := by decide +kernel
theorem dX11_set_9 : decode cX11_set 9 = .ok (.getstatic 137, 3) := by decide +kernel
theorem dX11_set_12 : decode cX11_set 12 = .ok (.arraylength, 1) := by decide +kernel
theorem dX11_set_13 : decode cX11_set 13 = .ok (.iconst 1, 1) := by decide +kernel
theorem dX11_set_14 : decode cX11_set 14 = .ok (.isub, 1) := by decide +kernel
theorem dX11_set_15 : decode cX11_set 15 = .ok (.invokestatic 85, 3) := by decide +kernel
theorem dX11_set_18 : decode cX11_set 18 = .ok (.ifCond .ne 15, 3) := by decide +kernel
theorem dX11_set_21 : decode cX11_set 21 = .ok (.iload_n 3, 1) := by decide +kernel
theorem dX11_set_22 : decode cX11_set 22 = .ok (.getstatic 137, 3) := by decide +kernel
theorem dX11_set_25 : decode cX11_set 25 = .ok (.iload_n 2, 1) := by decide +kernel
theorem dX11_set_26 : decode cX11_set 26 = .ok (.iaload, 1) := by decide +kernel
theorem dX11_set_27 : decode cX11_set 27 = .ok (.invokestatic 85, 3) := by decide +kernel
theorem dX11_set_30 : decode cX11_set 30 = .ok (.ifCond .eq 9, 3) := by decide +kernel
theorem dX11_set_33 : decode cX11_set 33 = .ok (.aload_n 0, 1) := by decide +kernel
theorem dX11_set_34 : decode cX11_set 34 = .ok (.iconst 1, 1) := by decide +kernel
theorem dX11_set_35 : decode cX11_set 35 = .ok (.invokevirtual 89, 3) := by decide +kernel
theorem dX11_set_38 : decode cX11_set 38 = .ok (.ireturn, 1) := by decide +kernel
theorem dX11_set_39 : decode cX11_set 39 = .ok (.aload_n 0, 1) := by decide +kernel
theorem dX11_set_40 : decode cX11_set 40 = .ok (.getfield 75, 3) := by decide +kernel
theorem dX11_set_43 : decode cX11_set 43 = .ok (.iload_n 2, 1) := by decide +kernel
theorem dX11_set_44 : decode cX11_set 44 = .ok (.invokevirtual 140, 3) := by decide +kernel
theorem dX11_set_47 : decode cX11_set 47 = .ok (.iload_n 1, 1) := by decide +kernel
theorem dX11_set_48 : decode cX11_set 48 = .ok (.iload_n 3, 1) := by decide +kernel
theorem dX11_set_49 : decode cX11_set 49 = .ok (.invokestatic 144, 3) := by decide +kernel
theorem dX11_set_52 : decode cX11_set 52 = .ok (.ireturn, 1) := by decide +kernel
theorem dX11_cut_0 : decode cX11_cut 0 = .ok (.aload_n 0, 1) := by decide +kernel
theorem dX11_cut_1 : decode cX11_cut 1 = .ok (.iload_n 1, 1) := by decide +kernel
theorem dX11_cut_2 : decode cX11_cut 2 = .ok (.invokevirtual 101, 3) := by decide +kernel
theorem dX11_cut_5 : decode cX11_cut 5 = .ok (.ifCond .eq 9, 3) := by decide +kernel
theorem dX11_cut_8 : decode cX11_cut 8 = .ok (.aload_n 0, 1) := by decide +kernel
theorem dX11_cut_9 : decode cX11_cut 9 = .ok (.iconst 1, 1) := by decide +kernel
theorem dX11_cut_10 : decode cX11_cut 10 = .ok (.invokevirtual 89, 3) := by decide +kernel
theorem dX11_cut_13 : decode cX11_cut 13 = .ok (.ireturn, 1) := by decide +kernel
theorem dX11_cut_14 : decode cX11_cut 14 = .ok (.aload_n 0, 1) := by decide +kernel
theorem dX11_cut_15 : decode cX11_cut 15 = .ok (.getfield 75, 3) := by decide +kernel
theorem dX11_cut_18 : decode cX11_cut 18 = .ok (.getfield 114, 3) := by decide +kernel
theorem dX11_cut_21 : decode cX11_cut 21 = .ok (.iload_n 1, 1) := by decide +kernel
theorem dX11_cut_22 : decode cX11_cut 22 = .ok (.aload_n 0, 1) := by decide +kernel
theorem dX11_cut_23 : decode cX11_cut 23 = .ok (.getfield 75, 3) := by decide +kernel
theorem dX11_cut_26 : decode cX11_cut 26 = .ok (.iload_n 1, 1) := by decide +kernel
theorem dX11_cut_27 : decode cX11_cut 27 = .ok (.invokevirtual 126, 3) := by decide +kernel
theorem dX11_cut_30 : decode cX11_cut 30 = .ok (.invokestatic 144, 3) := by decide +kernel
theorem dX11_cut_33 : decode cX11_cut 33 = .ok (.ireturn, 1) := by decide +kernel
theorem dX11_land_0 : decode cX11_land 0 = .ok (.iload_n 1, 1) := by decide +kernel
theorem dX11_land_1 : decode cX11_land 1 = .ok (.bipush 15, 2) := by decide +kernel
theorem dX11_land_3 : decode cX11_land 3 = .ok (.invokestatic 85, 3) := by decide +kernel
theorem dX11_land_6 : decode cX11_land 6 = .ok (.ifCond .ne 28, 3) := by decide +kernel
theorem dX11_land_9 : decode cX11_land 9 = .ok (.iload_n 2, 1) := by decide +kernel
theorem dX11_land_10 : decode cX11_land 10 = .ok (.getstatic 148, 3) := by decide +kernel
theorem dX11_land_13 : decode cX11_land 13 = .ok (.arraylength, 1) := by decide +kernel
theorem dX11_land_14 : decode cX11_land 14 = .ok (.iconst 1, 1) := by decide +kernel
theorem dX11_land_15 : decode cX11_land 15 = .ok (.isub, 1) := by decide +kernel
theorem dX11_land_16 : decode cX11_land 16 = .ok (.invokestatic 85, 3) := by decide +kernel
theorem dX11_land_19 : decode cX11_land 19 = .ok (.ifCond .ne 15, 3) := by decide +kernel
theorem dX11_land_22 : decode cX11_land 22 = .ok (.iload_n 3, 1) := by decide +kernel
theorem dX11_land_23 : decode cX11_land 23 = .ok (.getstatic 148, 3) := by decide +kernel
theorem dX11_land_26 : decode cX11_land 26 = .ok (.iload_n 2, 1) := by decide +kernel
theorem dX11_land_27 : decode cX11_land 27 = .ok (.iaload, 1) := by decide +kernel
theorem dX11_land_28 : decode cX11_land 28 = .ok (.invokestatic 85, 3) := by decide +kernel
theorem dX11_land_31 : decode cX11_land 31 = .ok (.ifCond .eq 9, 3) := by decide +kernel
theorem dX11_land_34 : decode cX11_land 34 = .ok (.aload_n 0, 1) := by decide +kernel
theorem dX11_land_35 : decode cX11_land 35 = .ok (.iconst 1, 1) := by decide +kernel
theorem dX11_land_36 : decode cX11_land 36 = .ok (.invokevirtual 89, 3) := by decide +kernel
theorem dX11_land_39 : decode cX11_land 39 = .ok (.ireturn, 1) := by decide +kernel
theorem dX11_land_40 : decode cX11_land 40 = .ok (.aload_n 0, 1) := by decide +kernel
theorem dX11_land_41 : decode cX11_land 41 = .ok (.getfield 75, 3) := by decide +kernel
theorem dX11_land_44 : decode cX11_land 44 = .ok (.iload_n 2, 1) := by decide +kernel
theorem dX11_land_45 : decode cX11_land 45 = .ok (.invokevirtual 151, 3) := by decide +kernel
theorem dX11_land_48 : decode cX11_land 48 = .ok (.iload_n 1, 1) := by decide +kernel
theorem dX11_land_49 : decode cX11_land 49 = .ok (.iload_n 3, 1) := by decide +kernel
theorem dX11_land_50 : decode cX11_land 50 = .ok (.invokestatic 144, 3) := by decide +kernel
theorem dX11_land_53 : decode cX11_land 53 = .ok (.ireturn, 1) := by decide +kernel
theorem dX11_landIs_0 : decode cX11_landIs 0 = .ok (.iload_n 1, 1) := by decide +kernel
theorem dX11_landIs_1 : decode cX11_landIs 1 = .ok (.bipush 15, 2) := by decide +kernel
theorem dX11_landIs_3 : decode cX11_landIs 3 = .ok (.invokestatic 85, 3) := by decide +kernel
theorem dX11_landIs_6 : decode cX11_landIs 6 = .ok (.ifCond .ne 14, 3) := by decide +kernel
theorem dX11_landIs_9 : decode cX11_landIs 9 = .ok (.iload_n 2, 1) := by decide +kernel
theorem dX11_landIs_10 : decode cX11_landIs 10 = .ok (.getstatic 148, 3) := by decide +kernel
theorem dX11_landIs_13 : decode cX11_landIs 13 = .ok (.arraylength, 1) := by decide +kernel
theorem dX11_landIs_14 : decode cX11_landIs 14 = .ok (.invokestatic 85, 3) := by decide +kernel
theorem dX11_landIs_17 : decode cX11_landIs 17 = .ok (.ifCond .eq 9, 3) := by decide +kernel
theorem dX11_landIs_20 : decode cX11_landIs 20 = .ok (.aload_n 0, 1) := by decide +kernel
theorem dX11_landIs_21 : decode cX11_landIs 21 = .ok (.iconst 1, 1) := by decide +kernel
theorem dX11_landIs_22 : decode cX11_landIs 22 = .ok (.invokevirtual 89, 3) := by decide +kernel
theorem dX11_landIs_25 : decode cX11_landIs 25 = .ok (.ireturn, 1) := by decide +kernel
theorem dX11_landIs_26 : decode cX11_landIs 26 = .ok (.iload_n 2, 1) := by decide +kernel
theorem dX11_landIs_27 : decode cX11_landIs 27 = .ok (.getstatic 148, 3) := by decide +kernel
theorem dX11_landIs_30 : decode cX11_landIs 30 = .ok (.arraylength, 1) := by decide +kernel
theorem dX11_landIs_31 : decode cX11_landIs 31 = .ok (.if_icmp .ne 14, 3) := by decide +kernel
theorem dX11_landIs_34 : decode cX11_landIs 34 = .ok (.aload_n 0, 1) := by decide +kernel
theorem dX11_landIs_35 : decode cX11_landIs 35 = .ok (.getfield 75, 3) := by decide +kernel
theorem dX11_landIs_38 : decode cX11_landIs 38 = .ok (.iload_n 1, 1) := by decide +kernel
theorem dX11_landIs_39 : decode cX11_landIs 39 = .ok (.invokevirtual 154, 3) := by decide +kernel
theorem dX11_landIs_42 : decode cX11_landIs 42 = .ok (.goto 13, 3) := by decide +kernel
theorem dX11_landIs_45 : decode cX11_landIs 45 = .ok (.aload_n 0, 1) := by decide +kernel
theorem dX11_landIs_46 : decode cX11_landIs 46 = .ok (.getfield 75, 3) := by decide +kernel
theorem dX11_landIs_49 : decode cX11_landIs 49 = .ok (.iload_n 2, 1) := by decide +kernel
theorem dX11_landIs_50 : decode cX11_landIs 50 = .ok (.invokevirtual 151, 3) := by decide +kernel
theorem dX11_landIs_53 : decode cX11_landIs 53 = .ok (.iload_n 1, 1) := by decide +kernel
theorem dX11_landIs_54 : decode cX11_landIs 54 = .ok (.iaload, 1) := by decide +kernel
theorem dX11_landIs_55 : decode cX11_landIs 55 = .ok (.ireturn, 1) := by decide +kernel
theorem dX11_rises_0 : decode cX11_rises 0 = .ok (.iload_n 1, 1) := by decide +kernel
theorem dX11_rises_1 : decode cX11_rises 1 = .ok (.iconst 5, 1) := by decide +kernel
theorem dX11_rises_2 : decode cX11_rises 2 = .ok (.invokestatic 85, 3) := by decide +kernel
theorem dX11_rises_5 : decode cX11_rises 5 = .ok (.ifCond .ne 12, 3) := by decide +kernel
theorem dX11_rises_8 : decode cX11_rises 8 = .ok (.iload_n 2, 1) := by decide +kernel
theorem dX11_rises_9 : decode cX11_rises 9 = .ok (.bipush 9, 2) := by decide +kernel
theorem dX11_rises_11 : decode cX11_rises 11 = .ok (.invokestatic 85, 3) := by decide +kernel
theorem dX11_rises_14 : decode cX11_rises 14 = .ok (.ifCond .eq 9, 3) := by decide +kernel
theorem dX11_rises_17 : decode cX11_rises 17 = .ok (.aload_n 0, 1) := by decide +kernel
theorem dX11_rises_18 : decode cX11_rises 18 = .ok (.iconst 1, 1) := by decide +kernel
theorem dX11_rises_19 : decode cX11_rises 19 = .ok (.invokevirtual 89, 3) := by decide +kernel
theorem dX11_rises_22 : decode cX11_rises 22 = .ok (.ireturn, 1) := by decide +kernel
theorem dX11_rises_23 : decode cX11_rises 23 = .ok (.aload_n 0, 1) := by decide +kernel
theorem dX11_rises_24 : decode cX11_rises 24 = .ok (.getfield 75, 3) := by decide +kernel
theorem dX11_rises_27 : decode cX11_rises 27 = .ok (.getfield 157, 3) := by decide +kernel
theorem dX11_rises_30 : decode cX11_rises 30 = .ok (.iload_n 1, 1) := by decide +kernel
theorem dX11_rises_31 : decode cX11_rises 31 = .ok (.iload_n 2, 1) := by decide +kernel
theorem dX11_rises_32 : decode cX11_rises 32 = .ok (.invokestatic 144, 3) := by decide +kernel
theorem dX11_rises_35 : decode cX11_rises 35 = .ok (.ireturn, 1) := by decide +kernel
theorem dX11_springs_0 : decode cX11_springs 0 = .ok (.iload_n 1, 1) := by decide +kernel
theorem dX11_springs_1 : decode cX11_springs 1 = .ok (.bipush 15, 2) := by decide +kernel
theorem dX11_springs_3 : decode cX11_springs 3 = .ok (.invokestatic 85, 3) := by decide +kernel
theorem dX11_springs_6 : decode cX11_springs 6 = .ok (.ifCond .eq 9, 3) := by decide +kernel
theorem dX11_springs_9 : decode cX11_springs 9 = .ok (.aload_n 0, 1) := by decide +kernel
theorem dX11_springs_10 : decode cX11_springs 10 = .ok (.iconst 1, 1) := by decide +kernel
theorem dX11_springs_11 : decode cX11_springs 11 = .ok (.invokevirtual 89, 3) := by decide +kernel
theorem dX11_springs_14 : decode cX11_springs 14 = .ok (.ireturn, 1) := by decide +kernel
theorem dX11_springs_15 : decode cX11_springs 15 = .ok (.aload_n 0, 1) := by decide +kernel
theorem dX11_springs_16 : decode cX11_springs 16 = .ok (.getfield 75, 3) := by decide +kernel
theorem dX11_springs_19 : decode cX11_springs 19 = .ok (.getfield 160, 3) := by decide +kernel
theorem dX11_springs_22 : decode cX11_springs 22 = .ok (.istore_n 2, 1) := by decide +kernel
theorem dX11_springs_23 : decode cX11_springs 23 = .ok (.aload_n 0, 1) := by decide +kernel
theorem dX11_springs_24 : decode cX11_springs 24 = .ok (.getfield 75, 3) := by decide +kernel
theorem dX11_springs_27 : decode cX11_springs 27 = .ok (.iload_n 1, 1) := by decide +kernel
theorem dX11_springs_28 : decode cX11_springs 28 = .ok (.putfield 160, 3) := by decide +kernel
theorem dX11_springs_31 : decode cX11_springs 31 = .ok (.iload_n 2, 1) := by decide +kernel
theorem dX11_springs_32 : decode cX11_springs 32 = .ok (.ireturn, 1) := by decide +kernel
theorem dX11_feed_0 : decode cX11_feed 0 = .ok (.iload_n 3, 1) := by decide +kernel
theorem dX11_feed_1 : decode cX11_feed 1 = .ok (.iconst 1, 1) := by decide +kernel
theorem dX11_feed_2 : decode cX11_feed 2 = .ok (.if_icmp .lt 9, 3) := by decide +kernel
theorem dX11_feed_5 : decode cX11_feed 5 = .ok (.iload_n 3, 1) := by decide +kernel
theorem dX11_feed_6 : decode cX11_feed 6 = .ok (.bipush 8, 2) := by decide +kernel
theorem dX11_feed_8 : decode cX11_feed 8 = .ok (.if_icmp .le 9, 3) := by decide +kernel
theorem dX11_feed_11 : decode cX11_feed 11 = .ok (.aload_n 0, 1) := by decide +kernel
theorem dX11_feed_12 : decode cX11_feed 12 = .ok (.iconst 1, 1) := by decide +kernel
theorem dX11_feed_13 : decode cX11_feed 13 = .ok (.invokevirtual 89, 3) := by decide +kernel
theorem dX11_feed_16 : decode cX11_feed 16 = .ok (.ireturn, 1) := by decide +kernel
theorem dX11_feed_17 : decode cX11_feed 17 = .ok (.aload_n 0, 1) := by decide +kernel
theorem dX11_feed_18 : decode cX11_feed 18 = .ok (.getfield 14, 3) := by decide +kernel
theorem dX11_feed_21 : decode cX11_feed 21 = .ok (.getfield 163, 3) := by decide +kernel
theorem dX11_feed_24 : decode cX11_feed 24 = .ok (.iload_n 3, 1) := by decide +kernel
theorem dX11_feed_25 : decode cX11_feed 25 = .ok (.iadd, 1) := by decide +kernel
theorem dX11_feed_26 : decode cX11_feed 26 = .ok (.bipush 60, 2) := by decide +kernel
theorem dX11_feed_28 : decode cX11_feed 28 = .ok (.if_icmp .le 9, 3) := by decide +kernel
theorem dX11_feed_31 : decode cX11_feed 31 = .ok (.aload_n 0, 1) := by decide +kernel
theorem dX11_feed_32 : decode cX11_feed 32 = .ok (.iconst 4, 1) := by decide +kernel
theorem dX11_feed_33 : decode cX11_feed 33 = .ok (.invokevirtual 89, 3) := by decide +kernel
theorem dX11_feed_36 : decode cX11_feed 36 = .ok (.ireturn, 1) := by decide +kernel
theorem dX11_feed_37 : decode cX11_feed 37 = .ok (.iconst 0, 1) := by decide +kernel
theorem dX11_feed_38 : decode cX11_feed 38 = .ok (.istore 4, 2) := by decide +kernel
theorem dX11_feed_40 : decode cX11_feed 40 = .ok (.iload 4, 2) := by decide +kernel
theorem dX11_feed_42 : decode cX11_feed 42 = .ok (.iload_n 3, 1) := by decide +kernel
theorem dX11_feed_43 : decode cX11_feed 43 = .ok (.if_icmp .ge 28, 3) := by decide +kernel
theorem dX11_feed_46 : decode cX11_feed 46 = .ok (.aload_n 0, 1) := by decide +kernel
theorem dX11_feed_47 : decode cX11_feed 47 = .ok (.getfield 14, 3) := by decide +kernel
theorem dX11_feed_50 : decode cX11_feed 50 = .ok (.lload_n 1, 1) := by decide +kernel
theorem dX11_feed_51 : decode cX11_feed 51 = .ok (.bipush 8, 2) := by decide +kernel
theorem dX11_feed_53 : decode cX11_feed 53 = .ok (.iload 4, 2) := by decide +kernel
theorem dX11_feed_55 : decode cX11_feed 55 = .ok (.imul, 1) := by decide +kernel
theorem dX11_feed_56 : decode cX11_feed 56 = .ok (.lushr, 1) := by decide +kernel
theorem dX11_feed_57 : decode cX11_feed 57 = .ok (.l2i, 1) := by decide +kernel
theorem dX11_feed_58 : decode cX11_feed 58 = .ok (.sipush 255, 3) := by decide +kernel
theorem dX11_feed_61 : decode cX11_feed 61 = .ok (.iand, 1) := by decide +kernel
theorem dX11_feed_62 : decode cX11_feed 62 = .ok (.invokevirtual 166, 3) := by decide +kernel
theorem dX11_feed_65 : decode cX11_feed 65 = .ok (.iinc 4 1, 3) := by decide +kernel
theorem dX11_feed_68 : decode cX11_feed 68 = .ok (.goto (-28), 3) := by decide +kernel
theorem dX11_feed_71 : decode cX11_feed 71 = .ok (.aload_n 0, 1) := by decide +kernel
theorem dX11_feed_72 : decode cX11_feed 72 = .ok (.getfield 14, 3) := by decide +kernel
theorem dX11_feed_75 : decode cX11_feed 75 = .ok (.getfield 163, 3) := by decide +kernel
theorem dX11_feed_78 : decode cX11_feed 78 = .ok (.ireturn, 1) := by decide +kernel
theorem dX11_text_0 : decode cX11_text 0 = .ok (.iload_n 1, 1) := by decide +kernel
theorem dX11_text_1 : decode cX11_text 1 = .ok (.iconst 1, 1) := by decide +kernel
theorem dX11_text_2 : decode cX11_text 2 = .ok (.invokestatic 85, 3) := by decide +kernel
theorem dX11_text_5 : decode cX11_text 5 = .ok (.ifCond .eq 9, 3) := by decide +kernel
theorem dX11_text_8 : decode cX11_text 8 = .ok (.aload_n 0, 1) := by decide +kernel
theorem dX11_text_9 : decode cX11_text 9 = .ok (.iconst 1, 1) := by decide +kernel
theorem dX11_text_10 : decode cX11_text 10 = .ok (.invokevirtual 89, 3) := by decide +kernel
theorem dX11_text_13 : decode cX11_text 13 = .ok (.ireturn, 1) := by decide +kernel
theorem dX11_text_14 : decode cX11_text 14 = .ok (.aload_n 0, 1) := by decide +kernel
theorem dX11_text_15 : decode cX11_text 15 = .ok (.getfield 30, 3) := by decide +kernel
theorem dX11_text_18 : decode cX11_text 18 = .ok (.aload_n 0, 1) := by decide +kernel
theorem dX11_text_19 : decode cX11_text 19 = .ok (.getfield 14, 3) := by decide +kernel
theorem dX11_text_22 : decode cX11_text 22 = .ok (.iload_n 1, 1) := by decide +kernel
theorem dX11_text_23 : decode cX11_text 23 = .ok (.ifCond .ne 8, 3) := by decide +kernel
theorem dX11_text_26 : decode cX11_text 26 = .ok (.ldc 169, 2) := by decide +kernel
theorem dX11_text_28 : decode cX11_text 28 = .ok (.goto 5, 3) := by decide +kernel
theorem dX11_text_31 : decode cX11_text 31 = .ok (.ldc 171, 2) := by decide +kernel
theorem dX11_text_33 : decode cX11_text 33 = .ok (.invokevirtual 173, 3) := by decide +kernel
theorem dX11_text_36 : decode cX11_text 36 = .ok (.istore_n 2, 1) := by decide +kernel
theorem dX11_text_37 : decode cX11_text 37 = .ok (.aload_n 0, 1) := by decide +kernel
theorem dX11_text_38 : decode cX11_text 38 = .ok (.getfield 14, 3) := by decide +kernel
theorem dX11_text_41 : decode cX11_text 41 = .ok (.iconst 0, 1) := by decide +kernel
theorem dX11_text_42 : decode cX11_text 42 = .ok (.putfield 163, 3) := by decide +kernel
theorem dX11_text_45 : decode cX11_text 45 = .ok (.iload_n 2, 1) := by decide +kernel
theorem dX11_text_46 : decode cX11_text 46 = .ok (.ifCond .lt 8, 3) := by decide +kernel
theorem dX11_text_49 : decode cX11_text 49 = .ok (.bipush (-10), 2) := by decide +kernel
theorem dX11_text_51 : decode cX11_text 51 = .ok (.iload_n 2, 1) := by decide +kernel
theorem dX11_text_52 : decode cX11_text 52 = .ok (.isub, 1) := by decide +kernel
theorem dX11_text_53 : decode cX11_text 53 = .ok (.ireturn, 1) := by decide +kernel
theorem dX11_text_54 : decode cX11_text 54 = .ok (.aload_n 0, 1) := by decide +kernel
theorem dX11_text_55 : decode cX11_text 55 = .ok (.iload_n 1, 1) := by decide +kernel
theorem dX11_text_56 : decode cX11_text 56 = .ok (.invokevirtual 177, 3) := by decide +kernel
theorem dX11_text_59 : decode cX11_text 59 = .ok (.aload_n 0, 1) := by decide +kernel
theorem dX11_text_60 : decode cX11_text 60 = .ok (.getfield 30, 3) := by decide +kernel
theorem dX11_text_63 : decode cX11_text 63 = .ok (.invokevirtual 181, 3) := by decide +kernel
theorem dX11_text_66 : decode cX11_text 66 = .ok (.iconst 1, 1) := by decide +kernel
theorem dX11_text_67 : decode cX11_text 67 = .ok (.ireturn, 1) := by decide +kernel
theorem dX11_untell_0 : decode cX11_untell 0 = .ok (.iload_n 1, 1) := by decide +kernel
theorem dX11_untell_1 : decode cX11_untell 1 = .ok (.iconst 1, 1) := by decide +kernel
theorem dX11_untell_2 : decode cX11_untell 2 = .ok (.invokestatic 85, 3) := by decide +kernel
theorem dX11_untell_5 : decode cX11_untell 5 = .ok (.ifCond .eq 9, 3) := by decide +kernel
theorem dX11_untell_8 : decode cX11_untell 8 = .ok (.aload_n 0, 1) := by decide +kernel
theorem dX11_untell_9 : decode cX11_untell 9 = .ok (.iconst 1, 1) := by decide +kernel
theorem dX11_untell_10 : decode cX11_untell 10 = .ok (.invokevirtual 89, 3) := by decide +kernel
theorem dX11_untell_13 : decode cX11_untell 13 = .ok (.ireturn, 1) := by decide +kernel
theorem dX11_untell_14 : decode cX11_untell 14 = .ok (.aload_n 0, 1) := by decide +kernel
theorem dX11_untell_15 : decode cX11_untell 15 = .ok (.iload_n 1, 1) := by decide +kernel
theorem dX11_untell_16 : decode cX11_untell 16 = .ok (.invokevirtual 177, 3) := by decide +kernel
theorem dX11_untell_19 : decode cX11_untell 19 = .ok (.astore_n 2, 1) := by decide +kernel
theorem dX11_untell_20 : decode cX11_untell 20 = .ok (.aload_n 2, 1) := by decide +kernel
theorem dX11_untell_21 : decode cX11_untell 21 = .ok (.getfield 185, 3) := by decide +kernel
theorem dX11_untell_24 : decode cX11_untell 24 = .ok (.ifCond .le 7, 3) := by decide +kernel
theorem dX11_untell_27 : decode cX11_untell 27 = .ok (.iconst 1, 1) := by decide +kernel
theorem dX11_untell_28 : decode cX11_untell 28 = .ok (.goto 4, 3) := by decide +kernel
theorem dX11_untell_31 : decode cX11_untell 31 = .ok (.iconst 0, 1) := by decide +kernel
theorem dX11_untell_32 : decode cX11_untell 32 = .ok (.istore_n 3, 1) := by decide +kernel
theorem dX11_untell_33 : decode cX11_untell 33 = .ok (.aload_n 2, 1) := by decide +kernel
theorem dX11_untell_34 : decode cX11_untell 34 = .ok (.iconst 0, 1) := by decide +kernel
theorem dX11_untell_35 : decode cX11_untell 35 = .ok (.putfield 185, 3) := by decide +kernel
theorem dX11_untell_38 : decode cX11_untell 38 = .ok (.iload_n 3, 1) := by decide +kernel
theorem dX11_untell_39 : decode cX11_untell 39 = .ok (.ireturn, 1) := by decide +kernel
theorem dX11_law_0 : decode cX11_law 0 = .ok (.iload_n 1, 1) := by decide +kernel
theorem dX11_law_1 : decode cX11_law 1 = .ok (.iconst 1, 1) := by decide +kernel
theorem dX11_law_2 : decode cX11_law 2 = .ok (.invokestatic 85, 3) := by decide +kernel
theorem dX11_law_5 : decode cX11_law 5 = .ok (.ifCond .eq 9, 3) := by decide +kernel
theorem dX11_law_8 : decode cX11_law 8 = .ok (.aload_n 0, 1) := by decide +kernel
theorem dX11_law_9 : decode cX11_law 9 = .ok (.iconst 1, 1) := by decide +kernel
theorem dX11_law_10 : decode cX11_law 10 = .ok (.invokevirtual 89, 3) := by decide +kernel
theorem dX11_law_13 : decode cX11_law 13 = .ok (.ireturn, 1) := by decide +kernel
theorem dX11_law_14 : decode cX11_law 14 = .ok (.iload_n 1, 1) := by decide +kernel
theorem dX11_law_15 : decode cX11_law 15 = .ok (.ifCond .ne 17, 3) := by decide +kernel
theorem dX11_law_18 : decode cX11_law 18 = .ok (.aload_n 0, 1) := by decide +kernel
theorem dX11_law_19 : decode cX11_law 19 = .ok (.getfield 75, 3) := by decide +kernel
theorem dX11_law_22 : decode cX11_law 22 = .ok (.iload_n 2, 1) := by decide +kernel
theorem dX11_law_23 : decode cX11_law 23 = .ok (.iload_n 3, 1) := by decide +kernel
theorem dX11_law_24 : decode cX11_law 24 = .ok (.iload 4, 2) := by decide +kernel
theorem dX11_law_26 : decode cX11_law 26 = .ok (.invokevirtual 186, 3) := by decide +kernel
theorem dX11_law_29 : decode cX11_law 29 = .ok (.goto 14, 3) := by decide +kernel
theorem dX11_law_32 : decode cX11_law 32 = .ok (.aload_n 0, 1) := by decide +kernel
theorem dX11_law_33 : decode cX11_law 33 = .ok (.getfield 75, 3) := by decide +kernel
theorem dX11_law_36 : decode cX11_law 36 = .ok (.iload_n 2, 1) := by decide +kernel
theorem dX11_law_37 : decode cX11_law 37 = .ok (.iload_n 3, 1) := by decide +kernel
theorem dX11_law_38 : decode cX11_law 38 = .ok (.iload 4, 2) := by decide +kernel
theorem dX11_law_40 : decode cX11_law 40 = .ok (.invokevirtual 190, 3) := by decide +kernel
theorem dX11_law_43 : decode cX11_law 43 = .ok (.ireturn, 1) := by decide +kernel
theorem dX11_days_0 : decode cX11_days 0 = .ok (.iload_n 1, 1) := by decide +kernel
theorem dX11_days_1 : decode cX11_days 1 = .ok (.iconst 1, 1) := by decide +kernel
theorem dX11_days_2 : decode cX11_days 2 = .ok (.if_icmp .lt 9, 3) := by decide +kernel
theorem dX11_days_5 : decode cX11_days 5 = .ok (.iload_n 1, 1) := by decide +kernel
theorem dX11_days_6 : decode cX11_days 6 = .ok (.bipush 60, 2) := by decide +kernel
theorem dX11_days_8 : decode cX11_days 8 = .ok (.if_icmp .le 9, 3) := by decide +kernel
theorem dX11_days_11 : decode cX11_days 11 = .ok (.aload_n 0, 1) := by decide +kernel
theorem dX11_days_12 : decode cX11_days 12 = .ok (.iconst 1, 1) := by decide +kernel
theorem dX11_days_13 : decode cX11_days 13 = .ok (.invokevirtual 89, 3) := by decide +kernel
theorem dX11_days_16 : decode cX11_days 16 = .ok (.ireturn, 1) := by decide +kernel
theorem dX11_days_17 : decode cX11_days 17 = .ok (.aload_n 0, 1) := by decide +kernel
theorem dX11_days_18 : decode cX11_days 18 = .ok (.getfield 75, 3) := by decide +kernel
theorem dX11_days_21 : decode cX11_days 21 = .ok (.getfield 193, 3) := by decide +kernel
theorem dX11_days_24 : decode cX11_days 24 = .ok (.iload_n 1, 1) := by decide +kernel
theorem dX11_days_25 : decode cX11_days 25 = .ok (.iadd, 1) := by decide +kernel
theorem dX11_days_26 : decode cX11_days 26 = .ok (.sipush 9999, 3) := by decide +kernel
theorem dX11_days_29 : decode cX11_days 29 = .ok (.if_icmp .le 9, 3) := by decide +kernel
theorem dX11_days_32 : decode cX11_days 32 = .ok (.aload_n 0, 1) := by decide +kernel
theorem dX11_days_33 : decode cX11_days 33 = .ok (.iconst 3, 1) := by decide +kernel
theorem dX11_days_34 : decode cX11_days 34 = .ok (.invokevirtual 89, 3) := by decide +kernel
theorem dX11_days_37 : decode cX11_days 37 = .ok (.ireturn, 1) := by decide +kernel
theorem dX11_days_38 : decode cX11_days 38 = .ok (.aload_n 0, 1) := by decide +kernel
theorem dX11_days_39 : decode cX11_days 39 = .ok (.getfield 75, 3) := by decide +kernel
theorem dX11_days_42 : decode cX11_days 42 = .ok (.iload_n 1, 1) := by decide +kernel
theorem dX11_days_43 : decode cX11_days 43 = .ok (.invokevirtual 196, 3) := by decide +kernel
theorem dX11_days_46 : decode cX11_days 46 = .ok (.aload_n 0, 1) := by decide +kernel
theorem dX11_days_47 : decode cX11_days 47 = .ok (.getfield 75, 3) := by decide +kernel
theorem dX11_days_50 : decode cX11_days 50 = .ok (.invokevirtual 199, 3) := by decide +kernel
theorem dX11_days_53 : decode cX11_days 53 = .ok (.ireturn, 1) := by decide +kernel
theorem dX11_loose_0 : decode cX11_loose 0 = .ok (.iload_n 1, 1) := by decide +kernel
theorem dX11_loose_1 : decode cX11_loose 1 = .ok (.iconst 1, 1) := by decide +kernel
theorem dX11_loose_2 : decode cX11_loose 2 = .ok (.if_icmp .lt 9, 3) := by decide +kernel
theorem dX11_loose_5 : decode cX11_loose 5 = .ok (.iload_n 1, 1) := by decide +kernel
theorem dX11_loose_6 : decode cX11_loose 6 = .ok (.bipush 30, 2) := by decide +kernel
theorem dX11_loose_8 : decode cX11_loose 8 = .ok (.if_icmp .le 9, 3) := by decide +kernel
theorem dX11_loose_11 : decode cX11_loose 11 = .ok (.aload_n 0, 1) := by decide +kernel
theorem dX11_loose_12 : decode cX11_loose 12 = .ok (.iconst 1, 1) := by decide +kernel
theorem dX11_loose_13 : decode cX11_loose 13 = .ok (.invokevirtual 89, 3) := by decide +kernel
theorem dX11_loose_16 : decode cX11_loose 16 = .ok (.ireturn, 1) := by decide +kernel
theorem dX11_loose_17 : decode cX11_loose 17 = .ok (.aload_n 0, 1) := by decide +kernel
theorem dX11_loose_18 : decode cX11_loose 18 = .ok (.getfield 75, 3) := by decide +kernel
theorem dX11_loose_21 : decode cX11_loose 21 = .ok (.getfield 193, 3) := by decide +kernel
theorem dX11_loose_24 : decode cX11_loose 24 = .ok (.iload_n 1, 1) := by decide +kernel
theorem dX11_loose_25 : decode cX11_loose 25 = .ok (.iadd, 1) := by decide +kernel
theorem dX11_loose_26 : decode cX11_loose 26 = .ok (.sipush 9999, 3) := by decide +kernel
theorem dX11_loose_29 : decode cX11_loose 29 = .ok (.if_icmp .le 9, 3) := by decide +kernel
theorem dX11_loose_32 : decode cX11_loose 32 = .ok (.aload_n 0, 1) := by decide +kernel
theorem dX11_loose_33 : decode cX11_loose 33 = .ok (.iconst 3, 1) := by decide +kernel
theorem dX11_loose_34 : decode cX11_loose 34 = .ok (.invokevirtual 89, 3) := by decide +kernel
theorem dX11_loose_37 : decode cX11_loose 37 = .ok (.ireturn, 1) := by decide +kernel
theorem dX11_loose_38 : decode cX11_loose 38 = .ok (.iconst 0, 1) := by decide +kernel
theorem dX11_loose_39 : decode cX11_loose 39 = .ok (.istore_n 2, 1) := by decide +kernel
theorem dX11_loose_40 : decode cX11_loose 40 = .ok (.iload_n 2, 1) := by decide +kernel
theorem dX11_loose_41 : decode cX11_loose 41 = .ok (.iload_n 1, 1) := by decide +kernel
theorem dX11_loose_42 : decode cX11_loose 42 = .ok (.if_icmp .ge 23, 3) := by decide +kernel
theorem dX11_loose_45 : decode cX11_loose 45 = .ok (.aload_n 0, 1) := by decide +kernel
theorem dX11_loose_46 : decode cX11_loose 46 = .ok (.getfield 75, 3) := by decide +kernel
theorem dX11_loose_49 : decode cX11_loose 49 = .ok (.invokevirtual 203, 3) := by decide +kernel
theorem dX11_loose_52 : decode cX11_loose 52 = .ok (.aload_n 0, 1) := by decide +kernel
theorem dX11_loose_53 : decode cX11_loose 53 = .ok (.getfield 75, 3) := by decide +kernel
theorem dX11_loose_56 : decode cX11_loose 56 = .ok (.invokevirtual 206, 3) := by decide +kernel
theorem dX11_loose_59 : decode cX11_loose 59 = .ok (.iinc 2 1, 3) := by decide +kernel
theorem dX11_loose_62 : decode cX11_loose 62 = .ok (.goto (-22), 3) := by decide +kernel
theorem dX11_loose_65 : decode cX11_loose 65 = .ok (.aload_n 0, 1) := by decide +kernel
theorem dX11_loose_66 : decode cX11_loose 66 = .ok (.getfield 75, 3) := by decide +kernel
theorem dX11_loose_69 : decode cX11_loose 69 = .ok (.invokevirtual 199, 3) := by decide +kernel
theorem dX11_loose_72 : decode cX11_loose 72 = .ok (.ireturn, 1) := by decide +kernel
theorem dX11_day_0 : decode cX11_day 0 = .ok (.iload_n 1, 1) := by decide +kernel
theorem dX11_day_1 : decode cX11_day 1 = .ok (.sipush 9999, 3) := by decide +kernel
theorem dX11_day_4 : decode cX11_day 4 = .ok (.invokestatic 85, 3) := by decide +kernel
theorem dX11_day_7 : decode cX11_day 7 = .ok (.ifCond .eq 9, 3) := by decide +kernel
theorem dX11_day_10 : decode cX11_day 10 = .ok (.aload_n 0, 1) := by decide +kernel
theorem dX11_day_11 : decode cX11_day 11 = .ok (.iconst 1, 1) := by decide +kernel
theorem dX11_day_12 : decode cX11_day 12 = .ok (.invokevirtual 89, 3) := by decide +kernel
theorem dX11_day_15 : decode cX11_day 15 = .ok (.ireturn, 1) := by decide +kernel
theorem dX11_day_16 : decode cX11_day 16 = .ok (.aload_n 0, 1) := by decide +kernel
theorem dX11_day_17 : decode cX11_day 17 = .ok (.getfield 75, 3) := by decide +kernel
theorem dX11_day_20 : decode cX11_day 20 = .ok (.getfield 193, 3) := by decide +kernel
theorem dX11_day_23 : decode cX11_day 23 = .ok (.istore_n 2, 1) := by decide +kernel
theorem dX11_day_24 : decode cX11_day 24 = .ok (.aload_n 0, 1) := by decide +kernel
theorem dX11_day_25 : decode cX11_day 25 = .ok (.getfield 75, 3) := by decide +kernel
theorem dX11_day_28 : decode cX11_day 28 = .ok (.iload_n 1, 1) := by decide +kernel
theorem dX11_day_29 : decode cX11_day 29 = .ok (.putfield 193, 3) := by decide +kernel
theorem dX11_day_32 : decode cX11_day 32 = .ok (.iload_n 2, 1) := by decide +kernel
theorem dX11_day_33 : decode cX11_day 33 = .ok (.ireturn, 1) := by decide +kernel
theorem dX11_seed_0 : decode cX11_seed 0 = .ok (.aload_n 0, 1) := by decide +kernel
theorem dX11_seed_1 : decode cX11_seed 1 = .ok (.getfield 75, 3) := by decide +kernel
theorem dX11_seed_4 : decode cX11_seed 4 = .ok (.getfield 209, 3) := by decide +kernel
theorem dX11_seed_7 : decode cX11_seed 7 = .ok (.istore_n 2, 1) := by decide +kernel
theorem dX11_seed_8 : decode cX11_seed 8 = .ok (.aload_n 0, 1) := by decide +kernel
theorem dX11_seed_9 : decode cX11_seed 9 = .ok (.getfield 75, 3) := by decide +kernel
theorem dX11_seed_12 : decode cX11_seed 12 = .ok (.iload_n 1, 1) := by decide +kernel
theorem dX11_seed_13 : decode cX11_seed 13 = .ok (.putfield 209, 3) := by decide +kernel
theorem dX11_seed_16 : decode cX11_seed 16 = .ok (.iload_n 2, 1) := by decide +kernel
theorem dX11_seed_17 : decode cX11_seed 17 = .ok (.ireturn, 1) := by decide +kernel
theorem dX11_then_0 : decode cX11_then 0 = .ok (.iload_n 1, 1) := by decide +kernel
theorem dX11_then_1 : decode cX11_then 1 = .ok (.bipush 15, 2) := by decide +kernel
theorem dX11_then_3 : decode cX11_then 3 = .ok (.invokestatic 85, 3) := by decide +kernel
theorem dX11_then_6 : decode cX11_then 6 = .ok (.ifCond .ne 12, 3) := by decide +kernel
theorem dX11_then_9 : decode cX11_then 9 = .ok (.iload_n 2, 1) := by decide +kernel
theorem dX11_then_10 : decode cX11_then 10 = .ok (.bipush 60, 2) := by decide +kernel
theorem dX11_then_12 : decode cX11_then 12 = .ok (.invokestatic 85, 3) := by decide +kernel
theorem dX11_then_15 : decode cX11_then 15 = .ok (.ifCond .eq 9, 3) := by decide +kernel
theorem dX11_then_18 : decode cX11_then 18 = .ok (.aload_n 0, 1) := by decide +kernel
theorem dX11_then_19 : decode cX11_then 19 = .ok (.iconst 1, 1) := by decide +kernel
theorem dX11_then_20 : decode cX11_then 20 = .ok (.invokevirtual 89, 3) := by decide +kernel
theorem dX11_then_23 : decode cX11_then 23 = .ok (.ireturn, 1) := by decide +kernel
theorem dX11_then_24 : decode cX11_then 24 = .ok (.aload_n 0, 1) := by decide +kernel
theorem dX11_then_25 : decode cX11_then 25 = .ok (.getfield 79, 3) := by decide +kernel
theorem dX11_then_28 : decode cX11_then 28 = .ok (.aload_n 0, 1) := by decide +kernel
theorem dX11_then_29 : decode cX11_then 29 = .ok (.getfield 75, 3) := by decide +kernel
theorem dX11_then_32 : decode cX11_then 32 = .ok (.invokevirtual 212, 3) := by decide +kernel
theorem dX11_then_35 : decode cX11_then 35 = .ok (.aload_n 0, 1) := by decide +kernel
theorem dX11_then_36 : decode cX11_then 36 = .ok (.getfield 79, 3) := by decide +kernel
theorem dX11_then_39 : decode cX11_then 39 = .ok (.iload_n 2, 1) := by decide +kernel
theorem dX11_then_40 : decode cX11_then 40 = .ok (.invokevirtual 215, 3) := by decide +kernel
theorem dX11_then_43 : decode cX11_then 43 = .ok (.aload_n 0, 1) := by decide +kernel
theorem dX11_then_44 : decode cX11_then 44 = .ok (.getfield 79, 3) := by decide +kernel
theorem dX11_then_47 : decode cX11_then 47 = .ok (.getfield 218, 3) := by decide +kernel
theorem dX11_then_50 : decode cX11_then 50 = .ok (.iload_n 1, 1) := by decide +kernel
theorem dX11_then_51 : decode cX11_then 51 = .ok (.iaload, 1) := by decide +kernel
theorem dX11_then_52 : decode cX11_then 52 = .ok (.ireturn, 1) := by decide +kernel
theorem dX11_learns_0 : decode cX11_learns 0 = .ok (.aload_n 0, 1) := by decide +kernel
theorem dX11_learns_1 : decode cX11_learns 1 = .ok (.iload_n 1, 1) := by decide +kernel
theorem dX11_learns_2 : decode cX11_learns 2 = .ok (.invokevirtual 101, 3) := by decide +kernel
theorem dX11_learns_5 : decode cX11_learns 5 = .ok (.ifCond .ne 12, 3) := by decide +kernel
theorem dX11_learns_8 : decode cX11_learns 8 = .ok (.iload_n 2, 1) := by decide +kernel
theorem dX11_learns_9 : decode cX11_learns 9 = .ok (.bipush 60, 2) := by decide +kernel
theorem dX11_learns_11 : decode cX11_learns 11 = .ok (.invokestatic 85, 3) := by decide +kernel
theorem dX11_learns_14 : decode cX11_learns 14 = .ok (.ifCond .eq 9, 3) := by decide +kernel
theorem dX11_learns_17 : decode cX11_learns 17 = .ok (.aload_n 0, 1) := by decide +kernel
theorem dX11_learns_18 : decode cX11_learns 18 = .ok (.iconst 1, 1) := by decide +kernel
theorem dX11_learns_19 : decode cX11_learns 19 = .ok (.invokevirtual 89, 3) := by decide +kernel
theorem dX11_learns_22 : decode cX11_learns 22 = .ok (.ireturn, 1) := by decide +kernel
theorem dX11_learns_23 : decode cX11_learns 23 = .ok (.aload_n 0, 1) := by decide +kernel
theorem dX11_learns_24 : decode cX11_learns 24 = .ok (.getfield 79, 3) := by decide +kernel
theorem dX11_learns_27 : decode cX11_learns 27 = .ok (.aload_n 0, 1) := by decide +kernel
theorem dX11_learns_28 : decode cX11_learns 28 = .ok (.getfield 75, 3) := by decide +kernel
theorem dX11_learns_31 : decode cX11_learns 31 = .ok (.invokevirtual 212, 3) := by decide +kernel
theorem dX11_learns_34 : decode cX11_learns 34 = .ok (.aload_n 0, 1) := by decide +kernel
theorem dX11_learns_35 : decode cX11_learns 35 = .ok (.getfield 79, 3) := by decide +kernel
theorem dX11_learns_38 : decode cX11_learns 38 = .ok (.iload_n 2, 1) := by decide +kernel
theorem dX11_learns_39 : decode cX11_learns 39 = .ok (.invokevirtual 196, 3) := by decide +kernel
theorem dX11_learns_42 : decode cX11_learns 42 = .ok (.aload_n 0, 1) := by decide +kernel
theorem dX11_learns_43 : decode cX11_learns 43 = .ok (.getfield 79, 3) := by decide +kernel
theorem dX11_learns_46 : decode cX11_learns 46 = .ok (.getfield 117, 3) := by decide +kernel
theorem dX11_learns_49 : decode cX11_learns 49 = .ok (.iload_n 1, 1) := by decide +kernel
theorem dX11_learns_50 : decode cX11_learns 50 = .ok (.iaload, 1) := by decide +kernel
theorem dX11_learns_51 : decode cX11_learns 51 = .ok (.ireturn, 1) := by decide +kernel
theorem dX11_soonest_0 : decode cX11_soonest 0 = .ok (.iload_n 1, 1) := by decide +kernel
theorem dX11_soonest_1 : decode cX11_soonest 1 = .ok (.bipush 11, 2) := by decide +kernel
theorem dX11_soonest_3 : decode cX11_soonest 3 = .ok (.invokestatic 85, 3) := by decide +kernel
theorem dX11_soonest_6 : decode cX11_soonest 6 = .ok (.ifCond .eq 9, 3) := by decide +kernel
theorem dX11_soonest_9 : decode cX11_soonest 9 = .ok (.aload_n 0, 1) := by decide +kernel
theorem dX11_soonest_10 : decode cX11_soonest 10 = .ok (.iconst 1, 1) := by decide +kernel
theorem dX11_soonest_11 : decode cX11_soonest 11 = .ok (.invokevirtual 89, 3) := by decide +kernel
theorem dX11_soonest_14 : decode cX11_soonest 14 = .ok (.ireturn, 1) := by decide +kernel
theorem dX11_soonest_15 : decode cX11_soonest 15 = .ok (.aload_n 0, 1) := by decide +kernel
theorem dX11_soonest_16 : decode cX11_soonest 16 = .ok (.getfield 79, 3) := by decide +kernel
theorem dX11_soonest_19 : decode cX11_soonest 19 = .ok (.aload_n 0, 1) := by decide +kernel
theorem dX11_soonest_20 : decode cX11_soonest 20 = .ok (.getfield 75, 3) := by decide +kernel
theorem dX11_soonest_23 : decode cX11_soonest 23 = .ok (.invokevirtual 212, 3) := by decide +kernel
theorem dX11_soonest_26 : decode cX11_soonest 26 = .ok (.iconst 0, 1) := by decide +kernel
theorem dX11_soonest_27 : decode cX11_soonest 27 = .ok (.istore_n 2, 1) := by decide +kernel
theorem dX11_soonest_28 : decode cX11_soonest 28 = .ok (.iload_n 2, 1) := by decide +kernel
theorem dX11_soonest_29 : decode cX11_soonest 29 = .ok (.bipush 60, 2) := by decide +kernel
theorem dX11_soonest_31 : decode cX11_soonest 31 = .ok (.if_icmp .gt 33, 3) := by decide +kernel
theorem dX11_soonest_34 : decode cX11_soonest 34 = .ok (.aload_n 0, 1) := by decide +kernel
theorem dX11_soonest_35 : decode cX11_soonest 35 = .ok (.getfield 79, 3) := by decide +kernel
theorem dX11_soonest_38 : decode cX11_soonest 38 = .ok (.invokevirtual 199, 3) := by decide +kernel
theorem dX11_soonest_41 : decode cX11_soonest 41 = .ok (.iload_n 1, 1) := by decide +kernel
theorem dX11_soonest_42 : decode cX11_soonest 42 = .ok (.ishr, 1) := by decide +kernel
theorem dX11_soonest_43 : decode cX11_soonest 43 = .ok (.iconst 1, 1) := by decide +kernel
theorem dX11_soonest_44 : decode cX11_soonest 44 = .ok (.iand, 1) := by decide +kernel
theorem dX11_soonest_45 : decode cX11_soonest 45 = .ok (.iconst 1, 1) := by decide +kernel
theorem dX11_soonest_46 : decode cX11_soonest 46 = .ok (.if_icmp .ne 5, 3) := by decide +kernel
theorem dX11_soonest_49 : decode cX11_soonest 49 = .ok (.iload_n 2, 1) := by decide +kernel
theorem dX11_soonest_50 : decode cX11_soonest 50 = .ok (.ireturn, 1) := by decide +kernel
theorem dX11_soonest_51 : decode cX11_soonest 51 = .ok (.aload_n 0, 1) := by decide +kernel
theorem dX11_soonest_52 : decode cX11_soonest 52 = .ok (.getfield 79, 3) := by decide +kernel
theorem dX11_soonest_55 : decode cX11_soonest 55 = .ok (.invokevirtual 206, 3) := by decide +kernel
theorem dX11_soonest_58 : decode cX11_soonest 58 = .ok (.iinc 2 1, 3) := by decide +kernel
theorem dX11_soonest_61 : decode cX11_soonest 61 = .ok (.goto (-33), 3) := by decide +kernel
theorem dX11_soonest_64 : decode cX11_soonest 64 = .ok (.aload_n 0, 1) := by decide +kernel
theorem dX11_soonest_65 : decode cX11_soonest 65 = .ok (.iconst 2, 1) := by decide +kernel
theorem dX11_soonest_66 : decode cX11_soonest 66 = .ok (.invokevirtual 89, 3) := by decide +kernel
theorem dX11_soonest_69 : decode cX11_soonest 69 = .ok (.ireturn, 1) := by decide +kernel
theorem dX11_stiltsFor_0 : decode cX11_stiltsFor 0 = .ok (.aload_n 0, 1) := by decide +kernel
theorem dX11_stiltsFor_1 : decode cX11_stiltsFor 1 = .ok (.iload_n 1, 1) := by decide +kernel
theorem dX11_stiltsFor_2 : decode cX11_stiltsFor 2 = .ok (.invokevirtual 101, 3) := by decide +kernel
theorem dX11_stiltsFor_5 : decode cX11_stiltsFor 5 = .ok (.ifCond .ne 12, 3) := by decide +kernel
theorem dX11_stiltsFor_8 : decode cX11_stiltsFor 8 = .ok (.iload_n 2, 1) := by decide +kernel
theorem dX11_stiltsFor_9 : decode cX11_stiltsFor 9 = .ok (.bipush 40, 2) := by decide +kernel
theorem dX11_stiltsFor_11 : decode cX11_stiltsFor 11 = .ok (.invokestatic 85, 3) := by decide +kernel
theorem dX11_stiltsFor_14 : decode cX11_stiltsFor 14 = .ok (.ifCond .eq 9, 3) := by decide +kernel
theorem dX11_stiltsFor_17 : decode cX11_stiltsFor 17 = .ok (.aload_n 0, 1) := by decide +kernel
theorem dX11_stiltsFor_18 : decode cX11_stiltsFor 18 = .ok (.iconst 1, 1) := by decide +kernel
theorem dX11_stiltsFor_19 : decode cX11_stiltsFor 19 = .ok (.invokevirtual 89, 3) := by decide +kernel
theorem dX11_stiltsFor_22 : decode cX11_stiltsFor 22 = .ok (.ireturn, 1) := by decide +kernel
theorem dX11_stiltsFor_23 : decode cX11_stiltsFor 23 = .ok (.iconst 0, 1) := by decide +kernel
theorem dX11_stiltsFor_24 : decode cX11_stiltsFor 24 = .ok (.istore_n 3, 1) := by decide +kernel
theorem dX11_stiltsFor_25 : decode cX11_stiltsFor 25 = .ok (.iload_n 3, 1) := by decide +kernel
theorem dX11_stiltsFor_26 : decode cX11_stiltsFor 26 = .ok (.bipush 20, 2) := by decide +kernel
theorem dX11_stiltsFor_28 : decode cX11_stiltsFor 28 = .ok (.if_icmp .gt 21, 3) := by decide +kernel
theorem dX11_stiltsFor_31 : decode cX11_stiltsFor 31 = .ok (.aload_n 0, 1) := by decide +kernel
theorem dX11_stiltsFor_32 : decode cX11_stiltsFor 32 = .ok (.iload_n 1, 1) := by decide +kernel
theorem dX11_stiltsFor_33 : decode cX11_stiltsFor 33 = .ok (.iload_n 2, 1) := by decide +kernel
theorem dX11_stiltsFor_34 : decode cX11_stiltsFor 34 = .ok (.iload_n 3, 1) := by decide +kernel
theorem dX11_stiltsFor_35 : decode cX11_stiltsFor 35 = .ok (.invokevirtual 221, 3) := by decide +kernel
theorem dX11_stiltsFor_38 : decode cX11_stiltsFor 38 = .ok (.ifCond .eq 5, 3) := by decide +kernel
theorem dX11_stiltsFor_41 : decode cX11_stiltsFor 41 = .ok (.iload_n 3, 1) := by decide +kernel
theorem dX11_stiltsFor_42 : decode cX11_stiltsFor 42 = .ok (.ireturn, 1) := by decide +kernel
theorem dX11_stiltsFor_43 : decode cX11_stiltsFor 43 = .ok (.iinc 3 1, 3) := by decide +kernel
theorem dX11_stiltsFor_46 : decode cX11_stiltsFor 46 = .ok (.goto (-21), 3) := by decide +kernel
theorem dX11_stiltsFor_49 : decode cX11_stiltsFor 49 = .ok (.aload_n 0, 1) := by decide +kernel
theorem dX11_stiltsFor_50 : decode cX11_stiltsFor 50 = .ok (.iconst 2, 1) := by decide +kernel
theorem dX11_stiltsFor_51 : decode cX11_stiltsFor 51 = .ok (.invokevirtual 89, 3) := by decide +kernel
theorem dX11_stiltsFor_54 : decode cX11_stiltsFor 54 = .ok (.ireturn, 1) := by decide +kernel
theorem dX11_wallFor_0 : decode cX11_wallFor 0 = .ok (.iload_n 1, 1) := by decide +kernel
theorem dX11_wallFor_1 : decode cX11_wallFor 1 = .ok (.bipush 15, 2) := by decide +kernel
theorem dX11_wallFor_3 : decode cX11_wallFor 3 = .ok (.invokestatic 85, 3) := by decide +kernel
theorem dX11_wallFor_6 : decode cX11_wallFor 6 = .ok (.ifCond .ne 20, 3) := by decide +kernel
theorem dX11_wallFor_9 : decode cX11_wallFor 9 = .ok (.iload_n 2, 1) := by decide +kernel
theorem dX11_wallFor_10 : decode cX11_wallFor 10 = .ok (.bipush 40, 2) := by decide +kernel
theorem dX11_wallFor_12 : decode cX11_wallFor 12 = .ok (.invokestatic 85, 3) := by decide +kernel
theorem dX11_wallFor_15 : decode cX11_wallFor 15 = .ok (.ifCond .ne 11, 3) := by decide +kernel
theorem dX11_wallFor_18 : decode cX11_wallFor 18 = .ok (.iload_n 3, 1) := by decide +kernel
theorem dX11_wallFor_19 : decode cX11_wallFor 19 = .ok (.iconst 1, 1) := by decide +kernel
theorem dX11_wallFor_20 : decode cX11_wallFor 20 = .ok (.invokestatic 85, 3) := by decide +kernel
theorem dX11_wallFor_23 : decode cX11_wallFor 23 = .ok (.ifCond .eq 9, 3) := by decide +kernel
theorem dX11_wallFor_26 : decode cX11_wallFor 26 = .ok (.aload_n 0, 1) := by decide +kernel
theorem dX11_wallFor_27 : decode cX11_wallFor 27 = .ok (.iconst 1, 1) := by decide +kernel
theorem dX11_wallFor_28 : decode cX11_wallFor 28 = .ok (.invokevirtual 89, 3) := by decide +kernel
theorem dX11_wallFor_31 : decode cX11_wallFor 31 = .ok (.ireturn, 1) := by decide +kernel
theorem dX11_wallFor_32 : decode cX11_wallFor 32 = .ok (.aload_n 0, 1) := by decide +kernel
theorem dX11_wallFor_33 : decode cX11_wallFor 33 = .ok (.getfield 79, 3) := by decide +kernel
theorem dX11_wallFor_36 : decode cX11_wallFor 36 = .ok (.aload_n 0, 1) := by decide +kernel
theorem dX11_wallFor_37 : decode cX11_wallFor 37 = .ok (.getfield 75, 3) := by decide +kernel
theorem dX11_wallFor_40 : decode cX11_wallFor 40 = .ok (.invokevirtual 212, 3) := by decide +kernel
theorem dX11_wallFor_43 : decode cX11_wallFor 43 = .ok (.aload_n 0, 1) := by decide +kernel
theorem dX11_wallFor_44 : decode cX11_wallFor 44 = .ok (.getfield 79, 3) := by decide +kernel
theorem dX11_wallFor_47 : decode cX11_wallFor 47 = .ok (.iload_n 2, 1) := by decide +kernel
theorem dX11_wallFor_48 : decode cX11_wallFor 48 = .ok (.invokevirtual 215, 3) := by decide +kernel
theorem dX11_wallFor_51 : decode cX11_wallFor 51 = .ok (.aload_n 0, 1) := by decide +kernel
theorem dX11_wallFor_52 : decode cX11_wallFor 52 = .ok (.getfield 79, 3) := by decide +kernel
theorem dX11_wallFor_55 : decode cX11_wallFor 55 = .ok (.getfield 218, 3) := by decide +kernel
theorem dX11_wallFor_58 : decode cX11_wallFor 58 = .ok (.iload_n 1, 1) := by decide +kernel
theorem dX11_wallFor_59 : decode cX11_wallFor 59 = .ok (.iaload, 1) := by decide +kernel
theorem dX11_wallFor_60 : decode cX11_wallFor 60 = .ok (.istore 4, 2) := by decide +kernel
theorem dX11_wallFor_62 : decode cX11_wallFor 62 = .ok (.iconst (-1), 1) := by decide +kernel
theorem dX11_wallFor_63 : decode cX11_wallFor 63 = .ok (.istore 5, 2) := by decide +kernel
theorem dX11_wallFor_65 : decode cX11_wallFor 65 = .ok (.iconst 0, 1) := by decide +kernel
theorem dX11_wallFor_66 : decode cX11_wallFor 66 = .ok (.istore 6, 2) := by decide +kernel
theorem dX11_wallFor_68 : decode cX11_wallFor 68 = .ok (.iload 6, 2) := by decide +kernel
theorem dX11_wallFor_70 : decode cX11_wallFor 70 = .ok (.bipush 16, 2) := by decide +kernel
theorem dX11_wallFor_72 : decode cX11_wallFor 72 = .ok (.if_icmp .ge 68, 3) := by decide +kernel
theorem dX11_wallFor_75 : decode cX11_wallFor 75 = .ok (.aload_n 0, 1) := by decide +kernel
theorem dX11_wallFor_76 : decode cX11_wallFor 76 = .ok (.getfield 79, 3) := by decide +kernel
theorem dX11_wallFor_79 : decode cX11_wallFor 79 = .ok (.aload_n 0, 1) := by decide +kernel
theorem dX11_wallFor_80 : decode cX11_wallFor 80 = .ok (.getfield 75, 3) := by decide +kernel
theorem dX11_wallFor_83 : decode cX11_wallFor 83 = .ok (.invokevirtual 212, 3) := by decide +kernel
theorem dX11_wallFor_86 : decode cX11_wallFor 86 = .ok (.aload_n 0, 1) := by decide +kernel
theorem dX11_wallFor_87 : decode cX11_wallFor 87 = .ok (.getfield 79, 3) := by decide +kernel
theorem dX11_wallFor_90 : decode cX11_wallFor 90 = .ok (.getfield 225, 3) := by decide +kernel
theorem dX11_wallFor_93 : decode cX11_wallFor 93 = .ok (.iload 6, 2) := by decide +kernel
theorem dX11_wallFor_95 : decode cX11_wallFor 95 = .ok (.iconst 1, 1) := by decide +kernel
theorem dX11_wallFor_96 : decode cX11_wallFor 96 = .ok (.iastore, 1) := by decide +kernel
theorem dX11_wallFor_97 : decode cX11_wallFor 97 = .ok (.aload_n 0, 1) := by decide +kernel
theorem dX11_wallFor_98 : decode cX11_wallFor 98 = .ok (.getfield 79, 3) := by decide +kernel
theorem dX11_wallFor_101 : decode cX11_wallFor 101 = .ok (.iload_n 2, 1) := by decide +kernel
theorem dX11_wallFor_102 : decode cX11_wallFor 102 = .ok (.invokevirtual 215, 3) := by decide +kernel
theorem dX11_wallFor_105 : decode cX11_wallFor 105 = .ok (.aload_n 0, 1) := by decide +kernel
theorem dX11_wallFor_106 : decode cX11_wallFor 106 = .ok (.getfield 79, 3) := by decide +kernel
theorem dX11_wallFor_109 : decode cX11_wallFor 109 = .ok (.getfield 218, 3) := by decide +kernel
theorem dX11_wallFor_112 : decode cX11_wallFor 112 = .ok (.iload_n 1, 1) := by decide +kernel
theorem dX11_wallFor_113 : decode cX11_wallFor 113 = .ok (.iaload, 1) := by decide +kernel
theorem dX11_wallFor_114 : decode cX11_wallFor 114 = .ok (.iload 4, 2) := by decide +kernel
theorem dX11_wallFor_116 : decode cX11_wallFor 116 = .ok (.if_icmp .ge 18, 3) := by decide +kernel
theorem dX11_wallFor_119 : decode cX11_wallFor 119 = .ok (.aload_n 0, 1) := by decide +kernel
theorem dX11_wallFor_120 : decode cX11_wallFor 120 = .ok (.getfield 79, 3) := by decide +kernel
theorem dX11_wallFor_123 : decode cX11_wallFor 123 = .ok (.getfield 218, 3) := by decide +kernel
theorem dX11_wallFor_126 : decode cX11_wallFor 126 = .ok (.iload_n 1, 1) := by decide +kernel
theorem dX11_wallFor_127 : decode cX11_wallFor 127 = .ok (.iaload, 1) := by decide +kernel
theorem dX11_wallFor_128 : decode cX11_wallFor 128 = .ok (.istore 4, 2) := by decide +kernel
theorem dX11_wallFor_130 : decode cX11_wallFor 130 = .ok (.iload 6, 2) := by decide +kernel
theorem dX11_wallFor_132 : decode cX11_wallFor 132 = .ok (.istore 5, 2) := by decide +kernel
theorem dX11_wallFor_134 : decode cX11_wallFor 134 = .ok (.iinc 6 1, 3) := by decide +kernel
theorem dX11_wallFor_137 : decode cX11_wallFor 137 = .ok (.goto (-69), 3) := by decide +kernel
theorem dX11_wallFor_140 : decode cX11_wallFor 140 = .ok (.iload 5, 2) := by decide +kernel
theorem dX11_wallFor_142 : decode cX11_wallFor 142 = .ok (.ifCond .ge 9, 3) := by decide +kernel
theorem dX11_wallFor_145 : decode cX11_wallFor 145 = .ok (.aload_n 0, 1) := by decide +kernel
theorem dX11_wallFor_146 : decode cX11_wallFor 146 = .ok (.iconst 2, 1) := by decide +kernel
theorem dX11_wallFor_147 : decode cX11_wallFor 147 = .ok (.invokevirtual 89, 3) := by decide +kernel
theorem dX11_wallFor_150 : decode cX11_wallFor 150 = .ok (.ireturn, 1) := by decide +kernel
theorem dX11_wallFor_151 : decode cX11_wallFor 151 = .ok (.iload_n 3, 1) := by decide +kernel
theorem dX11_wallFor_152 : decode cX11_wallFor 152 = .ok (.ifCond .ne 8, 3) := by decide +kernel
theorem dX11_wallFor_155 : decode cX11_wallFor 155 = .ok (.iload 5, 2) := by decide +kernel
theorem dX11_wallFor_157 : decode cX11_wallFor 157 = .ok (.goto 5, 3) := by decide +kernel
theorem dX11_wallFor_160 : decode cX11_wallFor 160 = .ok (.iload 4, 2) := by decide +kernel
theorem dX11_wallFor_162 : decode cX11_wallFor 162 = .ok (.ireturn, 1) := by decide +kernel
theorem dX11_springFor_0 : decode cX11_springFor 0 = .ok (.iload_n 1, 1) := by decide +kernel
theorem dX11_springFor_1 : decode cX11_springFor 1 = .ok (.bipush 40, 2) := by decide +kernel
theorem dX11_springFor_3 : decode cX11_springFor 3 = .ok (.invokestatic 85, 3) := by decide +kernel
theorem dX11_springFor_6 : decode cX11_springFor 6 = .ok (.ifCond .ne 11, 3) := by decide +kernel
theorem dX11_springFor_9 : decode cX11_springFor 9 = .ok (.iload_n 2, 1) := by decide +kernel
theorem dX11_springFor_10 : decode cX11_springFor 10 = .ok (.iconst 1, 1) := by decide +kernel
theorem dX11_springFor_11 : decode cX11_springFor 11 = .ok (.invokestatic 85, 3) := by decide +kernel
theorem dX11_springFor_14 : decode cX11_springFor 14 = .ok (.ifCond .eq 9, 3) := by decide +kernel
theorem dX11_springFor_17 : decode cX11_springFor 17 = .ok (.aload_n 0, 1) := by decide +kernel
theorem dX11_springFor_18 : decode cX11_springFor 18 = .ok (.iconst 1, 1) := by decide +kernel
theorem dX11_springFor_19 : decode cX11_springFor 19 = .ok (.invokevirtual 89, 3) := by decide +kernel
theorem dX11_springFor_22 : decode cX11_springFor 22 = .ok (.ireturn, 1) := by decide +kernel
theorem dX11_springFor_23 : decode cX11_springFor 23 = .ok (.bipush 13, 2) := by decide +kernel
theorem dX11_springFor_25 : decode cX11_springFor 25 = .ok (.istore_n 3, 1) := by decide +kernel
theorem dX11_springFor_26 : decode cX11_springFor 26 = .ok (.iconst 0, 1) := by decide +kernel
theorem dX11_springFor_27 : decode cX11_springFor 27 = .ok (.istore 4, 2) := by decide +kernel
theorem dX11_springFor_29 : decode cX11_springFor 29 = .ok (.iconst 0, 1) := by decide +kernel
theorem dX11_springFor_30 : decode cX11_springFor 30 = .ok (.istore 5, 2) := by decide +kernel
theorem dX11_springFor_32 : decode cX11_springFor 32 = .ok (.iload 5, 2) := by decide +kernel
theorem dX11_springFor_34 : decode cX11_springFor 34 = .ok (.bipush 16, 2) := by decide +kernel
theorem dX11_springFor_36 : decode cX11_springFor 36 = .ok (.if_icmp .ge 62, 3) := by decide +kernel
theorem dX11_springFor_39 : decode cX11_springFor 39 = .ok (.aload_n 0, 1) := by decide +kernel
theorem dX11_springFor_40 : decode cX11_springFor 40 = .ok (.getfield 79, 3) := by decide +kernel
theorem dX11_springFor_43 : decode cX11_springFor 43 = .ok (.aload_n 0, 1) := by decide +kernel
theorem dX11_springFor_44 : decode cX11_springFor 44 = .ok (.getfield 75, 3) := by decide +kernel
theorem dX11_springFor_47 : decode cX11_springFor 47 = .ok (.invokevirtual 212, 3) := by decide +kernel
theorem dX11_springFor_50 : decode cX11_springFor 50 = .ok (.aload_n 0, 1) := by decide +kernel
theorem dX11_springFor_51 : decode cX11_springFor 51 = .ok (.getfield 79, 3) := by decide +kernel
theorem dX11_springFor_54 : decode cX11_springFor 54 = .ok (.iload 5, 2) := by decide +kernel
theorem dX11_springFor_56 : decode cX11_springFor 56 = .ok (.putfield 160, 3) := by decide +kernel
theorem dX11_springFor_59 : decode cX11_springFor 59 = .ok (.aload_n 0, 1) := by decide +kernel
theorem dX11_springFor_60 : decode cX11_springFor 60 = .ok (.getfield 79, 3) := by decide +kernel
theorem dX11_springFor_63 : decode cX11_springFor 63 = .ok (.iload_n 1, 1) := by decide +kernel
theorem dX11_springFor_64 : decode cX11_springFor 64 = .ok (.invokevirtual 196, 3) := by decide +kernel
theorem dX11_springFor_67 : decode cX11_springFor 67 = .ok (.aload_n 0, 1) := by decide +kernel
theorem dX11_springFor_68 : decode cX11_springFor 68 = .ok (.getfield 79, 3) := by decide +kernel
theorem dX11_springFor_71 : decode cX11_springFor 71 = .ok (.invokevirtual 199, 3) := by decide +kernel
theorem dX11_springFor_74 : decode cX11_springFor 74 = .ok (.invokestatic 228, 3) := by decide +kernel
theorem dX11_springFor_77 : decode cX11_springFor 77 = .ok (.istore 6, 2) := by decide +kernel
theorem dX11_springFor_79 : decode cX11_springFor 79 = .ok (.iload 6, 2) := by decide +kernel
theorem dX11_springFor_81 : decode cX11_springFor 81 = .ok (.iload_n 3, 1) := by decide +kernel
theorem dX11_springFor_82 : decode cX11_springFor 82 = .ok (.if_icmp .ge 10, 3) := by decide +kernel
theorem dX11_springFor_85 : decode cX11_springFor 85 = .ok (.iload 6, 2) := by decide +kernel
theorem dX11_springFor_87 : decode cX11_springFor 87 = .ok (.istore_n 3, 1) := by decide +kernel
theorem dX11_springFor_88 : decode cX11_springFor 88 = .ok (.iload 5, 2) := by decide +kernel
theorem dX11_springFor_90 : decode cX11_springFor 90 = .ok (.istore 4, 2) := by decide +kernel
theorem dX11_springFor_92 : decode cX11_springFor 92 = .ok (.iinc 5 1, 3) := by decide +kernel
theorem dX11_springFor_95 : decode cX11_springFor 95 = .ok (.goto (-63), 3) := by decide +kernel
theorem dX11_springFor_98 : decode cX11_springFor 98 = .ok (.iload_n 2, 1) := by decide +kernel
theorem dX11_springFor_99 : decode cX11_springFor 99 = .ok (.ifCond .ne 8, 3) := by decide +kernel
theorem dX11_springFor_102 : decode cX11_springFor 102 = .ok (.iload 4, 2) := by decide +kernel
theorem dX11_springFor_104 : decode cX11_springFor 104 = .ok (.goto 4, 3) := by decide +kernel
theorem dX11_springFor_107 : decode cX11_springFor 107 = .ok (.iload_n 3, 1) := by decide +kernel
theorem dX11_springFor_108 : decode cX11_springFor 108 = .ok (.ireturn, 1) := by decide +kernel
theorem dX11_walk_0 : decode cX11_walk 0 = .ok (.aload_n 0, 1) := by decide +kernel
theorem dX11_walk_1 : decode cX11_walk 1 = .ok (.iload_n 1, 1) := by decide +kernel
theorem dX11_walk_2 : decode cX11_walk 2 = .ok (.invokevirtual 101, 3) := by decide +kernel
theorem dX11_walk_5 : decode cX11_walk 5 = .ok (.ifCond .ne 12, 3) := by decide +kernel
theorem dX11_walk_8 : decode cX11_walk 8 = .ok (.iload_n 2, 1) := by decide +kernel
theorem dX11_walk_9 : decode cX11_walk 9 = .ok (.bipush 15, 2) := by decide +kernel
theorem dX11_walk_11 : decode cX11_walk 11 = .ok (.invokestatic 85, 3) := by decide +kernel
theorem dX11_walk_14 : decode cX11_walk 14 = .ok (.ifCond .eq 9, 3) := by decide +kernel
theorem dX11_walk_17 : decode cX11_walk 17 = .ok (.aload_n 0, 1) := by decide +kernel
theorem dX11_walk_18 : decode cX11_walk 18 = .ok (.iconst 1, 1) := by decide +kernel
theorem dX11_walk_19 : decode cX11_walk 19 = .ok (.invokevirtual 89, 3) := by decide +kernel
theorem dX11_walk_22 : decode cX11_walk 22 = .ok (.ireturn, 1) := by decide +kernel
theorem dX11_walk_23 : decode cX11_walk 23 = .ok (.aload_n 0, 1) := by decide +kernel
theorem dX11_walk_24 : decode cX11_walk 24 = .ok (.getfield 75, 3) := by decide +kernel
theorem dX11_walk_27 : decode cX11_walk 27 = .ok (.aload_n 0, 1) := by decide +kernel
theorem dX11_walk_28 : decode cX11_walk 28 = .ok (.getfield 75, 3) := by decide +kernel
theorem dX11_walk_31 : decode cX11_walk 31 = .ok (.getfield 114, 3) := by decide +kernel
theorem dX11_walk_34 : decode cX11_walk 34 = .ok (.iload_n 1, 1) := by decide +kernel
theorem dX11_walk_35 : decode cX11_walk 35 = .ok (.iaload, 1) := by decide +kernel
theorem dX11_walk_36 : decode cX11_walk 36 = .ok (.invokevirtual 233, 3) := by decide +kernel
theorem dX11_walk_39 : decode cX11_walk 39 = .ok (.istore_n 3, 1) := by decide +kernel
theorem dX11_walk_40 : decode cX11_walk 40 = .ok (.iconst 1, 1) := by decide +kernel
theorem dX11_walk_41 : decode cX11_walk 41 = .ok (.aload_n 0, 1) := by decide +kernel
theorem dX11_walk_42 : decode cX11_walk 42 = .ok (.getfield 75, 3) := by decide +kernel
theorem dX11_walk_45 : decode cX11_walk 45 = .ok (.getfield 111, 3) := by decide +kernel
theorem dX11_walk_48 : decode cX11_walk 48 = .ok (.iload_n 1, 1) := by decide +kernel
theorem dX11_walk_49 : decode cX11_walk 49 = .ok (.iaload, 1) := by decide +kernel
theorem dX11_walk_50 : decode cX11_walk 50 = .ok (.ishl, 1) := by decide +kernel
theorem dX11_walk_51 : decode cX11_walk 51 = .ok (.istore 4, 2) := by decide +kernel
theorem dX11_walk_53 : decode cX11_walk 53 = .ok (.iconst 0, 1) := by decide +kernel
theorem dX11_walk_54 : decode cX11_walk 54 = .ok (.istore 5, 2) := by decide +kernel
theorem dX11_walk_56 : decode cX11_walk 56 = .ok (.iload 5, 2) := by decide +kernel
theorem dX11_walk_58 : decode cX11_walk 58 = .ok (.bipush 16, 2) := by decide +kernel
theorem dX11_walk_60 : decode cX11_walk 60 = .ok (.if_icmp .ge 34, 3) := by decide +kernel
theorem dX11_walk_63 : decode cX11_walk 63 = .ok (.iload 4, 2) := by decide +kernel
theorem dX11_walk_65 : decode cX11_walk 65 = .ok (.iload_n 2, 1) := by decide +kernel
theorem dX11_walk_66 : decode cX11_walk 66 = .ok (.ishr, 1) := by decide +kernel
theorem dX11_walk_67 : decode cX11_walk 67 = .ok (.iconst 1, 1) := by decide +kernel
theorem dX11_walk_68 : decode cX11_walk 68 = .ok (.iand, 1) := by decide +kernel
theorem dX11_walk_69 : decode cX11_walk 69 = .ok (.iconst 1, 1) := by decide +kernel
theorem dX11_walk_70 : decode cX11_walk 70 = .ok (.if_icmp .ne 6, 3) := by decide +kernel
theorem dX11_walk_73 : decode cX11_walk 73 = .ok (.iload 5, 2) := by decide +kernel
theorem dX11_walk_75 : decode cX11_walk 75 = .ok (.ireturn, 1) := by decide +kernel
theorem dX11_walk_76 : decode cX11_walk 76 = .ok (.iload 4, 2) := by decide +kernel
theorem dX11_walk_78 : decode cX11_walk 78 = .ok (.iload 4, 2) := by decide +kernel
theorem dX11_walk_80 : decode cX11_walk 80 = .ok (.invokestatic 236, 3) := by decide +kernel
theorem dX11_walk_83 : decode cX11_walk 83 = .ok (.iload_n 3, 1) := by decide +kernel
theorem dX11_walk_84 : decode cX11_walk 84 = .ok (.iand, 1) := by decide +kernel
theorem dX11_walk_85 : decode cX11_walk 85 = .ok (.ior, 1) := by decide +kernel
theorem dX11_walk_86 : decode cX11_walk 86 = .ok (.istore 4, 2) := by decide +kernel
theorem dX11_walk_88 : decode cX11_walk 88 = .ok (.iinc 5 1, 3) := by decide +kernel
theorem dX11_walk_91 : decode cX11_walk 91 = .ok (.goto (-35), 3) := by decide +kernel
theorem dX11_walk_94 : decode cX11_walk 94 = .ok (.aload_n 0, 1) := by decide +kernel
theorem dX11_walk_95 : decode cX11_walk 95 = .ok (.iconst 2, 1) := by decide +kernel
theorem dX11_walk_96 : decode cX11_walk 96 = .ok (.invokevirtual 89, 3) := by decide +kernel
theorem dX11_walk_99 : decode cX11_walk 99 = .ok (.ireturn, 1) := by decide +kernel
theorem dX11_council_0 : decode cX11_council 0 = .ok (.iload_n 1, 1) := by decide +kernel
theorem dX11_council_1 : decode cX11_council 1 = .ok (.sipush 4095, 3) := by decide +kernel
theorem dX11_council_4 : decode cX11_council 4 = .ok (.invokestatic 85, 3) := by decide +kernel
theorem dX11_council_7 : decode cX11_council 7 = .ok (.ifCond .eq 9, 3) := by decide +kernel
theorem dX11_council_10 : decode cX11_council 10 = .ok (.aload_n 0, 1) := by decide +kernel
theorem dX11_council_11 : decode cX11_council 11 = .ok (.iconst 1, 1) := by decide +kernel
theorem dX11_council_12 : decode cX11_council 12 = .ok (.invokevirtual 89, 3) := by decide +kernel
theorem dX11_council_15 : decode cX11_council 15 = .ok (.ireturn, 1) := by decide +kernel
theorem dX11_council_16 : decode cX11_council 16 = .ok (.iconst (-1), 1) := by decide +kernel
theorem dX11_council_17 : decode cX11_council 17 = .ok (.istore_n 2, 1) := by decide +kernel
theorem dX11_council_18 : decode cX11_council 18 = .ok (.bipush 9, 2) := by decide +kernel
theorem dX11_council_20 : decode cX11_council 20 = .ok (.istore_n 3, 1) := by decide +kernel
theorem dX11_council_21 : decode cX11_council 21 = .ok (.iconst 0, 1) := by decide +kernel
theorem dX11_council_22 : decode cX11_council 22 = .ok (.istore 4, 2) := by decide +kernel
theorem dX11_council_24 : decode cX11_council 24 = .ok (.iload 4, 2) := by decide +kernel
theorem dX11_council_26 : decode cX11_council 26 = .ok (.iconst 1, 1) := by decide +kernel
theorem dX11_council_27 : decode cX11_council 27 = .ok (.aload_n 0, 1) := by decide +kernel
theorem dX11_council_28 : decode cX11_council 28 = .ok (.getfield 75, 3) := by decide +kernel
theorem dX11_council_31 : decode cX11_council 31 = .ok (.getfield 93, 3) := by decide +kernel
theorem dX11_council_34 : decode cX11_council 34 = .ok (.ishl, 1) := by decide +kernel
theorem dX11_council_35 : decode cX11_council 35 = .ok (.if_icmp .ge 44, 3) := by decide +kernel
theorem dX11_council_38 : decode cX11_council 38 = .ok (.iload 4, 2) := by decide +kernel
theorem dX11_council_40 : decode cX11_council 40 = .ok (.invokestatic 228, 3) := by decide +kernel
theorem dX11_council_43 : decode cX11_council 43 = .ok (.istore 5, 2) := by decide +kernel
theorem dX11_council_45 : decode cX11_council 45 = .ok (.iload 5, 2) := by decide +kernel
theorem dX11_council_47 : decode cX11_council 47 = .ok (.iload_n 3, 1) := by decide +kernel
theorem dX11_council_48 : decode cX11_council 48 = .ok (.if_icmp .ge 25, 3) := by decide +kernel
theorem dX11_council_51 : decode cX11_council 51 = .ok (.iload_n 1, 1) := by decide +kernel
theorem dX11_council_52 : decode cX11_council 52 = .ok (.aload_n 0, 1) := by decide +kernel
theorem dX11_council_53 : decode cX11_council 53 = .ok (.getfield 75, 3) := by decide +kernel
theorem dX11_council_56 : decode cX11_council 56 = .ok (.iload 4, 2) := by decide +kernel
theorem dX11_council_58 : decode cX11_council 58 = .ok (.invokevirtual 239, 3) := by decide +kernel
theorem dX11_council_61 : decode cX11_council 61 = .ok (.iconst (-1), 1) := by decide +kernel
theorem dX11_council_62 : decode cX11_council 62 = .ok (.ixor, 1) := by decide +kernel
theorem dX11_council_63 : decode cX11_council 63 = .ok (.iand, 1) := by decide +kernel
theorem dX11_council_64 : decode cX11_council 64 = .ok (.ifCond .ne 9, 3) := by decide +kernel
theorem dX11_council_67 : decode cX11_council 67 = .ok (.iload 5, 2) := by decide +kernel
theorem dX11_council_69 : decode cX11_council 69 = .ok (.istore_n 3, 1) := by decide +kernel
theorem dX11_council_70 : decode cX11_council 70 = .ok (.iload 4, 2) := by decide +kernel
theorem dX11_council_72 : decode cX11_council 72 = .ok (.istore_n 2, 1) := by decide +kernel
theorem dX11_council_73 : decode cX11_council 73 = .ok (.iinc 4 1, 3) := by decide +kernel
theorem dX11_council_76 : decode cX11_council 76 = .ok (.goto (-52), 3) := by decide +kernel
theorem dX11_council_79 : decode cX11_council 79 = .ok (.iload_n 2, 1) := by decide +kernel
theorem dX11_council_80 : decode cX11_council 80 = .ok (.ifCond .ge 11, 3) := by decide +kernel
theorem dX11_council_83 : decode cX11_council 83 = .ok (.aload_n 0, 1) := by decide +kernel
theorem dX11_council_84 : decode cX11_council 84 = .ok (.iconst 2, 1) := by decide +kernel
theorem dX11_council_85 : decode cX11_council 85 = .ok (.invokevirtual 89, 3) := by decide +kernel
theorem dX11_council_88 : decode cX11_council 88 = .ok (.goto 4, 3) := by decide +kernel
theorem dX11_council_91 : decode cX11_council 91 = .ok (.iload_n 2, 1) := by decide +kernel
theorem dX11_council_92 : decode cX11_council 92 = .ok (.ireturn, 1) := by decide +kernel
theorem dX11_odds_0 : decode cX11_odds 0 = .ok (.aload_n 0, 1) := by decide +kernel
theorem dX11_odds_1 : decode cX11_odds 1 = .ok (.iload_n 1, 1) := by decide +kernel
theorem dX11_odds_2 : decode cX11_odds 2 = .ok (.invokevirtual 101, 3) := by decide +kernel
theorem dX11_odds_5 : decode cX11_odds 5 = .ok (.ifCond .ne 20, 3) := by decide +kernel
theorem dX11_odds_8 : decode cX11_odds 8 = .ok (.iload_n 2, 1) := by decide +kernel
theorem dX11_odds_9 : decode cX11_odds 9 = .ok (.bipush 40, 2) := by decide +kernel
theorem dX11_odds_11 : decode cX11_odds 11 = .ok (.invokestatic 85, 3) := by decide +kernel
theorem dX11_odds_14 : decode cX11_odds 14 = .ok (.ifCond .ne 11, 3) := by decide +kernel
theorem dX11_odds_17 : decode cX11_odds 17 = .ok (.iload_n 3, 1) := by decide +kernel
theorem dX11_odds_18 : decode cX11_odds 18 = .ok (.iconst 1, 1) := by decide +kernel
theorem dX11_odds_19 : decode cX11_odds 19 = .ok (.invokestatic 85, 3) := by decide +kernel
theorem dX11_odds_22 : decode cX11_odds 22 = .ok (.ifCond .eq 9, 3) := by decide +kernel
theorem dX11_odds_25 : decode cX11_odds 25 = .ok (.aload_n 0, 1) := by decide +kernel
theorem dX11_odds_26 : decode cX11_odds 26 = .ok (.iconst 1, 1) := by decide +kernel
theorem dX11_odds_27 : decode cX11_odds 27 = .ok (.invokevirtual 89, 3) := by decide +kernel
theorem dX11_odds_30 : decode cX11_odds 30 = .ok (.ireturn, 1) := by decide +kernel
theorem dX11_odds_31 : decode cX11_odds 31 = .ok (.iconst 0, 1) := by decide +kernel
theorem dX11_odds_32 : decode cX11_odds 32 = .ok (.istore 4, 2) := by decide +kernel
theorem dX11_odds_34 : decode cX11_odds 34 = .ok (.iconst 0, 1) := by decide +kernel
theorem dX11_odds_35 : decode cX11_odds 35 = .ok (.istore 5, 2) := by decide +kernel
theorem dX11_odds_37 : decode cX11_odds 37 = .ok (.iload 5, 2) := by decide +kernel
theorem dX11_odds_39 : decode cX11_odds 39 = .ok (.bipush 16, 2) := by decide +kernel
theorem dX11_odds_41 : decode cX11_odds 41 = .ok (.if_icmp .ge 51, 3) := by decide +kernel
theorem dX11_odds_44 : decode cX11_odds 44 = .ok (.aload_n 0, 1) := by decide +kernel
theorem dX11_odds_45 : decode cX11_odds 45 = .ok (.getfield 79, 3) := by decide +kernel
theorem dX11_odds_48 : decode cX11_odds 48 = .ok (.aload_n 0, 1) := by decide +kernel
theorem dX11_odds_49 : decode cX11_odds 49 = .ok (.getfield 75, 3) := by decide +kernel
theorem dX11_odds_52 : decode cX11_odds 52 = .ok (.invokevirtual 212, 3) := by decide +kernel
theorem dX11_odds_55 : decode cX11_odds 55 = .ok (.aload_n 0, 1) := by decide +kernel
theorem dX11_odds_56 : decode cX11_odds 56 = .ok (.getfield 79, 3) := by decide +kernel
theorem dX11_odds_59 : decode cX11_odds 59 = .ok (.iload 5, 2) := by decide +kernel
theorem dX11_odds_61 : decode cX11_odds 61 = .ok (.putfield 160, 3) := by decide +kernel
theorem dX11_odds_64 : decode cX11_odds 64 = .ok (.aload_n 0, 1) := by decide +kernel
theorem dX11_odds_65 : decode cX11_odds 65 = .ok (.getfield 79, 3) := by decide +kernel
theorem dX11_odds_68 : decode cX11_odds 68 = .ok (.iload_n 2, 1) := by decide +kernel
theorem dX11_odds_69 : decode cX11_odds 69 = .ok (.invokevirtual 196, 3) := by decide +kernel
theorem dX11_odds_72 : decode cX11_odds 72 = .ok (.aload_n 0, 1) := by decide +kernel
theorem dX11_odds_73 : decode cX11_odds 73 = .ok (.getfield 79, 3) := by decide +kernel
theorem dX11_odds_76 : decode cX11_odds 76 = .ok (.iload_n 1, 1) := by decide +kernel
theorem dX11_odds_77 : decode cX11_odds 77 = .ok (.invokevirtual 120, 3) := by decide +kernel
theorem dX11_odds_80 : decode cX11_odds 80 = .ok (.ifCond .eq 6, 3) := by decide +kernel
theorem dX11_odds_83 : decode cX11_odds 83 = .ok (.iinc 4 1, 3) := by decide +kernel
theorem dX11_odds_86 : decode cX11_odds 86 = .ok (.iinc 5 1, 3) := by decide +kernel
theorem dX11_odds_89 : decode cX11_odds 89 = .ok (.goto (-52), 3) := by decide +kernel
theorem dX11_odds_92 : decode cX11_odds 92 = .ok (.iload 4, 2) := by decide +kernel
theorem dX11_odds_94 : decode cX11_odds 94 = .ok (.ifCond .ne 5, 3) := by decide +kernel
theorem dX11_odds_97 : decode cX11_odds 97 = .ok (.iload_n 3, 1) := by decide +kernel
theorem dX11_odds_98 : decode cX11_odds 98 = .ok (.ireturn, 1) := by decide +kernel
theorem dX11_odds_99 : decode cX11_odds 99 = .ok (.iload 4, 2) := by decide +kernel
theorem dX11_odds_101 : decode cX11_odds 101 = .ok (.iload 4, 2) := by decide +kernel
theorem dX11_odds_103 : decode cX11_odds 103 = .ok (.ineg, 1) := by decide +kernel
theorem dX11_odds_104 : decode cX11_odds 104 = .ok (.iand, 1) := by decide +kernel
theorem dX11_odds_105 : decode cX11_odds 105 = .ok (.istore 5, 2) := by decide +kernel
theorem dX11_odds_107 : decode cX11_odds 107 = .ok (.iload_n 3, 1) := by decide +kernel
theorem dX11_odds_108 : decode cX11_odds 108 = .ok (.ifCond .ne 11, 3) := by decide +kernel
theorem dX11_odds_111 : decode cX11_odds 111 = .ok (.iload 4, 2) := by decide +kernel
theorem dX11_odds_113 : decode cX11_odds 113 = .ok (.iload 5, 2) := by decide +kernel
theorem dX11_odds_115 : decode cX11_odds 115 = .ok (.idiv, 1) := by decide +kernel
theorem dX11_odds_116 : decode cX11_odds 116 = .ok (.goto 8, 3) := by decide +kernel
theorem dX11_odds_119 : decode cX11_odds 119 = .ok (.bipush 16, 2) := by decide +kernel
theorem dX11_odds_121 : decode cX11_odds 121 = .ok (.iload 5, 2) := by decide +kernel
theorem dX11_odds_123 : decode cX11_odds 123 = .ok (.idiv, 1) := by decide +kernel
theorem dX11_odds_124 : decode cX11_odds 124 = .ok (.ireturn, 1) := by decide +kernel
theorem dX11_fits_0 : decode cX11_fits 0 = .ok (.iload_n 1, 1) := by decide +kernel
theorem dX11_fits_1 : decode cX11_fits 1 = .ok (.iconst 3, 1) := by decide +kernel
theorem dX11_fits_2 : decode cX11_fits 2 = .ok (.invokestatic 85, 3) := by decide +kernel
theorem dX11_fits_5 : decode cX11_fits 5 = .ok (.ifCond .ne 19, 3) := by decide +kernel
theorem dX11_fits_8 : decode cX11_fits 8 = .ok (.aload_n 0, 1) := by decide +kernel
theorem dX11_fits_9 : decode cX11_fits 9 = .ok (.iload_n 2, 1) := by decide +kernel
theorem dX11_fits_10 : decode cX11_fits 10 = .ok (.invokevirtual 101, 3) := by decide +kernel
theorem dX11_fits_13 : decode cX11_fits 13 = .ok (.ifCond .ne 11, 3) := by decide +kernel
theorem dX11_fits_16 : decode cX11_fits 16 = .ok (.iload_n 3, 1) := by decide +kernel
theorem dX11_fits_17 : decode cX11_fits 17 = .ok (.iconst 1, 1) := by decide +kernel
theorem dX11_fits_18 : decode cX11_fits 18 = .ok (.invokestatic 85, 3) := by decide +kernel
theorem dX11_fits_21 : decode cX11_fits 21 = .ok (.ifCond .eq 9, 3) := by decide +kernel
theorem dX11_fits_24 : decode cX11_fits 24 = .ok (.aload_n 0, 1) := by decide +kernel
theorem dX11_fits_25 : decode cX11_fits 25 = .ok (.iconst 1, 1) := by decide +kernel
theorem dX11_fits_26 : decode cX11_fits 26 = .ok (.invokevirtual 89, 3) := by decide +kernel
theorem dX11_fits_29 : decode cX11_fits 29 = .ok (.ireturn, 1) := by decide +kernel
theorem dX11_fits_30 : decode cX11_fits 30 = .ok (.aload_n 0, 1) := by decide +kernel
theorem dX11_fits_31 : decode cX11_fits 31 = .ok (.getfield 34, 3) := by decide +kernel
theorem dX11_fits_34 : decode cX11_fits 34 = .ok (.iload_n 1, 1) := by decide +kernel
theorem dX11_fits_35 : decode cX11_fits 35 = .ok (.aaload, 1) := by decide +kernel
theorem dX11_fits_36 : decode cX11_fits 36 = .ok (.getfield 242, 3) := by decide +kernel
theorem dX11_fits_39 : decode cX11_fits 39 = .ok (.ifCond .ne 9, 3) := by decide +kernel
theorem dX11_fits_42 : decode cX11_fits 42 = .ok (.aload_n 0, 1) := by decide +kernel
theorem dX11_fits_43 : decode cX11_fits 43 = .ok (.iconst 2, 1) := by decide +kernel
theorem dX11_fits_44 : decode cX11_fits 44 = .ok (.invokevirtual 89, 3) := by decide +kernel
theorem dX11_fits_47 : decode cX11_fits 47 = .ok (.ireturn, 1) := by decide +kernel
theorem dX11_fits_48 : decode cX11_fits 48 = .ok (.iconst 0, 1) := by decide +kernel
theorem dX11_fits_49 : decode cX11_fits 49 = .ok (.istore 4, 2) := by decide +kernel
theorem dX11_fits_51 : decode cX11_fits 51 = .ok (.iconst 0, 1) := by decide +kernel
theorem dX11_fits_52 : decode cX11_fits 52 = .ok (.istore 5, 2) := by decide +kernel
theorem dX11_fits_54 : decode cX11_fits 54 = .ok (.iload 5, 2) := by decide +kernel
theorem dX11_fits_56 : decode cX11_fits 56 = .ok (.bipush 7, 2) := by decide +kernel
theorem dX11_fits_58 : decode cX11_fits 58 = .ok (.if_icmp .ge 34, 3) := by decide +kernel
theorem dX11_fits_61 : decode cX11_fits 61 = .ok (.aload_n 0, 1) := by decide +kernel
theorem dX11_fits_62 : decode cX11_fits 62 = .ok (.aload_n 0, 1) := by decide +kernel
theorem dX11_fits_63 : decode cX11_fits 63 = .ok (.getfield 34, 3) := by decide +kernel
theorem dX11_fits_66 : decode cX11_fits 66 = .ok (.iload_n 1, 1) := by decide +kernel
theorem dX11_fits_67 : decode cX11_fits 67 = .ok (.aaload, 1) := by decide +kernel
theorem dX11_fits_68 : decode cX11_fits 68 = .ok (.iload_n 2, 1) := by decide +kernel
theorem dX11_fits_69 : decode cX11_fits 69 = .ok (.iload 5, 2) := by decide +kernel
theorem dX11_fits_71 : decode cX11_fits 71 = .ok (.invokevirtual 245, 3) := by decide +kernel
theorem dX11_fits_74 : decode cX11_fits 74 = .ok (.ifCond .eq 12, 3) := by decide +kernel
theorem dX11_fits_77 : decode cX11_fits 77 = .ok (.iload 4, 2) := by decide +kernel
theorem dX11_fits_79 : decode cX11_fits 79 = .ok (.iconst 1, 1) := by decide +kernel
theorem dX11_fits_80 : decode cX11_fits 80 = .ok (.iload 5, 2) := by decide +kernel
theorem dX11_fits_82 : decode cX11_fits 82 = .ok (.ishl, 1) := by decide +kernel
theorem dX11_fits_83 : decode cX11_fits 83 = .ok (.ior, 1) := by decide +kernel
theorem dX11_fits_84 : decode cX11_fits 84 = .ok (.istore 4, 2) := by decide +kernel
theorem dX11_fits_86 : decode cX11_fits 86 = .ok (.iinc 5 1, 3) := by decide +kernel
theorem dX11_fits_89 : decode cX11_fits 89 = .ok (.goto (-35), 3) := by decide +kernel
theorem dX11_fits_92 : decode cX11_fits 92 = .ok (.iload_n 3, 1) := by decide +kernel
theorem dX11_fits_93 : decode cX11_fits 93 = .ok (.ifCond .ne 8, 3) := by decide +kernel
theorem dX11_fits_96 : decode cX11_fits 96 = .ok (.iload 4, 2) := by decide +kernel
theorem dX11_fits_98 : decode cX11_fits 98 = .ok (.goto 8, 3) := by decide +kernel
theorem dX11_fits_101 : decode cX11_fits 101 = .ok (.iload 4, 2) := by decide +kernel
theorem dX11_fits_103 : decode cX11_fits 103 = .ok (.invokestatic 228, 3) := by decide +kernel
theorem dX11_fits_106 : decode cX11_fits 106 = .ok (.ireturn, 1) := by decide +kernel
theorem dX11_voice_0 : decode cX11_voice 0 = .ok (.aload_n 0, 1) := by decide +kernel
theorem dX11_voice_1 : decode cX11_voice 1 = .ok (.iload_n 1, 1) := by decide +kernel
theorem dX11_voice_2 : decode cX11_voice 2 = .ok (.invokevirtual 101, 3) := by decide +kernel
theorem dX11_voice_5 : decode cX11_voice 5 = .ok (.ifCond .ne 11, 3) := by decide +kernel
theorem dX11_voice_8 : decode cX11_voice 8 = .ok (.iload_n 2, 1) := by decide +kernel
theorem dX11_voice_9 : decode cX11_voice 9 = .ok (.iconst 3, 1) := by decide +kernel
theorem dX11_voice_10 : decode cX11_voice 10 = .ok (.invokestatic 85, 3) := by decide +kernel
theorem dX11_voice_13 : decode cX11_voice 13 = .ok (.ifCond .eq 9, 3) := by decide +kernel
theorem dX11_voice_16 : decode cX11_voice 16 = .ok (.aload_n 0, 1) := by decide +kernel
theorem dX11_voice_17 : decode cX11_voice 17 = .ok (.iconst 1, 1) := by decide +kernel
theorem dX11_voice_18 : decode cX11_voice 18 = .ok (.invokevirtual 89, 3) := by decide +kernel
theorem dX11_voice_21 : decode cX11_voice 21 = .ok (.ireturn, 1) := by decide +kernel
theorem dX11_voice_22 : decode cX11_voice 22 = .ok (.aload_n 0, 1) := by decide +kernel
theorem dX11_voice_23 : decode cX11_voice 23 = .ok (.getfield 41, 3) := by decide +kernel
theorem dX11_voice_26 : decode cX11_voice 26 = .ok (.iload_n 1, 1) := by decide +kernel
theorem dX11_voice_27 : decode cX11_voice 27 = .ok (.aload_n 0, 1) := by decide +kernel
theorem dX11_voice_28 : decode cX11_voice 28 = .ok (.getfield 75, 3) := by decide +kernel
theorem dX11_voice_31 : decode cX11_voice 31 = .ok (.getfield 108, 3) := by decide +kernel
theorem dX11_voice_34 : decode cX11_voice 34 = .ok (.iload_n 1, 1) := by decide +kernel
theorem dX11_voice_35 : decode cX11_voice 35 = .ok (.iaload, 1) := by decide +kernel
theorem dX11_voice_36 : decode cX11_voice 36 = .ok (.invokevirtual 249, 3) := by decide +kernel
theorem dX11_voice_39 : decode cX11_voice 39 = .ok (.aload_n 0, 1) := by decide +kernel
theorem dX11_voice_40 : decode cX11_voice 40 = .ok (.getfield 75, 3) := by decide +kernel
theorem dX11_voice_43 : decode cX11_voice 43 = .ok (.getfield 129, 3) := by decide +kernel
theorem dX11_voice_46 : decode cX11_voice 46 = .ok (.aload_n 0, 1) := by decide +kernel
theorem dX11_voice_47 : decode cX11_voice 47 = .ok (.getfield 75, 3) := by decide +kernel
theorem dX11_voice_50 : decode cX11_voice 50 = .ok (.getfield 105, 3) := by decide +kernel
theorem dX11_voice_53 : decode cX11_voice 53 = .ok (.iload_n 1, 1) := by decide +kernel
theorem dX11_voice_54 : decode cX11_voice 54 = .ok (.iaload, 1) := by decide +kernel
theorem dX11_voice_55 : decode cX11_voice 55 = .ok (.aaload, 1) := by decide +kernel
theorem dX11_voice_56 : decode cX11_voice 56 = .ok (.astore 4, 2) := by decide +kernel
theorem dX11_voice_58 : decode cX11_voice 58 = .ok (.iload_n 2, 1) := by decide +kernel
theorem dX11_voice_59 : decode cX11_voice 59 = .ok (.tableswitch 70 0 2 #[25, 40, 55], 25) := by decide +kernel
theorem dX11_voice_84 : decode cX11_voice 84 = .ok (.aload 4, 2) := by decide +kernel
theorem dX11_voice_86 : decode cX11_voice 86 = .ok (.aload_n 0, 1) := by decide +kernel
theorem dX11_voice_87 : decode cX11_voice 87 = .ok (.getfield 41, 3) := by decide +kernel
theorem dX11_voice_90 : decode cX11_voice 90 = .ok (.iload_n 3, 1) := by decide +kernel
theorem dX11_voice_91 : decode cX11_voice 91 = .ok (.invokevirtual 253, 3) := by decide +kernel
theorem dX11_voice_94 : decode cX11_voice 94 = .ok (.istore 5, 2) := by decide +kernel
theorem dX11_voice_96 : decode cX11_voice 96 = .ok (.goto 45, 3) := by decide +kernel
theorem dX11_voice_99 : decode cX11_voice 99 = .ok (.aload 4, 2) := by decide +kernel
theorem dX11_voice_101 : decode cX11_voice 101 = .ok (.aload_n 0, 1) := by decide +kernel
theorem dX11_voice_102 : decode cX11_voice 102 = .ok (.getfield 41, 3) := by decide +kernel
theorem dX11_voice_105 : decode cX11_voice 105 = .ok (.iload_n 3, 1) := by decide +kernel
theorem dX11_voice_106 : decode cX11_voice 106 = .ok (.invokevirtual 257, 3) := by decide +kernel
theorem dX11_voice_109 : decode cX11_voice 109 = .ok (.istore 5, 2) := by decide +kernel
theorem dX11_voice_111 : decode cX11_voice 111 = .ok (.goto 30, 3) := by decide +kernel
theorem dX11_voice_114 : decode cX11_voice 114 = .ok (.aload 4, 2) := by decide +kernel
theorem dX11_voice_116 : decode cX11_voice 116 = .ok (.aload_n 0, 1) := by decide +kernel
theorem dX11_voice_117 : decode cX11_voice 117 = .ok (.getfield 41, 3) := by decide +kernel
theorem dX11_voice_120 : decode cX11_voice 120 = .ok (.iload_n 3, 1) := by decide +kernel
theorem dX11_voice_121 : decode cX11_voice 121 = .ok (.invokevirtual 259, 3) := by decide +kernel
theorem dX11_voice_124 : decode cX11_voice 124 = .ok (.istore 5, 2) := by decide +kernel
theorem dX11_voice_126 : decode cX11_voice 126 = .ok (.goto 15, 3) := by decide +kernel
theorem dX11_voice_129 : decode cX11_voice 129 = .ok (.aload 4, 2) := by decide +kernel
theorem dX11_voice_131 : decode cX11_voice 131 = .ok (.aload_n 0, 1) := by decide +kernel
theorem dX11_voice_132 : decode cX11_voice 132 = .ok (.getfield 41, 3) := by decide +kernel
theorem dX11_voice_135 : decode cX11_voice 135 = .ok (.iload_n 3, 1) := by decide +kernel
theorem dX11_voice_136 : decode cX11_voice 136 = .ok (.invokevirtual 262, 3) := by decide +kernel
theorem dX11_voice_139 : decode cX11_voice 139 = .ok (.istore 5, 2) := by decide +kernel
theorem dX11_voice_141 : decode cX11_voice 141 = .ok (.aload_n 0, 1) := by decide +kernel
theorem dX11_voice_142 : decode cX11_voice 142 = .ok (.getfield 41, 3) := by decide +kernel
theorem dX11_voice_145 : decode cX11_voice 145 = .ok (.getfield 265, 3) := by decide +kernel
theorem dX11_voice_148 : decode cX11_voice 148 = .ok (.ifCond .eq 12, 3) := by decide +kernel
theorem dX11_voice_151 : decode cX11_voice 151 = .ok (.aload_n 0, 1) := by decide +kernel
theorem dX11_voice_152 : decode cX11_voice 152 = .ok (.bipush 6, 2) := by decide +kernel
theorem dX11_voice_154 : decode cX11_voice 154 = .ok (.invokevirtual 89, 3) := by decide +kernel
theorem dX11_voice_157 : decode cX11_voice 157 = .ok (.goto 5, 3) := by decide +kernel
theorem dX11_voice_160 : decode cX11_voice 160 = .ok (.iload 5, 2) := by decide +kernel
theorem dX11_voice_162 : decode cX11_voice 162 = .ok (.ireturn, 1) := by decide +kernel
theorem dX11_body_0 : decode cX11_body 0 = .ok (.iload_n 1, 1) := by decide +kernel
theorem dX11_body_1 : decode cX11_body 1 = .ok (.aload_n 0, 1) := by decide +kernel
theorem dX11_body_2 : decode cX11_body 2 = .ok (.getfield 41, 3) := by decide +kernel
theorem dX11_body_5 : decode cX11_body 5 = .ok (.getfield 269, 3) := by decide +kernel
theorem dX11_body_8 : decode cX11_body 8 = .ok (.iconst 1, 1) := by decide +kernel
theorem dX11_body_9 : decode cX11_body 9 = .ok (.isub, 1) := by decide +kernel
theorem dX11_body_10 : decode cX11_body 10 = .ok (.invokestatic 85, 3) := by decide +kernel
theorem dX11_body_13 : decode cX11_body 13 = .ok (.ifCond .eq 11, 3) := by decide +kernel
theorem dX11_body_16 : decode cX11_body 16 = .ok (.aload_n 0, 1) := by decide +kernel
theorem dX11_body_17 : decode cX11_body 17 = .ok (.iconst 2, 1) := by decide +kernel
theorem dX11_body_18 : decode cX11_body 18 = .ok (.invokevirtual 89, 3) := by decide +kernel
theorem dX11_body_21 : decode cX11_body 21 = .ok (.goto 12, 3) := by decide +kernel
theorem dX11_body_24 : decode cX11_body 24 = .ok (.aload_n 0, 1) := by decide +kernel
theorem dX11_body_25 : decode cX11_body 25 = .ok (.getfield 41, 3) := by decide +kernel
theorem dX11_body_28 : decode cX11_body 28 = .ok (.getfield 270, 3) := by decide +kernel
theorem dX11_body_31 : decode cX11_body 31 = .ok (.iload_n 1, 1) := by decide +kernel
theorem dX11_body_32 : decode cX11_body 32 = .ok (.iaload, 1) := by decide +kernel
theorem dX11_body_33 : decode cX11_body 33 = .ok (.ireturn, 1) := by decide +kernel
theorem dX11_sheet_0 : decode cX11_sheet 0 = .ok (.iload_n 1, 1) := by decide +kernel
theorem dX11_sheet_1 : decode cX11_sheet 1 = .ok (.iconst 3, 1) := by decide +kernel
theorem dX11_sheet_2 : decode cX11_sheet 2 = .ok (.invokestatic 85, 3) := by decide +kernel
theorem dX11_sheet_5 : decode cX11_sheet 5 = .ok (.ifCond .ne 25, 3) := by decide +kernel
theorem dX11_sheet_8 : decode cX11_sheet 8 = .ok (.iload_n 2, 1) := by decide +kernel
theorem dX11_sheet_9 : decode cX11_sheet 9 = .ok (.ifCond .eq 27, 3) := by decide +kernel
theorem dX11_sheet_12 : decode cX11_sheet 12 = .ok (.iload_n 2, 1) := by decide +kernel
theorem dX11_sheet_13 : decode cX11_sheet 13 = .ok (.bipush 8, 2) := by decide +kernel
theorem dX11_sheet_15 : decode cX11_sheet 15 = .ok (.if_icmp .eq 21, 3) := by decide +kernel
theorem dX11_sheet_18 : decode cX11_sheet 18 = .ok (.iload_n 2, 1) := by decide +kernel
theorem dX11_sheet_19 : decode cX11_sheet 19 = .ok (.bipush 16, 2) := by decide +kernel
theorem dX11_sheet_21 : decode cX11_sheet 21 = .ok (.if_icmp .eq 15, 3) := by decide +kernel
theorem dX11_sheet_24 : decode cX11_sheet 24 = .ok (.iload_n 2, 1) := by decide +kernel
theorem dX11_sheet_25 : decode cX11_sheet 25 = .ok (.bipush 32, 2) := by decide +kernel
theorem dX11_sheet_27 : decode cX11_sheet 27 = .ok (.if_icmp .eq 9, 3) := by decide +kernel
theorem dX11_sheet_30 : decode cX11_sheet 30 = .ok (.aload_n 0, 1) := by decide +kernel
theorem dX11_sheet_31 : decode cX11_sheet 31 = .ok (.iconst 1, 1) := by decide +kernel
theorem dX11_sheet_32 : decode cX11_sheet 32 = .ok (.invokevirtual 89, 3) := by decide +kernel
theorem dX11_sheet_35 : decode cX11_sheet 35 = .ok (.ireturn, 1) := by decide +kernel
theorem dX11_sheet_36 : decode cX11_sheet 36 = .ok (.iload_n 2, 1) := by decide +kernel
theorem dX11_sheet_37 : decode cX11_sheet 37 = .ok (.ifCond .eq 13, 3) := by decide +kernel
theorem dX11_sheet_40 : decode cX11_sheet 40 = .ok (.iload_n 3, 1) := by decide +kernel
theorem dX11_sheet_41 : decode cX11_sheet 41 = .ok (.ifCond .ge 9, 3) := by decide +kernel
theorem dX11_sheet_44 : decode cX11_sheet 44 = .ok (.aload_n 0, 1) := by decide +kernel
theorem dX11_sheet_45 : decode cX11_sheet 45 = .ok (.iconst 3, 1) := by decide +kernel
theorem dX11_sheet_46 : decode cX11_sheet 46 = .ok (.invokevirtual 89, 3) := by decide +kernel
theorem dX11_sheet_49 : decode cX11_sheet 49 = .ok (.ireturn, 1) := by decide +kernel
theorem dX11_sheet_50 : decode cX11_sheet 50 = .ok (.iload_n 2, 1) := by decide +kernel
theorem dX11_sheet_51 : decode cX11_sheet 51 = .ok (.ifCond .eq 15, 3) := by decide +kernel
theorem dX11_sheet_54 : decode cX11_sheet 54 = .ok (.iload_n 3, 1) := by decide +kernel
theorem dX11_sheet_55 : decode cX11_sheet 55 = .ok (.bipush 24, 2) := by decide +kernel
theorem dX11_sheet_57 : decode cX11_sheet 57 = .ok (.if_icmp .le 9, 3) := by decide +kernel
theorem dX11_sheet_60 : decode cX11_sheet 60 = .ok (.aload_n 0, 1) := by decide +kernel
theorem dX11_sheet_61 : decode cX11_sheet 61 = .ok (.iconst 1, 1) := by decide +kernel
theorem dX11_sheet_62 : decode cX11_sheet 62 = .ok (.invokevirtual 89, 3) := by decide +kernel
theorem dX11_sheet_65 : decode cX11_sheet 65 = .ok (.ireturn, 1) := by decide +kernel
theorem dX11_sheet_66 : decode cX11_sheet 66 = .ok (.aload_n 0, 1) := by decide +kernel
theorem dX11_sheet_67 : decode cX11_sheet 67 = .ok (.getfield 34, 3) := by decide +kernel
theorem dX11_sheet_70 : decode cX11_sheet 70 = .ok (.iload_n 1, 1) := by decide +kernel
theorem dX11_sheet_71 : decode cX11_sheet 71 = .ok (.aaload, 1) := by decide +kernel
theorem dX11_sheet_72 : decode cX11_sheet 72 = .ok (.iload_n 2, 1) := by decide +kernel
theorem dX11_sheet_73 : decode cX11_sheet 73 = .ok (.iload_n 2, 1) := by decide +kernel
theorem dX11_sheet_74 : decode cX11_sheet 74 = .ok (.ifCond .ne 7, 3) := by decide +kernel
theorem dX11_sheet_77 : decode cX11_sheet 77 = .ok (.iconst 0, 1) := by decide +kernel
theorem dX11_sheet_78 : decode cX11_sheet 78 = .ok (.goto 4, 3) := by decide +kernel
theorem dX11_sheet_81 : decode cX11_sheet 81 = .ok (.iload_n 3, 1) := by decide +kernel
theorem dX11_sheet_82 : decode cX11_sheet 82 = .ok (.invokevirtual 273, 3) := by decide +kernel
theorem dX11_sheet_85 : decode cX11_sheet 85 = .ok (.iconst 1, 1) := by decide +kernel
theorem dX11_sheet_86 : decode cX11_sheet 86 = .ok (.ireturn, 1) := by decide +kernel
theorem dX11_put_0 : decode cX11_put 0 = .ok (.iload_n 1, 1) := by decide +kernel
theorem dX11_put_1 : decode cX11_put 1 = .ok (.iconst 3, 1) := by decide +kernel
theorem dX11_put_2 : decode cX11_put 2 = .ok (.invokestatic 85, 3) := by decide +kernel
theorem dX11_put_5 : decode cX11_put 5 = .ok (.ifCond .eq 9, 3) := by decide +kernel
theorem dX11_put_8 : decode cX11_put 8 = .ok (.aload_n 0, 1) := by decide +kernel
theorem dX11_put_9 : decode cX11_put 9 = .ok (.iconst 1, 1) := by decide +kernel
theorem dX11_put_10 : decode cX11_put 10 = .ok (.invokevirtual 89, 3) := by decide +kernel
theorem dX11_put_13 : decode cX11_put 13 = .ok (.ireturn, 1) := by decide +kernel
theorem dX11_put_14 : decode cX11_put 14 = .ok (.aload_n 0, 1) := by decide +kernel
theorem dX11_put_15 : decode cX11_put 15 = .ok (.getfield 34, 3) := by decide +kernel
theorem dX11_put_18 : decode cX11_put 18 = .ok (.iload_n 1, 1) := by decide +kernel
theorem dX11_put_19 : decode cX11_put 19 = .ok (.aaload, 1) := by decide +kernel
theorem dX11_put_20 : decode cX11_put 20 = .ok (.astore 4, 2) := by decide +kernel
theorem dX11_put_22 : decode cX11_put 22 = .ok (.aload 4, 2) := by decide +kernel
theorem dX11_put_24 : decode cX11_put 24 = .ok (.getfield 242, 3) := by decide +kernel
theorem dX11_put_27 : decode cX11_put 27 = .ok (.ifCond .ne 9, 3) := by decide +kernel
theorem dX11_put_30 : decode cX11_put 30 = .ok (.aload_n 0, 1) := by decide +kernel
theorem dX11_put_31 : decode cX11_put 31 = .ok (.iconst 2, 1) := by decide +kernel
theorem dX11_put_32 : decode cX11_put 32 = .ok (.invokevirtual 89, 3) := by decide +kernel
theorem dX11_put_35 : decode cX11_put 35 = .ok (.ireturn, 1) := by decide +kernel
theorem dX11_put_36 : decode cX11_put 36 = .ok (.iload_n 2, 1) := by decide +kernel
theorem dX11_put_37 : decode cX11_put 37 = .ok (.aload 4, 2) := by decide +kernel
theorem dX11_put_39 : decode cX11_put 39 = .ok (.getfield 163, 3) := by decide +kernel
theorem dX11_put_42 : decode cX11_put 42 = .ok (.iconst 1, 1) := by decide +kernel
theorem dX11_put_43 : decode cX11_put 43 = .ok (.isub, 1) := by decide +kernel
theorem dX11_put_44 : decode cX11_put 44 = .ok (.invokestatic 85, 3) := by decide +kernel
theorem dX11_put_47 : decode cX11_put 47 = .ok (.ifCond .eq 9, 3) := by decide +kernel
theorem dX11_put_50 : decode cX11_put 50 = .ok (.aload_n 0, 1) := by decide +kernel
theorem dX11_put_51 : decode cX11_put 51 = .ok (.iconst 1, 1) := by decide +kernel
theorem dX11_put_52 : decode cX11_put 52 = .ok (.invokevirtual 89, 3) := by decide +kernel
theorem dX11_put_55 : decode cX11_put 55 = .ok (.ireturn, 1) := by decide +kernel
theorem dX11_put_56 : decode cX11_put 56 = .ok (.aload 4, 2) := by decide +kernel
theorem dX11_put_58 : decode cX11_put 58 = .ok (.getfield 276, 3) := by decide +kernel
theorem dX11_put_61 : decode cX11_put 61 = .ok (.iload_n 2, 1) := by decide +kernel
theorem dX11_put_62 : decode cX11_put 62 = .ok (.aload 4, 2) := by decide +kernel
theorem dX11_put_64 : decode cX11_put 64 = .ok (.iload_n 3, 1) := by decide +kernel
theorem dX11_put_65 : decode cX11_put 65 = .ok (.invokevirtual 279, 3) := by decide +kernel
theorem dX11_put_68 : decode cX11_put 68 = .ok (.iastore, 1) := by decide +kernel
theorem dX11_put_69 : decode cX11_put 69 = .ok (.iconst 1, 1) := by decide +kernel
theorem dX11_put_70 : decode cX11_put 70 = .ok (.ireturn, 1) := by decide +kernel
theorem dX11_move_0 : decode cX11_move 0 = .ok (.iload_n 1, 1) := by decide +kernel
theorem dX11_move_1 : decode cX11_move 1 = .ok (.iconst 3, 1) := by decide +kernel
theorem dX11_move_2 : decode cX11_move 2 = .ok (.invokestatic 85, 3) := by decide +kernel
theorem dX11_move_5 : decode cX11_move 5 = .ok (.ifCond .ne 11, 3) := by decide +kernel
theorem dX11_move_8 : decode cX11_move 8 = .ok (.iload_n 3, 1) := by decide +kernel
theorem dX11_move_9 : decode cX11_move 9 = .ok (.iconst 3, 1) := by decide +kernel
theorem dX11_move_10 : decode cX11_move 10 = .ok (.invokestatic 85, 3) := by decide +kernel
theorem dX11_move_13 : decode cX11_move 13 = .ok (.ifCond .eq 9, 3) := by decide +kernel
theorem dX11_move_16 : decode cX11_move 16 = .ok (.aload_n 0, 1) := by decide +kernel
theorem dX11_move_17 : decode cX11_move 17 = .ok (.iconst 1, 1) := by decide +kernel
theorem dX11_move_18 : decode cX11_move 18 = .ok (.invokevirtual 89, 3) := by decide +kernel
theorem dX11_move_21 : decode cX11_move 21 = .ok (.ireturn, 1) := by decide +kernel
theorem dX11_move_22 : decode cX11_move 22 = .ok (.aload_n 0, 1) := by decide +kernel
theorem dX11_move_23 : decode cX11_move 23 = .ok (.getfield 34, 3) := by decide +kernel
theorem dX11_move_26 : decode cX11_move 26 = .ok (.iload_n 1, 1) := by decide +kernel
theorem dX11_move_27 : decode cX11_move 27 = .ok (.aaload, 1) := by decide +kernel
theorem dX11_move_28 : decode cX11_move 28 = .ok (.astore 6, 2) := by decide +kernel
theorem dX11_move_30 : decode cX11_move 30 = .ok (.aload_n 0, 1) := by decide +kernel
theorem dX11_move_31 : decode cX11_move 31 = .ok (.getfield 34, 3) := by decide +kernel
theorem dX11_move_34 : decode cX11_move 34 = .ok (.iload_n 3, 1) := by decide +kernel
theorem dX11_move_35 : decode cX11_move 35 = .ok (.aaload, 1) := by decide +kernel
theorem dX11_move_36 : decode cX11_move 36 = .ok (.astore 7, 2) := by decide +kernel
theorem dX11_move_38 : decode cX11_move 38 = .ok (.aload 6, 2) := by decide +kernel
theorem dX11_move_40 : decode cX11_move 40 = .ok (.getfield 242, 3) := by decide +kernel
theorem dX11_move_43 : decode cX11_move 43 = .ok (.ifCond .eq 11, 3) := by decide +kernel
theorem dX11_move_46 : decode cX11_move 46 = .ok (.aload 7, 2) := by decide +kernel
theorem dX11_move_48 : decode cX11_move 48 = .ok (.getfield 242, 3) := by decide +kernel
theorem dX11_move_51 : decode cX11_move 51 = .ok (.ifCond .ne 9, 3) := by decide +kernel
theorem dX11_move_54 : decode cX11_move 54 = .ok (.aload_n 0, 1) := by decide +kernel
theorem dX11_move_55 : decode cX11_move 55 = .ok (.iconst 2, 1) := by decide +kernel
theorem dX11_move_56 : decode cX11_move 56 = .ok (.invokevirtual 89, 3) := by decide +kernel
theorem dX11_move_59 : decode cX11_move 59 = .ok (.ireturn, 1) := by decide +kernel
theorem dX11_move_60 : decode cX11_move 60 = .ok (.aload 6, 2) := by decide +kernel
theorem dX11_move_62 : decode cX11_move 62 = .ok (.getfield 242, 3) := by decide +kernel
theorem dX11_move_65 : decode cX11_move 65 = .ok (.aload 7, 2) := by decide +kernel
theorem dX11_move_67 : decode cX11_move 67 = .ok (.getfield 242, 3) := by decide +kernel
theorem dX11_move_70 : decode cX11_move 70 = .ok (.if_icmp .eq 9, 3) := by decide +kernel
theorem dX11_move_73 : decode cX11_move 73 = .ok (.aload_n 0, 1) := by decide +kernel
theorem dX11_move_74 : decode cX11_move 74 = .ok (.iconst 5, 1) := by decide +kernel
theorem dX11_move_75 : decode cX11_move 75 = .ok (.invokevirtual 89, 3) := by decide +kernel
theorem dX11_move_78 : decode cX11_move 78 = .ok (.ireturn, 1) := by decide +kernel
theorem dX11_move_79 : decode cX11_move 79 = .ok (.iload 5, 2) := by decide +kernel
theorem dX11_move_81 : decode cX11_move 81 = .ok (.bipush 24, 2) := by decide +kernel
theorem dX11_move_83 : decode cX11_move 83 = .ok (.invokestatic 85, 3) := by decide +kernel
theorem dX11_move_86 : decode cX11_move 86 = .ok (.ifCond .ne 34, 3) := by decide +kernel
theorem dX11_move_89 : decode cX11_move 89 = .ok (.iload_n 2, 1) := by decide +kernel
theorem dX11_move_90 : decode cX11_move 90 = .ok (.aload 6, 2) := by decide +kernel
theorem dX11_move_92 : decode cX11_move 92 = .ok (.getfield 163, 3) := by decide +kernel
theorem dX11_move_95 : decode cX11_move 95 = .ok (.iload 5, 2) := by decide +kernel
theorem dX11_move_97 : decode cX11_move 97 = .ok (.isub, 1) := by decide +kernel
theorem dX11_move_98 : decode cX11_move 98 = .ok (.invokestatic 85, 3) := by decide +kernel
theorem dX11_move_101 : decode cX11_move 101 = .ok (.ifCond .ne 19, 3) := by decide +kernel
theorem dX11_move_104 : decode cX11_move 104 = .ok (.iload 4, 2) := by decide +kernel
theorem dX11_move_106 : decode cX11_move 106 = .ok (.aload 7, 2) := by decide +kernel
theorem dX11_move_108 : decode cX11_move 108 = .ok (.getfield 163, 3) := by decide +kernel
theorem dX11_move_111 : decode cX11_move 111 = .ok (.iload 5, 2) := by decide +kernel
theorem dX11_move_113 : decode cX11_move 113 = .ok (.isub, 1) := by decide +kernel
theorem dX11_move_114 : decode cX11_move 114 = .ok (.invokestatic 85, 3) := by decide +kernel
theorem dX11_move_117 : decode cX11_move 117 = .ok (.ifCond .eq 9, 3) := by decide +kernel
theorem dX11_move_120 : decode cX11_move 120 = .ok (.aload_n 0, 1) := by decide +kernel
theorem dX11_move_121 : decode cX11_move 121 = .ok (.iconst 1, 1) := by decide +kernel
theorem dX11_move_122 : decode cX11_move 122 = .ok (.invokevirtual 89, 3) := by decide +kernel
theorem dX11_move_125 : decode cX11_move 125 = .ok (.ireturn, 1) := by decide +kernel
theorem dX11_move_126 : decode cX11_move 126 = .ok (.aload 6, 2) := by decide +kernel
theorem dX11_move_128 : decode cX11_move 128 = .ok (.getfield 276, 3) := by decide +kernel
theorem dX11_move_131 : decode cX11_move 131 = .ok (.iload_n 2, 1) := by decide +kernel
theorem dX11_move_132 : decode cX11_move 132 = .ok (.aload 7, 2) := by decide +kernel
theorem dX11_move_134 : decode cX11_move 134 = .ok (.getfield 276, 3) := by decide +kernel
theorem dX11_move_137 : decode cX11_move 137 = .ok (.iload 4, 2) := by decide +kernel
theorem dX11_move_139 : decode cX11_move 139 = .ok (.iload 5, 2) := by decide +kernel
theorem dX11_move_141 : decode cX11_move 141 = .ok (.invokestatic 282, 3) := by decide +kernel
theorem dX11_move_144 : decode cX11_move 144 = .ok (.iload 5, 2) := by decide +kernel
theorem dX11_move_146 : decode cX11_move 146 = .ok (.ireturn, 1) := by decide +kernel
theorem dX11_grounds_0 : decode cX11_grounds 0 = .ok (.iload_n 1, 1) := by decide +kernel
theorem dX11_grounds_1 : decode cX11_grounds 1 = .ok (.iconst 3, 1) := by decide +kernel
theorem dX11_grounds_2 : decode cX11_grounds 2 = .ok (.invokestatic 85, 3) := by decide +kernel
theorem dX11_grounds_5 : decode cX11_grounds 5 = .ok (.ifCond .eq 9, 3) := by decide +kernel
theorem dX11_grounds_8 : decode cX11_grounds 8 = .ok (.aload_n 0, 1) := by decide +kernel
theorem dX11_grounds_9 : decode cX11_grounds 9 = .ok (.iconst 1, 1) := by decide +kernel
theorem dX11_grounds_10 : decode cX11_grounds 10 = .ok (.invokevirtual 89, 3) := by decide +kernel
theorem dX11_grounds_13 : decode cX11_grounds 13 = .ok (.ireturn, 1) := by decide +kernel
theorem dX11_grounds_14 : decode cX11_grounds 14 = .ok (.aload_n 0, 1) := by decide +kernel
theorem dX11_grounds_15 : decode cX11_grounds 15 = .ok (.getfield 34, 3) := by decide +kernel
theorem dX11_grounds_18 : decode cX11_grounds 18 = .ok (.iload_n 1, 1) := by decide +kernel
theorem dX11_grounds_19 : decode cX11_grounds 19 = .ok (.aaload, 1) := by decide +kernel
theorem dX11_grounds_20 : decode cX11_grounds 20 = .ok (.astore_n 2, 1) := by decide +kernel
theorem dX11_grounds_21 : decode cX11_grounds 21 = .ok (.aload_n 2, 1) := by decide +kernel
theorem dX11_grounds_22 : decode cX11_grounds 22 = .ok (.getfield 242, 3) := by decide +kernel
theorem dX11_grounds_25 : decode cX11_grounds 25 = .ok (.ifCond .ne 9, 3) := by decide +kernel
theorem dX11_grounds_28 : decode cX11_grounds 28 = .ok (.aload_n 0, 1) := by decide +kernel
theorem dX11_grounds_29 : decode cX11_grounds 29 = .ok (.iconst 2, 1) := by decide +kernel
theorem dX11_grounds_30 : decode cX11_grounds 30 = .ok (.invokevirtual 89, 3) := by decide +kernel
theorem dX11_grounds_33 : decode cX11_grounds 33 = .ok (.ireturn, 1) := by decide +kernel
theorem dX11_grounds_34 : decode cX11_grounds 34 = .ok (.iconst 0, 1) := by decide +kernel
theorem dX11_grounds_35 : decode cX11_grounds 35 = .ok (.istore_n 3, 1) := by decide +kernel
theorem dX11_grounds_36 : decode cX11_grounds 36 = .ok (.iload_n 3, 1) := by decide +kernel
theorem dX11_grounds_37 : decode cX11_grounds 37 = .ok (.aload_n 2, 1) := by decide +kernel
theorem dX11_grounds_38 : decode cX11_grounds 38 = .ok (.getfield 163, 3) := by decide +kernel
theorem dX11_grounds_41 : decode cX11_grounds 41 = .ok (.if_icmp .ge 44, 3) := by decide +kernel
theorem dX11_grounds_44 : decode cX11_grounds 44 = .ok (.iload_n 3, 1) := by decide +kernel
theorem dX11_grounds_45 : decode cX11_grounds 45 = .ok (.bipush 16, 2) := by decide +kernel
theorem dX11_grounds_47 : decode cX11_grounds 47 = .ok (.if_icmp .ge 38, 3) := by decide +kernel
theorem dX11_grounds_50 : decode cX11_grounds 50 = .ok (.aload_n 2, 1) := by decide +kernel
theorem dX11_grounds_51 : decode cX11_grounds 51 = .ok (.getfield 276, 3) := by decide +kernel
theorem dX11_grounds_54 : decode cX11_grounds 54 = .ok (.iload_n 3, 1) := by decide +kernel
theorem dX11_grounds_55 : decode cX11_grounds 55 = .ok (.iaload, 1) := by decide +kernel
theorem dX11_grounds_56 : decode cX11_grounds 56 = .ok (.bipush 9, 2) := by decide +kernel
theorem dX11_grounds_58 : decode cX11_grounds 58 = .ok (.invokestatic 85, 3) := by decide +kernel
theorem dX11_grounds_61 : decode cX11_grounds 61 = .ok (.ifCond .ne 24, 3) := by decide +kernel
theorem dX11_grounds_64 : decode cX11_grounds 64 = .ok (.aload_n 0, 1) := by decide +kernel
theorem dX11_grounds_65 : decode cX11_grounds 65 = .ok (.getfield 75, 3) := by decide +kernel
theorem dX11_grounds_68 : decode cX11_grounds 68 = .ok (.getfield 288, 3) := by decide +kernel
theorem dX11_grounds_71 : decode cX11_grounds 71 = .ok (.iload_n 3, 1) := by decide +kernel
theorem dX11_grounds_72 : decode cX11_grounds 72 = .ok (.aload_n 2, 1) := by decide +kernel
theorem dX11_grounds_73 : decode cX11_grounds 73 = .ok (.getfield 276, 3) := by decide +kernel
theorem dX11_grounds_76 : decode cX11_grounds 76 = .ok (.iload_n 3, 1) := by decide +kernel
theorem dX11_grounds_77 : decode cX11_grounds 77 = .ok (.iaload, 1) := by decide +kernel
theorem dX11_grounds_78 : decode cX11_grounds 78 = .ok (.iastore, 1) := by decide +kernel
theorem dX11_grounds_79 : decode cX11_grounds 79 = .ok (.iinc 3 1, 3) := by decide +kernel
theorem dX11_grounds_82 : decode cX11_grounds 82 = .ok (.goto (-46), 3) := by decide +kernel
theorem dX11_grounds_85 : decode cX11_grounds 85 = .ok (.iload_n 3, 1) := by decide +kernel
theorem dX11_grounds_86 : decode cX11_grounds 86 = .ok (.ireturn, 1) := by decide +kernel
theorem dX11_judge_0 : decode cX11_judge 0 = .ok (.iload_n 1, 1) := by decide +kernel
theorem dX11_judge_1 : decode cX11_judge 1 = .ok (.iconst 3, 1) := by decide +kernel
theorem dX11_judge_2 : decode cX11_judge 2 = .ok (.invokestatic 85, 3) := by decide +kernel
theorem dX11_judge_5 : decode cX11_judge 5 = .ok (.ifCond .eq 9, 3) := by decide +kernel
theorem dX11_judge_8 : decode cX11_judge 8 = .ok (.aload_n 0, 1) := by decide +kernel
theorem dX11_judge_9 : decode cX11_judge 9 = .ok (.iconst 1, 1) := by decide +kernel
theorem dX11_judge_10 : decode cX11_judge 10 = .ok (.invokevirtual 89, 3) := by decide +kernel
theorem dX11_judge_13 : decode cX11_judge 13 = .ok (.ireturn, 1) := by decide +kernel
theorem dX11_judge_14 : decode cX11_judge 14 = .ok (.aload_n 0, 1) := by decide +kernel
theorem dX11_judge_15 : decode cX11_judge 15 = .ok (.getfield 34, 3) := by decide +kernel
theorem dX11_judge_18 : decode cX11_judge 18 = .ok (.iload_n 1, 1) := by decide +kernel
theorem dX11_judge_19 : decode cX11_judge 19 = .ok (.aaload, 1) := by decide +kernel
theorem dX11_judge_20 : decode cX11_judge 20 = .ok (.astore_n 2, 1) := by decide +kernel
theorem dX11_judge_21 : decode cX11_judge 21 = .ok (.aload_n 2, 1) := by decide +kernel
theorem dX11_judge_22 : decode cX11_judge 22 = .ok (.getfield 242, 3) := by decide +kernel
theorem dX11_judge_25 : decode cX11_judge 25 = .ok (.ifCond .ne 9, 3) := by decide +kernel
theorem dX11_judge_28 : decode cX11_judge 28 = .ok (.aload_n 0, 1) := by decide +kernel
theorem dX11_judge_29 : decode cX11_judge 29 = .ok (.iconst 2, 1) := by decide +kernel
theorem dX11_judge_30 : decode cX11_judge 30 = .ok (.invokevirtual 89, 3) := by decide +kernel
theorem dX11_judge_33 : decode cX11_judge 33 = .ok (.ireturn, 1) := by decide +kernel
theorem dX11_judge_34 : decode cX11_judge 34 = .ok (.iconst 0, 1) := by decide +kernel
theorem dX11_judge_35 : decode cX11_judge 35 = .ok (.istore_n 3, 1) := by decide +kernel
theorem dX11_judge_36 : decode cX11_judge 36 = .ok (.iload_n 3, 1) := by decide +kernel
theorem dX11_judge_37 : decode cX11_judge 37 = .ok (.aload_n 2, 1) := by decide +kernel
theorem dX11_judge_38 : decode cX11_judge 38 = .ok (.getfield 163, 3) := by decide +kernel
theorem dX11_judge_41 : decode cX11_judge 41 = .ok (.if_icmp .ge 33, 3) := by decide +kernel
theorem dX11_judge_44 : decode cX11_judge 44 = .ok (.iload_n 3, 1) := by decide +kernel
theorem dX11_judge_45 : decode cX11_judge 45 = .ok (.bipush 16, 2) := by decide +kernel
theorem dX11_judge_47 : decode cX11_judge 47 = .ok (.if_icmp .ge 27, 3) := by decide +kernel
theorem dX11_judge_50 : decode cX11_judge 50 = .ok (.aload_n 2, 1) := by decide +kernel
theorem dX11_judge_51 : decode cX11_judge 51 = .ok (.getfield 276, 3) := by decide +kernel
theorem dX11_judge_54 : decode cX11_judge 54 = .ok (.iload_n 3, 1) := by decide +kernel
theorem dX11_judge_55 : decode cX11_judge 55 = .ok (.iaload, 1) := by decide +kernel
theorem dX11_judge_56 : decode cX11_judge 56 = .ok (.aload_n 0, 1) := by decide +kernel
theorem dX11_judge_57 : decode cX11_judge 57 = .ok (.getfield 75, 3) := by decide +kernel
theorem dX11_judge_60 : decode cX11_judge 60 = .ok (.getfield 218, 3) := by decide +kernel
theorem dX11_judge_63 : decode cX11_judge 63 = .ok (.iload_n 3, 1) := by decide +kernel
theorem dX11_judge_64 : decode cX11_judge 64 = .ok (.iaload, 1) := by decide +kernel
theorem dX11_judge_65 : decode cX11_judge 65 = .ok (.if_icmp .ne 9, 3) := by decide +kernel
theorem dX11_judge_68 : decode cX11_judge 68 = .ok (.iinc 3 1, 3) := by decide +kernel
theorem dX11_judge_71 : decode cX11_judge 71 = .ok (.goto (-35), 3) := by decide +kernel
theorem dX11_judge_74 : decode cX11_judge 74 = .ok (.iload_n 3, 1) := by decide +kernel
theorem dX11_judge_75 : decode cX11_judge 75 = .ok (.ireturn, 1) := by decide +kernel
theorem dX11_image_0 : decode cX11_image 0 = .ok (.aload_n 0, 1) := by decide +kernel
theorem dX11_image_1 : decode cX11_image 1 = .ok (.getfield 82, 3) := by decide +kernel
theorem dX11_image_4 : decode cX11_image 4 = .ok (.aload_n 0, 1) := by decide +kernel
theorem dX11_image_5 : decode cX11_image 5 = .ok (.getfield 75, 3) := by decide +kernel
theorem dX11_image_8 : decode cX11_image 8 = .ok (.invokevirtual 212, 3) := by decide +kernel
theorem dX11_image_11 : decode cX11_image 11 = .ok (.aload_n 0, 1) := by decide +kernel
theorem dX11_image_12 : decode cX11_image 12 = .ok (.getfield 82, 3) := by decide +kernel
theorem dX11_image_15 : decode cX11_image 15 = .ok (.aload_n 0, 1) := by decide +kernel
theorem dX11_image_16 : decode cX11_image 16 = .ok (.getfield 75, 3) := by decide +kernel
theorem dX11_image_19 : decode cX11_image 19 = .ok (.invokevirtual 291, 3) := by decide +kernel
theorem dX11_image_22 : decode cX11_image 22 = .ok (.aload_n 0, 1) := by decide +kernel
theorem dX11_image_23 : decode cX11_image 23 = .ok (.getfield 18, 3) := by decide +kernel
theorem dX11_image_26 : decode cX11_image 26 = .ok (.aload_n 0, 1) := by decide +kernel
theorem dX11_image_27 : decode cX11_image 27 = .ok (.getfield 14, 3) := by decide +kernel
theorem dX11_image_30 : decode cX11_image 30 = .ok (.invokevirtual 294, 3) := by decide +kernel
theorem dX11_image_33 : decode cX11_image 33 = .ok (.aload_n 0, 1) := by decide +kernel
theorem dX11_image_34 : decode cX11_image 34 = .ok (.getfield 24, 3) := by decide +kernel
theorem dX11_image_37 : decode cX11_image 37 = .ok (.aload_n 0, 1) := by decide +kernel
theorem dX11_image_38 : decode cX11_image 38 = .ok (.getfield 21, 3) := by decide +kernel
theorem dX11_image_41 : decode cX11_image 41 = .ok (.invokevirtual 294, 3) := by decide +kernel
theorem dX11_image_44 : decode cX11_image 44 = .ok (.aload_n 0, 1) := by decide +kernel
theorem dX11_image_45 : decode cX11_image 45 = .ok (.dup, 1) := by decide +kernel
theorem dX11_image_46 : decode cX11_image 46 = .ok (.getfield 297, 3) := by decide +kernel
theorem dX11_image_49 : decode cX11_image 49 = .ok (.iconst 1, 1) := by decide +kernel
theorem dX11_image_50 : decode cX11_image 50 = .ok (.iadd, 1) := by decide +kernel
theorem dX11_image_51 : decode cX11_image 51 = .ok (.putfield 297, 3) := by decide +kernel
theorem dX11_image_54 : decode cX11_image 54 = .ok (.aload_n 0, 1) := by decide +kernel
theorem dX11_image_55 : decode cX11_image 55 = .ok (.getfield 297, 3) := by decide +kernel
theorem dX11_image_58 : decode cX11_image 58 = .ok (.ireturn, 1) := by decide +kernel
theorem dX11_restore_0 : decode cX11_restore 0 = .ok (.aload_n 0, 1) := by decide +kernel
theorem dX11_restore_1 : decode cX11_restore 1 = .ok (.getfield 297, 3) := by decide +kernel
theorem dX11_restore_4 : decode cX11_restore 4 = .ok (.ifCond .ne 9, 3) := by decide +kernel
theorem dX11_restore_7 : decode cX11_restore 7 = .ok (.aload_n 0, 1) := by decide +kernel
theorem dX11_restore_8 : decode cX11_restore 8 = .ok (.iconst 2, 1) := by decide +kernel
theorem dX11_restore_9 : decode cX11_restore 9 = .ok (.invokevirtual 89, 3) := by decide +kernel
theorem dX11_restore_12 : decode cX11_restore 12 = .ok (.ireturn, 1) := by decide +kernel
theorem dX11_restore_13 : decode cX11_restore 13 = .ok (.aload_n 0, 1) := by decide +kernel
theorem dX11_restore_14 : decode cX11_restore 14 = .ok (.getfield 75, 3) := by decide +kernel
theorem dX11_restore_17 : decode cX11_restore 17 = .ok (.aload_n 0, 1) := by decide +kernel
theorem dX11_restore_18 : decode cX11_restore 18 = .ok (.getfield 82, 3) := by decide +kernel
theorem dX11_restore_21 : decode cX11_restore 21 = .ok (.invokevirtual 212, 3) := by decide +kernel
theorem dX11_restore_24 : decode cX11_restore 24 = .ok (.aload_n 0, 1) := by decide +kernel
theorem dX11_restore_25 : decode cX11_restore 25 = .ok (.getfield 75, 3) := by decide +kernel
theorem dX11_restore_28 : decode cX11_restore 28 = .ok (.aload_n 0, 1) := by decide +kernel
theorem dX11_restore_29 : decode cX11_restore 29 = .ok (.getfield 82, 3) := by decide +kernel
theorem dX11_restore_32 : decode cX11_restore 32 = .ok (.invokevirtual 291, 3) := by decide +kernel
theorem dX11_restore_35 : decode cX11_restore 35 = .ok (.aload_n 0, 1) := by decide +kernel
theorem dX11_restore_36 : decode cX11_restore 36 = .ok (.getfield 14, 3) := by decide +kernel
theorem dX11_restore_39 : decode cX11_restore 39 = .ok (.aload_n 0, 1) := by decide +kernel
theorem dX11_restore_40 : decode cX11_restore 40 = .ok (.getfield 18, 3) := by decide +kernel
theorem dX11_restore_43 : decode cX11_restore 43 = .ok (.invokevirtual 294, 3) := by decide +kernel
theorem dX11_restore_46 : decode cX11_restore 46 = .ok (.aload_n 0, 1) := by decide +kernel
theorem dX11_restore_47 : decode cX11_restore 47 = .ok (.getfield 21, 3) := by decide +kernel
theorem dX11_restore_50 : decode cX11_restore 50 = .ok (.aload_n 0, 1) := by decide +kernel
theorem dX11_restore_51 : decode cX11_restore 51 = .ok (.getfield 24, 3) := by decide +kernel
theorem dX11_restore_54 : decode cX11_restore 54 = .ok (.invokevirtual 294, 3) := by decide +kernel
theorem dX11_restore_57 : decode cX11_restore 57 = .ok (.aload_n 0, 1) := by decide +kernel
theorem dX11_restore_58 : decode cX11_restore 58 = .ok (.getfield 75, 3) := by decide +kernel
theorem dX11_restore_61 : decode cX11_restore 61 = .ok (.getfield 193, 3) := by decide +kernel
theorem dX11_restore_64 : decode cX11_restore 64 = .ok (.ireturn, 1) := by decide +kernel
theorem dX11_tell_0 : decode cX11_tell 0 = .ok (.aload_n 0, 1) := by decide +kernel
theorem dX11_tell_1 : decode cX11_tell 1 = .ok (.getfield 21, 3) := by decide +kernel
theorem dX11_tell_4 : decode cX11_tell 4 = .ok (.getfield 163, 3) := by decide +kernel
theorem dX11_tell_7 : decode cX11_tell 7 = .ok (.bipush 24, 2) := by decide +kernel
theorem dX11_tell_9 : decode cX11_tell 9 = .ok (.if_icmp .lt 9, 3) := by decide +kernel
theorem dX11_tell_12 : decode cX11_tell 12 = .ok (.aload_n 0, 1) := by decide +kernel
theorem dX11_tell_13 : decode cX11_tell 13 = .ok (.iconst 4, 1) := by decide +kernel
theorem dX11_tell_14 : decode cX11_tell 14 = .ok (.invokevirtual 89, 3) := by decide +kernel
theorem dX11_tell_17 : decode cX11_tell 17 = .ok (.ireturn, 1) := by decide +kernel
theorem dX11_tell_18 : decode cX11_tell 18 = .ok (.aload_n 0, 1) := by decide +kernel
theorem dX11_tell_19 : decode cX11_tell 19 = .ok (.getfield 21, 3) := by decide +kernel
theorem dX11_tell_22 : decode cX11_tell 22 = .ok (.iload_n 1, 1) := by decide +kernel
theorem dX11_tell_23 : decode cX11_tell 23 = .ok (.invokevirtual 166, 3) := by decide +kernel
theorem dX11_tell_26 : decode cX11_tell 26 = .ok (.aload_n 0, 1) := by decide +kernel
theorem dX11_tell_27 : decode cX11_tell 27 = .ok (.getfield 21, 3) := by decide +kernel
theorem dX11_tell_30 : decode cX11_tell 30 = .ok (.getfield 163, 3) := by decide +kernel
theorem dX11_tell_33 : decode cX11_tell 33 = .ok (.ireturn, 1) := by decide +kernel
theorem dX11_check_0 : decode cX11_check 0 = .ok (.aload_n 0, 1) := by decide +kernel
theorem dX11_check_1 : decode cX11_check 1 = .ok (.getfield 21, 3) := by decide +kernel
theorem dX11_check_4 : decode cX11_check 4 = .ok (.getfield 163, 3) := by decide +kernel
theorem dX11_check_7 : decode cX11_check 7 = .ok (.istore_n 1, 1) := by decide +kernel
theorem dX11_check_8 : decode cX11_check 8 = .ok (.aload_n 0, 1) := by decide +kernel
theorem dX11_check_9 : decode cX11_check 9 = .ok (.getfield 21, 3) := by decide +kernel
theorem dX11_check_12 : decode cX11_check 12 = .ok (.iconst 0, 1) := by decide +kernel
theorem dX11_check_13 : decode cX11_check 13 = .ok (.putfield 163, 3) := by decide +kernel
theorem dX11_check_16 : decode cX11_check 16 = .ok (.iconst 0, 1) := by decide +kernel
theorem dX11_check_17 : decode cX11_check 17 = .ok (.istore_n 2, 1) := by decide +kernel
theorem dX11_check_18 : decode cX11_check 18 = .ok (.iload_n 2, 1) := by decide +kernel
theorem dX11_check_19 : decode cX11_check 19 = .ok (.iload_n 1, 1) := by decide +kernel
theorem dX11_check_20 : decode cX11_check 20 = .ok (.if_icmp .ge 41, 3) := by decide +kernel
theorem dX11_check_23 : decode cX11_check 23 = .ok (.aload_n 0, 1) := by decide +kernel
theorem dX11_check_24 : decode cX11_check 24 = .ok (.iload_n 2, 1) := by decide +kernel
theorem dX11_check_25 : decode cX11_check 25 = .ok (.invokevirtual 101, 3) := by decide +kernel
theorem dX11_check_28 : decode cX11_check 28 = .ok (.ifCond .ne 23, 3) := by decide +kernel
theorem dX11_check_31 : decode cX11_check 31 = .ok (.aload_n 0, 1) := by decide +kernel
theorem dX11_check_32 : decode cX11_check 32 = .ok (.getfield 21, 3) := by decide +kernel
theorem dX11_check_35 : decode cX11_check 35 = .ok (.getfield 276, 3) := by decide +kernel
theorem dX11_check_38 : decode cX11_check 38 = .ok (.iload_n 2, 1) := by decide +kernel
theorem dX11_check_39 : decode cX11_check 39 = .ok (.iaload, 1) := by decide +kernel
theorem dX11_check_40 : decode cX11_check 40 = .ok (.aload_n 0, 1) := by decide +kernel
theorem dX11_check_41 : decode cX11_check 41 = .ok (.getfield 75, 3) := by decide +kernel
theorem dX11_check_44 : decode cX11_check 44 = .ok (.iload_n 2, 1) := by decide +kernel
theorem dX11_check_45 : decode cX11_check 45 = .ok (.invokevirtual 126, 3) := by decide +kernel
theorem dX11_check_48 : decode cX11_check 48 = .ok (.if_icmp .eq 7, 3) := by decide +kernel
theorem dX11_check_51 : decode cX11_check 51 = .ok (.iconst 1, 1) := by decide +kernel
theorem dX11_check_52 : decode cX11_check 52 = .ok (.iload_n 2, 1) := by decide +kernel
theorem dX11_check_53 : decode cX11_check 53 = .ok (.iadd, 1) := by decide +kernel
theorem dX11_check_54 : decode cX11_check 54 = .ok (.ireturn, 1) := by decide +kernel
theorem dX11_check_55 : decode cX11_check 55 = .ok (.iinc 2 1, 3) := by decide +kernel
theorem dX11_check_58 : decode cX11_check 58 = .ok (.goto (-40), 3) := by decide +kernel
theorem dX11_check_61 : decode cX11_check 61 = .ok (.iconst 0, 1) := by decide +kernel
theorem dX11_check_62 : decode cX11_check 62 = .ok (.ireturn, 1) := by decide +kernel
theorem dX11_count_0 : decode cX11_count 0 = .ok (.iload_n 1, 1) := by decide +kernel
theorem dX11_count_1 : decode cX11_count 1 = .ok (.tableswitch 147 0 10 #[59, 67, 75, 83, 91, 99, 107, 115, 123, 131, 139], 59) := by decide +kernel
theorem dX11_count_60 : decode cX11_count 60 = .ok (.aload_n 0, 1) := by decide +kernel
theorem dX11_count_61 : decode cX11_count 61 = .ok (.getfield 75, 3) := by decide +kernel
theorem dX11_count_64 : decode cX11_count 64 = .ok (.getfield 93, 3) := by decide +kernel
theorem dX11_count_67 : decode cX11_count 67 = .ok (.ireturn, 1) := by decide +kernel
theorem dX11_count_68 : decode cX11_count 68 = .ok (.aload_n 0, 1) := by decide +kernel
theorem dX11_count_69 : decode cX11_count 69 = .ok (.getfield 75, 3) := by decide +kernel
theorem dX11_count_72 : decode cX11_count 72 = .ok (.getfield 193, 3) := by decide +kernel
theorem dX11_count_75 : decode cX11_count 75 = .ok (.ireturn, 1) := by decide +kernel
theorem dX11_count_76 : decode cX11_count 76 = .ok (.aload_n 0, 1) := by decide +kernel
theorem dX11_count_77 : decode cX11_count 77 = .ok (.getfield 75, 3) := by decide +kernel
theorem dX11_count_80 : decode cX11_count 80 = .ok (.getfield 160, 3) := by decide +kernel
theorem dX11_count_83 : decode cX11_count 83 = .ok (.ireturn, 1) := by decide +kernel
theorem dX11_count_84 : decode cX11_count 84 = .ok (.aload_n 0, 1) := by decide +kernel
theorem dX11_count_85 : decode cX11_count 85 = .ok (.getfield 75, 3) := by decide +kernel
theorem dX11_count_88 : decode cX11_count 88 = .ok (.invokevirtual 300, 3) := by decide +kernel
theorem dX11_count_91 : decode cX11_count 91 = .ok (.ireturn, 1) := by decide +kernel
theorem dX11_count_92 : decode cX11_count 92 = .ok (.aload_n 0, 1) := by decide +kernel
theorem dX11_count_93 : decode cX11_count 93 = .ok (.getfield 75, 3) := by decide +kernel
theorem dX11_count_96 : decode cX11_count 96 = .ok (.invokevirtual 303, 3) := by decide +kernel
theorem dX11_count_99 : decode cX11_count 99 = .ok (.ireturn, 1) := by decide +kernel
theorem dX11_count_100 : decode cX11_count 100 = .ok (.aload_n 0, 1) := by decide +kernel
theorem dX11_count_101 : decode cX11_count 101 = .ok (.getfield 75, 3) := by decide +kernel
theorem dX11_count_104 : decode cX11_count 104 = .ok (.invokevirtual 199, 3) := by decide +kernel
theorem dX11_count_107 : decode cX11_count 107 = .ok (.ireturn, 1) := by decide +kernel
theorem dX11_count_108 : decode cX11_count 108 = .ok (.aload_n 0, 1) := by decide +kernel
theorem dX11_count_109 : decode cX11_count 109 = .ok (.getfield 75, 3) := by decide +kernel
theorem dX11_count_112 : decode cX11_count 112 = .ok (.invokevirtual 306, 3) := by decide +kernel
theorem dX11_count_115 : decode cX11_count 115 = .ok (.ireturn, 1) := by decide +kernel
theorem dX11_count_116 : decode cX11_count 116 = .ok (.aload_n 0, 1) := by decide +kernel
theorem dX11_count_117 : decode cX11_count 117 = .ok (.getfield 14, 3) := by decide +kernel
theorem dX11_count_120 : decode cX11_count 120 = .ok (.getfield 163, 3) := by decide +kernel
theorem dX11_count_123 : decode cX11_count 123 = .ok (.ireturn, 1) := by decide +kernel
theorem dX11_count_124 : decode cX11_count 124 = .ok (.aload_n 0, 1) := by decide +kernel
theorem dX11_count_125 : decode cX11_count 125 = .ok (.getfield 21, 3) := by decide +kernel
theorem dX11_count_128 : decode cX11_count 128 = .ok (.getfield 163, 3) := by decide +kernel
theorem dX11_count_131 : decode cX11_count 131 = .ok (.ireturn, 1) := by decide +kernel
theorem dX11_count_132 : decode cX11_count 132 = .ok (.aload_n 0, 1) := by decide +kernel
theorem dX11_count_133 : decode cX11_count 133 = .ok (.getfield 41, 3) := by decide +kernel
theorem dX11_count_136 : decode cX11_count 136 = .ok (.getfield 269, 3) := by decide +kernel
theorem dX11_count_139 : decode cX11_count 139 = .ok (.ireturn, 1) := by decide +kernel
theorem dX11_count_140 : decode cX11_count 140 = .ok (.aload_n 0, 1) := by decide +kernel
theorem dX11_count_141 : decode cX11_count 141 = .ok (.getfield 75, 3) := by decide +kernel
theorem dX11_count_144 : decode cX11_count 144 = .ok (.getfield 209, 3) := by decide +kernel
theorem dX11_count_147 : decode cX11_count 147 = .ok (.ireturn, 1) := by decide +kernel
theorem dX11_count_148 : decode cX11_count 148 = .ok (.aload_n 0, 1) := by decide +kernel
theorem dX11_count_149 : decode cX11_count 149 = .ok (.iconst 1, 1) := by decide +kernel
theorem dX11_count_150 : decode cX11_count 150 = .ok (.invokevirtual 89, 3) := by decide +kernel
theorem dX11_count_153 : decode cX11_count 153 = .ok (.ireturn, 1) := by decide +kernel
theorem dX11_told_0 : decode cX11_told 0 = .ok (.iload_n 1, 1) := by decide +kernel
theorem dX11_told_1 : decode cX11_told 1 = .ok (.iconst 1, 1) := by decide +kernel
theorem dX11_told_2 : decode cX11_told 2 = .ok (.if_icmp .lt 9, 3) := by decide +kernel
theorem dX11_told_5 : decode cX11_told 5 = .ok (.iload_n 1, 1) := by decide +kernel
theorem dX11_told_6 : decode cX11_told 6 = .ok (.bipush 6, 2) := by decide +kernel
theorem dX11_told_8 : decode cX11_told 8 = .ok (.if_icmp .le 9, 3) := by decide +kernel
theorem dX11_told_11 : decode cX11_told 11 = .ok (.aload_n 0, 1) := by decide +kernel
theorem dX11_told_12 : decode cX11_told 12 = .ok (.iconst 1, 1) := by decide +kernel
theorem dX11_told_13 : decode cX11_told 13 = .ok (.invokevirtual 89, 3) := by decide +kernel
theorem dX11_told_16 : decode cX11_told 16 = .ok (.ireturn, 1) := by decide +kernel
theorem dX11_told_17 : decode cX11_told 17 = .ok (.aload_n 0, 1) := by decide +kernel
theorem dX11_told_18 : decode cX11_told 18 = .ok (.getfield 45, 3) := by decide +kernel
theorem dX11_told_21 : decode cX11_told 21 = .ok (.iload_n 1, 1) := by decide +kernel
theorem dX11_told_22 : decode cX11_told 22 = .ok (.iaload, 1) := by decide +kernel
theorem dX11_told_23 : decode cX11_told 23 = .ok (.ireturn, 1) := by decide +kernel
theorem dX11_refuse_0 : decode cX11_refuse 0 = .ok (.aload_n 0, 1) := by decide +kernel
theorem dX11_refuse_1 : decode cX11_refuse 1 = .ok (.getfield 45, 3) := by decide +kernel
theorem dX11_refuse_4 : decode cX11_refuse 4 = .ok (.iload_n 1, 1) := by decide +kernel
theorem dX11_refuse_5 : decode cX11_refuse 5 = .ok (.dup2, 1) := by decide +kernel
theorem dX11_refuse_6 : decode cX11_refuse 6 = .ok (.iaload, 1) := by decide +kernel
theorem dX11_refuse_7 : decode cX11_refuse 7 = .ok (.iconst 1, 1) := by decide +kernel
theorem dX11_refuse_8 : decode cX11_refuse 8 = .ok (.iadd, 1) := by decide +kernel
theorem dX11_refuse_9 : decode cX11_refuse 9 = .ok (.iastore, 1) := by decide +kernel
theorem dX11_refuse_10 : decode cX11_refuse 10 = .ok (.ldc_w 309, 3) := by decide +kernel
theorem dX11_refuse_13 : decode cX11_refuse 13 = .ok (.iload_n 1, 1) := by decide +kernel
theorem dX11_refuse_14 : decode cX11_refuse 14 = .ok (.isub, 1) := by decide +kernel
theorem dX11_refuse_15 : decode cX11_refuse 15 = .ok (.ireturn, 1) := by decide +kernel
theorem dX11_nobody_0 : decode cX11_nobody 0 = .ok (.iload_n 1, 1) := by decide +kernel
theorem dX11_nobody_1 : decode cX11_nobody 1 = .ok (.ifCond .lt 14, 3) := by decide +kernel
theorem dX11_nobody_4 : decode cX11_nobody 4 = .ok (.iload_n 1, 1) := by decide +kernel
theorem dX11_nobody_5 : decode cX11_nobody 5 = .ok (.aload_n 0, 1) := by decide +kernel
theorem dX11_nobody_6 : decode cX11_nobody 6 = .ok (.getfield 75, 3) := by decide +kernel
theorem dX11_nobody_9 : decode cX11_nobody 9 = .ok (.getfield 93, 3) := by decide +kernel
theorem dX11_nobody_12 : decode cX11_nobody 12 = .ok (.if_icmp .lt 7, 3) := by decide +kernel
theorem dX11_nobody_15 : decode cX11_nobody 15 = .ok (.iconst 1, 1) := by decide +kernel
theorem dX11_nobody_16 : decode cX11_nobody 16 = .ok (.goto 4, 3) := by decide +kernel
theorem dX11_nobody_19 : decode cX11_nobody 19 = .ok (.iconst 0, 1) := by decide +kernel
theorem dX11_nobody_20 : decode cX11_nobody 20 = .ok (.ireturn, 1) := by decide +kernel
theorem dX11_outside_0 : decode cX11_outside 0 = .ok (.iload_n 0, 1) := by decide +kernel
theorem dX11_outside_1 : decode cX11_outside 1 = .ok (.ifCond .lt 8, 3) := by decide +kernel
theorem dX11_outside_4 : decode cX11_outside 4 = .ok (.iload_n 0, 1) := by decide +kernel
theorem dX11_outside_5 : decode cX11_outside 5 = .ok (.iload_n 1, 1) := by decide +kernel
theorem dX11_outside_6 : decode cX11_outside 6 = .ok (.if_icmp .le 7, 3) := by decide +kernel
theorem dX11_outside_9 : decode cX11_outside 9 = .ok (.iconst 1, 1) := by decide +kernel
theorem dX11_outside_10 : decode cX11_outside 10 = .ok (.goto 4, 3) := by decide +kernel
theorem dX11_outside_13 : decode cX11_outside 13 = .ok (.iconst 0, 1) := by decide +kernel
theorem dX11_outside_14 : decode cX11_outside 14 = .ok (.ireturn, 1) := by decide +kernel
theorem dX11_swap_0 : decode cX11_swap 0 = .ok (.aload_n 0, 1) := by decide +kernel
theorem dX11_swap_1 : decode cX11_swap 1 = .ok (.iload_n 1, 1) := by decide +kernel
theorem dX11_swap_2 : decode cX11_swap 2 = .ok (.iaload, 1) := by decide +kernel
theorem dX11_swap_3 : decode cX11_swap 3 = .ok (.istore_n 3, 1) := by decide +kernel
theorem dX11_swap_4 : decode cX11_swap 4 = .ok (.aload_n 0, 1) := by decide +kernel
theorem dX11_swap_5 : decode cX11_swap 5 = .ok (.iload_n 1, 1) := by decide +kernel
theorem dX11_swap_6 : decode cX11_swap 6 = .ok (.iload_n 2, 1) := by decide +kernel
theorem dX11_swap_7 : decode cX11_swap 7 = .ok (.iastore, 1) := by decide +kernel
theorem dX11_swap_8 : decode cX11_swap 8 = .ok (.iload_n 3, 1) := by decide +kernel
theorem dX11_swap_9 : decode cX11_swap 9 = .ok (.ireturn, 1) := by decide +kernel
theorem dX11_textOf_0 : decode cX11_textOf 0 = .ok (.iload_n 1, 1) := by decide +kernel
theorem dX11_textOf_1 : decode cX11_textOf 1 = .ok (.ifCond .ne 13, 3) := by decide +kernel
theorem dX11_textOf_4 : decode cX11_textOf 4 = .ok (.aload_n 0, 1) := by decide +kernel
theorem dX11_textOf_5 : decode cX11_textOf 5 = .ok (.getfield 75, 3) := by decide +kernel
theorem dX11_textOf_8 : decode cX11_textOf 8 = .ok (.getfield 310, 3) := by decide +kernel
theorem dX11_textOf_11 : decode cX11_textOf 11 = .ok (.goto 10, 3) := by decide +kernel
theorem dX11_textOf_14 : decode cX11_textOf 14 = .ok (.aload_n 0, 1) := by decide +kernel
theorem dX11_textOf_15 : decode cX11_textOf 15 = .ok (.getfield 75, 3) := by decide +kernel
theorem dX11_textOf_18 : decode cX11_textOf 18 = .ok (.getfield 313, 3) := by decide +kernel
theorem dX11_textOf_21 : decode cX11_textOf 21 = .ok (.areturn, 1) := by decide +kernel
theorem dX11_isUnder_0 : decode cX11_isUnder 0 = .ok (.iload_n 1, 1) := by decide +kernel
theorem dX11_isUnder_1 : decode cX11_isUnder 1 = .ok (.tableswitch 66 0 5 #[39, 41, 46, 51, 56, 61], 39) := by decide +kernel
theorem dX11_isUnder_40 : decode cX11_isUnder 40 = .ok (.iconst 1, 1) := by decide +kernel
theorem dX11_isUnder_41 : decode cX11_isUnder 41 = .ok (.ireturn, 1) := by decide +kernel
theorem dX11_isUnder_42 : decode cX11_isUnder 42 = .ok (.aload_n 0, 1) := by decide +kernel
theorem dX11_isUnder_43 : decode cX11_isUnder 43 = .ok (.instanceof 52, 3) := by decide +kernel
theorem dX11_isUnder_46 : decode cX11_isUnder 46 = .ok (.ireturn, 1) := by decide +kernel
theorem dX11_isUnder_47 : decode cX11_isUnder 47 = .ok (.aload_n 0, 1) := by decide +kernel
theorem dX11_isUnder_48 : decode cX11_isUnder 48 = .ok (.instanceof 55, 3) := by decide +kernel
theorem dX11_isUnder_51 : decode cX11_isUnder 51 = .ok (.ireturn, 1) := by decide +kernel
theorem dX11_isUnder_52 : decode cX11_isUnder 52 = .ok (.aload_n 0, 1) := by decide +kernel
theorem dX11_isUnder_53 : decode cX11_isUnder 53 = .ok (.instanceof 58, 3) := by decide +kernel
theorem dX11_isUnder_56 : decode cX11_isUnder 56 = .ok (.ireturn, 1) := by decide +kernel
theorem dX11_isUnder_57 : decode cX11_isUnder 57 = .ok (.aload_n 0, 1) := by decide +kernel
theorem dX11_isUnder_58 : decode cX11_isUnder 58 = .ok (.instanceof 61, 3) := by decide +kernel
theorem dX11_isUnder_61 : decode cX11_isUnder 61 = .ok (.ireturn, 1) := by decide +kernel
theorem dX11_isUnder_62 : decode cX11_isUnder 62 = .ok (.aload_n 0, 1) := by decide +kernel
theorem dX11_isUnder_63 : decode cX11_isUnder 63 = .ok (.instanceof 64, 3) := by decide +kernel
theorem dX11_isUnder_66 : decode cX11_isUnder 66 = .ok (.ireturn, 1) := by decide +kernel
theorem dX11_isUnder_67 : decode cX11_isUnder 67 = .ok (.aload_n 0, 1) := by decide +kernel
theorem dX11_isUnder_68 : decode cX11_isUnder 68 = .ok (.instanceof 67, 3) := by decide +kernel
theorem dX11_isUnder_71 : decode cX11_isUnder 71 = .ok (.ireturn, 1) := by decide +kernel
theorem dX11_allBeside_0 : decode cX11_allBeside 0 = .ok (.iload_n 0, 1) := by decide +kernel
theorem dX11_allBeside_1 : decode cX11_allBeside 1 = .ok (.iconst 4, 1) := by decide +kernel
theorem dX11_allBeside_2 : decode cX11_allBeside 2 = .ok (.ishl, 1) := by decide +kernel
theorem dX11_allBeside_3 : decode cX11_allBeside 3 = .ok (.ldc_w 316, 3) := by decide +kernel
theorem dX11_allBeside_6 : decode cX11_allBeside 6 = .ok (.iand, 1) := by decide +kernel
theorem dX11_allBeside_7 : decode cX11_allBeside 7 = .ok (.iload_n 0, 1) := by decide +kernel
theorem dX11_allBeside_8 : decode cX11_allBeside 8 = .ok (.iconst 4, 1) := by decide +kernel
theorem dX11_allBeside_9 : decode cX11_allBeside 9 = .ok (.ishr, 1) := by decide +kernel
theorem dX11_allBeside_10 : decode cX11_allBeside 10 = .ok (.ior, 1) := by decide +kernel
theorem dX11_allBeside_11 : decode cX11_allBeside 11 = .ok (.iload_n 0, 1) := by decide +kernel
theorem dX11_allBeside_12 : decode cX11_allBeside 12 = .ok (.sipush 30583, 3) := by decide +kernel
theorem dX11_allBeside_15 : decode cX11_allBeside 15 = .ok (.iand, 1) := by decide +kernel
theorem dX11_allBeside_16 : decode cX11_allBeside 16 = .ok (.iconst 1, 1) := by decide +kernel
theorem dX11_allBeside_17 : decode cX11_allBeside 17 = .ok (.ishl, 1) := by decide +kernel
theorem dX11_allBeside_18 : decode cX11_allBeside 18 = .ok (.ior, 1) := by decide +kernel
theorem dX11_allBeside_19 : decode cX11_allBeside 19 = .ok (.iload_n 0, 1) := by decide +kernel
theorem dX11_allBeside_20 : decode cX11_allBeside 20 = .ok (.ldc_w 317, 3) := by decide +kernel
theorem dX11_allBeside_23 : decode cX11_allBeside 23 = .ok (.iand, 1) := by decide +kernel
theorem dX11_allBeside_24 : decode cX11_allBeside 24 = .ok (.iconst 1, 1) := by decide +kernel
theorem dX11_allBeside_25 : decode cX11_allBeside 25 = .ok (.ishr, 1) := by decide +kernel
theorem dX11_allBeside_26 : decode cX11_allBeside 26 = .ok (.ior, 1) := by decide +kernel
theorem dX11_allBeside_27 : decode cX11_allBeside 27 = .ok (.ireturn, 1) := by decide +kernel
theorem dX11_learnsNothing_0 : decode cX11_learnsNothing 0 = .ok (.aload_n 0, 1) := by decide +kernel
theorem dX11_learnsNothing_1 : decode cX11_learnsNothing 1 = .ok (.getfield 79, 3) := by decide +kernel
theorem dX11_learnsNothing_4 : decode cX11_learnsNothing 4 = .ok (.aload_n 0, 1) := by decide +kernel
theorem dX11_learnsNothing_5 : decode cX11_learnsNothing 5 = .ok (.getfield 75, 3) := by decide +kernel
theorem dX11_learnsNothing_8 : decode cX11_learnsNothing 8 = .ok (.invokevirtual 212, 3) := by decide +kernel
theorem dX11_learnsNothing_11 : decode cX11_learnsNothing 11 = .ok (.aload_n 0, 1) := by decide +kernel
theorem dX11_learnsNothing_12 : decode cX11_learnsNothing 12 = .ok (.getfield 79, 3) := by decide +kernel
theorem dX11_learnsNothing_15 : decode cX11_learnsNothing 15 = .ok (.getfield 114, 3) := by decide +kernel
theorem dX11_learnsNothing_18 : decode cX11_learnsNothing 18 = .ok (.iload_n 1, 1) := by decide +kernel
theorem dX11_learnsNothing_19 : decode cX11_learnsNothing 19 = .ok (.iload_n 3, 1) := by decide +kernel
theorem dX11_learnsNothing_20 : decode cX11_learnsNothing 20 = .ok (.iastore, 1) := by decide +kernel
theorem dX11_learnsNothing_21 : decode cX11_learnsNothing 21 = .ok (.iconst 0, 1) := by decide +kernel
theorem dX11_learnsNothing_22 : decode cX11_learnsNothing 22 = .ok (.istore 4, 2) := by decide +kernel
theorem dX11_learnsNothing_24 : decode cX11_learnsNothing 24 = .ok (.iload 4, 2) := by decide +kernel
theorem dX11_learnsNothing_26 : decode cX11_learnsNothing 26 = .ok (.iload_n 2, 1) := by decide +kernel
theorem dX11_learnsNothing_27 : decode cX11_learnsNothing 27 = .ok (.if_icmp .ge 37, 3) := by decide +kernel
theorem dX11_learnsNothing_30 : decode cX11_learnsNothing 30 = .ok (.aload_n 0, 1) := by decide +kernel
theorem dX11_learnsNothing_31 : decode cX11_learnsNothing 31 = .ok (.getfield 79, 3) := by decide +kernel
theorem dX11_learnsNothing_34 : decode cX11_learnsNothing 34 = .ok (.getfield 117, 3) := by decide +kernel
theorem dX11_learnsNothing_37 : decode cX11_learnsNothing 37 = .ok (.iload_n 1, 1) := by decide +kernel
theorem dX11_learnsNothing_38 : decode cX11_learnsNothing 38 = .ok (.iaload, 1) := by decide +kernel
theorem dX11_learnsNothing_39 : decode cX11_learnsNothing 39 = .ok (.aload_n 0, 1) := by decide +kernel
theorem dX11_learnsNothing_40 : decode cX11_learnsNothing 40 = .ok (.getfield 75, 3) := by decide +kernel
theorem dX11_learnsNothing_43 : decode cX11_learnsNothing 43 = .ok (.getfield 117, 3) := by decide +kernel
theorem dX11_learnsNothing_46 : decode cX11_learnsNothing 46 = .ok (.iload_n 1, 1) := by decide +kernel
theorem dX11_learnsNothing_47 : decode cX11_learnsNothing 47 = .ok (.iaload, 1) := by decide +kernel
