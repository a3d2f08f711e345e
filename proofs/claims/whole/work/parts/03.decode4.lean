theorem dX9_places_19 : decode cX9_places 19 = .ok (.ifCond .lt 9, 3) := by decide +kernel
theorem dX9_places_22 : decode cX9_places 22 = .ok (.iload 4, 2) := by decide +kernel
theorem dX9_places_24 : decode cX9_places 24 = .ok (.iconst 1, 1) := by decide +kernel
theorem dX9_places_25 : decode cX9_places 25 = .ok (.if_icmp .le 5, 3) := by decide +kernel
theorem dX9_places_28 : decode cX9_places 28 = .ok (.iconst (-1), 1) := by decide +kernel
theorem dX9_places_29 : decode cX9_places 29 = .ok (.ireturn, 1) := by decide +kernel
theorem dX9_places_30 : decode cX9_places 30 = .ok (.iconst 0, 1) := by decide +kernel
theorem dX9_places_31 : decode cX9_places 31 = .ok (.istore 5, 2) := by decide +kernel
theorem dX9_places_33 : decode cX9_places 33 = .ok (.iconst 0, 1) := by decide +kernel
theorem dX9_places_34 : decode cX9_places 34 = .ok (.istore 6, 2) := by decide +kernel
theorem dX9_places_36 : decode cX9_places 36 = .ok (.iload 6, 2) := by decide +kernel
theorem dX9_places_38 : decode cX9_places 38 = .ok (.aload_n 0, 1) := by decide +kernel
theorem dX9_places_39 : decode cX9_places 39 = .ok (.getfield 43, 3) := by decide +kernel
theorem dX9_places_42 : decode cX9_places 42 = .ok (.iload_n 1, 1) := by decide +kernel
theorem dX9_places_43 : decode cX9_places 43 = .ok (.iaload, 1) := by decide +kernel
theorem dX9_places_44 : decode cX9_places 44 = .ok (.if_icmp .ge 51, 3) := by decide +kernel
theorem dX9_places_47 : decode cX9_places 47 = .ok (.iload 5, 2) := by decide +kernel
theorem dX9_places_49 : decode cX9_places 49 = .ok (.iload 4, 2) := by decide +kernel
theorem dX9_places_51 : decode cX9_places 51 = .ok (.ifCond .ne 18, 3) := by decide +kernel
theorem dX9_places_54 : decode cX9_places 54 = .ok (.aload_n 0, 1) := by decide +kernel
theorem dX9_places_55 : decode cX9_places 55 = .ok (.iload_n 1, 1) := by decide +kernel
theorem dX9_places_56 : decode cX9_places 56 = .ok (.iload_n 2, 1) := by decide +kernel
theorem dX9_places_57 : decode cX9_places 57 = .ok (.iload_n 3, 1) := by decide +kernel
theorem dX9_places_58 : decode cX9_places 58 = .ok (.iload 6, 2) := by decide +kernel
theorem dX9_places_60 : decode cX9_places 60 = .ok (.invokevirtual 382, 3) := by decide +kernel
theorem dX9_places_63 : decode cX9_places 63 = .ok (.ifCond .eq 22, 3) := by decide +kernel
theorem dX9_places_66 : decode cX9_places 66 = .ok (.goto 15, 3) := by decide +kernel
theorem dX9_places_69 : decode cX9_places 69 = .ok (.aload_n 0, 1) := by decide +kernel
theorem dX9_places_70 : decode cX9_places 70 = .ok (.iload_n 1, 1) := by decide +kernel
theorem dX9_places_71 : decode cX9_places 71 = .ok (.iload_n 2, 1) := by decide +kernel
theorem dX9_places_72 : decode cX9_places 72 = .ok (.iload_n 3, 1) := by decide +kernel
theorem dX9_places_73 : decode cX9_places 73 = .ok (.iload 6, 2) := by decide +kernel
theorem dX9_places_75 : decode cX9_places 75 = .ok (.invokevirtual 385, 3) := by decide +kernel
theorem dX9_places_78 : decode cX9_places 78 = .ok (.ifCond .eq 7, 3) := by decide +kernel
theorem dX9_places_81 : decode cX9_places 81 = .ok (.iconst 1, 1) := by decide +kernel
theorem dX9_places_82 : decode cX9_places 82 = .ok (.goto 4, 3) := by decide +kernel
theorem dX9_places_85 : decode cX9_places 85 = .ok (.iconst 0, 1) := by decide +kernel
theorem dX9_places_86 : decode cX9_places 86 = .ok (.iadd, 1) := by decide +kernel
theorem dX9_places_87 : decode cX9_places 87 = .ok (.istore 5, 2) := by decide +kernel
theorem dX9_places_89 : decode cX9_places 89 = .ok (.iinc 6 1, 3) := by decide +kernel
theorem dX9_places_92 : decode cX9_places 92 = .ok (.goto (-56), 3) := by decide +kernel
theorem dX9_places_95 : decode cX9_places 95 = .ok (.iload 5, 2) := by decide +kernel
theorem dX9_places_97 : decode cX9_places 97 = .ok (.ireturn, 1) := by decide +kernel
theorem dX9_name_0 : decode cX9_name 0 = .ok (.iload_n 1, 1) := by decide +kernel
theorem dX9_name_1 : decode cX9_name 1 = .ok (.ifCond .lt 9, 3) := by decide +kernel
theorem dX9_name_4 : decode cX9_name 4 = .ok (.iload_n 1, 1) := by decide +kernel
theorem dX9_name_5 : decode cX9_name 5 = .ok (.bipush 47, 2) := by decide +kernel
theorem dX9_name_7 : decode cX9_name 7 = .ok (.if_icmp .le 5, 3) := by decide +kernel
theorem dX9_name_10 : decode cX9_name 10 = .ok (.iconst 0, 1) := by decide +kernel
theorem dX9_name_11 : decode cX9_name 11 = .ok (.ireturn, 1) := by decide +kernel
theorem dX9_name_12 : decode cX9_name 12 = .ok (.aload_n 0, 1) := by decide +kernel
theorem dX9_name_13 : decode cX9_name 13 = .ok (.getfield 150, 3) := by decide +kernel
theorem dX9_name_16 : decode cX9_name 16 = .ok (.iload_n 1, 1) := by decide +kernel
theorem dX9_name_17 : decode cX9_name 17 = .ok (.iaload, 1) := by decide +kernel
theorem dX9_name_18 : decode cX9_name 18 = .ok (.istore_n 3, 1) := by decide +kernel
theorem dX9_name_19 : decode cX9_name 19 = .ok (.aload_n 0, 1) := by decide +kernel
theorem dX9_name_20 : decode cX9_name 20 = .ok (.getfield 150, 3) := by decide +kernel
theorem dX9_name_23 : decode cX9_name 23 = .ok (.iload_n 1, 1) := by decide +kernel
theorem dX9_name_24 : decode cX9_name 24 = .ok (.iload_n 2, 1) := by decide +kernel
theorem dX9_name_25 : decode cX9_name 25 = .ok (.iastore, 1) := by decide +kernel
theorem dX9_name_26 : decode cX9_name 26 = .ok (.iload_n 3, 1) := by decide +kernel
theorem dX9_name_27 : decode cX9_name 27 = .ok (.ireturn, 1) := by decide +kernel
theorem dX9_of_0 : decode cX9_of 0 = .ok (.iload_n 1, 1) := by decide +kernel
theorem dX9_of_1 : decode cX9_of 1 = .ok (.ifCond .ge 7, 3) := by decide +kernel
theorem dX9_of_4 : decode cX9_of 4 = .ok (.iload_n 2, 1) := by decide +kernel
theorem dX9_of_5 : decode cX9_of 5 = .ok (.goto 9, 3) := by decide +kernel
theorem dX9_of_8 : decode cX9_of 8 = .ok (.aload_n 0, 1) := by decide +kernel
theorem dX9_of_9 : decode cX9_of 9 = .ok (.getfield 153, 3) := by decide +kernel
theorem dX9_of_12 : decode cX9_of 12 = .ok (.iload_n 1, 1) := by decide +kernel
theorem dX9_of_13 : decode cX9_of 13 = .ok (.iaload, 1) := by decide +kernel
theorem dX9_of_14 : decode cX9_of 14 = .ok (.ireturn, 1) := by decide +kernel
theorem dX9_work_0 : decode cX9_work 0 = .ok (.aload_n 0, 1) := by decide +kernel
theorem dX9_work_1 : decode cX9_work 1 = .ok (.getfield 162, 3) := by decide +kernel
theorem dX9_work_4 : decode cX9_work 4 = .ok (.iload_n 2, 1) := by decide +kernel
theorem dX9_work_5 : decode cX9_work 5 = .ok (.dup2, 1) := by decide +kernel
theorem dX9_work_6 : decode cX9_work 6 = .ok (.iaload, 1) := by decide +kernel
theorem dX9_work_7 : decode cX9_work 7 = .ok (.iconst 1, 1) := by decide +kernel
theorem dX9_work_8 : decode cX9_work 8 = .ok (.iadd, 1) := by decide +kernel
theorem dX9_work_9 : decode cX9_work 9 = .ok (.iastore, 1) := by decide +kernel
theorem dX9_work_10 : decode cX9_work 10 = .ok (.aload_n 0, 1) := by decide +kernel
theorem dX9_work_11 : decode cX9_work 11 = .ok (.dup, 1) := by decide +kernel
theorem dX9_work_12 : decode cX9_work 12 = .ok (.getfield 180, 3) := by decide +kernel
theorem dX9_work_15 : decode cX9_work 15 = .ok (.iconst 1, 1) := by decide +kernel
theorem dX9_work_16 : decode cX9_work 16 = .ok (.iadd, 1) := by decide +kernel
theorem dX9_work_17 : decode cX9_work 17 = .ok (.putfield 180, 3) := by decide +kernel
theorem dX9_work_20 : decode cX9_work 20 = .ok (.bipush 32, 2) := by decide +kernel
theorem dX9_work_22 : decode cX9_work 22 = .ok (.iload_n 1, 1) := by decide +kernel
theorem dX9_work_23 : decode cX9_work 23 = .ok (.imul, 1) := by decide +kernel
theorem dX9_work_24 : decode cX9_work 24 = .ok (.iload_n 2, 1) := by decide +kernel
theorem dX9_work_25 : decode cX9_work 25 = .ok (.iadd, 1) := by decide +kernel
theorem dX9_work_26 : decode cX9_work 26 = .ok (.istore_n 3, 1) := by decide +kernel
theorem dX9_work_27 : decode cX9_work 27 = .ok (.aload_n 0, 1) := by decide +kernel
theorem dX9_work_28 : decode cX9_work 28 = .ok (.aload_n 0, 1) := by decide +kernel
theorem dX9_work_29 : decode cX9_work 29 = .ok (.getfield 100, 3) := by decide +kernel
theorem dX9_work_32 : decode cX9_work 32 = .ok (.iload_n 3, 1) := by decide +kernel
theorem dX9_work_33 : decode cX9_work 33 = .ok (.iaload, 1) := by decide +kernel
theorem dX9_work_34 : decode cX9_work 34 = .ok (.aload_n 0, 1) := by decide +kernel
theorem dX9_work_35 : decode cX9_work 35 = .ok (.getfield 103, 3) := by decide +kernel
theorem dX9_work_38 : decode cX9_work 38 = .ok (.iload_n 3, 1) := by decide +kernel
theorem dX9_work_39 : decode cX9_work 39 = .ok (.iaload, 1) := by decide +kernel
theorem dX9_work_40 : decode cX9_work 40 = .ok (.invokevirtual 395, 3) := by decide +kernel
theorem dX9_work_43 : decode cX9_work 43 = .ok (.istore 4, 2) := by decide +kernel
theorem dX9_work_45 : decode cX9_work 45 = .ok (.aload_n 0, 1) := by decide +kernel
theorem dX9_work_46 : decode cX9_work 46 = .ok (.getfield 91, 3) := by decide +kernel
theorem dX9_work_49 : decode cX9_work 49 = .ok (.iload_n 3, 1) := by decide +kernel
theorem dX9_work_50 : decode cX9_work 50 = .ok (.iaload, 1) := by decide +kernel
theorem dX9_work_51 : decode cX9_work 51 = .ok (.bipush 114, 2) := by decide +kernel
theorem dX9_work_53 : decode cX9_work 53 = .ok (.if_icmp .ne 53, 3) := by decide +kernel
theorem dX9_work_56 : decode cX9_work 56 = .ok (.aload_n 0, 1) := by decide +kernel
theorem dX9_work_57 : decode cX9_work 57 = .ok (.iload 4, 2) := by decide +kernel
theorem dX9_work_59 : decode cX9_work 59 = .ok (.ifCond .lt 10, 3) := by decide +kernel
theorem dX9_work_62 : decode cX9_work 62 = .ok (.iload 4, 2) := by decide +kernel
theorem dX9_work_64 : decode cX9_work 64 = .ok (.bipush 7, 2) := by decide +kernel
theorem dX9_work_66 : decode cX9_work 66 = .ok (.if_icmp .le 7, 3) := by decide +kernel
theorem dX9_work_69 : decode cX9_work 69 = .ok (.iconst 1, 1) := by decide +kernel
theorem dX9_work_70 : decode cX9_work 70 = .ok (.goto 4, 3) := by decide +kernel
theorem dX9_work_73 : decode cX9_work 73 = .ok (.iconst 0, 1) := by decide +kernel
theorem dX9_work_74 : decode cX9_work 74 = .ok (.putfield 183, 3) := by decide +kernel
theorem dX9_work_77 : decode cX9_work 77 = .ok (.aload_n 0, 1) := by decide +kernel
theorem dX9_work_78 : decode cX9_work 78 = .ok (.getfield 183, 3) := by decide +kernel
theorem dX9_work_81 : decode cX9_work 81 = .ok (.ifCond .eq 7, 3) := by decide +kernel
theorem dX9_work_84 : decode cX9_work 84 = .ok (.iconst 0, 1) := by decide +kernel
theorem dX9_work_85 : decode cX9_work 85 = .ok (.goto 20, 3) := by decide +kernel
theorem dX9_work_88 : decode cX9_work 88 = .ok (.aload_n 0, 1) := by decide +kernel
theorem dX9_work_89 : decode cX9_work 89 = .ok (.getfield 156, 3) := by decide +kernel
theorem dX9_work_92 : decode cX9_work 92 = .ok (.bipush 8, 2) := by decide +kernel
theorem dX9_work_94 : decode cX9_work 94 = .ok (.aload_n 0, 1) := by decide +kernel
theorem dX9_work_95 : decode cX9_work 95 = .ok (.getfield 97, 3) := by decide +kernel
theorem dX9_work_98 : decode cX9_work 98 = .ok (.iload_n 3, 1) := by decide +kernel
theorem dX9_work_99 : decode cX9_work 99 = .ok (.iaload, 1) := by decide +kernel
theorem dX9_work_100 : decode cX9_work 100 = .ok (.imul, 1) := by decide +kernel
theorem dX9_work_101 : decode cX9_work 101 = .ok (.iload 4, 2) := by decide +kernel
theorem dX9_work_103 : decode cX9_work 103 = .ok (.iadd, 1) := by decide +kernel
theorem dX9_work_104 : decode cX9_work 104 = .ok (.iaload, 1) := by decide +kernel
theorem dX9_work_105 : decode cX9_work 105 = .ok (.ireturn, 1) := by decide +kernel
theorem dX9_work_106 : decode cX9_work 106 = .ok (.aload_n 0, 1) := by decide +kernel
theorem dX9_work_107 : decode cX9_work 107 = .ok (.aload_n 0, 1) := by decide +kernel
theorem dX9_work_108 : decode cX9_work 108 = .ok (.getfield 94, 3) := by decide +kernel
theorem dX9_work_111 : decode cX9_work 111 = .ok (.iload_n 3, 1) := by decide +kernel
theorem dX9_work_112 : decode cX9_work 112 = .ok (.iaload, 1) := by decide +kernel
theorem dX9_work_113 : decode cX9_work 113 = .ok (.aload_n 0, 1) := by decide +kernel
theorem dX9_work_114 : decode cX9_work 114 = .ok (.getfield 97, 3) := by decide +kernel
theorem dX9_work_117 : decode cX9_work 117 = .ok (.iload_n 3, 1) := by decide +kernel
theorem dX9_work_118 : decode cX9_work 118 = .ok (.iaload, 1) := by decide +kernel
theorem dX9_work_119 : decode cX9_work 119 = .ok (.invokevirtual 395, 3) := by decide +kernel
theorem dX9_work_122 : decode cX9_work 122 = .ok (.istore 5, 2) := by decide +kernel
theorem dX9_work_124 : decode cX9_work 124 = .ok (.aload_n 0, 1) := by decide +kernel
theorem dX9_work_125 : decode cX9_work 125 = .ok (.getfield 91, 3) := by decide +kernel
theorem dX9_work_128 : decode cX9_work 128 = .ok (.iload_n 3, 1) := by decide +kernel
theorem dX9_work_129 : decode cX9_work 129 = .ok (.iaload, 1) := by decide +kernel
theorem dX9_work_130 : decode cX9_work 130 = .ok (.lookupswitch 80 #[(38, 68), (42, 62), (43, 50), (45, 56), (94, 74)], 50) := by decide +kernel
theorem dX9_work_180 : decode cX9_work 180 = .ok (.iload 5, 2) := by decide +kernel
theorem dX9_work_182 : decode cX9_work 182 = .ok (.iload 4, 2) := by decide +kernel
theorem dX9_work_184 : decode cX9_work 184 = .ok (.iadd, 1) := by decide +kernel
theorem dX9_work_185 : decode cX9_work 185 = .ok (.ireturn, 1) := by decide +kernel
theorem dX9_work_186 : decode cX9_work 186 = .ok (.iload 5, 2) := by decide +kernel
theorem dX9_work_188 : decode cX9_work 188 = .ok (.iload 4, 2) := by decide +kernel
theorem dX9_work_190 : decode cX9_work 190 = .ok (.isub, 1) := by decide +kernel
theorem dX9_work_191 : decode cX9_work 191 = .ok (.ireturn, 1) := by decide +kernel
theorem dX9_work_192 : decode cX9_work 192 = .ok (.iload 5, 2) := by decide +kernel
theorem dX9_work_194 : decode cX9_work 194 = .ok (.iload 4, 2) := by decide +kernel
theorem dX9_work_196 : decode cX9_work 196 = .ok (.imul, 1) := by decide +kernel
theorem dX9_work_197 : decode cX9_work 197 = .ok (.ireturn, 1) := by decide +kernel
theorem dX9_work_198 : decode cX9_work 198 = .ok (.iload 5, 2) := by decide +kernel
theorem dX9_work_200 : decode cX9_work 200 = .ok (.iload 4, 2) := by decide +kernel
theorem dX9_work_202 : decode cX9_work 202 = .ok (.iand, 1) := by decide +kernel
theorem dX9_work_203 : decode cX9_work 203 = .ok (.ireturn, 1) := by decide +kernel
theorem dX9_work_204 : decode cX9_work 204 = .ok (.iload 5, 2) := by decide +kernel
theorem dX9_work_206 : decode cX9_work 206 = .ok (.iload 4, 2) := by decide +kernel
theorem dX9_work_208 : decode cX9_work 208 = .ok (.ixor, 1) := by decide +kernel
theorem dX9_work_209 : decode cX9_work 209 = .ok (.ireturn, 1) := by decide +kernel
theorem dX9_work_210 : decode cX9_work 210 = .ok (.aload_n 0, 1) := by decide +kernel
theorem dX9_work_211 : decode cX9_work 211 = .ok (.iload 4, 2) := by decide +kernel
theorem dX9_work_213 : decode cX9_work 213 = .ok (.ifCond .ne 7, 3) := by decide +kernel
theorem dX9_work_216 : decode cX9_work 216 = .ok (.iconst 1, 1) := by decide +kernel
theorem dX9_work_217 : decode cX9_work 217 = .ok (.goto 4, 3) := by decide +kernel
theorem dX9_work_220 : decode cX9_work 220 = .ok (.iconst 0, 1) := by decide +kernel
theorem dX9_work_221 : decode cX9_work 221 = .ok (.putfield 183, 3) := by decide +kernel
theorem dX9_work_224 : decode cX9_work 224 = .ok (.aload_n 0, 1) := by decide +kernel
theorem dX9_work_225 : decode cX9_work 225 = .ok (.getfield 183, 3) := by decide +kernel
theorem dX9_work_228 : decode cX9_work 228 = .ok (.ifCond .eq 7, 3) := by decide +kernel
theorem dX9_work_231 : decode cX9_work 231 = .ok (.iconst 0, 1) := by decide +kernel
theorem dX9_work_232 : decode cX9_work 232 = .ok (.goto 20, 3) := by decide +kernel
theorem dX9_work_235 : decode cX9_work 235 = .ok (.iload 4, 2) := by decide +kernel
theorem dX9_work_237 : decode cX9_work 237 = .ok (.iconst (-1), 1) := by decide +kernel
theorem dX9_work_238 : decode cX9_work 238 = .ok (.if_icmp .ne 9, 3) := by decide +kernel
theorem dX9_work_241 : decode cX9_work 241 = .ok (.iload 5, 2) := by decide +kernel
theorem dX9_work_243 : decode cX9_work 243 = .ok (.ineg, 1) := by decide +kernel
theorem dX9_work_244 : decode cX9_work 244 = .ok (.goto 8, 3) := by decide +kernel
theorem dX9_work_247 : decode cX9_work 247 = .ok (.iload 5, 2) := by decide +kernel
theorem dX9_work_249 : decode cX9_work 249 = .ok (.iload 4, 2) := by decide +kernel
theorem dX9_work_251 : decode cX9_work 251 = .ok (.idiv, 1) := by decide +kernel
theorem dX9_work_252 : decode cX9_work 252 = .ok (.ireturn, 1) := by decide +kernel
theorem dX9_run_0 : decode cX9_run 0 = .ok (.aload_n 0, 1) := by decide +kernel
theorem dX9_run_1 : decode cX9_run 1 = .ok (.iload_n 1, 1) := by decide +kernel
theorem dX9_run_2 : decode cX9_run 2 = .ok (.invokevirtual 373, 3) := by decide +kernel
theorem dX9_run_5 : decode cX9_run 5 = .ok (.ifCond .eq 11, 3) := by decide +kernel
theorem dX9_run_8 : decode cX9_run 8 = .ok (.aload_n 0, 1) := by decide +kernel
theorem dX9_run_9 : decode cX9_run 9 = .ok (.iload_n 2, 1) := by decide +kernel
theorem dX9_run_10 : decode cX9_run 10 = .ok (.invokevirtual 388, 3) := by decide +kernel
theorem dX9_run_13 : decode cX9_run 13 = .ok (.ifCond .ne 5, 3) := by decide +kernel
theorem dX9_run_16 : decode cX9_run 16 = .ok (.iconst (-1), 1) := by decide +kernel
theorem dX9_run_17 : decode cX9_run 17 = .ok (.ireturn, 1) := by decide +kernel
theorem dX9_run_18 : decode cX9_run 18 = .ok (.iconst 0, 1) := by decide +kernel
theorem dX9_run_19 : decode cX9_run 19 = .ok (.istore_n 3, 1) := by decide +kernel
theorem dX9_run_20 : decode cX9_run 20 = .ok (.iload_n 3, 1) := by decide +kernel
theorem dX9_run_21 : decode cX9_run 21 = .ok (.bipush 48, 2) := by decide +kernel
theorem dX9_run_23 : decode cX9_run 23 = .ok (.if_icmp .ge 21, 3) := by decide +kernel
theorem dX9_run_26 : decode cX9_run 26 = .ok (.aload_n 0, 1) := by decide +kernel
theorem dX9_run_27 : decode cX9_run 27 = .ok (.getfield 153, 3) := by decide +kernel
theorem dX9_run_30 : decode cX9_run 30 = .ok (.iload_n 3, 1) := by decide +kernel
theorem dX9_run_31 : decode cX9_run 31 = .ok (.aload_n 0, 1) := by decide +kernel
theorem dX9_run_32 : decode cX9_run 32 = .ok (.getfield 150, 3) := by decide +kernel
theorem dX9_run_35 : decode cX9_run 35 = .ok (.iload_n 3, 1) := by decide +kernel
theorem dX9_run_36 : decode cX9_run 36 = .ok (.iaload, 1) := by decide +kernel
theorem dX9_run_37 : decode cX9_run 37 = .ok (.iastore, 1) := by decide +kernel
theorem dX9_run_38 : decode cX9_run 38 = .ok (.iinc 3 1, 3) := by decide +kernel
theorem dX9_run_41 : decode cX9_run 41 = .ok (.goto (-21), 3) := by decide +kernel
theorem dX9_run_44 : decode cX9_run 44 = .ok (.iconst 0, 1) := by decide +kernel
theorem dX9_run_45 : decode cX9_run 45 = .ok (.istore_n 3, 1) := by decide +kernel
theorem dX9_run_46 : decode cX9_run 46 = .ok (.iload_n 3, 1) := by decide +kernel
theorem dX9_run_47 : decode cX9_run 47 = .ok (.bipush 16, 2) := by decide +kernel
theorem dX9_run_49 : decode cX9_run 49 = .ok (.if_icmp .ge 16, 3) := by decide +kernel
theorem dX9_run_52 : decode cX9_run 52 = .ok (.aload_n 0, 1) := by decide +kernel
theorem dX9_run_53 : decode cX9_run 53 = .ok (.getfield 156, 3) := by decide +kernel
theorem dX9_run_56 : decode cX9_run 56 = .ok (.iload_n 3, 1) := by decide +kernel
theorem dX9_run_57 : decode cX9_run 57 = .ok (.iconst 0, 1) := by decide +kernel
theorem dX9_run_58 : decode cX9_run 58 = .ok (.iastore, 1) := by decide +kernel
theorem dX9_run_59 : decode cX9_run 59 = .ok (.iinc 3 1, 3) := by decide +kernel
theorem dX9_run_62 : decode cX9_run 62 = .ok (.goto (-16), 3) := by decide +kernel
theorem dX9_run_65 : decode cX9_run 65 = .ok (.iconst 0, 1) := by decide +kernel
theorem dX9_run_66 : decode cX9_run 66 = .ok (.istore_n 3, 1) := by decide +kernel
theorem dX9_run_67 : decode cX9_run 67 = .ok (.iload_n 3, 1) := by decide +kernel
theorem dX9_run_68 : decode cX9_run 68 = .ok (.bipush 32, 2) := by decide +kernel
theorem dX9_run_70 : decode cX9_run 70 = .ok (.if_icmp .ge 16, 3) := by decide +kernel
theorem dX9_run_73 : decode cX9_run 73 = .ok (.aload_n 0, 1) := by decide +kernel
theorem dX9_run_74 : decode cX9_run 74 = .ok (.getfield 162, 3) := by decide +kernel
theorem dX9_run_77 : decode cX9_run 77 = .ok (.iload_n 3, 1) := by decide +kernel
theorem dX9_run_78 : decode cX9_run 78 = .ok (.iconst 0, 1) := by decide +kernel
theorem dX9_run_79 : decode cX9_run 79 = .ok (.iastore, 1) := by decide +kernel
theorem dX9_run_80 : decode cX9_run 80 = .ok (.iinc 3 1, 3) := by decide +kernel
theorem dX9_run_83 : decode cX9_run 83 = .ok (.goto (-16), 3) := by decide +kernel
theorem dX9_run_86 : decode cX9_run 86 = .ok (.aload_n 0, 1) := by decide +kernel
theorem dX9_run_87 : decode cX9_run 87 = .ok (.iconst 0, 1) := by decide +kernel
theorem dX9_run_88 : decode cX9_run 88 = .ok (.putfield 171, 3) := by decide +kernel
theorem dX9_run_91 : decode cX9_run 91 = .ok (.aload_n 0, 1) := by decide +kernel
theorem dX9_run_92 : decode cX9_run 92 = .ok (.iconst 0, 1) := by decide +kernel
theorem dX9_run_93 : decode cX9_run 93 = .ok (.putfield 174, 3) := by decide +kernel
theorem dX9_run_96 : decode cX9_run 96 = .ok (.aload_n 0, 1) := by decide +kernel
theorem dX9_run_97 : decode cX9_run 97 = .ok (.iconst (-1), 1) := by decide +kernel
theorem dX9_run_98 : decode cX9_run 98 = .ok (.putfield 177, 3) := by decide +kernel
theorem dX9_run_101 : decode cX9_run 101 = .ok (.aload_n 0, 1) := by decide +kernel
theorem dX9_run_102 : decode cX9_run 102 = .ok (.iconst 0, 1) := by decide +kernel
theorem dX9_run_103 : decode cX9_run 103 = .ok (.putfield 180, 3) := by decide +kernel
theorem dX9_run_106 : decode cX9_run 106 = .ok (.aload_n 0, 1) := by decide +kernel
theorem dX9_run_107 : decode cX9_run 107 = .ok (.iconst 0, 1) := by decide +kernel
theorem dX9_run_108 : decode cX9_run 108 = .ok (.putfield 183, 3) := by decide +kernel
theorem dX9_run_111 : decode cX9_run 111 = .ok (.aload_n 0, 1) := by decide +kernel
theorem dX9_run_112 : decode cX9_run 112 = .ok (.iconst (-1), 1) := by decide +kernel
theorem dX9_run_113 : decode cX9_run 113 = .ok (.putfield 168, 3) := by decide +kernel
theorem dX9_run_116 : decode cX9_run 116 = .ok (.iconst 0, 1) := by decide +kernel
theorem dX9_run_117 : decode cX9_run 117 = .ok (.istore_n 3, 1) := by decide +kernel
theorem dX9_run_118 : decode cX9_run 118 = .ok (.aload_n 0, 1) := by decide +kernel
theorem dX9_run_119 : decode cX9_run 119 = .ok (.getfield 168, 3) := by decide +kernel
theorem dX9_run_122 : decode cX9_run 122 = .ok (.iconst (-1), 1) := by decide +kernel
theorem dX9_run_123 : decode cX9_run 123 = .ok (.if_icmp .ne 88, 3) := by decide +kernel
theorem dX9_run_126 : decode cX9_run 126 = .ok (.aload_n 0, 1) := by decide +kernel
theorem dX9_run_127 : decode cX9_run 127 = .ok (.getfield 58, 3) := by decide +kernel
theorem dX9_run_130 : decode cX9_run 130 = .ok (.sipush 240, 3) := by decide +kernel
theorem dX9_run_133 : decode cX9_run 133 = .ok (.iload_n 1, 1) := by decide +kernel
theorem dX9_run_134 : decode cX9_run 134 = .ok (.imul, 1) := by decide +kernel
theorem dX9_run_135 : decode cX9_run 135 = .ok (.iload_n 3, 1) := by decide +kernel
theorem dX9_run_136 : decode cX9_run 136 = .ok (.iadd, 1) := by decide +kernel
theorem dX9_run_137 : decode cX9_run 137 = .ok (.iaload, 1) := by decide +kernel
theorem dX9_run_138 : decode cX9_run 138 = .ok (.bipush 7, 2) := by decide +kernel
theorem dX9_run_140 : decode cX9_run 140 = .ok (.if_icmp .eq 21, 3) := by decide +kernel
theorem dX9_run_143 : decode cX9_run 143 = .ok (.aload_n 0, 1) := by decide +kernel
theorem dX9_run_144 : decode cX9_run 144 = .ok (.getfield 171, 3) := by decide +kernel
theorem dX9_run_147 : decode cX9_run 147 = .ok (.sipush 1000, 3) := by decide +kernel
theorem dX9_run_150 : decode cX9_run 150 = .ok (.if_icmp .ne 11, 3) := by decide +kernel
theorem dX9_run_153 : decode cX9_run 153 = .ok (.aload_n 0, 1) := by decide +kernel
theorem dX9_run_154 : decode cX9_run 154 = .ok (.iconst 2, 1) := by decide +kernel
theorem dX9_run_155 : decode cX9_run 155 = .ok (.putfield 168, 3) := by decide +kernel
theorem dX9_run_158 : decode cX9_run 158 = .ok (.goto (-40), 3) := by decide +kernel
theorem dX9_run_161 : decode cX9_run 161 = .ok (.aload_n 0, 1) := by decide +kernel
theorem dX9_run_162 : decode cX9_run 162 = .ok (.iload_n 1, 1) := by decide +kernel
theorem dX9_run_163 : decode cX9_run 163 = .ok (.iload_n 2, 1) := by decide +kernel
theorem dX9_run_164 : decode cX9_run 164 = .ok (.iload_n 3, 1) := by decide +kernel
theorem dX9_run_165 : decode cX9_run 165 = .ok (.sipush 240, 3) := by decide +kernel
theorem dX9_run_168 : decode cX9_run 168 = .ok (.iload_n 1, 1) := by decide +kernel
theorem dX9_run_169 : decode cX9_run 169 = .ok (.imul, 1) := by decide +kernel
theorem dX9_run_170 : decode cX9_run 170 = .ok (.iload_n 3, 1) := by decide +kernel
theorem dX9_run_171 : decode cX9_run 171 = .ok (.iadd, 1) := by decide +kernel
theorem dX9_run_172 : decode cX9_run 172 = .ok (.invokevirtual 398, 3) := by decide +kernel
theorem dX9_run_175 : decode cX9_run 175 = .ok (.istore 4, 2) := by decide +kernel
theorem dX9_run_177 : decode cX9_run 177 = .ok (.aload_n 0, 1) := by decide +kernel
theorem dX9_run_178 : decode cX9_run 178 = .ok (.getfield 183, 3) := by decide +kernel
theorem dX9_run_181 : decode cX9_run 181 = .ok (.ifCond .eq 24, 3) := by decide +kernel
theorem dX9_run_184 : decode cX9_run 184 = .ok (.aload_n 0, 1) := by decide +kernel
theorem dX9_run_185 : decode cX9_run 185 = .ok (.iconst 1, 1) := by decide +kernel
theorem dX9_run_186 : decode cX9_run 186 = .ok (.putfield 168, 3) := by decide +kernel
theorem dX9_run_189 : decode cX9_run 189 = .ok (.aload_n 0, 1) := by decide +kernel
theorem dX9_run_190 : decode cX9_run 190 = .ok (.aload_n 0, 1) := by decide +kernel
theorem dX9_run_191 : decode cX9_run 191 = .ok (.getfield 61, 3) := by decide +kernel
theorem dX9_run_194 : decode cX9_run 194 = .ok (.sipush 240, 3) := by decide +kernel
theorem dX9_run_197 : decode cX9_run 197 = .ok (.iload_n 1, 1) := by decide +kernel
theorem dX9_run_198 : decode cX9_run 198 = .ok (.imul, 1) := by decide +kernel
theorem dX9_run_199 : decode cX9_run 199 = .ok (.iload_n 3, 1) := by decide +kernel
theorem dX9_run_200 : decode cX9_run 200 = .ok (.iadd, 1) := by decide +kernel
theorem dX9_run_201 : decode cX9_run 201 = .ok (.iaload, 1) := by decide +kernel
theorem dX9_run_202 : decode cX9_run 202 = .ok (.putfield 177, 3) := by decide +kernel
theorem dX9_run_205 : decode cX9_run 205 = .ok (.iload 4, 2) := by decide +kernel
theorem dX9_run_207 : decode cX9_run 207 = .ok (.istore_n 3, 1) := by decide +kernel
theorem dX9_run_208 : decode cX9_run 208 = .ok (.goto (-90), 3) := by decide +kernel
theorem dX9_run_211 : decode cX9_run 211 = .ok (.aload_n 0, 1) := by decide +kernel
theorem dX9_run_212 : decode cX9_run 212 = .ok (.getfield 168, 3) := by decide +kernel
theorem dX9_run_215 : decode cX9_run 215 = .ok (.ireturn, 1) := by decide +kernel
theorem dX9_step_0 : decode cX9_step 0 = .ok (.aload_n 0, 1) := by decide +kernel
theorem dX9_step_1 : decode cX9_step 1 = .ok (.dup, 1) := by decide +kernel
theorem dX9_step_2 : decode cX9_step 2 = .ok (.getfield 171, 3) := by decide +kernel
theorem dX9_step_5 : decode cX9_step 5 = .ok (.aload_n 0, 1) := by decide +kernel
theorem dX9_step_6 : decode cX9_step 6 = .ok (.getfield 58, 3) := by decide +kernel
theorem dX9_step_9 : decode cX9_step 9 = .ok (.iload 4, 2) := by decide +kernel
theorem dX9_step_11 : decode cX9_step 11 = .ok (.iaload, 1) := by decide +kernel
theorem dX9_step_12 : decode cX9_step 12 = .ok (.bipush 7, 2) := by decide +kernel
theorem dX9_step_14 : decode cX9_step 14 = .ok (.if_icmp .ne 7, 3) := by decide +kernel
theorem dX9_step_17 : decode cX9_step 17 = .ok (.iconst 0, 1) := by decide +kernel
theorem dX9_step_18 : decode cX9_step 18 = .ok (.goto 4, 3) := by decide +kernel
theorem dX9_step_21 : decode cX9_step 21 = .ok (.iconst 1, 1) := by decide +kernel
theorem dX9_step_22 : decode cX9_step 22 = .ok (.iadd, 1) := by decide +kernel
theorem dX9_step_23 : decode cX9_step 23 = .ok (.putfield 171, 3) := by decide +kernel
theorem dX9_step_26 : decode cX9_step 26 = .ok (.iconst 0, 1) := by decide +kernel
theorem dX9_step_27 : decode cX9_step 27 = .ok (.istore 5, 2) := by decide +kernel
theorem dX9_step_29 : decode cX9_step 29 = .ok (.iload 5, 2) := by decide +kernel
theorem dX9_step_31 : decode cX9_step 31 = .ok (.aload_n 0, 1) := by decide +kernel
theorem dX9_step_32 : decode cX9_step 32 = .ok (.getfield 49, 3) := by decide +kernel
theorem dX9_step_35 : decode cX9_step 35 = .ok (.iload_n 1, 1) := by decide +kernel
theorem dX9_step_36 : decode cX9_step 36 = .ok (.iaload, 1) := by decide +kernel
theorem dX9_step_37 : decode cX9_step 37 = .ok (.if_icmp .ge 42, 3) := by decide +kernel
theorem dX9_step_40 : decode cX9_step 40 = .ok (.aload_n 0, 1) := by decide +kernel
theorem dX9_step_41 : decode cX9_step 41 = .ok (.getfield 183, 3) := by decide +kernel
theorem dX9_step_44 : decode cX9_step 44 = .ok (.ifCond .ne 35, 3) := by decide +kernel
theorem dX9_step_47 : decode cX9_step 47 = .ok (.aload_n 0, 1) := by decide +kernel
theorem dX9_step_48 : decode cX9_step 48 = .ok (.iload_n 1, 1) := by decide +kernel
theorem dX9_step_49 : decode cX9_step 49 = .ok (.iload_n 2, 1) := by decide +kernel
theorem dX9_step_50 : decode cX9_step 50 = .ok (.iload 5, 2) := by decide +kernel
theorem dX9_step_52 : decode cX9_step 52 = .ok (.iload_n 3, 1) := by decide +kernel
theorem dX9_step_53 : decode cX9_step 53 = .ok (.invokevirtual 382, 3) := by decide +kernel
theorem dX9_step_56 : decode cX9_step 56 = .ok (.ifCond .eq 17, 3) := by decide +kernel
theorem dX9_step_59 : decode cX9_step 59 = .ok (.aload_n 0, 1) := by decide +kernel
theorem dX9_step_60 : decode cX9_step 60 = .ok (.getfield 159, 3) := by decide +kernel
theorem dX9_step_63 : decode cX9_step 63 = .ok (.iload 5, 2) := by decide +kernel
theorem dX9_step_65 : decode cX9_step 65 = .ok (.aload_n 0, 1) := by decide +kernel
theorem dX9_step_66 : decode cX9_step 66 = .ok (.iload_n 1, 1) := by decide +kernel
theorem dX9_step_67 : decode cX9_step 67 = .ok (.iload 5, 2) := by decide +kernel
theorem dX9_step_69 : decode cX9_step 69 = .ok (.invokevirtual 402, 3) := by decide +kernel
theorem dX9_step_72 : decode cX9_step 72 = .ok (.iastore, 1) := by decide +kernel
theorem dX9_step_73 : decode cX9_step 73 = .ok (.iinc 5 1, 3) := by decide +kernel
theorem dX9_step_76 : decode cX9_step 76 = .ok (.goto (-47), 3) := by decide +kernel
theorem dX9_step_79 : decode cX9_step 79 = .ok (.aload_n 0, 1) := by decide +kernel
theorem dX9_step_80 : decode cX9_step 80 = .ok (.getfield 183, 3) := by decide +kernel
theorem dX9_step_83 : decode cX9_step 83 = .ok (.ifCond .eq 5, 3) := by decide +kernel
theorem dX9_step_86 : decode cX9_step 86 = .ok (.iload_n 3, 1) := by decide +kernel
theorem dX9_step_87 : decode cX9_step 87 = .ok (.ireturn, 1) := by decide +kernel
theorem dX9_step_88 : decode cX9_step 88 = .ok (.aload_n 0, 1) := by decide +kernel
theorem dX9_step_89 : decode cX9_step 89 = .ok (.getfield 58, 3) := by decide +kernel
theorem dX9_step_92 : decode cX9_step 92 = .ok (.iload 4, 2) := by decide +kernel
theorem dX9_step_94 : decode cX9_step 94 = .ok (.iaload, 1) := by decide +kernel
theorem dX9_step_95 : decode cX9_step 95 = .ok (.ifCond .eq 38, 3) := by decide +kernel
theorem dX9_step_98 : decode cX9_step 98 = .ok (.aload_n 0, 1) := by decide +kernel
theorem dX9_step_99 : decode cX9_step 99 = .ok (.getfield 58, 3) := by decide +kernel
theorem dX9_step_102 : decode cX9_step 102 = .ok (.iload 4, 2) := by decide +kernel
theorem dX9_step_104 : decode cX9_step 104 = .ok (.iaload, 1) := by decide +kernel
theorem dX9_step_105 : decode cX9_step 105 = .ok (.bipush 7, 2) := by decide +kernel
theorem dX9_step_107 : decode cX9_step 107 = .ok (.if_icmp .eq 26, 3) := by decide +kernel
theorem dX9_step_110 : decode cX9_step 110 = .ok (.aload_n 0, 1) := by decide +kernel
theorem dX9_step_111 : decode cX9_step 111 = .ok (.getfield 58, 3) := by decide +kernel
theorem dX9_step_114 : decode cX9_step 114 = .ok (.iload 4, 2) := by decide +kernel
theorem dX9_step_116 : decode cX9_step 116 = .ok (.iaload, 1) := by decide +kernel
theorem dX9_step_117 : decode cX9_step 117 = .ok (.iconst 4, 1) := by decide +kernel
theorem dX9_step_118 : decode cX9_step 118 = .ok (.if_icmp .eq 15, 3) := by decide +kernel
theorem dX9_step_121 : decode cX9_step 121 = .ok (.aload_n 0, 1) := by decide +kernel
theorem dX9_step_122 : decode cX9_step 122 = .ok (.getfield 58, 3) := by decide +kernel
theorem dX9_step_125 : decode cX9_step 125 = .ok (.iload 4, 2) := by decide +kernel
theorem dX9_step_127 : decode cX9_step 127 = .ok (.iaload, 1) := by decide +kernel
theorem dX9_step_128 : decode cX9_step 128 = .ok (.bipush 6, 2) := by decide +kernel
theorem dX9_step_130 : decode cX9_step 130 = .ok (.if_icmp .ne 7, 3) := by decide +kernel
theorem dX9_step_133 : decode cX9_step 133 = .ok (.iconst 0, 1) := by decide +kernel
theorem dX9_step_134 : decode cX9_step 134 = .ok (.goto 21, 3) := by decide +kernel
theorem dX9_step_137 : decode cX9_step 137 = .ok (.aload_n 0, 1) := by decide +kernel
theorem dX9_step_138 : decode cX9_step 138 = .ok (.aload_n 0, 1) := by decide +kernel
theorem dX9_step_139 : decode cX9_step 139 = .ok (.getfield 76, 3) := by decide +kernel
theorem dX9_step_142 : decode cX9_step 142 = .ok (.iload 4, 2) := by decide +kernel
theorem dX9_step_144 : decode cX9_step 144 = .ok (.iaload, 1) := by decide +kernel
theorem dX9_step_145 : decode cX9_step 145 = .ok (.aload_n 0, 1) := by decide +kernel
theorem dX9_step_146 : decode cX9_step 146 = .ok (.getfield 79, 3) := by decide +kernel
theorem dX9_step_149 : decode cX9_step 149 = .ok (.iload 4, 2) := by decide +kernel
theorem dX9_step_151 : decode cX9_step 151 = .ok (.iaload, 1) := by decide +kernel
theorem dX9_step_152 : decode cX9_step 152 = .ok (.invokevirtual 395, 3) := by decide +kernel
theorem dX9_step_155 : decode cX9_step 155 = .ok (.istore 5, 2) := by decide +kernel
theorem dX9_step_157 : decode cX9_step 157 = .ok (.aload_n 0, 1) := by decide +kernel
theorem dX9_step_158 : decode cX9_step 158 = .ok (.getfield 58, 3) := by decide +kernel
theorem dX9_step_161 : decode cX9_step 161 = .ok (.iload 4, 2) := by decide +kernel
theorem dX9_step_163 : decode cX9_step 163 = .ok (.iaload, 1) := by decide +kernel
theorem dX9_step_164 : decode cX9_step 164 = .ok (.tableswitch 274 0 6 #[44, 108, 125, 192, 274, 225, 266], 44) := by decide +kernel
theorem dX9_step_208 : decode cX9_step 208 = .ok (.aload_n 0, 1) := by decide +kernel
theorem dX9_step_209 : decode cX9_step 209 = .ok (.getfield 67, 3) := by decide +kernel
theorem dX9_step_212 : decode cX9_step 212 = .ok (.iload 4, 2) := by decide +kernel
theorem dX9_step_214 : decode cX9_step 214 = .ok (.iaload, 1) := by decide +kernel
theorem dX9_step_215 : decode cX9_step 215 = .ok (.istore 6, 2) := by decide +kernel
theorem dX9_step_217 : decode cX9_step 217 = .ok (.aload_n 0, 1) := by decide +kernel
theorem dX9_step_218 : decode cX9_step 218 = .ok (.iload_n 1, 1) := by decide +kernel
theorem dX9_step_219 : decode cX9_step 219 = .ok (.iload_n 2, 1) := by decide +kernel
theorem dX9_step_220 : decode cX9_step 220 = .ok (.iload 6, 2) := by decide +kernel
theorem dX9_step_222 : decode cX9_step 222 = .ok (.iload_n 3, 1) := by decide +kernel
theorem dX9_step_223 : decode cX9_step 223 = .ok (.invokevirtual 385, 3) := by decide +kernel
theorem dX9_step_226 : decode cX9_step 226 = .ok (.ifCond .eq 13, 3) := by decide +kernel
theorem dX9_step_229 : decode cX9_step 229 = .ok (.aload_n 0, 1) := by decide +kernel
theorem dX9_step_230 : decode cX9_step 230 = .ok (.getfield 159, 3) := by decide +kernel
theorem dX9_step_233 : decode cX9_step 233 = .ok (.iload 6, 2) := by decide +kernel
theorem dX9_step_235 : decode cX9_step 235 = .ok (.iaload, 1) := by decide +kernel
theorem dX9_step_236 : decode cX9_step 236 = .ok (.goto 10, 3) := by decide +kernel
theorem dX9_step_239 : decode cX9_step 239 = .ok (.aload_n 0, 1) := by decide +kernel
theorem dX9_step_240 : decode cX9_step 240 = .ok (.iload_n 1, 1) := by decide +kernel
theorem dX9_step_241 : decode cX9_step 241 = .ok (.iload 6, 2) := by decide +kernel
theorem dX9_step_243 : decode cX9_step 243 = .ok (.invokevirtual 402, 3) := by decide +kernel
theorem dX9_step_246 : decode cX9_step 246 = .ok (.istore 7, 2) := by decide +kernel
theorem dX9_step_248 : decode cX9_step 248 = .ok (.aload_n 0, 1) := by decide +kernel
theorem dX9_step_249 : decode cX9_step 249 = .ok (.getfield 183, 3) := by decide +kernel
theorem dX9_step_252 : decode cX9_step 252 = .ok (.ifCond .ne 186, 3) := by decide +kernel
theorem dX9_step_255 : decode cX9_step 255 = .ok (.aload_n 0, 1) := by decide +kernel
theorem dX9_step_256 : decode cX9_step 256 = .ok (.getfield 153, 3) := by decide +kernel
theorem dX9_step_259 : decode cX9_step 259 = .ok (.aload_n 0, 1) := by decide +kernel
theorem dX9_step_260 : decode cX9_step 260 = .ok (.getfield 64, 3) := by decide +kernel
theorem dX9_step_263 : decode cX9_step 263 = .ok (.iload 4, 2) := by decide +kernel
theorem dX9_step_265 : decode cX9_step 265 = .ok (.iaload, 1) := by decide +kernel
theorem dX9_step_266 : decode cX9_step 266 = .ok (.iload 7, 2) := by decide +kernel
theorem dX9_step_268 : decode cX9_step 268 = .ok (.iastore, 1) := by decide +kernel
theorem dX9_step_269 : decode cX9_step 269 = .ok (.goto 169, 3) := by decide +kernel
theorem dX9_step_272 : decode cX9_step 272 = .ok (.aload_n 0, 1) := by decide +kernel
theorem dX9_step_273 : decode cX9_step 273 = .ok (.getfield 153, 3) := by decide +kernel
theorem dX9_step_276 : decode cX9_step 276 = .ok (.aload_n 0, 1) := by decide +kernel
theorem dX9_step_277 : decode cX9_step 277 = .ok (.getfield 64, 3) := by decide +kernel
theorem dX9_step_280 : decode cX9_step 280 = .ok (.iload 4, 2) := by decide +kernel
theorem dX9_step_282 : decode cX9_step 282 = .ok (.iaload, 1) := by decide +kernel
theorem dX9_step_283 : decode cX9_step 283 = .ok (.iload 5, 2) := by decide +kernel
theorem dX9_step_285 : decode cX9_step 285 = .ok (.iastore, 1) := by decide +kernel
theorem dX9_step_286 : decode cX9_step 286 = .ok (.goto 152, 3) := by decide +kernel
theorem dX9_step_289 : decode cX9_step 289 = .ok (.aload_n 0, 1) := by decide +kernel
theorem dX9_step_290 : decode cX9_step 290 = .ok (.iload 5, 2) := by decide +kernel
theorem dX9_step_292 : decode cX9_step 292 = .ok (.ifCond .lt 10, 3) := by decide +kernel
theorem dX9_step_295 : decode cX9_step 295 = .ok (.iload 5, 2) := by decide +kernel
theorem dX9_step_297 : decode cX9_step 297 = .ok (.bipush 7, 2) := by decide +kernel
theorem dX9_step_299 : decode cX9_step 299 = .ok (.if_icmp .le 7, 3) := by decide +kernel
theorem dX9_step_302 : decode cX9_step 302 = .ok (.iconst 1, 1) := by decide +kernel
theorem dX9_step_303 : decode cX9_step 303 = .ok (.goto 4, 3) := by decide +kernel
theorem dX9_step_306 : decode cX9_step 306 = .ok (.iconst 0, 1) := by decide +kernel
theorem dX9_step_307 : decode cX9_step 307 = .ok (.putfield 183, 3) := by decide +kernel
theorem dX9_step_310 : decode cX9_step 310 = .ok (.aload_n 0, 1) := by decide +kernel
theorem dX9_step_311 : decode cX9_step 311 = .ok (.getfield 183, 3) := by decide +kernel
theorem dX9_step_314 : decode cX9_step 314 = .ok (.ifCond .ne 124, 3) := by decide +kernel
theorem dX9_step_317 : decode cX9_step 317 = .ok (.aload_n 0, 1) := by decide +kernel
theorem dX9_step_318 : decode cX9_step 318 = .ok (.getfield 156, 3) := by decide +kernel
theorem dX9_step_321 : decode cX9_step 321 = .ok (.bipush 8, 2) := by decide +kernel
theorem dX9_step_323 : decode cX9_step 323 = .ok (.aload_n 0, 1) := by decide +kernel
theorem dX9_step_324 : decode cX9_step 324 = .ok (.getfield 88, 3) := by decide +kernel
theorem dX9_step_327 : decode cX9_step 327 = .ok (.iload 4, 2) := by decide +kernel
theorem dX9_step_329 : decode cX9_step 329 = .ok (.iaload, 1) := by decide +kernel
theorem dX9_step_330 : decode cX9_step 330 = .ok (.imul, 1) := by decide +kernel
theorem dX9_step_331 : decode cX9_step 331 = .ok (.iload 5, 2) := by decide +kernel
theorem dX9_step_333 : decode cX9_step 333 = .ok (.iadd, 1) := by decide +kernel
theorem dX9_step_334 : decode cX9_step 334 = .ok (.aload_n 0, 1) := by decide +kernel
theorem dX9_step_335 : decode cX9_step 335 = .ok (.aload_n 0, 1) := by decide +kernel
theorem dX9_step_336 : decode cX9_step 336 = .ok (.getfield 82, 3) := by decide +kernel
theorem dX9_step_339 : decode cX9_step 339 = .ok (.iload 4, 2) := by decide +kernel
theorem dX9_step_341 : decode cX9_step 341 = .ok (.iaload, 1) := by decide +kernel
theorem dX9_step_342 : decode cX9_step 342 = .ok (.aload_n 0, 1) := by decide +kernel
theorem dX9_step_343 : decode cX9_step 343 = .ok (.getfield 85, 3) := by decide +kernel
theorem dX9_step_346 : decode cX9_step 346 = .ok (.iload 4, 2) := by decide +kernel
theorem dX9_step_348 : decode cX9_step 348 = .ok (.iaload, 1) := by decide +kernel
theorem dX9_step_349 : decode cX9_step 349 = .ok (.invokevirtual 395, 3) := by decide +kernel
theorem dX9_step_352 : decode cX9_step 352 = .ok (.iastore, 1) := by decide +kernel
theorem dX9_step_353 : decode cX9_step 353 = .ok (.goto 85, 3) := by decide +kernel
theorem dX9_step_356 : decode cX9_step 356 = .ok (.aload_n 0, 1) := by decide +kernel
theorem dX9_step_357 : decode cX9_step 357 = .ok (.getfield 174, 3) := by decide +kernel
theorem dX9_step_360 : decode cX9_step 360 = .ok (.bipush 100, 2) := by decide +kernel
theorem dX9_step_362 : decode cX9_step 362 = .ok (.if_icmp .ge 14, 3) := by decide +kernel
theorem dX9_step_365 : decode cX9_step 365 = .ok (.aload_n 0, 1) := by decide +kernel
theorem dX9_step_366 : decode cX9_step 366 = .ok (.getfield 165, 3) := by decide +kernel
theorem dX9_step_369 : decode cX9_step 369 = .ok (.aload_n 0, 1) := by decide +kernel
theorem dX9_step_370 : decode cX9_step 370 = .ok (.getfield 174, 3) := by decide +kernel
theorem dX9_step_373 : decode cX9_step 373 = .ok (.iload 5, 2) := by decide +kernel
theorem dX9_step_375 : decode cX9_step 375 = .ok (.iastore, 1) := by decide +kernel
theorem dX9_step_376 : decode cX9_step 376 = .ok (.aload_n 0, 1) := by decide +kernel
theorem dX9_step_377 : decode cX9_step 377 = .ok (.dup, 1) := by decide +kernel
theorem dX9_step_378 : decode cX9_step 378 = .ok (.getfield 174, 3) := by decide +kernel
theorem dX9_step_381 : decode cX9_step 381 = .ok (.iconst 1, 1) := by decide +kernel
theorem dX9_step_382 : decode cX9_step 382 = .ok (.iadd, 1) := by decide +kernel
theorem dX9_step_383 : decode cX9_step 383 = .ok (.putfield 174, 3) := by decide +kernel
theorem dX9_step_386 : decode cX9_step 386 = .ok (.goto 52, 3) := by decide +kernel
theorem dX9_step_389 : decode cX9_step 389 = .ok (.iload 5, 2) := by decide +kernel
theorem dX9_step_391 : decode cX9_step 391 = .ok (.aload_n 0, 1) := by decide +kernel
theorem dX9_step_392 : decode cX9_step 392 = .ok (.aload_n 0, 1) := by decide +kernel
theorem dX9_step_393 : decode cX9_step 393 = .ok (.getfield 82, 3) := by decide +kernel
theorem dX9_step_396 : decode cX9_step 396 = .ok (.iload 4, 2) := by decide +kernel
theorem dX9_step_398 : decode cX9_step 398 = .ok (.iaload, 1) := by decide +kernel
theorem dX9_step_399 : decode cX9_step 399 = .ok (.aload_n 0, 1) := by decide +kernel
theorem dX9_step_400 : decode cX9_step 400 = .ok (.getfield 85, 3) := by decide +kernel
theorem dX9_step_403 : decode cX9_step 403 = .ok (.iload 4, 2) := by decide +kernel
theorem dX9_step_405 : decode cX9_step 405 = .ok (.iaload, 1) := by decide +kernel
theorem dX9_step_406 : decode cX9_step 406 = .ok (.invokevirtual 395, 3) := by decide +kernel
theorem dX9_step_409 : decode cX9_step 409 = .ok (.if_icmp .ge 13, 3) := by decide +kernel
theorem dX9_step_412 : decode cX9_step 412 = .ok (.aload_n 0, 1) := by decide +kernel
theorem dX9_step_413 : decode cX9_step 413 = .ok (.getfield 70, 3) := by decide +kernel
theorem dX9_step_416 : decode cX9_step 416 = .ok (.iload 4, 2) := by decide +kernel
theorem dX9_step_418 : decode cX9_step 418 = .ok (.iaload, 1) := by decide +kernel
theorem dX9_step_419 : decode cX9_step 419 = .ok (.goto 10, 3) := by decide +kernel
theorem dX9_step_422 : decode cX9_step 422 = .ok (.aload_n 0, 1) := by decide +kernel
theorem dX9_step_423 : decode cX9_step 423 = .ok (.getfield 73, 3) := by decide +kernel
theorem dX9_step_426 : decode cX9_step 426 = .ok (.iload 4, 2) := by decide +kernel
theorem dX9_step_428 : decode cX9_step 428 = .ok (.iaload, 1) := by decide +kernel
theorem dX9_step_429 : decode cX9_step 429 = .ok (.ireturn, 1) := by decide +kernel
theorem dX9_step_430 : decode cX9_step 430 = .ok (.aload_n 0, 1) := by decide +kernel
theorem dX9_step_431 : decode cX9_step 431 = .ok (.iconst 0, 1) := by decide +kernel
theorem dX9_step_432 : decode cX9_step 432 = .ok (.putfield 168, 3) := by decide +kernel
theorem dX9_step_435 : decode cX9_step 435 = .ok (.goto 3, 3) := by decide +kernel
theorem dX9_step_438 : decode cX9_step 438 = .ok (.aload_n 0, 1) := by decide +kernel
theorem dX9_step_439 : decode cX9_step 439 = .ok (.getfield 70, 3) := by decide +kernel
theorem dX9_step_442 : decode cX9_step 442 = .ok (.iload 4, 2) := by decide +kernel
theorem dX9_step_444 : decode cX9_step 444 = .ok (.iaload, 1) := by decide +kernel
theorem dX9_step_445 : decode cX9_step 445 = .ok (.ireturn, 1) := by decide +kernel
theorem dX9_ran_0 : decode cX9_ran 0 = .ok (.iload_n 1, 1) := by decide +kernel
theorem dX9_ran_1 : decode cX9_ran 1 = .ok (.tableswitch 60 0 4 #[35, 40, 45, 50, 55], 35) := by decide +kernel
theorem dX9_ran_36 : decode cX9_ran 36 = .ok (.aload_n 0, 1) := by decide +kernel
theorem dX9_ran_37 : decode cX9_ran 37 = .ok (.getfield 168, 3) := by decide +kernel
theorem dX9_ran_40 : decode cX9_ran 40 = .ok (.ireturn, 1) := by decide +kernel
theorem dX9_ran_41 : decode cX9_ran 41 = .ok (.aload_n 0, 1) := by decide +kernel
theorem dX9_ran_42 : decode cX9_ran 42 = .ok (.getfield 171, 3) := by decide +kernel
theorem dX9_ran_45 : decode cX9_ran 45 = .ok (.ireturn, 1) := by decide +kernel
theorem dX9_ran_46 : decode cX9_ran 46 = .ok (.aload_n 0, 1) := by decide +kernel
theorem dX9_ran_47 : decode cX9_ran 47 = .ok (.getfield 174, 3) := by decide +kernel
theorem dX9_ran_50 : decode cX9_ran 50 = .ok (.ireturn, 1) := by decide +kernel
theorem dX9_ran_51 : decode cX9_ran 51 = .ok (.aload_n 0, 1) := by decide +kernel
theorem dX9_ran_52 : decode cX9_ran 52 = .ok (.getfield 177, 3) := by decide +kernel
theorem dX9_ran_55 : decode cX9_ran 55 = .ok (.ireturn, 1) := by decide +kernel
theorem dX9_ran_56 : decode cX9_ran 56 = .ok (.aload_n 0, 1) := by decide +kernel
theorem dX9_ran_57 : decode cX9_ran 57 = .ok (.getfield 180, 3) := by decide +kernel
theorem dX9_ran_60 : decode cX9_ran 60 = .ok (.ireturn, 1) := by decide +kernel
theorem dX9_ran_61 : decode cX9_ran 61 = .ok (.iconst (-1), 1) := by decide +kernel
theorem dX9_ran_62 : decode cX9_ran 62 = .ok (.ireturn, 1) := by decide +kernel
theorem dX9_told_0 : decode cX9_told 0 = .ok (.iload_n 1, 1) := by decide +kernel
theorem dX9_told_1 : decode cX9_told 1 = .ok (.ifCond .lt 17, 3) := by decide +kernel
theorem dX9_told_4 : decode cX9_told 4 = .ok (.iload_n 1, 1) := by decide +kernel
theorem dX9_told_5 : decode cX9_told 5 = .ok (.aload_n 0, 1) := by decide +kernel
theorem dX9_told_6 : decode cX9_told 6 = .ok (.getfield 174, 3) := by decide +kernel
theorem dX9_told_9 : decode cX9_told 9 = .ok (.if_icmp .ge 9, 3) := by decide +kernel
theorem dX9_told_12 : decode cX9_told 12 = .ok (.iload_n 1, 1) := by decide +kernel
theorem dX9_told_13 : decode cX9_told 13 = .ok (.bipush 100, 2) := by decide +kernel
theorem dX9_told_15 : decode cX9_told 15 = .ok (.if_icmp .lt 7, 3) := by decide +kernel
theorem dX9_told_18 : decode cX9_told 18 = .ok (.iconst 0, 1) := by decide +kernel
theorem dX9_told_19 : decode cX9_told 19 = .ok (.goto 9, 3) := by decide +kernel
theorem dX9_told_22 : decode cX9_told 22 = .ok (.aload_n 0, 1) := by decide +kernel
theorem dX9_told_23 : decode cX9_told 23 = .ok (.getfield 165, 3) := by decide +kernel
theorem dX9_told_26 : decode cX9_told 26 = .ok (.iload_n 1, 1) := by decide +kernel
theorem dX9_told_27 : decode cX9_told 27 = .ok (.iaload, 1) := by decide +kernel
theorem dX9_told_28 : decode cX9_told 28 = .ok (.ireturn, 1) := by decide +kernel
theorem dX9_value_0 : decode cX9_value 0 = .ok (.iload_n 1, 1) := by decide +kernel
theorem dX9_value_1 : decode cX9_value 1 = .ok (.ifCond .lt 9, 3) := by decide +kernel
theorem dX9_value_4 : decode cX9_value 4 = .ok (.iload_n 1, 1) := by decide +kernel
theorem dX9_value_5 : decode cX9_value 5 = .ok (.bipush 47, 2) := by decide +kernel
theorem dX9_value_7 : decode cX9_value 7 = .ok (.if_icmp .le 7, 3) := by decide +kernel
theorem dX9_value_10 : decode cX9_value 10 = .ok (.iconst 0, 1) := by decide +kernel
theorem dX9_value_11 : decode cX9_value 11 = .ok (.goto 9, 3) := by decide +kernel
theorem dX9_value_14 : decode cX9_value 14 = .ok (.aload_n 0, 1) := by decide +kernel
theorem dX9_value_15 : decode cX9_value 15 = .ok (.getfield 153, 3) := by decide +kernel
theorem dX9_value_18 : decode cX9_value 18 = .ok (.iload_n 1, 1) := by decide +kernel
theorem dX9_value_19 : decode cX9_value 19 = .ok (.iaload, 1) := by decide +kernel
theorem dX9_value_20 : decode cX9_value 20 = .ok (.ireturn, 1) := by decide +kernel
theorem dX9_row_0 : decode cX9_row 0 = .ok (.iload_n 1, 1) := by decide +kernel
theorem dX9_row_1 : decode cX9_row 1 = .ok (.ifCond .lt 18, 3) := by decide +kernel
theorem dX9_row_4 : decode cX9_row 4 = .ok (.iload_n 1, 1) := by decide +kernel
theorem dX9_row_5 : decode cX9_row 5 = .ok (.iconst 1, 1) := by decide +kernel
theorem dX9_row_6 : decode cX9_row 6 = .ok (.if_icmp .gt 13, 3) := by decide +kernel
theorem dX9_row_9 : decode cX9_row 9 = .ok (.iload_n 2, 1) := by decide +kernel
theorem dX9_row_10 : decode cX9_row 10 = .ok (.ifCond .lt 9, 3) := by decide +kernel
theorem dX9_row_13 : decode cX9_row 13 = .ok (.iload_n 2, 1) := by decide +kernel
theorem dX9_row_14 : decode cX9_row 14 = .ok (.bipush 7, 2) := by decide +kernel
theorem dX9_row_16 : decode cX9_row 16 = .ok (.if_icmp .le 7, 3) := by decide +kernel
theorem dX9_row_19 : decode cX9_row 19 = .ok (.iconst 0, 1) := by decide +kernel
theorem dX9_row_20 : decode cX9_row 20 = .ok (.goto 14, 3) := by decide +kernel
theorem dX9_row_23 : decode cX9_row 23 = .ok (.aload_n 0, 1) := by decide +kernel
theorem dX9_row_24 : decode cX9_row 24 = .ok (.getfield 156, 3) := by decide +kernel
theorem dX9_row_27 : decode cX9_row 27 = .ok (.bipush 8, 2) := by decide +kernel
theorem dX9_row_29 : decode cX9_row 29 = .ok (.iload_n 1, 1) := by decide +kernel
theorem dX9_row_30 : decode cX9_row 30 = .ok (.imul, 1) := by decide +kernel
theorem dX9_row_31 : decode cX9_row 31 = .ok (.iload_n 2, 1) := by decide +kernel
theorem dX9_row_32 : decode cX9_row 32 = .ok (.iadd, 1) := by decide +kernel
theorem dX9_row_33 : decode cX9_row 33 = .ok (.iaload, 1) := by decide +kernel
theorem dX9_row_34 : decode cX9_row 34 = .ok (.ireturn, 1) := by decide +kernel
theorem dX9_worked_0 : decode cX9_worked 0 = .ok (.iload_n 1, 1) := by decide +kernel
theorem dX9_worked_1 : decode cX9_worked 1 = .ok (.ifCond .lt 9, 3) := by decide +kernel
theorem dX9_worked_4 : decode cX9_worked 4 = .ok (.iload_n 1, 1) := by decide +kernel
theorem dX9_worked_5 : decode cX9_worked 5 = .ok (.bipush 31, 2) := by decide +kernel
theorem dX9_worked_7 : decode cX9_worked 7 = .ok (.if_icmp .le 7, 3) := by decide +kernel
theorem dX9_worked_10 : decode cX9_worked 10 = .ok (.iconst (-1), 1) := by decide +kernel
theorem dX9_worked_11 : decode cX9_worked 11 = .ok (.goto 9, 3) := by decide +kernel
theorem dX9_worked_14 : decode cX9_worked 14 = .ok (.aload_n 0, 1) := by decide +kernel
theorem dX9_worked_15 : decode cX9_worked 15 = .ok (.getfield 162, 3) := by decide +kernel
theorem dX9_worked_18 : decode cX9_worked 18 = .ok (.iload_n 1, 1) := by decide +kernel
theorem dX9_worked_19 : decode cX9_worked 19 = .ok (.iaload, 1) := by decide +kernel
theorem dX9_worked_20 : decode cX9_worked 20 = .ok (.ireturn, 1) := by decide +kernel
theorem dX9_end_0 : decode cX9_end 0 = .ok (.sipush 240, 3) := by decide +kernel
theorem dX9_end_3 : decode cX9_end 3 = .ok (.iload_n 1, 1) := by decide +kernel
theorem dX9_end_4 : decode cX9_end 4 = .ok (.imul, 1) := by decide +kernel
theorem dX9_end_5 : decode cX9_end 5 = .ok (.iload_n 2, 1) := by decide +kernel
theorem dX9_end_6 : decode cX9_end 6 = .ok (.iconst 1, 1) := by decide +kernel
theorem dX9_end_7 : decode cX9_end 7 = .ok (.iadd, 1) := by decide +kernel
theorem dX9_end_8 : decode cX9_end 8 = .ok (.aload_n 0, 1) := by decide +kernel
theorem dX9_end_9 : decode cX9_end 9 = .ok (.getfield 40, 3) := by decide +kernel
theorem dX9_end_12 : decode cX9_end 12 = .ok (.iload_n 1, 1) := by decide +kernel
theorem dX9_end_13 : decode cX9_end 13 = .ok (.iaload, 1) := by decide +kernel
theorem dX9_end_14 : decode cX9_end 14 = .ok (.if_icmp .ge 19, 3) := by decide +kernel
theorem dX9_end_17 : decode cX9_end 17 = .ok (.aload_n 0, 1) := by decide +kernel
theorem dX9_end_18 : decode cX9_end 18 = .ok (.getfield 52, 3) := by decide +kernel
theorem dX9_end_21 : decode cX9_end 21 = .ok (.bipush 41, 2) := by decide +kernel
theorem dX9_end_23 : decode cX9_end 23 = .ok (.iload_n 1, 1) := by decide +kernel
theorem dX9_end_24 : decode cX9_end 24 = .ok (.imul, 1) := by decide +kernel
theorem dX9_end_25 : decode cX9_end 25 = .ok (.iload_n 2, 1) := by decide +kernel
theorem dX9_end_26 : decode cX9_end 26 = .ok (.iadd, 1) := by decide +kernel
theorem dX9_end_27 : decode cX9_end 27 = .ok (.iconst 1, 1) := by decide +kernel
theorem dX9_end_28 : decode cX9_end 28 = .ok (.iadd, 1) := by decide +kernel
theorem dX9_end_29 : decode cX9_end 29 = .ok (.iaload, 1) := by decide +kernel
theorem dX9_end_30 : decode cX9_end 30 = .ok (.goto 9, 3) := by decide +kernel
theorem dX9_end_33 : decode cX9_end 33 = .ok (.aload_n 0, 1) := by decide +kernel
theorem dX9_end_34 : decode cX9_end 34 = .ok (.getfield 46, 3) := by decide +kernel
theorem dX9_end_37 : decode cX9_end 37 = .ok (.iload_n 1, 1) := by decide +kernel
theorem dX9_end_38 : decode cX9_end 38 = .ok (.iaload, 1) := by decide +kernel
theorem dX9_end_39 : decode cX9_end 39 = .ok (.iadd, 1) := by decide +kernel
theorem dX9_end_40 : decode cX9_end 40 = .ok (.iconst 1, 1) := by decide +kernel
theorem dX9_end_41 : decode cX9_end 41 = .ok (.isub, 1) := by decide +kernel
theorem dX9_end_42 : decode cX9_end 42 = .ok (.ireturn, 1) := by decide +kernel
theorem dX9_passes_0 : decode cX9_passes 0 = .ok (.aload_n 0, 1) := by decide +kernel
theorem dX9_passes_1 : decode cX9_passes 1 = .ok (.getfield 52, 3) := by decide +kernel
theorem dX9_passes_4 : decode cX9_passes 4 = .ok (.bipush 41, 2) := by decide +kernel
theorem dX9_passes_6 : decode cX9_passes 6 = .ok (.iload_n 1, 1) := by decide +kernel
theorem dX9_passes_7 : decode cX9_passes 7 = .ok (.imul, 1) := by decide +kernel
theorem dX9_passes_8 : decode cX9_passes 8 = .ok (.iload_n 3, 1) := by decide +kernel
theorem dX9_passes_9 : decode cX9_passes 9 = .ok (.iadd, 1) := by decide +kernel
theorem dX9_passes_10 : decode cX9_passes 10 = .ok (.iaload, 1) := by decide +kernel
theorem dX9_passes_11 : decode cX9_passes 11 = .ok (.istore 4, 2) := by decide +kernel
theorem dX9_passes_13 : decode cX9_passes 13 = .ok (.aload_n 0, 1) := by decide +kernel
theorem dX9_passes_14 : decode cX9_passes 14 = .ok (.getfield 70, 3) := by decide +kernel
theorem dX9_passes_17 : decode cX9_passes 17 = .ok (.iload_n 2, 1) := by decide +kernel
theorem dX9_passes_18 : decode cX9_passes 18 = .ok (.iaload, 1) := by decide +kernel
theorem dX9_passes_19 : decode cX9_passes 19 = .ok (.istore 5, 2) := by decide +kernel
theorem dX9_passes_21 : decode cX9_passes 21 = .ok (.iload 5, 2) := by decide +kernel
theorem dX9_passes_23 : decode cX9_passes 23 = .ok (.ifCond .lt 49, 3) := by decide +kernel
theorem dX9_passes_26 : decode cX9_passes 26 = .ok (.iload 5, 2) := by decide +kernel
theorem dX9_passes_28 : decode cX9_passes 28 = .ok (.iload 4, 2) := by decide +kernel
theorem dX9_passes_30 : decode cX9_passes 30 = .ok (.if_icmp .eq 39, 3) := by decide +kernel
theorem dX9_passes_33 : decode cX9_passes 33 = .ok (.aload_n 0, 1) := by decide +kernel
theorem dX9_passes_34 : decode cX9_passes 34 = .ok (.getfield 58, 3) := by decide +kernel
theorem dX9_passes_37 : decode cX9_passes 37 = .ok (.sipush 240, 3) := by decide +kernel
theorem dX9_passes_40 : decode cX9_passes 40 = .ok (.iload_n 1, 1) := by decide +kernel
theorem dX9_passes_41 : decode cX9_passes 41 = .ok (.imul, 1) := by decide +kernel
theorem dX9_passes_42 : decode cX9_passes 42 = .ok (.iload 5, 2) := by decide +kernel
theorem dX9_passes_44 : decode cX9_passes 44 = .ok (.iadd, 1) := by decide +kernel
theorem dX9_passes_45 : decode cX9_passes 45 = .ok (.iaload, 1) := by decide +kernel
theorem dX9_passes_46 : decode cX9_passes 46 = .ok (.bipush 7, 2) := by decide +kernel
theorem dX9_passes_48 : decode cX9_passes 48 = .ok (.if_icmp .ne 24, 3) := by decide +kernel
theorem dX9_passes_51 : decode cX9_passes 51 = .ok (.aload_n 0, 1) := by decide +kernel
theorem dX9_passes_52 : decode cX9_passes 52 = .ok (.getfield 70, 3) := by decide +kernel
theorem dX9_passes_55 : decode cX9_passes 55 = .ok (.sipush 240, 3) := by decide +kernel
theorem dX9_passes_58 : decode cX9_passes 58 = .ok (.iload_n 1, 1) := by decide +kernel
theorem dX9_passes_59 : decode cX9_passes 59 = .ok (.imul, 1) := by decide +kernel
theorem dX9_passes_60 : decode cX9_passes 60 = .ok (.iload 5, 2) := by decide +kernel
theorem dX9_passes_62 : decode cX9_passes 62 = .ok (.iadd, 1) := by decide +kernel
theorem dX9_passes_63 : decode cX9_passes 63 = .ok (.iaload, 1) := by decide +kernel
theorem dX9_passes_64 : decode cX9_passes 64 = .ok (.iload 4, 2) := by decide +kernel
theorem dX9_passes_66 : decode cX9_passes 66 = .ok (.if_icmp .ne 6, 3) := by decide +kernel
theorem dX9_passes_69 : decode cX9_passes 69 = .ok (.iload 5, 2) := by decide +kernel
theorem dX9_passes_71 : decode cX9_passes 71 = .ok (.ireturn, 1) := by decide +kernel
theorem dX9_passes_72 : decode cX9_passes 72 = .ok (.aload_n 0, 1) := by decide +kernel
theorem dX9_passes_73 : decode cX9_passes 73 = .ok (.getfield 73, 3) := by decide +kernel
theorem dX9_passes_76 : decode cX9_passes 76 = .ok (.iload_n 2, 1) := by decide +kernel
theorem dX9_passes_77 : decode cX9_passes 77 = .ok (.iaload, 1) := by decide +kernel
theorem dX9_passes_78 : decode cX9_passes 78 = .ok (.istore 5, 2) := by decide +kernel
theorem dX9_passes_80 : decode cX9_passes 80 = .ok (.iload 5, 2) := by decide +kernel
theorem dX9_passes_82 : decode cX9_passes 82 = .ok (.ifCond .lt 49, 3) := by decide +kernel
theorem dX9_passes_85 : decode cX9_passes 85 = .ok (.iload 5, 2) := by decide +kernel
theorem dX9_passes_87 : decode cX9_passes 87 = .ok (.iload 4, 2) := by decide +kernel
theorem dX9_passes_89 : decode cX9_passes 89 = .ok (.if_icmp .eq 39, 3) := by decide +kernel
theorem dX9_passes_92 : decode cX9_passes 92 = .ok (.aload_n 0, 1) := by decide +kernel
theorem dX9_passes_93 : decode cX9_passes 93 = .ok (.getfield 58, 3) := by decide +kernel
theorem dX9_passes_96 : decode cX9_passes 96 = .ok (.sipush 240, 3) := by decide +kernel
theorem dX9_passes_99 : decode cX9_passes 99 = .ok (.iload_n 1, 1) := by decide +kernel
theorem dX9_passes_100 : decode cX9_passes 100 = .ok (.imul, 1) := by decide +kernel
theorem dX9_passes_101 : decode cX9_passes 101 = .ok (.iload 5, 2) := by decide +kernel
theorem dX9_passes_103 : decode cX9_passes 103 = .ok (.iadd, 1) := by decide +kernel
theorem dX9_passes_104 : decode cX9_passes 104 = .ok (.iaload, 1) := by decide +kernel
theorem dX9_passes_105 : decode cX9_passes 105 = .ok (.bipush 7, 2) := by decide +kernel
theorem dX9_passes_107 : decode cX9_passes 107 = .ok (.if_icmp .ne 24, 3) := by decide +kernel
theorem dX9_passes_110 : decode cX9_passes 110 = .ok (.aload_n 0, 1) := by decide +kernel
theorem dX9_passes_111 : decode cX9_passes 111 = .ok (.getfield 70, 3) := by decide +kernel
theorem dX9_passes_114 : decode cX9_passes 114 = .ok (.sipush 240, 3) := by decide +kernel
theorem dX9_passes_117 : decode cX9_passes 117 = .ok (.iload_n 1, 1) := by decide +kernel
theorem dX9_passes_118 : decode cX9_passes 118 = .ok (.imul, 1) := by decide +kernel
theorem dX9_passes_119 : decode cX9_passes 119 = .ok (.iload 5, 2) := by decide +kernel
theorem dX9_passes_121 : decode cX9_passes 121 = .ok (.iadd, 1) := by decide +kernel
theorem dX9_passes_122 : decode cX9_passes 122 = .ok (.iaload, 1) := by decide +kernel
theorem dX9_passes_123 : decode cX9_passes 123 = .ok (.iload 4, 2) := by decide +kernel
theorem dX9_passes_125 : decode cX9_passes 125 = .ok (.if_icmp .ne 6, 3) := by decide +kernel
theorem dX9_passes_128 : decode cX9_passes 128 = .ok (.iload 5, 2) := by decide +kernel
theorem dX9_passes_130 : decode cX9_passes 130 = .ok (.ireturn, 1) := by decide +kernel
theorem dX9_passes_131 : decode cX9_passes 131 = .ok (.iconst (-1), 1) := by decide +kernel
theorem dX9_passes_132 : decode cX9_passes 132 = .ok (.ireturn, 1) := by decide +kernel
theorem dX9_step__0 : decode cX9_step_ 0 = .ok (.aload_n 0, 1) := by decide +kernel
theorem dX9_step__1 : decode cX9_step_ 1 = .ok (.iload_n 1, 1) := by decide +kernel
theorem dX9_step__2 : decode cX9_step_ 2 = .ok (.invokevirtual 373, 3) := by decide +kernel
theorem dX9_step__5 : decode cX9_step_ 5 = .ok (.ifCond .eq 17, 3) := by decide +kernel
theorem dX9_step__8 : decode cX9_step_ 8 = .ok (.iload_n 2, 1) := by decide +kernel
theorem dX9_step__9 : decode cX9_step_ 9 = .ok (.ifCond .lt 13, 3) := by decide +kernel
theorem dX9_step__12 : decode cX9_step_ 12 = .ok (.iload_n 2, 1) := by decide +kernel
theorem dX9_step__13 : decode cX9_step_ 13 = .ok (.aload_n 0, 1) := by decide +kernel
theorem dX9_step__14 : decode cX9_step_ 14 = .ok (.getfield 40, 3) := by decide +kernel
theorem dX9_step__17 : decode cX9_step_ 17 = .ok (.iload_n 1, 1) := by decide +kernel
theorem dX9_step__18 : decode cX9_step_ 18 = .ok (.iaload, 1) := by decide +kernel
theorem dX9_step__19 : decode cX9_step_ 19 = .ok (.if_icmp .lt 5, 3) := by decide +kernel
theorem dX9_step__22 : decode cX9_step_ 22 = .ok (.iconst (-1), 1) := by decide +kernel
theorem dX9_step__23 : decode cX9_step_ 23 = .ok (.ireturn, 1) := by decide +kernel
theorem dX9_step__24 : decode cX9_step_ 24 = .ok (.aload_n 0, 1) := by decide +kernel
theorem dX9_step__25 : decode cX9_step_ 25 = .ok (.getfield 186, 3) := by decide +kernel
theorem dX9_step__28 : decode cX9_step_ 28 = .ok (.iload_n 1, 1) := by decide +kernel
theorem dX9_step__29 : decode cX9_step_ 29 = .ok (.iaload, 1) := by decide +kernel
theorem dX9_step__30 : decode cX9_step_ 30 = .ok (.istore_n 3, 1) := by decide +kernel
theorem dX9_step__31 : decode cX9_step_ 31 = .ok (.iload_n 3, 1) := by decide +kernel
theorem dX9_step__32 : decode cX9_step_ 32 = .ok (.ifCond .ne 15, 3) := by decide +kernel
theorem dX9_step__35 : decode cX9_step_ 35 = .ok (.iload_n 2, 1) := by decide +kernel
theorem dX9_step__36 : decode cX9_step_ 36 = .ok (.ifCond .ne 7, 3) := by decide +kernel
theorem dX9_step__39 : decode cX9_step_ 39 = .ok (.iconst 1, 1) := by decide +kernel
theorem dX9_step__40 : decode cX9_step_ 40 = .ok (.goto 39, 3) := by decide +kernel
theorem dX9_step__43 : decode cX9_step_ 43 = .ok (.iconst 0, 1) := by decide +kernel
theorem dX9_step__44 : decode cX9_step_ 44 = .ok (.goto 35, 3) := by decide +kernel
theorem dX9_step__47 : decode cX9_step_ 47 = .ok (.aload_n 0, 1) := by decide +kernel
theorem dX9_step__48 : decode cX9_step_ 48 = .ok (.iload_n 1, 1) := by decide +kernel
theorem dX9_step__49 : decode cX9_step_ 49 = .ok (.aload_n 0, 1) := by decide +kernel
theorem dX9_step__50 : decode cX9_step_ 50 = .ok (.iload_n 1, 1) := by decide +kernel
theorem dX9_step__51 : decode cX9_step_ 51 = .ok (.aload_n 0, 1) := by decide +kernel
theorem dX9_step__52 : decode cX9_step_ 52 = .ok (.getfield 189, 3) := by decide +kernel
theorem dX9_step__55 : decode cX9_step_ 55 = .ok (.bipush 60, 2) := by decide +kernel
theorem dX9_step__57 : decode cX9_step_ 57 = .ok (.iload_n 1, 1) := by decide +kernel
theorem dX9_step__58 : decode cX9_step_ 58 = .ok (.imul, 1) := by decide +kernel
theorem dX9_step__59 : decode cX9_step_ 59 = .ok (.iload_n 3, 1) := by decide +kernel
theorem dX9_step__60 : decode cX9_step_ 60 = .ok (.iadd, 1) := by decide +kernel
theorem dX9_step__61 : decode cX9_step_ 61 = .ok (.iconst 1, 1) := by decide +kernel
theorem dX9_step__62 : decode cX9_step_ 62 = .ok (.isub, 1) := by decide +kernel
theorem dX9_step__63 : decode cX9_step_ 63 = .ok (.iaload, 1) := by decide +kernel
theorem dX9_step__64 : decode cX9_step_ 64 = .ok (.invokevirtual 405, 3) := by decide +kernel
theorem dX9_step__67 : decode cX9_step_ 67 = .ok (.iload_n 2, 1) := by decide +kernel
theorem dX9_step__68 : decode cX9_step_ 68 = .ok (.invokevirtual 408, 3) := by decide +kernel
theorem dX9_step__71 : decode cX9_step_ 71 = .ok (.ifCond .lt 7, 3) := by decide +kernel
theorem dX9_step__74 : decode cX9_step_ 74 = .ok (.iconst 1, 1) := by decide +kernel
theorem dX9_step__75 : decode cX9_step_ 75 = .ok (.goto 4, 3) := by decide +kernel
theorem dX9_step__78 : decode cX9_step_ 78 = .ok (.iconst 0, 1) := by decide +kernel
theorem dX9_step__79 : decode cX9_step_ 79 = .ok (.istore 4, 2) := by decide +kernel
theorem dX9_step__81 : decode cX9_step_ 81 = .ok (.iload 4, 2) := by decide +kernel
theorem dX9_step__83 : decode cX9_step_ 83 = .ok (.ifCond .ne 6, 3) := by decide +kernel
theorem dX9_step__86 : decode cX9_step_ 86 = .ok (.bipush (-2), 2) := by decide +kernel
theorem dX9_step__88 : decode cX9_step_ 88 = .ok (.ireturn, 1) := by decide +kernel
theorem dX9_step__89 : decode cX9_step_ 89 = .ok (.iload_n 3, 1) := by decide +kernel
theorem dX9_step__90 : decode cX9_step_ 90 = .ok (.bipush 60, 2) := by decide +kernel
theorem dX9_step__92 : decode cX9_step_ 92 = .ok (.if_icmp .ne 6, 3) := by decide +kernel
theorem dX9_step__95 : decode cX9_step_ 95 = .ok (.bipush (-3), 2) := by decide +kernel
theorem dX9_step__97 : decode cX9_step_ 97 = .ok (.ireturn, 1) := by decide +kernel
theorem dX9_step__98 : decode cX9_step_ 98 = .ok (.aload_n 0, 1) := by decide +kernel
theorem dX9_step__99 : decode cX9_step_ 99 = .ok (.getfield 189, 3) := by decide +kernel
theorem dX9_step__102 : decode cX9_step_ 102 = .ok (.bipush 60, 2) := by decide +kernel
theorem dX9_step__104 : decode cX9_step_ 104 = .ok (.iload_n 1, 1) := by decide +kernel
theorem dX9_step__105 : decode cX9_step_ 105 = .ok (.imul, 1) := by decide +kernel
theorem dX9_step__106 : decode cX9_step_ 106 = .ok (.iload_n 3, 1) := by decide +kernel
theorem dX9_step__107 : decode cX9_step_ 107 = .ok (.iadd, 1) := by decide +kernel
theorem dX9_step__108 : decode cX9_step_ 108 = .ok (.iload_n 2, 1) := by decide +kernel
theorem dX9_step__109 : decode cX9_step_ 109 = .ok (.iastore, 1) := by decide +kernel
theorem dX9_step__110 : decode cX9_step_ 110 = .ok (.aload_n 0, 1) := by decide +kernel
theorem dX9_step__111 : decode cX9_step_ 111 = .ok (.getfield 186, 3) := by decide +kernel
theorem dX9_step__114 : decode cX9_step_ 114 = .ok (.iload_n 1, 1) := by decide +kernel
theorem dX9_step__115 : decode cX9_step_ 115 = .ok (.dup2, 1) := by decide +kernel
theorem dX9_step__116 : decode cX9_step_ 116 = .ok (.iaload, 1) := by decide +kernel
theorem dX9_step__117 : decode cX9_step_ 117 = .ok (.iconst 1, 1) := by decide +kernel
theorem dX9_step__118 : decode cX9_step_ 118 = .ok (.iadd, 1) := by decide +kernel
theorem dX9_step__119 : decode cX9_step_ 119 = .ok (.iastore, 1) := by decide +kernel
theorem dX9_step__120 : decode cX9_step_ 120 = .ok (.aload_n 0, 1) := by decide +kernel
theorem dX9_step__121 : decode cX9_step_ 121 = .ok (.getfield 186, 3) := by decide +kernel
theorem dX9_step__124 : decode cX9_step_ 124 = .ok (.iload_n 1, 1) := by decide +kernel
theorem dX9_step__125 : decode cX9_step_ 125 = .ok (.iaload, 1) := by decide +kernel
theorem dX9_step__126 : decode cX9_step_ 126 = .ok (.ireturn, 1) := by decide +kernel
theorem dX9_home_0 : decode cX9_home 0 = .ok (.aload_n 0, 1) := by decide +kernel
theorem dX9_home_1 : decode cX9_home 1 = .ok (.iload_n 1, 1) := by decide +kernel
theorem dX9_home_2 : decode cX9_home 2 = .ok (.invokevirtual 373, 3) := by decide +kernel
theorem dX9_home_5 : decode cX9_home 5 = .ok (.ifCond .ne 5, 3) := by decide +kernel
theorem dX9_home_8 : decode cX9_home 8 = .ok (.iconst (-1), 1) := by decide +kernel
theorem dX9_home_9 : decode cX9_home 9 = .ok (.ireturn, 1) := by decide +kernel
theorem dX9_home_10 : decode cX9_home 10 = .ok (.aload_n 0, 1) := by decide +kernel
theorem dX9_home_11 : decode cX9_home 11 = .ok (.getfield 186, 3) := by decide +kernel
theorem dX9_home_14 : decode cX9_home 14 = .ok (.iload_n 1, 1) := by decide +kernel
theorem dX9_home_15 : decode cX9_home 15 = .ok (.iaload, 1) := by decide +kernel
theorem dX9_home_16 : decode cX9_home 16 = .ok (.istore_n 2, 1) := by decide +kernel
theorem dX9_home_17 : decode cX9_home 17 = .ok (.aload_n 0, 1) := by decide +kernel
theorem dX9_home_18 : decode cX9_home 18 = .ok (.getfield 186, 3) := by decide +kernel
theorem dX9_home_21 : decode cX9_home 21 = .ok (.iload_n 1, 1) := by decide +kernel
theorem dX9_home_22 : decode cX9_home 22 = .ok (.iconst 0, 1) := by decide +kernel
theorem dX9_home_23 : decode cX9_home 23 = .ok (.iastore, 1) := by decide +kernel
theorem dX9_home_24 : decode cX9_home 24 = .ok (.iload_n 2, 1) := by decide +kernel
theorem dX9_home_25 : decode cX9_home 25 = .ok (.ireturn, 1) := by decide +kernel
theorem dX9_worksAt_0 : decode cX9_worksAt 0 = .ok (.aload_n 0, 1) := by decide +kernel
theorem dX9_worksAt_1 : decode cX9_worksAt 1 = .ok (.iload_n 1, 1) := by decide +kernel
theorem dX9_worksAt_2 : decode cX9_worksAt 2 = .ok (.iload_n 2, 1) := by decide +kernel
theorem dX9_worksAt_3 : decode cX9_worksAt 3 = .ok (.iload_n 3, 1) := by decide +kernel
theorem dX9_worksAt_4 : decode cX9_worksAt 4 = .ok (.iload 4, 2) := by decide +kernel
theorem dX9_worksAt_6 : decode cX9_worksAt 6 = .ok (.invokevirtual 382, 3) := by decide +kernel
theorem dX9_worksAt_9 : decode cX9_worksAt 9 = .ok (.ifCond .eq 7, 3) := by decide +kernel
theorem dX9_worksAt_12 : decode cX9_worksAt 12 = .ok (.iconst 1, 1) := by decide +kernel
theorem dX9_worksAt_13 : decode cX9_worksAt 13 = .ok (.goto 4, 3) := by decide +kernel
theorem dX9_worksAt_16 : decode cX9_worksAt 16 = .ok (.iconst 0, 1) := by decide +kernel
theorem dX9_worksAt_17 : decode cX9_worksAt 17 = .ok (.aload_n 0, 1) := by decide +kernel
theorem dX9_worksAt_18 : decode cX9_worksAt 18 = .ok (.getfield 67, 3) := by decide +kernel
theorem dX9_worksAt_21 : decode cX9_worksAt 21 = .ok (.sipush 240, 3) := by decide +kernel
theorem dX9_worksAt_24 : decode cX9_worksAt 24 = .ok (.iload_n 1, 1) := by decide +kernel
theorem dX9_worksAt_25 : decode cX9_worksAt 25 = .ok (.imul, 1) := by decide +kernel
theorem dX9_worksAt_26 : decode cX9_worksAt 26 = .ok (.iload 4, 2) := by decide +kernel
theorem dX9_worksAt_28 : decode cX9_worksAt 28 = .ok (.iadd, 1) := by decide +kernel
theorem dX9_worksAt_29 : decode cX9_worksAt 29 = .ok (.iaload, 1) := by decide +kernel
theorem dX9_worksAt_30 : decode cX9_worksAt 30 = .ok (.iload_n 3, 1) := by decide +kernel
theorem dX9_worksAt_31 : decode cX9_worksAt 31 = .ok (.if_icmp .ne 19, 3) := by decide +kernel
theorem dX9_worksAt_34 : decode cX9_worksAt 34 = .ok (.aload_n 0, 1) := by decide +kernel
theorem dX9_worksAt_35 : decode cX9_worksAt 35 = .ok (.iload_n 1, 1) := by decide +kernel
theorem dX9_worksAt_36 : decode cX9_worksAt 36 = .ok (.iload_n 2, 1) := by decide +kernel
theorem dX9_worksAt_37 : decode cX9_worksAt 37 = .ok (.iload_n 3, 1) := by decide +kernel
theorem dX9_worksAt_38 : decode cX9_worksAt 38 = .ok (.iload 4, 2) := by decide +kernel
theorem dX9_worksAt_40 : decode cX9_worksAt 40 = .ok (.invokevirtual 385, 3) := by decide +kernel
theorem dX9_worksAt_43 : decode cX9_worksAt 43 = .ok (.ifCond .ne 7, 3) := by decide +kernel
theorem dX9_worksAt_46 : decode cX9_worksAt 46 = .ok (.iconst 1, 1) := by decide +kernel
theorem dX9_worksAt_47 : decode cX9_worksAt 47 = .ok (.goto 4, 3) := by decide +kernel
theorem dX9_worksAt_50 : decode cX9_worksAt 50 = .ok (.iconst 0, 1) := by decide +kernel
theorem dX9_worksAt_51 : decode cX9_worksAt 51 = .ok (.iadd, 1) := by decide +kernel
theorem dX9_worksAt_52 : decode cX9_worksAt 52 = .ok (.ireturn, 1) := by decide +kernel
theorem dX9_works_0 : decode cX9_works 0 = .ok (.aload_n 0, 1) := by decide +kernel
theorem dX9_works_1 : decode cX9_works 1 = .ok (.iload_n 1, 1) := by decide +kernel
theorem dX9_works_2 : decode cX9_works 2 = .ok (.iload_n 3, 1) := by decide +kernel
theorem dX9_works_3 : decode cX9_works 3 = .ok (.invokevirtual 376, 3) := by decide +kernel
theorem dX9_works_6 : decode cX9_works 6 = .ok (.ifCond .eq 11, 3) := by decide +kernel
theorem dX9_works_9 : decode cX9_works 9 = .ok (.aload_n 0, 1) := by decide +kernel
theorem dX9_works_10 : decode cX9_works 10 = .ok (.iload_n 2, 1) := by decide +kernel
theorem dX9_works_11 : decode cX9_works 11 = .ok (.invokevirtual 388, 3) := by decide +kernel
theorem dX9_works_14 : decode cX9_works 14 = .ok (.ifCond .ne 5, 3) := by decide +kernel
theorem dX9_works_17 : decode cX9_works 17 = .ok (.iconst (-1), 1) := by decide +kernel
theorem dX9_works_18 : decode cX9_works 18 = .ok (.ireturn, 1) := by decide +kernel
theorem dX9_works_19 : decode cX9_works 19 = .ok (.iconst 0, 1) := by decide +kernel
theorem dX9_works_20 : decode cX9_works 20 = .ok (.istore 4, 2) := by decide +kernel
theorem dX9_works_22 : decode cX9_works 22 = .ok (.iconst 0, 1) := by decide +kernel
theorem dX9_works_23 : decode cX9_works 23 = .ok (.istore 5, 2) := by decide +kernel
theorem dX9_works_25 : decode cX9_works 25 = .ok (.iload 5, 2) := by decide +kernel
theorem dX9_works_27 : decode cX9_works 27 = .ok (.aload_n 0, 1) := by decide +kernel
theorem dX9_works_28 : decode cX9_works 28 = .ok (.getfield 186, 3) := by decide +kernel
theorem dX9_works_31 : decode cX9_works 31 = .ok (.iload_n 1, 1) := by decide +kernel
theorem dX9_works_32 : decode cX9_works 32 = .ok (.iaload, 1) := by decide +kernel
theorem dX9_works_33 : decode cX9_works 33 = .ok (.if_icmp .ge 156, 3) := by decide +kernel
theorem dX9_works_36 : decode cX9_works 36 = .ok (.aload_n 0, 1) := by decide +kernel
theorem dX9_works_37 : decode cX9_works 37 = .ok (.getfield 189, 3) := by decide +kernel
theorem dX9_works_40 : decode cX9_works 40 = .ok (.bipush 60, 2) := by decide +kernel
theorem dX9_works_42 : decode cX9_works 42 = .ok (.iload_n 1, 1) := by decide +kernel
theorem dX9_works_43 : decode cX9_works 43 = .ok (.imul, 1) := by decide +kernel
theorem dX9_works_44 : decode cX9_works 44 = .ok (.iload 5, 2) := by decide +kernel
theorem dX9_works_46 : decode cX9_works 46 = .ok (.iadd, 1) := by decide +kernel
theorem dX9_works_47 : decode cX9_works 47 = .ok (.iaload, 1) := by decide +kernel
theorem dX9_works_48 : decode cX9_works 48 = .ok (.istore 6, 2) := by decide +kernel
theorem dX9_works_50 : decode cX9_works 50 = .ok (.aload_n 0, 1) := by decide +kernel
theorem dX9_works_51 : decode cX9_works 51 = .ok (.iload_n 1, 1) := by decide +kernel
theorem dX9_works_52 : decode cX9_works 52 = .ok (.iload 6, 2) := by decide +kernel
theorem dX9_works_54 : decode cX9_works 54 = .ok (.invokevirtual 405, 3) := by decide +kernel
theorem dX9_works_57 : decode cX9_works 57 = .ok (.sipush 240, 3) := by decide +kernel
theorem dX9_works_60 : decode cX9_works 60 = .ok (.iload_n 1, 1) := by decide +kernel
theorem dX9_works_61 : decode cX9_works 61 = .ok (.imul, 1) := by decide +kernel
theorem dX9_works_62 : decode cX9_works 62 = .ok (.isub, 1) := by decide +kernel
theorem dX9_works_63 : decode cX9_works 63 = .ok (.istore 7, 2) := by decide +kernel
theorem dX9_works_65 : decode cX9_works 65 = .ok (.aload_n 0, 1) := by decide +kernel
theorem dX9_works_66 : decode cX9_works 66 = .ok (.getfield 52, 3) := by decide +kernel
theorem dX9_works_69 : decode cX9_works 69 = .ok (.bipush 41, 2) := by decide +kernel
theorem dX9_works_71 : decode cX9_works 71 = .ok (.iload_n 1, 1) := by decide +kernel
theorem dX9_works_72 : decode cX9_works 72 = .ok (.imul, 1) := by decide +kernel
theorem dX9_works_73 : decode cX9_works 73 = .ok (.iload 6, 2) := by decide +kernel
theorem dX9_works_75 : decode cX9_works 75 = .ok (.iadd, 1) := by decide +kernel
theorem dX9_works_76 : decode cX9_works 76 = .ok (.iaload, 1) := by decide +kernel
theorem dX9_works_77 : decode cX9_works 77 = .ok (.istore 8, 2) := by decide +kernel
theorem dX9_works_79 : decode cX9_works 79 = .ok (.iload 8, 2) := by decide +kernel
theorem dX9_works_81 : decode cX9_works 81 = .ok (.iload 7, 2) := by decide +kernel
theorem dX9_works_83 : decode cX9_works 83 = .ok (.if_icmp .gt 23, 3) := by decide +kernel
theorem dX9_works_86 : decode cX9_works 86 = .ok (.iload 4, 2) := by decide +kernel
theorem dX9_works_88 : decode cX9_works 88 = .ok (.aload_n 0, 1) := by decide +kernel
theorem dX9_works_89 : decode cX9_works 89 = .ok (.iload_n 1, 1) := by decide +kernel
theorem dX9_works_90 : decode cX9_works 90 = .ok (.iload_n 2, 1) := by decide +kernel
theorem dX9_works_91 : decode cX9_works 91 = .ok (.iload_n 3, 1) := by decide +kernel
theorem dX9_works_92 : decode cX9_works 92 = .ok (.iload 8, 2) := by decide +kernel
theorem dX9_works_94 : decode cX9_works 94 = .ok (.invokevirtual 412, 3) := by decide +kernel
theorem dX9_works_97 : decode cX9_works 97 = .ok (.iadd, 1) := by decide +kernel
theorem dX9_works_98 : decode cX9_works 98 = .ok (.istore 4, 2) := by decide +kernel
theorem dX9_works_100 : decode cX9_works 100 = .ok (.iinc 8 1, 3) := by decide +kernel
theorem dX9_works_103 : decode cX9_works 103 = .ok (.goto (-24), 3) := by decide +kernel
theorem dX9_works_106 : decode cX9_works 106 = .ok (.iload 5, 2) := by decide +kernel
theorem dX9_works_108 : decode cX9_works 108 = .ok (.iconst 1, 1) := by decide +kernel
theorem dX9_works_109 : decode cX9_works 109 = .ok (.iadd, 1) := by decide +kernel
theorem dX9_works_110 : decode cX9_works 110 = .ok (.aload_n 0, 1) := by decide +kernel
theorem dX9_works_111 : decode cX9_works 111 = .ok (.getfield 186, 3) := by decide +kernel
theorem dX9_works_114 : decode cX9_works 114 = .ok (.iload_n 1, 1) := by decide +kernel
theorem dX9_works_115 : decode cX9_works 115 = .ok (.iaload, 1) := by decide +kernel
theorem dX9_works_116 : decode cX9_works 116 = .ok (.if_icmp .ne 6, 3) := by decide +kernel
theorem dX9_works_119 : decode cX9_works 119 = .ok (.goto 64, 3) := by decide +kernel
theorem dX9_works_122 : decode cX9_works 122 = .ok (.aload_n 0, 1) := by decide +kernel
theorem dX9_works_123 : decode cX9_works 123 = .ok (.iload_n 1, 1) := by decide +kernel
theorem dX9_works_124 : decode cX9_works 124 = .ok (.sipush 240, 3) := by decide +kernel
theorem dX9_works_127 : decode cX9_works 127 = .ok (.iload_n 1, 1) := by decide +kernel
theorem dX9_works_128 : decode cX9_works 128 = .ok (.imul, 1) := by decide +kernel
theorem dX9_works_129 : decode cX9_works 129 = .ok (.iload 7, 2) := by decide +kernel
theorem dX9_works_131 : decode cX9_works 131 = .ok (.iadd, 1) := by decide +kernel
theorem dX9_works_132 : decode cX9_works 132 = .ok (.aload_n 0, 1) := by decide +kernel
theorem dX9_works_133 : decode cX9_works 133 = .ok (.getfield 189, 3) := by decide +kernel
theorem dX9_works_136 : decode cX9_works 136 = .ok (.bipush 60, 2) := by decide +kernel
theorem dX9_works_138 : decode cX9_works 138 = .ok (.iload_n 1, 1) := by decide +kernel
theorem dX9_works_139 : decode cX9_works 139 = .ok (.imul, 1) := by decide +kernel
theorem dX9_works_140 : decode cX9_works 140 = .ok (.iload 5, 2) := by decide +kernel
theorem dX9_works_142 : decode cX9_works 142 = .ok (.iadd, 1) := by decide +kernel
theorem dX9_works_143 : decode cX9_works 143 = .ok (.iconst 1, 1) := by decide +kernel
theorem dX9_works_144 : decode cX9_works 144 = .ok (.iadd, 1) := by decide +kernel
theorem dX9_works_145 : decode cX9_works 145 = .ok (.iaload, 1) := by decide +kernel
theorem dX9_works_146 : decode cX9_works 146 = .ok (.invokevirtual 408, 3) := by decide +kernel
theorem dX9_works_149 : decode cX9_works 149 = .ok (.istore 8, 2) := by decide +kernel
theorem dX9_works_151 : decode cX9_works 151 = .ok (.aload_n 0, 1) := by decide +kernel
theorem dX9_works_152 : decode cX9_works 152 = .ok (.getfield 58, 3) := by decide +kernel
theorem dX9_works_155 : decode cX9_works 155 = .ok (.sipush 240, 3) := by decide +kernel
theorem dX9_works_158 : decode cX9_works 158 = .ok (.iload_n 1, 1) := by decide +kernel
theorem dX9_works_159 : decode cX9_works 159 = .ok (.imul, 1) := by decide +kernel
theorem dX9_works_160 : decode cX9_works 160 = .ok (.iload 8, 2) := by decide +kernel
theorem dX9_works_162 : decode cX9_works 162 = .ok (.iadd, 1) := by decide +kernel
theorem dX9_works_163 : decode cX9_works 163 = .ok (.iaload, 1) := by decide +kernel
theorem dX9_works_164 : decode cX9_works 164 = .ok (.bipush 7, 2) := by decide +kernel
theorem dX9_works_166 : decode cX9_works 166 = .ok (.if_icmp .ne 17, 3) := by decide +kernel
theorem dX9_works_169 : decode cX9_works 169 = .ok (.iload 4, 2) := by decide +kernel
theorem dX9_works_171 : decode cX9_works 171 = .ok (.aload_n 0, 1) := by decide +kernel
theorem dX9_works_172 : decode cX9_works 172 = .ok (.iload_n 1, 1) := by decide +kernel
theorem dX9_works_173 : decode cX9_works 173 = .ok (.iload_n 2, 1) := by decide +kernel
theorem dX9_works_174 : decode cX9_works 174 = .ok (.iload_n 3, 1) := by decide +kernel
theorem dX9_works_175 : decode cX9_works 175 = .ok (.iload 8, 2) := by decide +kernel
theorem dX9_works_177 : decode cX9_works 177 = .ok (.invokevirtual 412, 3) := by decide +kernel
theorem dX9_works_180 : decode cX9_works 180 = .ok (.iadd, 1) := by decide +kernel
theorem dX9_works_181 : decode cX9_works 181 = .ok (.istore 4, 2) := by decide +kernel
theorem dX9_works_183 : decode cX9_works 183 = .ok (.iinc 5 1, 3) := by decide +kernel
theorem dX9_works_186 : decode cX9_works 186 = .ok (.goto (-161), 3) := by decide +kernel
theorem dX9_works_189 : decode cX9_works 189 = .ok (.iload 4, 2) := by decide +kernel
theorem dX9_works_191 : decode cX9_works 191 = .ok (.ireturn, 1) := by decide +kernel
theorem dX9_say_0 : decode cX9_say 0 = .ok (.aload_n 0, 1) := by decide +kernel
theorem dX9_say_1 : decode cX9_say 1 = .ok (.getfield 193, 3) := by decide +kernel
theorem dX9_say_4 : decode cX9_say 4 = .ok (.aload_n 0, 1) := by decide +kernel
theorem dX9_say_5 : decode cX9_say 5 = .ok (.getfield 196, 3) := by decide +kernel
theorem dX9_say_8 : decode cX9_say 8 = .ok (.iload_n 1, 1) := by decide +kernel
theorem dX9_say_9 : decode cX9_say 9 = .ok (.iastore, 1) := by decide +kernel
theorem dX9_say_10 : decode cX9_say 10 = .ok (.aload_n 0, 1) := by decide +kernel
theorem dX9_say_11 : decode cX9_say 11 = .ok (.dup, 1) := by decide +kernel
theorem dX9_say_12 : decode cX9_say 12 = .ok (.getfield 196, 3) := by decide +kernel
theorem dX9_say_15 : decode cX9_say 15 = .ok (.iconst 1, 1) := by decide +kernel
theorem dX9_say_16 : decode cX9_say 16 = .ok (.iadd, 1) := by decide +kernel
theorem dX9_say_17 : decode cX9_say 17 = .ok (.putfield 196, 3) := by decide +kernel
theorem dX9_say_20 : decode cX9_say 20 = .ok (.return_, 1) := by decide +kernel
theorem dX9_sayNumber_0 : decode cX9_sayNumber 0 = .ok (.iload_n 1, 1) := by decide +kernel
theorem dX9_sayNumber_1 : decode cX9_sayNumber 1 = .ok (.ifCond .ge 9, 3) := by decide +kernel
theorem dX9_sayNumber_4 : decode cX9_sayNumber 4 = .ok (.iload_n 1, 1) := by decide +kernel
theorem dX9_sayNumber_5 : decode cX9_sayNumber 5 = .ok (.i2l, 1) := by decide +kernel
theorem dX9_sayNumber_6 : decode cX9_sayNumber 6 = .ok (.lneg, 1) := by decide +kernel
theorem dX9_sayNumber_7 : decode cX9_sayNumber 7 = .ok (.goto 5, 3) := by decide +kernel
theorem dX9_sayNumber_10 : decode cX9_sayNumber 10 = .ok (.iload_n 1, 1) := by decide +kernel
theorem dX9_sayNumber_11 : decode cX9_sayNumber 11 = .ok (.i2l, 1) := by decide +kernel
theorem dX9_sayNumber_12 : decode cX9_sayNumber 12 = .ok (.lstore_n 2, 1) := by decide +kernel
theorem dX9_sayNumber_13 : decode cX9_sayNumber 13 = .ok (.lconst 1, 1) := by decide +kernel
theorem dX9_sayNumber_14 : decode cX9_sayNumber 14 = .ok (.lstore 4, 2) := by decide +kernel
theorem dX9_sayNumber_16 : decode cX9_sayNumber 16 = .ok (.iload_n 1, 1) := by decide +kernel
theorem dX9_sayNumber_17 : decode cX9_sayNumber 17 = .ok (.ifCond .ge 9, 3) := by decide +kernel
theorem dX9_sayNumber_20 : decode cX9_sayNumber 20 = .ok (.aload_n 0, 1) := by decide +kernel
theorem dX9_sayNumber_21 : decode cX9_sayNumber 21 = .ok (.bipush 45, 2) := by decide +kernel
theorem dX9_sayNumber_23 : decode cX9_sayNumber 23 = .ok (.invokevirtual 415, 3) := by decide +kernel
theorem dX9_sayNumber_26 : decode cX9_sayNumber 26 = .ok (.lload_n 2, 1) := by decide +kernel
theorem dX9_sayNumber_27 : decode cX9_sayNumber 27 = .ok (.lload 4, 2) := by decide +kernel
theorem dX9_sayNumber_29 : decode cX9_sayNumber 29 = .ok (.ldiv, 1) := by decide +kernel
theorem dX9_sayNumber_30 : decode cX9_sayNumber 30 = .ok (.ldc2_w 418, 3) := by decide +kernel
theorem dX9_sayNumber_33 : decode cX9_sayNumber 33 = .ok (.lcmp, 1) := by decide +kernel
theorem dX9_sayNumber_34 : decode cX9_sayNumber 34 = .ok (.ifCond .le 14, 3) := by decide +kernel
theorem dX9_sayNumber_37 : decode cX9_sayNumber 37 = .ok (.lload 4, 2) := by decide +kernel
theorem dX9_sayNumber_39 : decode cX9_sayNumber 39 = .ok (.ldc2_w 221, 3) := by decide +kernel
theorem dX9_sayNumber_42 : decode cX9_sayNumber 42 = .ok (.lmul, 1) := by decide +kernel
theorem dX9_sayNumber_43 : decode cX9_sayNumber 43 = .ok (.lstore 4, 2) := by decide +kernel
theorem dX9_sayNumber_45 : decode cX9_sayNumber 45 = .ok (.goto (-19), 3) := by decide +kernel
theorem dX9_sayNumber_48 : decode cX9_sayNumber 48 = .ok (.lload 4, 2) := by decide +kernel
theorem dX9_sayNumber_50 : decode cX9_sayNumber 50 = .ok (.lconst 0, 1) := by decide +kernel
theorem dX9_sayNumber_51 : decode cX9_sayNumber 51 = .ok (.lcmp, 1) := by decide +kernel
theorem dX9_sayNumber_52 : decode cX9_sayNumber 52 = .ok (.ifCond .le 31, 3) := by decide +kernel
theorem dX9_sayNumber_55 : decode cX9_sayNumber 55 = .ok (.aload_n 0, 1) := by decide +kernel
theorem dX9_sayNumber_56 : decode cX9_sayNumber 56 = .ok (.ldc2_w 223, 3) := by decide +kernel
theorem dX9_sayNumber_59 : decode cX9_sayNumber 59 = .ok (.lload_n 2, 1) := by decide +kernel
theorem dX9_sayNumber_60 : decode cX9_sayNumber 60 = .ok (.lload 4, 2) := by decide +kernel
theorem dX9_sayNumber_62 : decode cX9_sayNumber 62 = .ok (.ldiv, 1) := by decide +kernel
theorem dX9_sayNumber_63 : decode cX9_sayNumber 63 = .ok (.ldc2_w 221, 3) := by decide +kernel
theorem dX9_sayNumber_66 : decode cX9_sayNumber 66 = .ok (.lrem, 1) := by decide +kernel
theorem dX9_sayNumber_67 : decode cX9_sayNumber 67 = .ok (.ladd, 1) := by decide +kernel
theorem dX9_sayNumber_68 : decode cX9_sayNumber 68 = .ok (.l2i, 1) := by decide +kernel
theorem dX9_sayNumber_69 : decode cX9_sayNumber 69 = .ok (.invokevirtual 415, 3) := by decide +kernel
theorem dX9_sayNumber_72 : decode cX9_sayNumber 72 = .ok (.lload 4, 2) := by decide +kernel
theorem dX9_sayNumber_74 : decode cX9_sayNumber 74 = .ok (.ldc2_w 221, 3) := by decide +kernel
theorem dX9_sayNumber_77 : decode cX9_sayNumber 77 = .ok (.ldiv, 1) := by decide +kernel
theorem dX9_sayNumber_78 : decode cX9_sayNumber 78 = .ok (.lstore 4, 2) := by decide +kernel
theorem dX9_sayNumber_80 : decode cX9_sayNumber 80 = .ok (.goto (-32), 3) := by decide +kernel
theorem dX9_sayNumber_83 : decode cX9_sayNumber 83 = .ok (.return_, 1) := by decide +kernel
theorem dX9_sayOperand_0 : decode cX9_sayOperand 0 = .ok (.iload_n 1, 1) := by decide +kernel
theorem dX9_sayOperand_1 : decode cX9_sayOperand 1 = .ok (.ifCond .ge 9, 3) := by decide +kernel
theorem dX9_sayOperand_4 : decode cX9_sayOperand 4 = .ok (.aload_n 0, 1) := by decide +kernel
theorem dX9_sayOperand_5 : decode cX9_sayOperand 5 = .ok (.iload_n 2, 1) := by decide +kernel
theorem dX9_sayOperand_6 : decode cX9_sayOperand 6 = .ok (.invokevirtual 420, 3) := by decide +kernel
theorem dX9_sayOperand_9 : decode cX9_sayOperand 9 = .ok (.return_, 1) := by decide +kernel
theorem dX9_sayOperand_10 : decode cX9_sayOperand 10 = .ok (.aload_n 0, 1) := by decide +kernel
theorem dX9_sayOperand_11 : decode cX9_sayOperand 11 = .ok (.iload_n 1, 1) := by decide +kernel
theorem dX9_sayOperand_12 : decode cX9_sayOperand 12 = .ok (.bipush 16, 2) := by decide +kernel
theorem dX9_sayOperand_14 : decode cX9_sayOperand 14 = .ok (.if_icmp .ge 8, 3) := by decide +kernel
theorem dX9_sayOperand_17 : decode cX9_sayOperand 17 = .ok (.bipush 118, 2) := by decide +kernel
theorem dX9_sayOperand_19 : decode cX9_sayOperand 19 = .ok (.goto 5, 3) := by decide +kernel
theorem dX9_sayOperand_22 : decode cX9_sayOperand 22 = .ok (.bipush 116, 2) := by decide +kernel
theorem dX9_sayOperand_24 : decode cX9_sayOperand 24 = .ok (.invokevirtual 415, 3) := by decide +kernel
theorem dX9_sayOperand_27 : decode cX9_sayOperand 27 = .ok (.aload_n 0, 1) := by decide +kernel
theorem dX9_sayOperand_28 : decode cX9_sayOperand 28 = .ok (.iload_n 1, 1) := by decide +kernel
theorem dX9_sayOperand_29 : decode cX9_sayOperand 29 = .ok (.bipush 16, 2) := by decide +kernel
theorem dX9_sayOperand_31 : decode cX9_sayOperand 31 = .ok (.if_icmp .ge 7, 3) := by decide +kernel
theorem dX9_sayOperand_34 : decode cX9_sayOperand 34 = .ok (.iload_n 1, 1) := by decide +kernel
theorem dX9_sayOperand_35 : decode cX9_sayOperand 35 = .ok (.goto 7, 3) := by decide +kernel
theorem dX9_sayOperand_38 : decode cX9_sayOperand 38 = .ok (.iload_n 1, 1) := by decide +kernel
theorem dX9_sayOperand_39 : decode cX9_sayOperand 39 = .ok (.bipush 16, 2) := by decide +kernel
theorem dX9_sayOperand_41 : decode cX9_sayOperand 41 = .ok (.isub, 1) := by decide +kernel
theorem dX9_sayOperand_42 : decode cX9_sayOperand 42 = .ok (.invokevirtual 420, 3) := by decide +kernel
theorem dX9_sayOperand_45 : decode cX9_sayOperand 45 = .ok (.return_, 1) := by decide +kernel
theorem dX9_sayRow_0 : decode cX9_sayRow 0 = .ok (.aload_n 0, 1) := by decide +kernel
theorem dX9_sayRow_1 : decode cX9_sayRow 1 = .ok (.bipush 114, 2) := by decide +kernel
theorem dX9_sayRow_3 : decode cX9_sayRow 3 = .ok (.invokevirtual 415, 3) := by decide +kernel
theorem dX9_sayRow_6 : decode cX9_sayRow 6 = .ok (.aload_n 0, 1) := by decide +kernel
theorem dX9_sayRow_7 : decode cX9_sayRow 7 = .ok (.iload_n 1, 1) := by decide +kernel
theorem dX9_sayRow_8 : decode cX9_sayRow 8 = .ok (.invokevirtual 420, 3) := by decide +kernel
theorem dX9_sayRow_11 : decode cX9_sayRow 11 = .ok (.aload_n 0, 1) := by decide +kernel
theorem dX9_sayRow_12 : decode cX9_sayRow 12 = .ok (.bipush 32, 2) := by decide +kernel
theorem dX9_sayRow_14 : decode cX9_sayRow 14 = .ok (.invokevirtual 415, 3) := by decide +kernel
theorem dX9_sayRow_17 : decode cX9_sayRow 17 = .ok (.aload_n 0, 1) := by decide +kernel
theorem dX9_sayRow_18 : decode cX9_sayRow 18 = .ok (.bipush 91, 2) := by decide +kernel
theorem dX9_sayRow_20 : decode cX9_sayRow 20 = .ok (.invokevirtual 415, 3) := by decide +kernel
theorem dX9_sayRow_23 : decode cX9_sayRow 23 = .ok (.aload_n 0, 1) := by decide +kernel
theorem dX9_sayRow_24 : decode cX9_sayRow 24 = .ok (.bipush 32, 2) := by decide +kernel
theorem dX9_sayRow_26 : decode cX9_sayRow 26 = .ok (.invokevirtual 415, 3) := by decide +kernel
theorem dX9_sayRow_29 : decode cX9_sayRow 29 = .ok (.aload_n 0, 1) := by decide +kernel
theorem dX9_sayRow_30 : decode cX9_sayRow 30 = .ok (.iload_n 2, 1) := by decide +kernel
theorem dX9_sayRow_31 : decode cX9_sayRow 31 = .ok (.iload_n 3, 1) := by decide +kernel
theorem dX9_sayRow_32 : decode cX9_sayRow 32 = .ok (.invokevirtual 423, 3) := by decide +kernel
theorem dX9_sayRow_35 : decode cX9_sayRow 35 = .ok (.aload_n 0, 1) := by decide +kernel
theorem dX9_sayRow_36 : decode cX9_sayRow 36 = .ok (.bipush 32, 2) := by decide +kernel
theorem dX9_sayRow_38 : decode cX9_sayRow 38 = .ok (.invokevirtual 415, 3) := by decide +kernel
theorem dX9_sayRow_41 : decode cX9_sayRow 41 = .ok (.aload_n 0, 1) := by decide +kernel
theorem dX9_sayRow_42 : decode cX9_sayRow 42 = .ok (.bipush 93, 2) := by decide +kernel
theorem dX9_sayRow_44 : decode cX9_sayRow 44 = .ok (.invokevirtual 415, 3) := by decide +kernel
theorem dX9_sayRow_47 : decode cX9_sayRow 47 = .ok (.return_, 1) := by decide +kernel
theorem dX9_saySum_0 : decode cX9_saySum 0 = .ok (.bipush 32, 2) := by decide +kernel
theorem dX9_saySum_2 : decode cX9_saySum 2 = .ok (.iload_n 1, 1) := by decide +kernel
theorem dX9_saySum_3 : decode cX9_saySum 3 = .ok (.imul, 1) := by decide +kernel
theorem dX9_saySum_4 : decode cX9_saySum 4 = .ok (.iload_n 2, 1) := by decide +kernel
theorem dX9_saySum_5 : decode cX9_saySum 5 = .ok (.iadd, 1) := by decide +kernel
theorem dX9_saySum_6 : decode cX9_saySum 6 = .ok (.istore_n 3, 1) := by decide +kernel
theorem dX9_saySum_7 : decode cX9_saySum 7 = .ok (.aload_n 0, 1) := by decide +kernel
theorem dX9_saySum_8 : decode cX9_saySum 8 = .ok (.getfield 91, 3) := by decide +kernel
theorem dX9_saySum_11 : decode cX9_saySum 11 = .ok (.iload_n 3, 1) := by decide +kernel
theorem dX9_saySum_12 : decode cX9_saySum 12 = .ok (.iaload, 1) := by decide +kernel
theorem dX9_saySum_13 : decode cX9_saySum 13 = .ok (.bipush 114, 2) := by decide +kernel
theorem dX9_saySum_15 : decode cX9_saySum 15 = .ok (.if_icmp .ne 26, 3) := by decide +kernel
theorem dX9_saySum_18 : decode cX9_saySum 18 = .ok (.aload_n 0, 1) := by decide +kernel
theorem dX9_saySum_19 : decode cX9_saySum 19 = .ok (.aload_n 0, 1) := by decide +kernel
theorem dX9_saySum_20 : decode cX9_saySum 20 = .ok (.getfield 97, 3) := by decide +kernel
theorem dX9_saySum_23 : decode cX9_saySum 23 = .ok (.iload_n 3, 1) := by decide +kernel
theorem dX9_saySum_24 : decode cX9_saySum 24 = .ok (.iaload, 1) := by decide +kernel
theorem dX9_saySum_25 : decode cX9_saySum 25 = .ok (.aload_n 0, 1) := by decide +kernel
theorem dX9_saySum_26 : decode cX9_saySum 26 = .ok (.getfield 100, 3) := by decide +kernel
theorem dX9_saySum_29 : decode cX9_saySum 29 = .ok (.iload_n 3, 1) := by decide +kernel
theorem dX9_saySum_30 : decode cX9_saySum 30 = .ok (.iaload, 1) := by decide +kernel
theorem dX9_saySum_31 : decode cX9_saySum 31 = .ok (.aload_n 0, 1) := by decide +kernel
theorem dX9_saySum_32 : decode cX9_saySum 32 = .ok (.getfield 103, 3) := by decide +kernel
theorem dX9_saySum_35 : decode cX9_saySum 35 = .ok (.iload_n 3, 1) := by decide +kernel
theorem dX9_saySum_36 : decode cX9_saySum 36 = .ok (.iaload, 1) := by decide +kernel
theorem dX9_saySum_37 : decode cX9_saySum 37 = .ok (.invokevirtual 426, 3) := by decide +kernel
theorem dX9_saySum_40 : decode cX9_saySum 40 = .ok (.return_, 1) := by decide +kernel
theorem dX9_saySum_41 : decode cX9_saySum 41 = .ok (.aload_n 0, 1) := by decide +kernel
theorem dX9_saySum_42 : decode cX9_saySum 42 = .ok (.aload_n 0, 1) := by decide +kernel
theorem dX9_saySum_43 : decode cX9_saySum 43 = .ok (.getfield 94, 3) := by decide +kernel
theorem dX9_saySum_46 : decode cX9_saySum 46 = .ok (.iload_n 3, 1) := by decide +kernel
theorem dX9_saySum_47 : decode cX9_saySum 47 = .ok (.iaload, 1) := by decide +kernel
theorem dX9_saySum_48 : decode cX9_saySum 48 = .ok (.aload_n 0, 1) := by decide +kernel
theorem dX9_saySum_49 : decode cX9_saySum 49 = .ok (.getfield 97, 3) := by decide +kernel
theorem dX9_saySum_52 : decode cX9_saySum 52 = .ok (.iload_n 3, 1) := by decide +kernel
theorem dX9_saySum_53 : decode cX9_saySum 53 = .ok (.iaload, 1) := by decide +kernel
theorem dX9_saySum_54 : decode cX9_saySum 54 = .ok (.invokevirtual 423, 3) := by decide +kernel
theorem dX9_saySum_57 : decode cX9_saySum 57 = .ok (.aload_n 0, 1) := by decide +kernel
theorem dX9_saySum_58 : decode cX9_saySum 58 = .ok (.bipush 32, 2) := by decide +kernel
theorem dX9_saySum_60 : decode cX9_saySum 60 = .ok (.invokevirtual 415, 3) := by decide +kernel
theorem dX9_saySum_63 : decode cX9_saySum 63 = .ok (.aload_n 0, 1) := by decide +kernel
theorem dX9_saySum_64 : decode cX9_saySum 64 = .ok (.aload_n 0, 1) := by decide +kernel
theorem dX9_saySum_65 : decode cX9_saySum 65 = .ok (.getfield 91, 3) := by decide +kernel
theorem dX9_saySum_68 : decode cX9_saySum 68 = .ok (.iload_n 3, 1) := by decide +kernel
theorem dX9_saySum_69 : decode cX9_saySum 69 = .ok (.iaload, 1) := by decide +kernel
theorem dX9_saySum_70 : decode cX9_saySum 70 = .ok (.invokevirtual 415, 3) := by decide +kernel
theorem dX9_saySum_73 : decode cX9_saySum 73 = .ok (.aload_n 0, 1) := by decide +kernel
theorem dX9_saySum_74 : decode cX9_saySum 74 = .ok (.bipush 32, 2) := by decide +kernel
theorem dX9_saySum_76 : decode cX9_saySum 76 = .ok (.invokevirtual 415, 3) := by decide +kernel
theorem dX9_saySum_79 : decode cX9_saySum 79 = .ok (.aload_n 0, 1) := by decide +kernel
theorem dX9_saySum_80 : decode cX9_saySum 80 = .ok (.aload_n 0, 1) := by decide +kernel
theorem dX9_saySum_81 : decode cX9_saySum 81 = .ok (.getfield 100, 3) := by decide +kernel
theorem dX9_saySum_84 : decode cX9_saySum 84 = .ok (.iload_n 3, 1) := by decide +kernel
theorem dX9_saySum_85 : decode cX9_saySum 85 = .ok (.iaload, 1) := by decide +kernel
theorem dX9_saySum_86 : decode cX9_saySum 86 = .ok (.aload_n 0, 1) := by decide +kernel
theorem dX9_saySum_87 : decode cX9_saySum 87 = .ok (.getfield 103, 3) := by decide +kernel
theorem dX9_saySum_90 : decode cX9_saySum 90 = .ok (.iload_n 3, 1) := by decide +kernel
theorem dX9_saySum_91 : decode cX9_saySum 91 = .ok (.iaload, 1) := by decide +kernel
theorem dX9_saySum_92 : decode cX9_saySum 92 = .ok (.invokevirtual 423, 3) := by decide +kernel
theorem dX9_saySum_95 : decode cX9_saySum 95 = .ok (.return_, 1) := by decide +kernel
theorem dX9_begin_0 : decode cX9_begin 0 = .ok (.aload_n 0, 1) := by decide +kernel
theorem dX9_begin_1 : decode cX9_begin 1 = .ok (.bipush 32, 2) := by decide +kernel
theorem dX9_begin_3 : decode cX9_begin 3 = .ok (.invokevirtual 415, 3) := by decide +kernel
theorem dX9_begin_6 : decode cX9_begin 6 = .ok (.aload_n 0, 1) := by decide +kernel
theorem dX9_begin_7 : decode cX9_begin 7 = .ok (.bipush 32, 2) := by decide +kernel
theorem dX9_begin_9 : decode cX9_begin 9 = .ok (.invokevirtual 415, 3) := by decide +kernel
theorem dX9_begin_12 : decode cX9_begin 12 = .ok (.return_, 1) := by decide +kernel
theorem dX9_close_0 : decode cX9_close 0 = .ok (.aload_n 0, 1) := by decide +kernel
theorem dX9_close_1 : decode cX9_close 1 = .ok (.bipush 59, 2) := by decide +kernel
theorem dX9_close_3 : decode cX9_close 3 = .ok (.invokevirtual 415, 3) := by decide +kernel
theorem dX9_close_6 : decode cX9_close 6 = .ok (.aload_n 0, 1) := by decide +kernel
theorem dX9_close_7 : decode cX9_close 7 = .ok (.bipush 10, 2) := by decide +kernel
theorem dX9_close_9 : decode cX9_close 9 = .ok (.invokevirtual 415, 3) := by decide +kernel
theorem dX9_close_12 : decode cX9_close 12 = .ok (.return_, 1) := by decide +kernel
theorem dX9_is__0 : decode cX9_is_ 0 = .ok (.aload_n 0, 1) := by decide +kernel
theorem dX9_is__1 : decode cX9_is_ 1 = .ok (.bipush 32, 2) := by decide +kernel
theorem dX9_is__3 : decode cX9_is_ 3 = .ok (.invokevirtual 415, 3) := by decide +kernel
theorem dX9_is__6 : decode cX9_is_ 6 = .ok (.aload_n 0, 1) := by decide +kernel
theorem dX9_is__7 : decode cX9_is_ 7 = .ok (.bipush 61, 2) := by decide +kernel
theorem dX9_is__9 : decode cX9_is_ 9 = .ok (.invokevirtual 415, 3) := by decide +kernel
theorem dX9_is__12 : decode cX9_is_ 12 = .ok (.aload_n 0, 1) := by decide +kernel
theorem dX9_is__13 : decode cX9_is_ 13 = .ok (.bipush 32, 2) := by decide +kernel
theorem dX9_is__15 : decode cX9_is_ 15 = .ok (.invokevirtual 415, 3) := by decide +kernel
theorem dX9_is__18 : decode cX9_is_ 18 = .ok (.return_, 1) := by decide +kernel
theorem dX9_sayBlock_0 : decode cX9_sayBlock 0 = .ok (.aload_n 0, 1) := by decide +kernel
theorem dX9_sayBlock_1 : decode cX9_sayBlock 1 = .ok (.bipush 98, 2) := by decide +kernel
theorem dX9_sayBlock_3 : decode cX9_sayBlock 3 = .ok (.invokevirtual 415, 3) := by decide +kernel
theorem dX9_sayBlock_6 : decode cX9_sayBlock 6 = .ok (.aload_n 0, 1) := by decide +kernel
theorem dX9_sayBlock_7 : decode cX9_sayBlock 7 = .ok (.iload_n 1, 1) := by decide +kernel
theorem dX9_sayBlock_8 : decode cX9_sayBlock 8 = .ok (.invokevirtual 420, 3) := by decide +kernel
theorem dX9_sayBlock_11 : decode cX9_sayBlock 11 = .ok (.return_, 1) := by decide +kernel
theorem dX9_head_0 : decode cX9_head 0 = .ok (.aload_n 0, 1) := by decide +kernel
theorem dX9_head_1 : decode cX9_head 1 = .ok (.iload_n 1, 1) := by decide +kernel
theorem dX9_head_2 : decode cX9_head 2 = .ok (.invokevirtual 429, 3) := by decide +kernel
theorem dX9_head_5 : decode cX9_head 5 = .ok (.aload_n 0, 1) := by decide +kernel
theorem dX9_head_6 : decode cX9_head 6 = .ok (.bipush 58, 2) := by decide +kernel
theorem dX9_head_8 : decode cX9_head 8 = .ok (.invokevirtual 415, 3) := by decide +kernel
theorem dX9_head_11 : decode cX9_head 11 = .ok (.aload_n 0, 1) := by decide +kernel
theorem dX9_head_12 : decode cX9_head 12 = .ok (.bipush 10, 2) := by decide +kernel
theorem dX9_head_14 : decode cX9_head 14 = .ok (.invokevirtual 415, 3) := by decide +kernel
theorem dX9_head_17 : decode cX9_head 17 = .ok (.return_, 1) := by decide +kernel
theorem dX9_sayT_0 : decode cX9_sayT 0 = .ok (.aload_n 0, 1) := by decide +kernel
theorem dX9_sayT_1 : decode cX9_sayT 1 = .ok (.bipush 116, 2) := by decide +kernel
theorem dX9_sayT_3 : decode cX9_sayT 3 = .ok (.invokevirtual 415, 3) := by decide +kernel
theorem dX9_sayT_6 : decode cX9_sayT 6 = .ok (.aload_n 0, 1) := by decide +kernel
theorem dX9_sayT_7 : decode cX9_sayT 7 = .ok (.iload_n 1, 1) := by decide +kernel
theorem dX9_sayT_8 : decode cX9_sayT 8 = .ok (.invokevirtual 420, 3) := by decide +kernel
theorem dX9_sayT_11 : decode cX9_sayT 11 = .ok (.return_, 1) := by decide +kernel
theorem dX9_sets_0 : decode cX9_sets 0 = .ok (.iconst 0, 1) := by decide +kernel
theorem dX9_sets_1 : decode cX9_sets 1 = .ok (.istore 4, 2) := by decide +kernel
theorem dX9_sets_3 : decode cX9_sets 3 = .ok (.iconst 0, 1) := by decide +kernel
theorem dX9_sets_4 : decode cX9_sets 4 = .ok (.istore 5, 2) := by decide +kernel
theorem dX9_sets_6 : decode cX9_sets 6 = .ok (.iload 5, 2) := by decide +kernel
theorem dX9_sets_8 : decode cX9_sets 8 = .ok (.aload_n 0, 1) := by decide +kernel
theorem dX9_sets_9 : decode cX9_sets 9 = .ok (.getfield 49, 3) := by decide +kernel
theorem dX9_sets_12 : decode cX9_sets 12 = .ok (.iload_n 1, 1) := by decide +kernel
theorem dX9_sets_13 : decode cX9_sets 13 = .ok (.iaload, 1) := by decide +kernel
theorem dX9_sets_14 : decode cX9_sets 14 = .ok (.if_icmp .ge 33, 3) := by decide +kernel
theorem dX9_sets_17 : decode cX9_sets 17 = .ok (.iload 4, 2) := by decide +kernel
theorem dX9_sets_19 : decode cX9_sets 19 = .ok (.ifCond .ne 15, 3) := by decide +kernel
theorem dX9_sets_22 : decode cX9_sets 22 = .ok (.aload_n 0, 1) := by decide +kernel
theorem dX9_sets_23 : decode cX9_sets 23 = .ok (.iload_n 1, 1) := by decide +kernel
theorem dX9_sets_24 : decode cX9_sets 24 = .ok (.iload_n 2, 1) := by decide +kernel
theorem dX9_sets_25 : decode cX9_sets 25 = .ok (.iload 5, 2) := by decide +kernel
theorem dX9_sets_27 : decode cX9_sets 27 = .ok (.iload_n 3, 1) := by decide +kernel
theorem dX9_sets_28 : decode cX9_sets 28 = .ok (.invokevirtual 382, 3) := by decide +kernel
theorem dX9_sets_31 : decode cX9_sets 31 = .ok (.ifCond .eq 7, 3) := by decide +kernel
theorem dX9_sets_34 : decode cX9_sets 34 = .ok (.iconst 1, 1) := by decide +kernel
theorem dX9_sets_35 : decode cX9_sets 35 = .ok (.goto 4, 3) := by decide +kernel
theorem dX9_sets_38 : decode cX9_sets 38 = .ok (.iconst 0, 1) := by decide +kernel
theorem dX9_sets_39 : decode cX9_sets 39 = .ok (.istore 4, 2) := by decide +kernel
theorem dX9_sets_41 : decode cX9_sets 41 = .ok (.iinc 5 1, 3) := by decide +kernel
theorem dX9_sets_44 : decode cX9_sets 44 = .ok (.goto (-38), 3) := by decide +kernel
theorem dX9_sets_47 : decode cX9_sets 47 = .ok (.iload 4, 2) := by decide +kernel
theorem dX9_sets_49 : decode cX9_sets 49 = .ok (.ireturn, 1) := by decide +kernel
theorem dX9_saySets_0 : decode cX9_saySets 0 = .ok (.iconst 0, 1) := by decide +kernel
theorem dX9_saySets_1 : decode cX9_saySets 1 = .ok (.istore 4, 2) := by decide +kernel
theorem dX9_saySets_3 : decode cX9_saySets 3 = .ok (.iload 4, 2) := by decide +kernel
theorem dX9_saySets_5 : decode cX9_saySets 5 = .ok (.aload_n 0, 1) := by decide +kernel
theorem dX9_saySets_6 : decode cX9_saySets 6 = .ok (.getfield 49, 3) := by decide +kernel
theorem dX9_saySets_9 : decode cX9_saySets 9 = .ok (.iload_n 1, 1) := by decide +kernel
theorem dX9_saySets_10 : decode cX9_saySets 10 = .ok (.iaload, 1) := by decide +kernel
theorem dX9_saySets_11 : decode cX9_saySets 11 = .ok (.if_icmp .ge 49, 3) := by decide +kernel
theorem dX9_saySets_14 : decode cX9_saySets 14 = .ok (.aload_n 0, 1) := by decide +kernel
theorem dX9_saySets_15 : decode cX9_saySets 15 = .ok (.iload_n 1, 1) := by decide +kernel
theorem dX9_saySets_16 : decode cX9_saySets 16 = .ok (.iload_n 2, 1) := by decide +kernel
theorem dX9_saySets_17 : decode cX9_saySets 17 = .ok (.iload 4, 2) := by decide +kernel
theorem dX9_saySets_19 : decode cX9_saySets 19 = .ok (.iload_n 3, 1) := by decide +kernel
theorem dX9_saySets_20 : decode cX9_saySets 20 = .ok (.invokevirtual 382, 3) := by decide +kernel
theorem dX9_saySets_23 : decode cX9_saySets 23 = .ok (.ifCond .ne 6, 3) := by decide +kernel
theorem dX9_saySets_26 : decode cX9_saySets 26 = .ok (.goto 28, 3) := by decide +kernel
theorem dX9_saySets_29 : decode cX9_saySets 29 = .ok (.aload_n 0, 1) := by decide +kernel
theorem dX9_saySets_30 : decode cX9_saySets 30 = .ok (.invokevirtual 432, 3) := by decide +kernel
theorem dX9_saySets_33 : decode cX9_saySets 33 = .ok (.aload_n 0, 1) := by decide +kernel
theorem dX9_saySets_34 : decode cX9_saySets 34 = .ok (.iload 4, 2) := by decide +kernel
theorem dX9_saySets_36 : decode cX9_saySets 36 = .ok (.invokevirtual 435, 3) := by decide +kernel
theorem dX9_saySets_39 : decode cX9_saySets 39 = .ok (.aload_n 0, 1) := by decide +kernel
theorem dX9_saySets_40 : decode cX9_saySets 40 = .ok (.invokevirtual 438, 3) := by decide +kernel
theorem dX9_saySets_43 : decode cX9_saySets 43 = .ok (.aload_n 0, 1) := by decide +kernel
theorem dX9_saySets_44 : decode cX9_saySets 44 = .ok (.iload_n 1, 1) := by decide +kernel
theorem dX9_saySets_45 : decode cX9_saySets 45 = .ok (.iload 4, 2) := by decide +kernel
theorem dX9_saySets_47 : decode cX9_saySets 47 = .ok (.invokevirtual 440, 3) := by decide +kernel
theorem dX9_saySets_50 : decode cX9_saySets 50 = .ok (.aload_n 0, 1) := by decide +kernel
theorem dX9_saySets_51 : decode cX9_saySets 51 = .ok (.invokevirtual 443, 3) := by decide +kernel
theorem dX9_saySets_54 : decode cX9_saySets 54 = .ok (.iinc 4 1, 3) := by decide +kernel
theorem dX9_saySets_57 : decode cX9_saySets 57 = .ok (.goto (-54), 3) := by decide +kernel
theorem dX9_saySets_60 : decode cX9_saySets 60 = .ok (.return_, 1) := by decide +kernel
theorem dX9_asBlock_0 : decode cX9_asBlock 0 = .ok (.aload_n 0, 1) := by decide +kernel
theorem dX9_asBlock_1 : decode cX9_asBlock 1 = .ok (.getfield 58, 3) := by decide +kernel
theorem dX9_asBlock_4 : decode cX9_asBlock 4 = .ok (.sipush 240, 3) := by decide +kernel
theorem dX9_asBlock_7 : decode cX9_asBlock 7 = .ok (.iload_n 1, 1) := by decide +kernel
theorem dX9_asBlock_8 : decode cX9_asBlock 8 = .ok (.imul, 1) := by decide +kernel
theorem dX9_asBlock_9 : decode cX9_asBlock 9 = .ok (.iload_n 2, 1) := by decide +kernel
theorem dX9_asBlock_10 : decode cX9_asBlock 10 = .ok (.iadd, 1) := by decide +kernel
theorem dX9_asBlock_11 : decode cX9_asBlock 11 = .ok (.iaload, 1) := by decide +kernel
theorem dX9_asBlock_12 : decode cX9_asBlock 12 = .ok (.bipush 7, 2) := by decide +kernel
theorem dX9_asBlock_14 : decode cX9_asBlock 14 = .ok (.if_icmp .eq 18, 3) := by decide +kernel
theorem dX9_asBlock_17 : decode cX9_asBlock 17 = .ok (.aload_n 0, 1) := by decide +kernel
theorem dX9_asBlock_18 : decode cX9_asBlock 18 = .ok (.getfield 61, 3) := by decide +kernel
theorem dX9_asBlock_21 : decode cX9_asBlock 21 = .ok (.sipush 240, 3) := by decide +kernel
theorem dX9_asBlock_24 : decode cX9_asBlock 24 = .ok (.iload_n 1, 1) := by decide +kernel
theorem dX9_asBlock_25 : decode cX9_asBlock 25 = .ok (.imul, 1) := by decide +kernel
theorem dX9_asBlock_26 : decode cX9_asBlock 26 = .ok (.iload_n 2, 1) := by decide +kernel
theorem dX9_asBlock_27 : decode cX9_asBlock 27 = .ok (.iadd, 1) := by decide +kernel
theorem dX9_asBlock_28 : decode cX9_asBlock 28 = .ok (.iaload, 1) := by decide +kernel
theorem dX9_asBlock_29 : decode cX9_asBlock 29 = .ok (.goto 33, 3) := by decide +kernel
theorem dX9_asBlock_32 : decode cX9_asBlock 32 = .ok (.aload_n 0, 1) := by decide +kernel
theorem dX9_asBlock_33 : decode cX9_asBlock 33 = .ok (.getfield 199, 3) := by decide +kernel
theorem dX9_asBlock_36 : decode cX9_asBlock 36 = .ok (.iload_n 2, 1) := by decide +kernel
theorem dX9_asBlock_37 : decode cX9_asBlock 37 = .ok (.iaload, 1) := by decide +kernel
theorem dX9_asBlock_38 : decode cX9_asBlock 38 = .ok (.ifCond .lt 12, 3) := by decide +kernel
theorem dX9_asBlock_41 : decode cX9_asBlock 41 = .ok (.aload_n 0, 1) := by decide +kernel
theorem dX9_asBlock_42 : decode cX9_asBlock 42 = .ok (.getfield 199, 3) := by decide +kernel
theorem dX9_asBlock_45 : decode cX9_asBlock 45 = .ok (.iload_n 2, 1) := by decide +kernel
theorem dX9_asBlock_46 : decode cX9_asBlock 46 = .ok (.iaload, 1) := by decide +kernel
theorem dX9_asBlock_47 : decode cX9_asBlock 47 = .ok (.goto 15, 3) := by decide +kernel
theorem dX9_asBlock_50 : decode cX9_asBlock 50 = .ok (.aload_n 0, 1) := by decide +kernel
theorem dX9_asBlock_51 : decode cX9_asBlock 51 = .ok (.getfield 61, 3) := by decide +kernel
theorem dX9_asBlock_54 : decode cX9_asBlock 54 = .ok (.sipush 240, 3) := by decide +kernel
theorem dX9_asBlock_57 : decode cX9_asBlock 57 = .ok (.iload_n 1, 1) := by decide +kernel
theorem dX9_asBlock_58 : decode cX9_asBlock 58 = .ok (.imul, 1) := by decide +kernel
theorem dX9_asBlock_59 : decode cX9_asBlock 59 = .ok (.iload_n 2, 1) := by decide +kernel
theorem dX9_asBlock_60 : decode cX9_asBlock 60 = .ok (.iadd, 1) := by decide +kernel
theorem dX9_asBlock_61 : decode cX9_asBlock 61 = .ok (.iaload, 1) := by decide +kernel
theorem dX9_asBlock_62 : decode cX9_asBlock 62 = .ok (.ireturn, 1) := by decide +kernel
theorem dX9_sayNode_0 : decode cX9_sayNode 0 = .ok (.sipush 240, 3) := by decide +kernel
theorem dX9_sayNode_3 : decode cX9_sayNode 3 = .ok (.iload_n 1, 1) := by decide +kernel
theorem dX9_sayNode_4 : decode cX9_sayNode 4 = .ok (.imul, 1) := by decide +kernel
theorem dX9_sayNode_5 : decode cX9_sayNode 5 = .ok (.iload_n 3, 1) := by decide +kernel
theorem dX9_sayNode_6 : decode cX9_sayNode 6 = .ok (.iadd, 1) := by decide +kernel
theorem dX9_sayNode_7 : decode cX9_sayNode 7 = .ok (.istore 4, 2) := by decide +kernel
theorem dX9_sayNode_9 : decode cX9_sayNode 9 = .ok (.aload_n 0, 1) := by decide +kernel
theorem dX9_sayNode_10 : decode cX9_sayNode 10 = .ok (.invokevirtual 432, 3) := by decide +kernel
theorem dX9_sayNode_13 : decode cX9_sayNode 13 = .ok (.aload_n 0, 1) := by decide +kernel
theorem dX9_sayNode_14 : decode cX9_sayNode 14 = .ok (.getfield 58, 3) := by decide +kernel
theorem dX9_sayNode_17 : decode cX9_sayNode 17 = .ok (.iload 4, 2) := by decide +kernel
theorem dX9_sayNode_19 : decode cX9_sayNode 19 = .ok (.iaload, 1) := by decide +kernel
theorem dX9_sayNode_20 : decode cX9_sayNode 20 = .ok (.tableswitch 378 0 5 #[40, 102, 139, 189, 240, 259], 40) := by decide +kernel
theorem dX9_sayNode_60 : decode cX9_sayNode 60 = .ok (.aload_n 0, 1) := by decide +kernel
theorem dX9_sayNode_61 : decode cX9_sayNode 61 = .ok (.aload_n 0, 1) := by decide +kernel
theorem dX9_sayNode_62 : decode cX9_sayNode 62 = .ok (.getfield 64, 3) := by decide +kernel
theorem dX9_sayNode_65 : decode cX9_sayNode 65 = .ok (.iload 4, 2) := by decide +kernel
theorem dX9_sayNode_67 : decode cX9_sayNode 67 = .ok (.iaload, 1) := by decide +kernel
theorem dX9_sayNode_68 : decode cX9_sayNode 68 = .ok (.iconst 0, 1) := by decide +kernel
theorem dX9_sayNode_69 : decode cX9_sayNode 69 = .ok (.invokevirtual 423, 3) := by decide +kernel
theorem dX9_sayNode_72 : decode cX9_sayNode 72 = .ok (.aload_n 0, 1) := by decide +kernel
theorem dX9_sayNode_73 : decode cX9_sayNode 73 = .ok (.invokevirtual 438, 3) := by decide +kernel
theorem dX9_sayNode_76 : decode cX9_sayNode 76 = .ok (.aload_n 0, 1) := by decide +kernel
theorem dX9_sayNode_77 : decode cX9_sayNode 77 = .ok (.iload_n 1, 1) := by decide +kernel
theorem dX9_sayNode_78 : decode cX9_sayNode 78 = .ok (.iload_n 2, 1) := by decide +kernel
theorem dX9_sayNode_79 : decode cX9_sayNode 79 = .ok (.aload_n 0, 1) := by decide +kernel
theorem dX9_sayNode_80 : decode cX9_sayNode 80 = .ok (.getfield 67, 3) := by decide +kernel
theorem dX9_sayNode_83 : decode cX9_sayNode 83 = .ok (.iload 4, 2) := by decide +kernel
theorem dX9_sayNode_85 : decode cX9_sayNode 85 = .ok (.iaload, 1) := by decide +kernel
theorem dX9_sayNode_86 : decode cX9_sayNode 86 = .ok (.iload_n 3, 1) := by decide +kernel
theorem dX9_sayNode_87 : decode cX9_sayNode 87 = .ok (.invokevirtual 385, 3) := by decide +kernel
theorem dX9_sayNode_90 : decode cX9_sayNode 90 = .ok (.ifCond .eq 17, 3) := by decide +kernel
theorem dX9_sayNode_93 : decode cX9_sayNode 93 = .ok (.aload_n 0, 1) := by decide +kernel
theorem dX9_sayNode_94 : decode cX9_sayNode 94 = .ok (.aload_n 0, 1) := by decide +kernel
theorem dX9_sayNode_95 : decode cX9_sayNode 95 = .ok (.getfield 67, 3) := by decide +kernel
theorem dX9_sayNode_98 : decode cX9_sayNode 98 = .ok (.iload 4, 2) := by decide +kernel
theorem dX9_sayNode_100 : decode cX9_sayNode 100 = .ok (.iaload, 1) := by decide +kernel
theorem dX9_sayNode_101 : decode cX9_sayNode 101 = .ok (.invokevirtual 435, 3) := by decide +kernel
theorem dX9_sayNode_104 : decode cX9_sayNode 104 = .ok (.goto 324, 3) := by decide +kernel
theorem dX9_sayNode_107 : decode cX9_sayNode 107 = .ok (.aload_n 0, 1) := by decide +kernel
theorem dX9_sayNode_108 : decode cX9_sayNode 108 = .ok (.iload_n 1, 1) := by decide +kernel
theorem dX9_sayNode_109 : decode cX9_sayNode 109 = .ok (.aload_n 0, 1) := by decide +kernel
theorem dX9_sayNode_110 : decode cX9_sayNode 110 = .ok (.getfield 67, 3) := by decide +kernel
theorem dX9_sayNode_113 : decode cX9_sayNode 113 = .ok (.iload 4, 2) := by decide +kernel
theorem dX9_sayNode_115 : decode cX9_sayNode 115 = .ok (.iaload, 1) := by decide +kernel
theorem dX9_sayNode_116 : decode cX9_sayNode 116 = .ok (.invokevirtual 440, 3) := by decide +kernel
theorem dX9_sayNode_119 : decode cX9_sayNode 119 = .ok (.goto 309, 3) := by decide +kernel
theorem dX9_sayNode_122 : decode cX9_sayNode 122 = .ok (.aload_n 0, 1) := by decide +kernel
theorem dX9_sayNode_123 : decode cX9_sayNode 123 = .ok (.aload_n 0, 1) := by decide +kernel
theorem dX9_sayNode_124 : decode cX9_sayNode 124 = .ok (.getfield 64, 3) := by decide +kernel
theorem dX9_sayNode_127 : decode cX9_sayNode 127 = .ok (.iload 4, 2) := by decide +kernel
theorem dX9_sayNode_129 : decode cX9_sayNode 129 = .ok (.iaload, 1) := by decide +kernel
theorem dX9_sayNode_130 : decode cX9_sayNode 130 = .ok (.iconst 0, 1) := by decide +kernel
theorem dX9_sayNode_131 : decode cX9_sayNode 131 = .ok (.invokevirtual 423, 3) := by decide +kernel
theorem dX9_sayNode_134 : decode cX9_sayNode 134 = .ok (.aload_n 0, 1) := by decide +kernel
theorem dX9_sayNode_135 : decode cX9_sayNode 135 = .ok (.invokevirtual 438, 3) := by decide +kernel
theorem dX9_sayNode_138 : decode cX9_sayNode 138 = .ok (.aload_n 0, 1) := by decide +kernel
theorem dX9_sayNode_139 : decode cX9_sayNode 139 = .ok (.aload_n 0, 1) := by decide +kernel
theorem dX9_sayNode_140 : decode cX9_sayNode 140 = .ok (.getfield 76, 3) := by decide +kernel
theorem dX9_sayNode_143 : decode cX9_sayNode 143 = .ok (.iload 4, 2) := by decide +kernel
theorem dX9_sayNode_145 : decode cX9_sayNode 145 = .ok (.iaload, 1) := by decide +kernel
theorem dX9_sayNode_146 : decode cX9_sayNode 146 = .ok (.aload_n 0, 1) := by decide +kernel
theorem dX9_sayNode_147 : decode cX9_sayNode 147 = .ok (.getfield 79, 3) := by decide +kernel
theorem dX9_sayNode_150 : decode cX9_sayNode 150 = .ok (.iload 4, 2) := by decide +kernel
theorem dX9_sayNode_152 : decode cX9_sayNode 152 = .ok (.iaload, 1) := by decide +kernel
theorem dX9_sayNode_153 : decode cX9_sayNode 153 = .ok (.invokevirtual 423, 3) := by decide +kernel
theorem dX9_sayNode_156 : decode cX9_sayNode 156 = .ok (.goto 272, 3) := by decide +kernel
theorem dX9_sayNode_159 : decode cX9_sayNode 159 = .ok (.aload_n 0, 1) := by decide +kernel
theorem dX9_sayNode_160 : decode cX9_sayNode 160 = .ok (.aload_n 0, 1) := by decide +kernel
theorem dX9_sayNode_161 : decode cX9_sayNode 161 = .ok (.getfield 88, 3) := by decide +kernel
theorem dX9_sayNode_164 : decode cX9_sayNode 164 = .ok (.iload 4, 2) := by decide +kernel
theorem dX9_sayNode_166 : decode cX9_sayNode 166 = .ok (.iaload, 1) := by decide +kernel
theorem dX9_sayNode_167 : decode cX9_sayNode 167 = .ok (.aload_n 0, 1) := by decide +kernel
theorem dX9_sayNode_168 : decode cX9_sayNode 168 = .ok (.getfield 76, 3) := by decide +kernel
theorem dX9_sayNode_171 : decode cX9_sayNode 171 = .ok (.iload 4, 2) := by decide +kernel
theorem dX9_sayNode_173 : decode cX9_sayNode 173 = .ok (.iaload, 1) := by decide +kernel
theorem dX9_sayNode_174 : decode cX9_sayNode 174 = .ok (.aload_n 0, 1) := by decide +kernel
theorem dX9_sayNode_175 : decode cX9_sayNode 175 = .ok (.getfield 79, 3) := by decide +kernel
theorem dX9_sayNode_178 : decode cX9_sayNode 178 = .ok (.iload 4, 2) := by decide +kernel
theorem dX9_sayNode_180 : decode cX9_sayNode 180 = .ok (.iaload, 1) := by decide +kernel
theorem dX9_sayNode_181 : decode cX9_sayNode 181 = .ok (.invokevirtual 426, 3) := by decide +kernel
theorem dX9_sayNode_184 : decode cX9_sayNode 184 = .ok (.aload_n 0, 1) := by decide +kernel
theorem dX9_sayNode_185 : decode cX9_sayNode 185 = .ok (.invokevirtual 438, 3) := by decide +kernel
theorem dX9_sayNode_188 : decode cX9_sayNode 188 = .ok (.aload_n 0, 1) := by decide +kernel
theorem dX9_sayNode_189 : decode cX9_sayNode 189 = .ok (.aload_n 0, 1) := by decide +kernel
theorem dX9_sayNode_190 : decode cX9_sayNode 190 = .ok (.getfield 82, 3) := by decide +kernel
theorem dX9_sayNode_193 : decode cX9_sayNode 193 = .ok (.iload 4, 2) := by decide +kernel
theorem dX9_sayNode_195 : decode cX9_sayNode 195 = .ok (.iaload, 1) := by decide +kernel
theorem dX9_sayNode_196 : decode cX9_sayNode 196 = .ok (.aload_n 0, 1) := by decide +kernel
theorem dX9_sayNode_197 : decode cX9_sayNode 197 = .ok (.getfield 85, 3) := by decide +kernel
theorem dX9_sayNode_200 : decode cX9_sayNode 200 = .ok (.iload 4, 2) := by decide +kernel
theorem dX9_sayNode_202 : decode cX9_sayNode 202 = .ok (.iaload, 1) := by decide +kernel
theorem dX9_sayNode_203 : decode cX9_sayNode 203 = .ok (.invokevirtual 423, 3) := by decide +kernel
theorem dX9_sayNode_206 : decode cX9_sayNode 206 = .ok (.goto 222, 3) := by decide +kernel
theorem dX9_sayNode_209 : decode cX9_sayNode 209 = .ok (.aload_n 0, 1) := by decide +kernel
theorem dX9_sayNode_210 : decode cX9_sayNode 210 = .ok (.bipush 116, 2) := by decide +kernel
theorem dX9_sayNode_212 : decode cX9_sayNode 212 = .ok (.invokevirtual 415, 3) := by decide +kernel
theorem dX9_sayNode_215 : decode cX9_sayNode 215 = .ok (.aload_n 0, 1) := by decide +kernel
theorem dX9_sayNode_216 : decode cX9_sayNode 216 = .ok (.bipush 101, 2) := by decide +kernel
theorem dX9_sayNode_218 : decode cX9_sayNode 218 = .ok (.invokevirtual 415, 3) := by decide +kernel
theorem dX9_sayNode_221 : decode cX9_sayNode 221 = .ok (.aload_n 0, 1) := by decide +kernel
theorem dX9_sayNode_222 : decode cX9_sayNode 222 = .ok (.bipush 108, 2) := by decide +kernel
theorem dX9_sayNode_224 : decode cX9_sayNode 224 = .ok (.invokevirtual 415, 3) := by decide +kernel
theorem dX9_sayNode_227 : decode cX9_sayNode 227 = .ok (.aload_n 0, 1) := by decide +kernel
theorem dX9_sayNode_228 : decode cX9_sayNode 228 = .ok (.bipush 108, 2) := by decide +kernel
theorem dX9_sayNode_230 : decode cX9_sayNode 230 = .ok (.invokevirtual 415, 3) := by decide +kernel
theorem dX9_sayNode_233 : decode cX9_sayNode 233 = .ok (.aload_n 0, 1) := by decide +kernel
theorem dX9_sayNode_234 : decode cX9_sayNode 234 = .ok (.bipush 32, 2) := by decide +kernel
theorem dX9_sayNode_236 : decode cX9_sayNode 236 = .ok (.invokevirtual 415, 3) := by decide +kernel
theorem dX9_sayNode_239 : decode cX9_sayNode 239 = .ok (.aload_n 0, 1) := by decide +kernel
theorem dX9_sayNode_240 : decode cX9_sayNode 240 = .ok (.aload_n 0, 1) := by decide +kernel
theorem dX9_sayNode_241 : decode cX9_sayNode 241 = .ok (.getfield 76, 3) := by decide +kernel
theorem dX9_sayNode_244 : decode cX9_sayNode 244 = .ok (.iload 4, 2) := by decide +kernel
theorem dX9_sayNode_246 : decode cX9_sayNode 246 = .ok (.iaload, 1) := by decide +kernel
theorem dX9_sayNode_247 : decode cX9_sayNode 247 = .ok (.aload_n 0, 1) := by decide +kernel
theorem dX9_sayNode_248 : decode cX9_sayNode 248 = .ok (.getfield 79, 3) := by decide +kernel
theorem dX9_sayNode_251 : decode cX9_sayNode 251 = .ok (.iload 4, 2) := by decide +kernel
theorem dX9_sayNode_253 : decode cX9_sayNode 253 = .ok (.iaload, 1) := by decide +kernel
theorem dX9_sayNode_254 : decode cX9_sayNode 254 = .ok (.invokevirtual 423, 3) := by decide +kernel
theorem dX9_sayNode_257 : decode cX9_sayNode 257 = .ok (.goto 171, 3) := by decide +kernel
theorem dX9_sayNode_260 : decode cX9_sayNode 260 = .ok (.aload_n 0, 1) := by decide +kernel
theorem dX9_sayNode_261 : decode cX9_sayNode 261 = .ok (.aload_n 0, 1) := by decide +kernel
theorem dX9_sayNode_262 : decode cX9_sayNode 262 = .ok (.iload_n 1, 1) := by decide +kernel
theorem dX9_sayNode_263 : decode cX9_sayNode 263 = .ok (.aload_n 0, 1) := by decide +kernel
theorem dX9_sayNode_264 : decode cX9_sayNode 264 = .ok (.getfield 70, 3) := by decide +kernel
theorem dX9_sayNode_267 : decode cX9_sayNode 267 = .ok (.iload 4, 2) := by decide +kernel
theorem dX9_sayNode_269 : decode cX9_sayNode 269 = .ok (.iaload, 1) := by decide +kernel
theorem dX9_sayNode_270 : decode cX9_sayNode 270 = .ok (.invokevirtual 446, 3) := by decide +kernel
theorem dX9_sayNode_273 : decode cX9_sayNode 273 = .ok (.invokevirtual 448, 3) := by decide +kernel
theorem dX9_sayNode_276 : decode cX9_sayNode 276 = .ok (.goto 152, 3) := by decide +kernel
theorem dX9_sayNode_279 : decode cX9_sayNode 279 = .ok (.aload_n 0, 1) := by decide +kernel
theorem dX9_sayNode_280 : decode cX9_sayNode 280 = .ok (.bipush 105, 2) := by decide +kernel
theorem dX9_sayNode_282 : decode cX9_sayNode 282 = .ok (.invokevirtual 415, 3) := by decide +kernel
theorem dX9_sayNode_285 : decode cX9_sayNode 285 = .ok (.aload_n 0, 1) := by decide +kernel
theorem dX9_sayNode_286 : decode cX9_sayNode 286 = .ok (.bipush 102, 2) := by decide +kernel
theorem dX9_sayNode_288 : decode cX9_sayNode 288 = .ok (.invokevirtual 415, 3) := by decide +kernel
theorem dX9_sayNode_291 : decode cX9_sayNode 291 = .ok (.aload_n 0, 1) := by decide +kernel
theorem dX9_sayNode_292 : decode cX9_sayNode 292 = .ok (.bipush 32, 2) := by decide +kernel
theorem dX9_sayNode_294 : decode cX9_sayNode 294 = .ok (.invokevirtual 415, 3) := by decide +kernel
theorem dX9_sayNode_297 : decode cX9_sayNode 297 = .ok (.aload_n 0, 1) := by decide +kernel
theorem dX9_sayNode_298 : decode cX9_sayNode 298 = .ok (.aload_n 0, 1) := by decide +kernel
theorem dX9_sayNode_299 : decode cX9_sayNode 299 = .ok (.getfield 76, 3) := by decide +kernel
theorem dX9_sayNode_302 : decode cX9_sayNode 302 = .ok (.iload 4, 2) := by decide +kernel
theorem dX9_sayNode_304 : decode cX9_sayNode 304 = .ok (.iaload, 1) := by decide +kernel
theorem dX9_sayNode_305 : decode cX9_sayNode 305 = .ok (.aload_n 0, 1) := by decide +kernel
theorem dX9_sayNode_306 : decode cX9_sayNode 306 = .ok (.getfield 79, 3) := by decide +kernel
theorem dX9_sayNode_309 : decode cX9_sayNode 309 = .ok (.iload 4, 2) := by decide +kernel
theorem dX9_sayNode_311 : decode cX9_sayNode 311 = .ok (.iaload, 1) := by decide +kernel
theorem dX9_sayNode_312 : decode cX9_sayNode 312 = .ok (.invokevirtual 423, 3) := by decide +kernel
theorem dX9_sayNode_315 : decode cX9_sayNode 315 = .ok (.aload_n 0, 1) := by decide +kernel
theorem dX9_sayNode_316 : decode cX9_sayNode 316 = .ok (.bipush 32, 2) := by decide +kernel
theorem dX9_sayNode_318 : decode cX9_sayNode 318 = .ok (.invokevirtual 415, 3) := by decide +kernel
theorem dX9_sayNode_321 : decode cX9_sayNode 321 = .ok (.aload_n 0, 1) := by decide +kernel
theorem dX9_sayNode_322 : decode cX9_sayNode 322 = .ok (.bipush 60, 2) := by decide +kernel
theorem dX9_sayNode_324 : decode cX9_sayNode 324 = .ok (.invokevirtual 415, 3) := by decide +kernel
theorem dX9_sayNode_327 : decode cX9_sayNode 327 = .ok (.aload_n 0, 1) := by decide +kernel
theorem dX9_sayNode_328 : decode cX9_sayNode 328 = .ok (.bipush 32, 2) := by decide +kernel
theorem dX9_sayNode_330 : decode cX9_sayNode 330 = .ok (.invokevirtual 415, 3) := by decide +kernel
theorem dX9_sayNode_333 : decode cX9_sayNode 333 = .ok (.aload_n 0, 1) := by decide +kernel
theorem dX9_sayNode_334 : decode cX9_sayNode 334 = .ok (.aload_n 0, 1) := by decide +kernel
theorem dX9_sayNode_335 : decode cX9_sayNode 335 = .ok (.getfield 82, 3) := by decide +kernel
theorem dX9_sayNode_338 : decode cX9_sayNode 338 = .ok (.iload 4, 2) := by decide +kernel
theorem dX9_sayNode_340 : decode cX9_sayNode 340 = .ok (.iaload, 1) := by decide +kernel
theorem dX9_sayNode_341 : decode cX9_sayNode 341 = .ok (.aload_n 0, 1) := by decide +kernel
theorem dX9_sayNode_342 : decode cX9_sayNode 342 = .ok (.getfield 85, 3) := by decide +kernel
theorem dX9_sayNode_345 : decode cX9_sayNode 345 = .ok (.iload 4, 2) := by decide +kernel
theorem dX9_sayNode_347 : decode cX9_sayNode 347 = .ok (.iaload, 1) := by decide +kernel
theorem dX9_sayNode_348 : decode cX9_sayNode 348 = .ok (.invokevirtual 423, 3) := by decide +kernel
theorem dX9_sayNode_351 : decode cX9_sayNode 351 = .ok (.aload_n 0, 1) := by decide +kernel
theorem dX9_sayNode_352 : decode cX9_sayNode 352 = .ok (.bipush 32, 2) := by decide +kernel
theorem dX9_sayNode_354 : decode cX9_sayNode 354 = .ok (.invokevirtual 415, 3) := by decide +kernel
theorem dX9_sayNode_357 : decode cX9_sayNode 357 = .ok (.aload_n 0, 1) := by decide +kernel
theorem dX9_sayNode_358 : decode cX9_sayNode 358 = .ok (.aload_n 0, 1) := by decide +kernel
theorem dX9_sayNode_359 : decode cX9_sayNode 359 = .ok (.iload_n 1, 1) := by decide +kernel
theorem dX9_sayNode_360 : decode cX9_sayNode 360 = .ok (.aload_n 0, 1) := by decide +kernel
theorem dX9_sayNode_361 : decode cX9_sayNode 361 = .ok (.getfield 70, 3) := by decide +kernel
theorem dX9_sayNode_364 : decode cX9_sayNode 364 = .ok (.iload 4, 2) := by decide +kernel
theorem dX9_sayNode_366 : decode cX9_sayNode 366 = .ok (.iaload, 1) := by decide +kernel
theorem dX9_sayNode_367 : decode cX9_sayNode 367 = .ok (.invokevirtual 446, 3) := by decide +kernel
theorem dX9_sayNode_370 : decode cX9_sayNode 370 = .ok (.invokevirtual 429, 3) := by decide +kernel
theorem dX9_sayNode_373 : decode cX9_sayNode 373 = .ok (.aload_n 0, 1) := by decide +kernel
theorem dX9_sayNode_374 : decode cX9_sayNode 374 = .ok (.bipush 32, 2) := by decide +kernel
theorem dX9_sayNode_376 : decode cX9_sayNode 376 = .ok (.invokevirtual 415, 3) := by decide +kernel
theorem dX9_sayNode_379 : decode cX9_sayNode 379 = .ok (.aload_n 0, 1) := by decide +kernel
theorem dX9_sayNode_380 : decode cX9_sayNode 380 = .ok (.aload_n 0, 1) := by decide +kernel
theorem dX9_sayNode_381 : decode cX9_sayNode 381 = .ok (.iload_n 1, 1) := by decide +kernel
theorem dX9_sayNode_382 : decode cX9_sayNode 382 = .ok (.aload_n 0, 1) := by decide +kernel
theorem dX9_sayNode_383 : decode cX9_sayNode 383 = .ok (.getfield 73, 3) := by decide +kernel
theorem dX9_sayNode_386 : decode cX9_sayNode 386 = .ok (.iload 4, 2) := by decide +kernel
theorem dX9_sayNode_388 : decode cX9_sayNode 388 = .ok (.iaload, 1) := by decide +kernel
theorem dX9_sayNode_389 : decode cX9_sayNode 389 = .ok (.invokevirtual 446, 3) := by decide +kernel
theorem dX9_sayNode_392 : decode cX9_sayNode 392 = .ok (.invokevirtual 429, 3) := by decide +kernel
theorem dX9_sayNode_395 : decode cX9_sayNode 395 = .ok (.goto 33, 3) := by decide +kernel
theorem dX9_sayNode_398 : decode cX9_sayNode 398 = .ok (.aload_n 0, 1) := by decide +kernel
theorem dX9_sayNode_399 : decode cX9_sayNode 399 = .ok (.bipush 108, 2) := by decide +kernel
theorem dX9_sayNode_401 : decode cX9_sayNode 401 = .ok (.invokevirtual 415, 3) := by decide +kernel
theorem dX9_sayNode_404 : decode cX9_sayNode 404 = .ok (.aload_n 0, 1) := by decide +kernel
theorem dX9_sayNode_405 : decode cX9_sayNode 405 = .ok (.bipush 101, 2) := by decide +kernel
theorem dX9_sayNode_407 : decode cX9_sayNode 407 = .ok (.invokevirtual 415, 3) := by decide +kernel
theorem dX9_sayNode_410 : decode cX9_sayNode 410 = .ok (.aload_n 0, 1) := by decide +kernel
theorem dX9_sayNode_411 : decode cX9_sayNode 411 = .ok (.bipush 97, 2) := by decide +kernel
theorem dX9_sayNode_413 : decode cX9_sayNode 413 = .ok (.invokevirtual 415, 3) := by decide +kernel
theorem dX9_sayNode_416 : decode cX9_sayNode 416 = .ok (.aload_n 0, 1) := by decide +kernel
theorem dX9_sayNode_417 : decode cX9_sayNode 417 = .ok (.bipush 118, 2) := by decide +kernel
theorem dX9_sayNode_419 : decode cX9_sayNode 419 = .ok (.invokevirtual 415, 3) := by decide +kernel
theorem dX9_sayNode_422 : decode cX9_sayNode 422 = .ok (.aload_n 0, 1) := by decide +kernel
theorem dX9_sayNode_423 : decode cX9_sayNode 423 = .ok (.bipush 101, 2) := by decide +kernel
theorem dX9_sayNode_425 : decode cX9_sayNode 425 = .ok (.invokevirtual 415, 3) := by decide +kernel
theorem dX9_sayNode_428 : decode cX9_sayNode 428 = .ok (.aload_n 0, 1) := by decide +kernel
theorem dX9_sayNode_429 : decode cX9_sayNode 429 = .ok (.invokevirtual 443, 3) := by decide +kernel
theorem dX9_sayNode_432 : decode cX9_sayNode 432 = .ok (.return_, 1) := by decide +kernel
theorem dX9_sayGo_0 : decode cX9_sayGo 0 = .ok (.aload_n 0, 1) := by decide +kernel
theorem dX9_sayGo_1 : decode cX9_sayGo 1 = .ok (.bipush 103, 2) := by decide +kernel
theorem dX9_sayGo_3 : decode cX9_sayGo 3 = .ok (.invokevirtual 415, 3) := by decide +kernel
theorem dX9_sayGo_6 : decode cX9_sayGo 6 = .ok (.aload_n 0, 1) := by decide +kernel
theorem dX9_sayGo_7 : decode cX9_sayGo 7 = .ok (.bipush 111, 2) := by decide +kernel
theorem dX9_sayGo_9 : decode cX9_sayGo 9 = .ok (.invokevirtual 415, 3) := by decide +kernel
theorem dX9_sayGo_12 : decode cX9_sayGo 12 = .ok (.aload_n 0, 1) := by decide +kernel
theorem dX9_sayGo_13 : decode cX9_sayGo 13 = .ok (.bipush 32, 2) := by decide +kernel
theorem dX9_sayGo_15 : decode cX9_sayGo 15 = .ok (.invokevirtual 415, 3) := by decide +kernel
theorem dX9_sayGo_18 : decode cX9_sayGo 18 = .ok (.aload_n 0, 1) := by decide +kernel
theorem dX9_sayGo_19 : decode cX9_sayGo 19 = .ok (.iload_n 1, 1) := by decide +kernel
theorem dX9_sayGo_20 : decode cX9_sayGo 20 = .ok (.invokevirtual 429, 3) := by decide +kernel
theorem dX9_sayGo_23 : decode cX9_sayGo 23 = .ok (.return_, 1) := by decide +kernel
theorem dX9_hasT_0 : decode cX9_hasT 0 = .ok (.iconst 0, 1) := by decide +kernel
theorem dX9_hasT_1 : decode cX9_hasT 1 = .ok (.istore_n 2, 1) := by decide +kernel
theorem dX9_hasT_2 : decode cX9_hasT 2 = .ok (.sipush 240, 3) := by decide +kernel
theorem dX9_hasT_5 : decode cX9_hasT 5 = .ok (.iload_n 1, 1) := by decide +kernel
theorem dX9_hasT_6 : decode cX9_hasT 6 = .ok (.imul, 1) := by decide +kernel
theorem dX9_hasT_7 : decode cX9_hasT 7 = .ok (.istore_n 3, 1) := by decide +kernel
theorem dX9_hasT_8 : decode cX9_hasT 8 = .ok (.iload_n 3, 1) := by decide +kernel
theorem dX9_hasT_9 : decode cX9_hasT 9 = .ok (.sipush 240, 3) := by decide +kernel
theorem dX9_hasT_12 : decode cX9_hasT 12 = .ok (.iload_n 1, 1) := by decide +kernel
theorem dX9_hasT_13 : decode cX9_hasT 13 = .ok (.imul, 1) := by decide +kernel
theorem dX9_hasT_14 : decode cX9_hasT 14 = .ok (.aload_n 0, 1) := by decide +kernel
theorem dX9_hasT_15 : decode cX9_hasT 15 = .ok (.getfield 46, 3) := by decide +kernel
theorem dX9_hasT_18 : decode cX9_hasT 18 = .ok (.iload_n 1, 1) := by decide +kernel
theorem dX9_hasT_19 : decode cX9_hasT 19 = .ok (.iaload, 1) := by decide +kernel
theorem dX9_hasT_20 : decode cX9_hasT 20 = .ok (.iadd, 1) := by decide +kernel
theorem dX9_hasT_21 : decode cX9_hasT 21 = .ok (.if_icmp .ge 136, 3) := by decide +kernel
theorem dX9_hasT_24 : decode cX9_hasT 24 = .ok (.aload_n 0, 1) := by decide +kernel
theorem dX9_hasT_25 : decode cX9_hasT 25 = .ok (.getfield 58, 3) := by decide +kernel
theorem dX9_hasT_28 : decode cX9_hasT 28 = .ok (.iload_n 3, 1) := by decide +kernel
theorem dX9_hasT_29 : decode cX9_hasT 29 = .ok (.iaload, 1) := by decide +kernel
theorem dX9_hasT_30 : decode cX9_hasT 30 = .ok (.iconst 1, 1) := by decide +kernel
theorem dX9_hasT_31 : decode cX9_hasT 31 = .ok (.if_icmp .eq 33, 3) := by decide +kernel
theorem dX9_hasT_34 : decode cX9_hasT 34 = .ok (.aload_n 0, 1) := by decide +kernel
theorem dX9_hasT_35 : decode cX9_hasT 35 = .ok (.getfield 58, 3) := by decide +kernel
theorem dX9_hasT_38 : decode cX9_hasT 38 = .ok (.iload_n 3, 1) := by decide +kernel
theorem dX9_hasT_39 : decode cX9_hasT 39 = .ok (.iaload, 1) := by decide +kernel
theorem dX9_hasT_40 : decode cX9_hasT 40 = .ok (.iconst 2, 1) := by decide +kernel
theorem dX9_hasT_41 : decode cX9_hasT 41 = .ok (.if_icmp .eq 23, 3) := by decide +kernel
theorem dX9_hasT_44 : decode cX9_hasT 44 = .ok (.aload_n 0, 1) := by decide +kernel
theorem dX9_hasT_45 : decode cX9_hasT 45 = .ok (.getfield 58, 3) := by decide +kernel
theorem dX9_hasT_48 : decode cX9_hasT 48 = .ok (.iload_n 3, 1) := by decide +kernel
theorem dX9_hasT_49 : decode cX9_hasT 49 = .ok (.iaload, 1) := by decide +kernel
theorem dX9_hasT_50 : decode cX9_hasT 50 = .ok (.iconst 3, 1) := by decide +kernel
theorem dX9_hasT_51 : decode cX9_hasT 51 = .ok (.if_icmp .eq 13, 3) := by decide +kernel
theorem dX9_hasT_54 : decode cX9_hasT 54 = .ok (.aload_n 0, 1) := by decide +kernel
theorem dX9_hasT_55 : decode cX9_hasT 55 = .ok (.getfield 58, 3) := by decide +kernel
theorem dX9_hasT_58 : decode cX9_hasT 58 = .ok (.iload_n 3, 1) := by decide +kernel
theorem dX9_hasT_59 : decode cX9_hasT 59 = .ok (.iaload, 1) := by decide +kernel
theorem dX9_hasT_60 : decode cX9_hasT 60 = .ok (.iconst 5, 1) := by decide +kernel
theorem dX9_hasT_61 : decode cX9_hasT 61 = .ok (.if_icmp .ne 7, 3) := by decide +kernel
theorem dX9_hasT_64 : decode cX9_hasT 64 = .ok (.iconst 1, 1) := by decide +kernel
theorem dX9_hasT_65 : decode cX9_hasT 65 = .ok (.goto 4, 3) := by decide +kernel
theorem dX9_hasT_68 : decode cX9_hasT 68 = .ok (.iconst 0, 1) := by decide +kernel
theorem dX9_hasT_69 : decode cX9_hasT 69 = .ok (.istore 4, 2) := by decide +kernel
theorem dX9_hasT_71 : decode cX9_hasT 71 = .ok (.aload_n 0, 1) := by decide +kernel
theorem dX9_hasT_72 : decode cX9_hasT 72 = .ok (.getfield 58, 3) := by decide +kernel
theorem dX9_hasT_75 : decode cX9_hasT 75 = .ok (.iload_n 3, 1) := by decide +kernel
theorem dX9_hasT_76 : decode cX9_hasT 76 = .ok (.iaload, 1) := by decide +kernel
theorem dX9_hasT_77 : decode cX9_hasT 77 = .ok (.iconst 2, 1) := by decide +kernel
theorem dX9_hasT_78 : decode cX9_hasT 78 = .ok (.if_icmp .eq 13, 3) := by decide +kernel
theorem dX9_hasT_81 : decode cX9_hasT 81 = .ok (.aload_n 0, 1) := by decide +kernel
theorem dX9_hasT_82 : decode cX9_hasT 82 = .ok (.getfield 58, 3) := by decide +kernel
theorem dX9_hasT_85 : decode cX9_hasT 85 = .ok (.iload_n 3, 1) := by decide +kernel
theorem dX9_hasT_86 : decode cX9_hasT 86 = .ok (.iaload, 1) := by decide +kernel
theorem dX9_hasT_87 : decode cX9_hasT 87 = .ok (.iconst 5, 1) := by decide +kernel
theorem dX9_hasT_88 : decode cX9_hasT 88 = .ok (.if_icmp .ne 7, 3) := by decide +kernel
theorem dX9_hasT_91 : decode cX9_hasT 91 = .ok (.iconst 1, 1) := by decide +kernel
theorem dX9_hasT_92 : decode cX9_hasT 92 = .ok (.goto 4, 3) := by decide +kernel
theorem dX9_hasT_95 : decode cX9_hasT 95 = .ok (.iconst 0, 1) := by decide +kernel
theorem dX9_hasT_96 : decode cX9_hasT 96 = .ok (.istore 5, 2) := by decide +kernel
theorem dX9_hasT_98 : decode cX9_hasT 98 = .ok (.iload_n 2, 1) := by decide +kernel
theorem dX9_hasT_99 : decode cX9_hasT 99 = .ok (.ifCond .ne 46, 3) := by decide +kernel
theorem dX9_hasT_102 : decode cX9_hasT 102 = .ok (.aload_n 0, 1) := by decide +kernel
theorem dX9_hasT_103 : decode cX9_hasT 103 = .ok (.getfield 64, 3) := by decide +kernel
theorem dX9_hasT_106 : decode cX9_hasT 106 = .ok (.iload_n 3, 1) := by decide +kernel
theorem dX9_hasT_107 : decode cX9_hasT 107 = .ok (.iaload, 1) := by decide +kernel
theorem dX9_hasT_108 : decode cX9_hasT 108 = .ok (.bipush 16, 2) := by decide +kernel
theorem dX9_hasT_110 : decode cX9_hasT 110 = .ok (.if_icmp .ge 35, 3) := by decide +kernel
theorem dX9_hasT_113 : decode cX9_hasT 113 = .ok (.iload 4, 2) := by decide +kernel
theorem dX9_hasT_115 : decode cX9_hasT 115 = .ok (.ifCond .eq 14, 3) := by decide +kernel
theorem dX9_hasT_118 : decode cX9_hasT 118 = .ok (.aload_n 0, 1) := by decide +kernel
theorem dX9_hasT_119 : decode cX9_hasT 119 = .ok (.getfield 76, 3) := by decide +kernel
theorem dX9_hasT_122 : decode cX9_hasT 122 = .ok (.iload_n 3, 1) := by decide +kernel
theorem dX9_hasT_123 : decode cX9_hasT 123 = .ok (.iaload, 1) := by decide +kernel
theorem dX9_hasT_124 : decode cX9_hasT 124 = .ok (.bipush 16, 2) := by decide +kernel
theorem dX9_hasT_126 : decode cX9_hasT 126 = .ok (.if_icmp .ge 19, 3) := by decide +kernel
theorem dX9_hasT_129 : decode cX9_hasT 129 = .ok (.iload 5, 2) := by decide +kernel
theorem dX9_hasT_131 : decode cX9_hasT 131 = .ok (.ifCond .eq 18, 3) := by decide +kernel
theorem dX9_hasT_134 : decode cX9_hasT 134 = .ok (.aload_n 0, 1) := by decide +kernel
theorem dX9_hasT_135 : decode cX9_hasT 135 = .ok (.getfield 82, 3) := by decide +kernel
theorem dX9_hasT_138 : decode cX9_hasT 138 = .ok (.iload_n 3, 1) := by decide +kernel
theorem dX9_hasT_139 : decode cX9_hasT 139 = .ok (.iaload, 1) := by decide +kernel
theorem dX9_hasT_140 : decode cX9_hasT 140 = .ok (.bipush 16, 2) := by decide +kernel
theorem dX9_hasT_142 : decode cX9_hasT 142 = .ok (.if_icmp .lt 7, 3) := by decide +kernel
theorem dX9_hasT_145 : decode cX9_hasT 145 = .ok (.iconst 1, 1) := by decide +kernel
theorem dX9_hasT_146 : decode cX9_hasT 146 = .ok (.goto 4, 3) := by decide +kernel
theorem dX9_hasT_149 : decode cX9_hasT 149 = .ok (.iconst 0, 1) := by decide +kernel
theorem dX9_hasT_150 : decode cX9_hasT 150 = .ok (.istore_n 2, 1) := by decide +kernel
theorem dX9_hasT_151 : decode cX9_hasT 151 = .ok (.iinc 3 1, 3) := by decide +kernel
theorem dX9_hasT_154 : decode cX9_hasT 154 = .ok (.goto (-146), 3) := by decide +kernel
theorem dX9_hasT_157 : decode cX9_hasT 157 = .ok (.bipush 32, 2) := by decide +kernel
theorem dX9_hasT_159 : decode cX9_hasT 159 = .ok (.iload_n 1, 1) := by decide +kernel
theorem dX9_hasT_160 : decode cX9_hasT 160 = .ok (.imul, 1) := by decide +kernel
theorem dX9_hasT_161 : decode cX9_hasT 161 = .ok (.istore_n 3, 1) := by decide +kernel
theorem dX9_hasT_162 : decode cX9_hasT 162 = .ok (.iload_n 3, 1) := by decide +kernel
theorem dX9_hasT_163 : decode cX9_hasT 163 = .ok (.bipush 32, 2) := by decide +kernel
theorem dX9_hasT_165 : decode cX9_hasT 165 = .ok (.iload_n 1, 1) := by decide +kernel
theorem dX9_hasT_166 : decode cX9_hasT 166 = .ok (.imul, 1) := by decide +kernel
theorem dX9_hasT_167 : decode cX9_hasT 167 = .ok (.aload_n 0, 1) := by decide +kernel
theorem dX9_hasT_168 : decode cX9_hasT 168 = .ok (.getfield 49, 3) := by decide +kernel
theorem dX9_hasT_171 : decode cX9_hasT 171 = .ok (.iload_n 1, 1) := by decide +kernel
theorem dX9_hasT_172 : decode cX9_hasT 172 = .ok (.iaload, 1) := by decide +kernel
theorem dX9_hasT_173 : decode cX9_hasT 173 = .ok (.iadd, 1) := by decide +kernel
theorem dX9_hasT_174 : decode cX9_hasT 174 = .ok (.if_icmp .ge 41, 3) := by decide +kernel
theorem dX9_hasT_177 : decode cX9_hasT 177 = .ok (.iload_n 2, 1) := by decide +kernel
theorem dX9_hasT_178 : decode cX9_hasT 178 = .ok (.ifCond .ne 25, 3) := by decide +kernel
theorem dX9_hasT_181 : decode cX9_hasT 181 = .ok (.aload_n 0, 1) := by decide +kernel
theorem dX9_hasT_182 : decode cX9_hasT 182 = .ok (.getfield 94, 3) := by decide +kernel
theorem dX9_hasT_185 : decode cX9_hasT 185 = .ok (.iload_n 3, 1) := by decide +kernel
theorem dX9_hasT_186 : decode cX9_hasT 186 = .ok (.iaload, 1) := by decide +kernel
theorem dX9_hasT_187 : decode cX9_hasT 187 = .ok (.bipush 16, 2) := by decide +kernel
theorem dX9_hasT_189 : decode cX9_hasT 189 = .ok (.if_icmp .ge 14, 3) := by decide +kernel
theorem dX9_hasT_192 : decode cX9_hasT 192 = .ok (.aload_n 0, 1) := by decide +kernel
theorem dX9_hasT_193 : decode cX9_hasT 193 = .ok (.getfield 100, 3) := by decide +kernel
theorem dX9_hasT_196 : decode cX9_hasT 196 = .ok (.iload_n 3, 1) := by decide +kernel
theorem dX9_hasT_197 : decode cX9_hasT 197 = .ok (.iaload, 1) := by decide +kernel
theorem dX9_hasT_198 : decode cX9_hasT 198 = .ok (.bipush 16, 2) := by decide +kernel
theorem dX9_hasT_200 : decode cX9_hasT 200 = .ok (.if_icmp .lt 7, 3) := by decide +kernel
theorem dX9_hasT_203 : decode cX9_hasT 203 = .ok (.iconst 1, 1) := by decide +kernel
theorem dX9_hasT_204 : decode cX9_hasT 204 = .ok (.goto 4, 3) := by decide +kernel
theorem dX9_hasT_207 : decode cX9_hasT 207 = .ok (.iconst 0, 1) := by decide +kernel
theorem dX9_hasT_208 : decode cX9_hasT 208 = .ok (.istore_n 2, 1) := by decide +kernel
theorem dX9_hasT_209 : decode cX9_hasT 209 = .ok (.iinc 3 1, 3) := by decide +kernel
theorem dX9_hasT_212 : decode cX9_hasT 212 = .ok (.goto (-50), 3) := by decide +kernel
theorem dX9_hasT_215 : decode cX9_hasT 215 = .ok (.iload_n 2, 1) := by decide +kernel
theorem dX9_hasT_216 : decode cX9_hasT 216 = .ok (.ireturn, 1) := by decide +kernel
theorem dX9_write_0 : decode cX9_write 0 = .ok (.aload_n 0, 1) := by decide +kernel
theorem dX9_write_1 : decode cX9_write 1 = .ok (.iload_n 1, 1) := by decide +kernel
theorem dX9_write_2 : decode cX9_write 2 = .ok (.invokevirtual 373, 3) := by decide +kernel
theorem dX9_write_5 : decode cX9_write 5 = .ok (.ifCond .eq 11, 3) := by decide +kernel
theorem dX9_write_8 : decode cX9_write 8 = .ok (.aload_n 0, 1) := by decide +kernel
theorem dX9_write_9 : decode cX9_write 9 = .ok (.iload_n 2, 1) := by decide +kernel
theorem dX9_write_10 : decode cX9_write 10 = .ok (.invokevirtual 388, 3) := by decide +kernel
theorem dX9_write_13 : decode cX9_write 13 = .ok (.ifCond .ne 5, 3) := by decide +kernel
theorem dX9_write_16 : decode cX9_write 16 = .ok (.iconst (-1), 1) := by decide +kernel
theorem dX9_write_17 : decode cX9_write 17 = .ok (.ireturn, 1) := by decide +kernel
theorem dX9_write_18 : decode cX9_write 18 = .ok (.iload_n 2, 1) := by decide +kernel
theorem dX9_write_19 : decode cX9_write 19 = .ok (.ifCond .le 14, 3) := by decide +kernel
theorem dX9_write_22 : decode cX9_write 22 = .ok (.aload_n 0, 1) := by decide +kernel
theorem dX9_write_23 : decode cX9_write 23 = .ok (.iload_n 1, 1) := by decide +kernel
theorem dX9_write_24 : decode cX9_write 24 = .ok (.invokevirtual 451, 3) := by decide +kernel
theorem dX9_write_27 : decode cX9_write 27 = .ok (.ifCond .eq 6, 3) := by decide +kernel
theorem dX9_write_30 : decode cX9_write 30 = .ok (.bipush (-4), 2) := by decide +kernel
theorem dX9_write_32 : decode cX9_write 32 = .ok (.ireturn, 1) := by decide +kernel
theorem dX9_write_33 : decode cX9_write 33 = .ok (.aload_n 0, 1) := by decide +kernel
theorem dX9_write_34 : decode cX9_write 34 = .ok (.iconst 0, 1) := by decide +kernel
theorem dX9_write_35 : decode cX9_write 35 = .ok (.putfield 196, 3) := by decide +kernel
theorem dX9_write_38 : decode cX9_write 38 = .ok (.aload_n 0, 1) := by decide +kernel
theorem dX9_write_39 : decode cX9_write 39 = .ok (.getfield 40, 3) := by decide +kernel
theorem dX9_write_42 : decode cX9_write 42 = .ok (.iload_n 1, 1) := by decide +kernel
theorem dX9_write_43 : decode cX9_write 43 = .ok (.iaload, 1) := by decide +kernel
theorem dX9_write_44 : decode cX9_write 44 = .ok (.istore_n 3, 1) := by decide +kernel
theorem dX9_write_45 : decode cX9_write 45 = .ok (.aload_n 0, 1) := by decide +kernel
theorem dX9_write_46 : decode cX9_write 46 = .ok (.getfield 46, 3) := by decide +kernel
theorem dX9_write_49 : decode cX9_write 49 = .ok (.iload_n 1, 1) := by decide +kernel
theorem dX9_write_50 : decode cX9_write 50 = .ok (.iaload, 1) := by decide +kernel
theorem dX9_write_51 : decode cX9_write 51 = .ok (.istore 4, 2) := by decide +kernel
theorem dX9_write_53 : decode cX9_write 53 = .ok (.iload 4, 2) := by decide +kernel
theorem dX9_write_55 : decode cX9_write 55 = .ok (.aload_n 0, 1) := by decide +kernel
theorem dX9_write_56 : decode cX9_write 56 = .ok (.getfield 43, 3) := by decide +kernel
theorem dX9_write_59 : decode cX9_write 59 = .ok (.iload_n 1, 1) := by decide +kernel
theorem dX9_write_60 : decode cX9_write 60 = .ok (.iaload, 1) := by decide +kernel
theorem dX9_write_61 : decode cX9_write 61 = .ok (.if_icmp .ge 42, 3) := by decide +kernel
theorem dX9_write_64 : decode cX9_write 64 = .ok (.aload_n 0, 1) := by decide +kernel
theorem dX9_write_65 : decode cX9_write 65 = .ok (.getfield 199, 3) := by decide +kernel
theorem dX9_write_68 : decode cX9_write 68 = .ok (.iload 4, 2) := by decide +kernel
theorem dX9_write_70 : decode cX9_write 70 = .ok (.iconst (-1), 1) := by decide +kernel
theorem dX9_write_71 : decode cX9_write 71 = .ok (.iastore, 1) := by decide +kernel
theorem dX9_write_72 : decode cX9_write 72 = .ok (.aload_n 0, 1) := by decide +kernel
theorem dX9_write_73 : decode cX9_write 73 = .ok (.iload_n 1, 1) := by decide +kernel
theorem dX9_write_74 : decode cX9_write 74 = .ok (.iload_n 2, 1) := by decide +kernel
theorem dX9_write_75 : decode cX9_write 75 = .ok (.iload 4, 2) := by decide +kernel
theorem dX9_write_77 : decode cX9_write 77 = .ok (.invokevirtual 454, 3) := by decide +kernel
theorem dX9_write_80 : decode cX9_write 80 = .ok (.ifCond .ne 6, 3) := by decide +kernel
theorem dX9_write_83 : decode cX9_write 83 = .ok (.goto 14, 3) := by decide +kernel
theorem dX9_write_86 : decode cX9_write 86 = .ok (.aload_n 0, 1) := by decide +kernel
theorem dX9_write_87 : decode cX9_write 87 = .ok (.getfield 199, 3) := by decide +kernel
theorem dX9_write_90 : decode cX9_write 90 = .ok (.iload 4, 2) := by decide +kernel
theorem dX9_write_92 : decode cX9_write 92 = .ok (.iload_n 3, 1) := by decide +kernel
theorem dX9_write_93 : decode cX9_write 93 = .ok (.iastore, 1) := by decide +kernel
theorem dX9_write_94 : decode cX9_write 94 = .ok (.iinc 3 1, 3) := by decide +kernel
theorem dX9_write_97 : decode cX9_write 97 = .ok (.iinc 4 1, 3) := by decide +kernel
theorem dX9_write_100 : decode cX9_write 100 = .ok (.goto (-47), 3) := by decide +kernel
theorem dX9_write_103 : decode cX9_write 103 = .ok (.iconst 0, 1) := by decide +kernel
theorem dX9_write_104 : decode cX9_write 104 = .ok (.istore 4, 2) := by decide +kernel
theorem dX9_write_106 : decode cX9_write 106 = .ok (.iload 4, 2) := by decide +kernel
theorem dX9_write_108 : decode cX9_write 108 = .ok (.aload_n 0, 1) := by decide +kernel
theorem dX9_write_109 : decode cX9_write 109 = .ok (.getfield 40, 3) := by decide +kernel
theorem dX9_write_112 : decode cX9_write 112 = .ok (.iload_n 1, 1) := by decide +kernel
theorem dX9_write_113 : decode cX9_write 113 = .ok (.iaload, 1) := by decide +kernel
theorem dX9_write_114 : decode cX9_write 114 = .ok (.if_icmp .ge 69, 3) := by decide +kernel
theorem dX9_write_117 : decode cX9_write 117 = .ok (.aload_n 0, 1) := by decide +kernel
theorem dX9_write_118 : decode cX9_write 118 = .ok (.iload 4, 2) := by decide +kernel
theorem dX9_write_120 : decode cX9_write 120 = .ok (.invokevirtual 457, 3) := by decide +kernel
theorem dX9_write_123 : decode cX9_write 123 = .ok (.aload_n 0, 1) := by decide +kernel
theorem dX9_write_124 : decode cX9_write 124 = .ok (.getfield 52, 3) := by decide +kernel
theorem dX9_write_127 : decode cX9_write 127 = .ok (.bipush 41, 2) := by decide +kernel
theorem dX9_write_129 : decode cX9_write 129 = .ok (.iload_n 1, 1) := by decide +kernel
theorem dX9_write_130 : decode cX9_write 130 = .ok (.imul, 1) := by decide +kernel
theorem dX9_write_131 : decode cX9_write 131 = .ok (.iload 4, 2) := by decide +kernel
theorem dX9_write_133 : decode cX9_write 133 = .ok (.iadd, 1) := by decide +kernel
theorem dX9_write_134 : decode cX9_write 134 = .ok (.iaload, 1) := by decide +kernel
theorem dX9_write_135 : decode cX9_write 135 = .ok (.istore 5, 2) := by decide +kernel
theorem dX9_write_137 : decode cX9_write 137 = .ok (.iload 5, 2) := by decide +kernel
theorem dX9_write_139 : decode cX9_write 139 = .ok (.aload_n 0, 1) := by decide +kernel
theorem dX9_write_140 : decode cX9_write 140 = .ok (.iload_n 1, 1) := by decide +kernel
theorem dX9_write_141 : decode cX9_write 141 = .ok (.iload 4, 2) := by decide +kernel
theorem dX9_write_143 : decode cX9_write 143 = .ok (.invokevirtual 405, 3) := by decide +kernel
theorem dX9_write_146 : decode cX9_write 146 = .ok (.sipush 240, 3) := by decide +kernel
theorem dX9_write_149 : decode cX9_write 149 = .ok (.iload_n 1, 1) := by decide +kernel
theorem dX9_write_150 : decode cX9_write 150 = .ok (.imul, 1) := by decide +kernel
theorem dX9_write_151 : decode cX9_write 151 = .ok (.isub, 1) := by decide +kernel
theorem dX9_write_152 : decode cX9_write 152 = .ok (.if_icmp .gt 25, 3) := by decide +kernel
theorem dX9_write_155 : decode cX9_write 155 = .ok (.aload_n 0, 1) := by decide +kernel
theorem dX9_write_156 : decode cX9_write 156 = .ok (.iload_n 1, 1) := by decide +kernel
theorem dX9_write_157 : decode cX9_write 157 = .ok (.iload_n 2, 1) := by decide +kernel
theorem dX9_write_158 : decode cX9_write 158 = .ok (.iload 5, 2) := by decide +kernel
theorem dX9_write_160 : decode cX9_write 160 = .ok (.invokevirtual 460, 3) := by decide +kernel
theorem dX9_write_163 : decode cX9_write 163 = .ok (.aload_n 0, 1) := by decide +kernel
theorem dX9_write_164 : decode cX9_write 164 = .ok (.iload_n 1, 1) := by decide +kernel
theorem dX9_write_165 : decode cX9_write 165 = .ok (.iload_n 2, 1) := by decide +kernel
theorem dX9_write_166 : decode cX9_write 166 = .ok (.iload 5, 2) := by decide +kernel
theorem dX9_write_168 : decode cX9_write 168 = .ok (.invokevirtual 463, 3) := by decide +kernel
theorem dX9_write_171 : decode cX9_write 171 = .ok (.iinc 5 1, 3) := by decide +kernel
theorem dX9_write_174 : decode cX9_write 174 = .ok (.goto (-37), 3) := by decide +kernel
theorem dX9_write_177 : decode cX9_write 177 = .ok (.iinc 4 1, 3) := by decide +kernel
theorem dX9_write_180 : decode cX9_write 180 = .ok (.goto (-74), 3) := by decide +kernel
theorem dX9_write_183 : decode cX9_write 183 = .ok (.aload_n 0, 1) := by decide +kernel
theorem dX9_write_184 : decode cX9_write 184 = .ok (.getfield 46, 3) := by decide +kernel
theorem dX9_write_187 : decode cX9_write 187 = .ok (.iload_n 1, 1) := by decide +kernel
theorem dX9_write_188 : decode cX9_write 188 = .ok (.iaload, 1) := by decide +kernel
theorem dX9_write_189 : decode cX9_write 189 = .ok (.istore 4, 2) := by decide +kernel
theorem dX9_write_191 : decode cX9_write 191 = .ok (.iload 4, 2) := by decide +kernel
theorem dX9_write_193 : decode cX9_write 193 = .ok (.aload_n 0, 1) := by decide +kernel
theorem dX9_write_194 : decode cX9_write 194 = .ok (.getfield 43, 3) := by decide +kernel
theorem dX9_write_197 : decode cX9_write 197 = .ok (.iload_n 1, 1) := by decide +kernel
theorem dX9_write_198 : decode cX9_write 198 = .ok (.iaload, 1) := by decide +kernel
theorem dX9_write_199 : decode cX9_write 199 = .ok (.if_icmp .ge 66, 3) := by decide +kernel
theorem dX9_write_202 : decode cX9_write 202 = .ok (.aload_n 0, 1) := by decide +kernel
theorem dX9_write_203 : decode cX9_write 203 = .ok (.getfield 199, 3) := by decide +kernel
theorem dX9_write_206 : decode cX9_write 206 = .ok (.iload 4, 2) := by decide +kernel
theorem dX9_write_208 : decode cX9_write 208 = .ok (.iaload, 1) := by decide +kernel
theorem dX9_write_209 : decode cX9_write 209 = .ok (.ifCond .ge 6, 3) := by decide +kernel
theorem dX9_write_212 : decode cX9_write 212 = .ok (.goto 47, 3) := by decide +kernel
theorem dX9_write_215 : decode cX9_write 215 = .ok (.aload_n 0, 1) := by decide +kernel
theorem dX9_write_216 : decode cX9_write 216 = .ok (.aload_n 0, 1) := by decide +kernel
theorem dX9_write_217 : decode cX9_write 217 = .ok (.getfield 199, 3) := by decide +kernel
theorem dX9_write_220 : decode cX9_write 220 = .ok (.iload 4, 2) := by decide +kernel
theorem dX9_write_222 : decode cX9_write 222 = .ok (.iaload, 1) := by decide +kernel
theorem dX9_write_223 : decode cX9_write 223 = .ok (.invokevirtual 457, 3) := by decide +kernel
theorem dX9_write_226 : decode cX9_write 226 = .ok (.aload_n 0, 1) := by decide +kernel
theorem dX9_write_227 : decode cX9_write 227 = .ok (.iload_n 1, 1) := by decide +kernel
theorem dX9_write_228 : decode cX9_write 228 = .ok (.iload_n 2, 1) := by decide +kernel
theorem dX9_write_229 : decode cX9_write 229 = .ok (.iload 4, 2) := by decide +kernel
theorem dX9_write_231 : decode cX9_write 231 = .ok (.invokevirtual 460, 3) := by decide +kernel
theorem dX9_write_234 : decode cX9_write 234 = .ok (.aload_n 0, 1) := by decide +kernel
theorem dX9_write_235 : decode cX9_write 235 = .ok (.invokevirtual 432, 3) := by decide +kernel
theorem dX9_write_238 : decode cX9_write 238 = .ok (.aload_n 0, 1) := by decide +kernel
theorem dX9_write_239 : decode cX9_write 239 = .ok (.aload_n 0, 1) := by decide +kernel
theorem dX9_write_240 : decode cX9_write 240 = .ok (.getfield 61, 3) := by decide +kernel
theorem dX9_write_243 : decode cX9_write 243 = .ok (.sipush 240, 3) := by decide +kernel
theorem dX9_write_246 : decode cX9_write 246 = .ok (.iload_n 1, 1) := by decide +kernel
theorem dX9_write_247 : decode cX9_write 247 = .ok (.imul, 1) := by decide +kernel
theorem dX9_write_248 : decode cX9_write 248 = .ok (.iload 4, 2) := by decide +kernel
theorem dX9_write_250 : decode cX9_write 250 = .ok (.iadd, 1) := by decide +kernel
theorem dX9_write_251 : decode cX9_write 251 = .ok (.iaload, 1) := by decide +kernel
theorem dX9_write_252 : decode cX9_write 252 = .ok (.invokevirtual 448, 3) := by decide +kernel
theorem dX9_write_255 : decode cX9_write 255 = .ok (.aload_n 0, 1) := by decide +kernel
theorem dX9_write_256 : decode cX9_write 256 = .ok (.invokevirtual 443, 3) := by decide +kernel
theorem dX9_write_259 : decode cX9_write 259 = .ok (.iinc 4 1, 3) := by decide +kernel
theorem dX9_write_262 : decode cX9_write 262 = .ok (.goto (-71), 3) := by decide +kernel
theorem dX9_write_265 : decode cX9_write 265 = .ok (.aload_n 0, 1) := by decide +kernel
theorem dX9_write_266 : decode cX9_write 266 = .ok (.getfield 196, 3) := by decide +kernel
theorem dX9_write_269 : decode cX9_write 269 = .ok (.sipush 3000, 3) := by decide +kernel
theorem dX9_write_272 : decode cX9_write 272 = .ok (.if_icmp .le 6, 3) := by decide +kernel
theorem dX9_write_275 : decode cX9_write 275 = .ok (.bipush (-3), 2) := by decide +kernel
theorem dX9_write_277 : decode cX9_write 277 = .ok (.ireturn, 1) := by decide +kernel
theorem dX9_write_278 : decode cX9_write 278 = .ok (.iconst 0, 1) := by decide +kernel
theorem dX9_write_279 : decode cX9_write 279 = .ok (.istore 4, 2) := by decide +kernel
theorem dX9_write_281 : decode cX9_write 281 = .ok (.iload 4, 2) := by decide +kernel
theorem dX9_write_283 : decode cX9_write 283 = .ok (.aload_n 0, 1) := by decide +kernel
theorem dX9_write_284 : decode cX9_write 284 = .ok (.getfield 196, 3) := by decide +kernel
theorem dX9_write_287 : decode cX9_write 287 = .ok (.if_icmp .ge 23, 3) := by decide +kernel
theorem dX9_write_290 : decode cX9_write 290 = .ok (.aload_n 0, 1) := by decide +kernel
theorem dX9_write_291 : decode cX9_write 291 = .ok (.getfield 7, 3) := by decide +kernel
theorem dX9_write_294 : decode cX9_write 294 = .ok (.iload 4, 2) := by decide +kernel
theorem dX9_write_296 : decode cX9_write 296 = .ok (.aload_n 0, 1) := by decide +kernel
theorem dX9_write_297 : decode cX9_write 297 = .ok (.getfield 193, 3) := by decide +kernel
theorem dX9_write_300 : decode cX9_write 300 = .ok (.iload 4, 2) := by decide +kernel
theorem dX9_write_302 : decode cX9_write 302 = .ok (.iaload, 1) := by decide +kernel
theorem dX9_write_303 : decode cX9_write 303 = .ok (.iastore, 1) := by decide +kernel
theorem dX9_write_304 : decode cX9_write 304 = .ok (.iinc 4 1, 3) := by decide +kernel
theorem dX9_write_307 : decode cX9_write 307 = .ok (.goto (-26), 3) := by decide +kernel
theorem dX9_write_310 : decode cX9_write 310 = .ok (.aload_n 0, 1) := by decide +kernel
theorem dX9_write_311 : decode cX9_write 311 = .ok (.aload_n 0, 1) := by decide +kernel
theorem dX9_write_312 : decode cX9_write 312 = .ok (.getfield 196, 3) := by decide +kernel
theorem dX9_write_315 : decode cX9_write 315 = .ok (.putfield 13, 3) := by decide +kernel
theorem dX9_write_318 : decode cX9_write 318 = .ok (.aload_n 0, 1) := by decide +kernel
theorem dX9_write_319 : decode cX9_write 319 = .ok (.getfield 196, 3) := by decide +kernel
theorem dX9_write_322 : decode cX9_write 322 = .ok (.ireturn, 1) := by decide +kernel
theorem dJ11_isValidCodePoint_9a6ad_0 : decode cJ11_isValidCodePoint_9a6ad 0 = .ok (.iload_n 0, 1) := by decide +kernel
theorem dJ11_isValidCodePoint_9a6ad_1 : decode cJ11_isValidCodePoint_9a6ad 1 = .ok (.bipush 16, 2) := by decide +kernel
theorem dJ11_isValidCodePoint_9a6ad_3 : decode cJ11_isValidCodePoint_9a6ad 3 = .ok (.iushr, 1) := by decide +kernel
theorem dJ11_isValidCodePoint_9a6ad_4 : decode cJ11_isValidCodePoint_9a6ad 4 = .ok (.istore_n 1, 1) := by decide +kernel
theorem dJ11_isValidCodePoint_9a6ad_5 : decode cJ11_isValidCodePoint_9a6ad 5 = .ok (.iload_n 1, 1) := by decide +kernel
theorem dJ11_isValidCodePoint_9a6ad_6 : decode cJ11_isValidCodePoint_9a6ad 6 = .ok (.bipush 17, 2) := by decide +kernel
theorem dJ11_isValidCodePoint_9a6ad_8 : decode cJ11_isValidCodePoint_9a6ad 8 = .ok (.if_icmp .ge 7, 3) := by decide +kernel
theorem dJ11_isValidCodePoint_9a6ad_11 : decode cJ11_isValidCodePoint_9a6ad 11 = .ok (.iconst 1, 1) := by decide +kernel
theorem dJ11_isValidCodePoint_9a6ad_12 : decode cJ11_isValidCodePoint_9a6ad 12 = .ok (.goto 4, 3) := by decide +kernel
theorem dJ11_isValidCodePoint_9a6ad_15 : decode cJ11_isValidCodePoint_9a6ad 15 = .ok (.iconst 0, 1) := by decide +kernel
theorem dJ11_isValidCodePoint_9a6ad_16 : decode cJ11_isValidCodePoint_9a6ad 16 = .ok (.ireturn, 1) := by decide +kernel
theorem dJ11_highSurrogate_5068e_0 : decode cJ11_highSurrogate_5068e 0 = .ok (.iload_n 0, 1) := by decide +kernel
theorem dJ11_highSurrogate_5068e_1 : decode cJ11_highSurrogate_5068e 1 = .ok (.bipush 10, 2) := by decide +kernel
theorem dJ11_highSurrogate_5068e_3 : decode cJ11_highSurrogate_5068e 3 = .ok (.iushr, 1) := by decide +kernel
theorem dJ11_highSurrogate_5068e_4 : decode cJ11_highSurrogate_5068e 4 = .ok (.ldc 110, 2) := by decide +kernel
theorem dJ11_highSurrogate_5068e_6 : decode cJ11_highSurrogate_5068e 6 = .ok (.iadd, 1) := by decide +kernel
theorem dJ11_highSurrogate_5068e_7 : decode cJ11_highSurrogate_5068e 7 = .ok (.i2c, 1) := by decide +kernel
theorem dJ11_highSurrogate_5068e_8 : decode cJ11_highSurrogate_5068e 8 = .ok (.ireturn, 1) := by decide +kernel
theorem dJ11_lowSurrogate_5068e_0 : decode cJ11_lowSurrogate_5068e 0 = .ok (.iload_n 0, 1) := by decide +kernel
theorem dJ11_lowSurrogate_5068e_1 : decode cJ11_lowSurrogate_5068e 1 = .ok (.sipush 1023, 3) := by decide +kernel
theorem dJ11_lowSurrogate_5068e_4 : decode cJ11_lowSurrogate_5068e 4 = .ok (.iand, 1) := by decide +kernel
theorem dJ11_lowSurrogate_5068e_5 : decode cJ11_lowSurrogate_5068e 5 = .ok (.ldc 76, 2) := by decide +kernel
theorem dJ11_lowSurrogate_5068e_7 : decode cJ11_lowSurrogate_5068e 7 = .ok (.iadd, 1) := by decide +kernel
theorem dJ11_lowSurrogate_5068e_8 : decode cJ11_lowSurrogate_5068e 8 = .ok (.i2c, 1) := by decide +kernel
theorem dJ11_lowSurrogate_5068e_9 : decode cJ11_lowSurrogate_5068e 9 = .ok (.ireturn, 1) := by decide +kernel
theorem dJ9_max_7cf53_0 : decode cJ9_max_7cf53 0 = .ok (.iload_n 0, 1) := by decide +kernel
theorem dJ9_max_7cf53_1 : decode cJ9_max_7cf53 1 = .ok (.iload_n 1, 1) := by decide +kernel
theorem dJ9_max_7cf53_2 : decode cJ9_max_7cf53 2 = .ok (.if_icmp .lt 7, 3) := by decide +kernel
theorem dJ9_max_7cf53_5 : decode cJ9_max_7cf53 5 = .ok (.iload_n 0, 1) := by decide +kernel
theorem dJ9_max_7cf53_6 : decode cJ9_max_7cf53 6 = .ok (.goto 4, 3) := by decide +kernel
theorem dJ9_max_7cf53_9 : decode cJ9_max_7cf53 9 = .ok (.iload_n 1, 1) := by decide +kernel
theorem dJ9_max_7cf53_10 : decode cJ9_max_7cf53 10 = .ok (.ireturn, 1) := by decide +kernel
theorem dJ9_min_7cf53_0 : decode cJ9_min_7cf53 0 = .ok (.iload_n 0, 1) := by decide +kernel
theorem dJ9_min_7cf53_1 : decode cJ9_min_7cf53 1 = .ok (.iload_n 1, 1) := by decide +kernel
theorem dJ9_min_7cf53_2 : decode cJ9_min_7cf53 2 = .ok (.if_icmp .gt 7, 3) := by decide +kernel
theorem dJ9_min_7cf53_5 : decode cJ9_min_7cf53 5 = .ok (.iload_n 0, 1) := by decide +kernel
theorem dJ9_min_7cf53_6 : decode cJ9_min_7cf53 6 = .ok (.goto 4, 3) := by decide +kernel
theorem dJ9_min_7cf53_9 : decode cJ9_min_7cf53 9 = .ok (.iload_n 1, 1) := by decide +kernel
theorem dJ9_min_7cf53_10 : decode cJ9_min_7cf53 10 = .ok (.ireturn, 1) := by decide +kernel
theorem dJ0_length_8abf5_0 : decode cJ0_length_8abf5 0 = .ok (.aload_n 0, 1) := by decide +kernel
theorem dJ0_length_8abf5_1 : decode cJ0_length_8abf5 1 = .ok (.getfield 9, 3) := by decide +kernel
theorem dJ0_length_8abf5_4 : decode cJ0_length_8abf5 4 = .ok (.arraylength, 1) := by decide +kernel
theorem dJ0_length_8abf5_5 : decode cJ0_length_8abf5 5 = .ok (.aload_n 0, 1) := by decide +kernel
theorem dJ0_length_8abf5_6 : decode cJ0_length_8abf5 6 = .ok (.invokevirtual 335, 3) := by decide +kernel
theorem dJ0_length_8abf5_9 : decode cJ0_length_8abf5 9 = .ok (.ishr, 1) := by decide +kernel
theorem dJ0_length_8abf5_10 : decode cJ0_length_8abf5 10 = .ok (.ireturn, 1) := by decide +kernel
theorem dJ0_charAt_5068e_0 : decode cJ0_charAt_5068e 0 = .ok (.aload_n 0, 1) := by decide +kernel
theorem dJ0_charAt_5068e_1 : decode cJ0_charAt_5068e 1 = .ok (.invokevirtual 492, 3) := by decide +kernel
theorem dJ0_charAt_5068e_4 : decode cJ0_charAt_5068e 4 = .ok (.ifCond .eq 12, 3) := by decide +kernel
theorem dJ0_charAt_5068e_7 : decode cJ0_charAt_5068e 7 = .ok (.aload_n 0, 1) := by decide +kernel
theorem dJ0_charAt_5068e_8 : decode cJ0_charAt_5068e 8 = .ok (.getfield 9, 3) := by decide +kernel
theorem dJ0_charAt_5068e_11 : decode cJ0_charAt_5068e 11 = .ok (.iload_n 1, 1) := by decide +kernel
theorem dJ0_charAt_5068e_12 : decode cJ0_charAt_5068e 12 = .ok (.invokestatic 495, 3) := by decide +kernel
theorem dJ0_charAt_5068e_15 : decode cJ0_charAt_5068e 15 = .ok (.ireturn, 1) := by decide +kernel
theorem dJ0_charAt_5068e_16 : decode cJ0_charAt_5068e 16 = .ok (.aload_n 0, 1) := by decide +kernel
theorem dJ0_charAt_5068e_17 : decode cJ0_charAt_5068e 17 = .ok (.getfield 9, 3) := by decide +kernel
theorem dJ0_charAt_5068e_20 : decode cJ0_charAt_5068e 20 = .ok (.iload_n 1, 1) := by decide +kernel
theorem dJ0_charAt_5068e_21 : decode cJ0_charAt_5068e 21 = .ok (.invokestatic 498, 3) := by decide +kernel
theorem dJ0_charAt_5068e_24 : decode cJ0_charAt_5068e 24 = .ok (.ireturn, 1) := by decide +kernel
theorem dJ0_indexOf_0f7a4_0 : decode cJ0_indexOf_0f7a4 0 = .ok (.aload_n 0, 1) := by decide +kernel
theorem dJ0_indexOf_0f7a4_1 : decode cJ0_indexOf_0f7a4 1 = .ok (.iload_n 1, 1) := by decide +kernel
theorem dJ0_indexOf_0f7a4_2 : decode cJ0_indexOf_0f7a4 2 = .ok (.iconst 0, 1) := by decide +kernel
theorem dJ0_indexOf_0f7a4_3 : decode cJ0_indexOf_0f7a4 3 = .ok (.invokevirtual 633, 3) := by decide +kernel
theorem dJ0_indexOf_0f7a4_6 : decode cJ0_indexOf_0f7a4 6 = .ok (.ireturn, 1) := by decide +kernel
theorem dJ0_indexOf_7cf53_0 : decode cJ0_indexOf_7cf53 0 = .ok (.aload_n 0, 1) := by decide +kernel
theorem dJ0_indexOf_7cf53_1 : decode cJ0_indexOf_7cf53 1 = .ok (.invokevirtual 492, 3) := by decide +kernel
theorem dJ0_indexOf_7cf53_4 : decode cJ0_indexOf_7cf53 4 = .ok (.ifCond .eq 19, 3) := by decide +kernel
theorem dJ0_indexOf_7cf53_7 : decode cJ0_indexOf_7cf53 7 = .ok (.aload_n 0, 1) := by decide +kernel
theorem dJ0_indexOf_7cf53_8 : decode cJ0_indexOf_7cf53 8 = .ok (.getfield 9, 3) := by decide +kernel
theorem dJ0_indexOf_7cf53_11 : decode cJ0_indexOf_7cf53 11 = .ok (.iload_n 1, 1) := by decide +kernel
theorem dJ0_indexOf_7cf53_12 : decode cJ0_indexOf_7cf53 12 = .ok (.iload_n 2, 1) := by decide +kernel
theorem dJ0_indexOf_7cf53_13 : decode cJ0_indexOf_7cf53 13 = .ok (.aload_n 0, 1) := by decide +kernel
theorem dJ0_indexOf_7cf53_14 : decode cJ0_indexOf_7cf53 14 = .ok (.invokevirtual 505, 3) := by decide +kernel
theorem dJ0_indexOf_7cf53_17 : decode cJ0_indexOf_7cf53 17 = .ok (.invokestatic 637, 3) := by decide +kernel
theorem dJ0_indexOf_7cf53_20 : decode cJ0_indexOf_7cf53 20 = .ok (.goto 16, 3) := by decide +kernel
theorem dJ0_indexOf_7cf53_23 : decode cJ0_indexOf_7cf53 23 = .ok (.aload_n 0, 1) := by decide +kernel
theorem dJ0_indexOf_7cf53_24 : decode cJ0_indexOf_7cf53 24 = .ok (.getfield 9, 3) := by decide +kernel
theorem dJ0_indexOf_7cf53_27 : decode cJ0_indexOf_7cf53 27 = .ok (.iload_n 1, 1) := by decide +kernel
theorem dJ0_indexOf_7cf53_28 : decode cJ0_indexOf_7cf53 28 = .ok (.iload_n 2, 1) := by decide +kernel
theorem dJ0_indexOf_7cf53_29 : decode cJ0_indexOf_7cf53 29 = .ok (.aload_n 0, 1) := by decide +kernel
theorem dJ0_indexOf_7cf53_30 : decode cJ0_indexOf_7cf53 30 = .ok (.invokevirtual 505, 3) := by decide +kernel
theorem dJ0_indexOf_7cf53_33 : decode cJ0_indexOf_7cf53 33 = .ok (.invokestatic 640, 3) := by decide +kernel
theorem dJ0_indexOf_7cf53_36 : decode cJ0_indexOf_7cf53 36 = .ok (.ireturn, 1) := by decide +kernel
theorem dJ0_coder_7d493_0 : decode cJ0_coder_7d493 0 = .ok (.getstatic 38, 3) := by decide +kernel
theorem dJ0_coder_7d493_3 : decode cJ0_coder_7d493 3 = .ok (.ifCond .eq 10, 3) := by decide +kernel
theorem dJ0_coder_7d493_6 : decode cJ0_coder_7d493 6 = .ok (.aload_n 0, 1) := by decide +kernel
theorem dJ0_coder_7d493_7 : decode cJ0_coder_7d493 7 = .ok (.getfield 15, 3) := by decide +kernel
theorem dJ0_coder_7d493_10 : decode cJ0_coder_7d493 10 = .ok (.goto 4, 3) := by decide +kernel
theorem dJ0_coder_7d493_13 : decode cJ0_coder_7d493 13 = .ok (.iconst 1, 1) := by decide +kernel
theorem dJ0_coder_7d493_14 : decode cJ0_coder_7d493 14 = .ok (.ireturn, 1) := by decide +kernel
theorem dJ0_isLatin1_aae02_0 : decode cJ0_isLatin1_aae02 0 = .ok (.getstatic 38, 3) := by decide +kernel
theorem dJ0_isLatin1_aae02_3 : decode cJ0_isLatin1_aae02 3 = .ok (.ifCond .eq 14, 3) := by decide +kernel
theorem dJ0_isLatin1_aae02_6 : decode cJ0_isLatin1_aae02 6 = .ok (.aload_n 0, 1) := by decide +kernel
theorem dJ0_isLatin1_aae02_7 : decode cJ0_isLatin1_aae02 7 = .ok (.getfield 15, 3) := by decide +kernel
theorem dJ0_isLatin1_aae02_10 : decode cJ0_isLatin1_aae02 10 = .ok (.ifCond .ne 7, 3) := by decide +kernel
theorem dJ0_isLatin1_aae02_13 : decode cJ0_isLatin1_aae02 13 = .ok (.iconst 1, 1) := by decide +kernel
theorem dJ0_isLatin1_aae02_14 : decode cJ0_isLatin1_aae02 14 = .ok (.goto 4, 3) := by decide +kernel
theorem dJ0_isLatin1_aae02_17 : decode cJ0_isLatin1_aae02 17 = .ok (.iconst 0, 1) := by decide +kernel
theorem dJ0_isLatin1_aae02_18 : decode cJ0_isLatin1_aae02 18 = .ok (.ireturn, 1) := by decide +kernel
theorem dJ0_checkIndex_df160_0 : decode cJ0_checkIndex_df160 0 = .ok (.iload_n 0, 1) := by decide +kernel
theorem dJ0_checkIndex_df160_1 : decode cJ0_checkIndex_df160 1 = .ok (.iload_n 1, 1) := by decide +kernel
theorem dJ0_checkIndex_df160_2 : decode cJ0_checkIndex_df160 2 = .ok (.getstatic 1053, 3) := by decide +kernel
theorem dJ0_checkIndex_df160_5 : decode cJ0_checkIndex_df160 5 = .ok (.invokestatic 1059, 3) := by decide +kernel
theorem dJ0_checkIndex_df160_8 : decode cJ0_checkIndex_df160 8 = .ok (.pop, 1) := by decide +kernel
theorem dJ0_checkIndex_df160_9 : decode cJ0_checkIndex_df160 9 = .ok (.return_, 1) := by decide +kernel
theorem dJ0_checkBoundsBeginEnd_23922_0 : decode cJ0_checkBoundsBeginEnd_23922 0 = .ok (.iload_n 0, 1) := by decide +kernel
theorem dJ0_checkBoundsBeginEnd_23922_1 : decode cJ0_checkBoundsBeginEnd_23922 1 = .ok (.iload_n 1, 1) := by decide +kernel
theorem dJ0_checkBoundsBeginEnd_23922_2 : decode cJ0_checkBoundsBeginEnd_23922 2 = .ok (.iload_n 2, 1) := by decide +kernel
theorem dJ0_checkBoundsBeginEnd_23922_3 : decode cJ0_checkBoundsBeginEnd_23922 3 = .ok (.getstatic 1053, 3) := by decide +kernel
theorem dJ0_checkBoundsBeginEnd_23922_6 : decode cJ0_checkBoundsBeginEnd_23922 6 = .ok (.invokestatic 1062, 3) := by decide +kernel
theorem dJ0_checkBoundsBeginEnd_23922_9 : decode cJ0_checkBoundsBeginEnd_23922 9 = .ok (.pop, 1) := by decide +kernel
theorem dJ0_checkBoundsBeginEnd_23922_10 : decode cJ0_checkBoundsBeginEnd_23922 10 = .ok (.return_, 1) := by decide +kernel
theorem dJ1_charAt_3b067_0 : decode cJ1_charAt_3b067 0 = .ok (.iload_n 1, 1) := by decide +kernel
theorem dJ1_charAt_3b067_1 : decode cJ1_charAt_3b067 1 = .ok (.aload_n 0, 1) := by decide +kernel
theorem dJ1_charAt_3b067_2 : decode cJ1_charAt_3b067 2 = .ok (.arraylength, 1) := by decide +kernel
theorem dJ1_charAt_3b067_3 : decode cJ1_charAt_3b067 3 = .ok (.invokestatic 9, 3) := by decide +kernel
theorem dJ1_charAt_3b067_6 : decode cJ1_charAt_3b067 6 = .ok (.aload_n 0, 1) := by decide +kernel
theorem dJ1_charAt_3b067_7 : decode cJ1_charAt_3b067 7 = .ok (.iload_n 1, 1) := by decide +kernel
theorem dJ1_charAt_3b067_8 : decode cJ1_charAt_3b067 8 = .ok (.baload, 1) := by decide +kernel
theorem dJ1_charAt_3b067_9 : decode cJ1_charAt_3b067 9 = .ok (.sipush 255, 3) := by decide +kernel
theorem dJ1_charAt_3b067_12 : decode cJ1_charAt_3b067 12 = .ok (.iand, 1) := by decide +kernel
theorem dJ1_charAt_3b067_13 : decode cJ1_charAt_3b067 13 = .ok (.i2c, 1) := by decide +kernel
theorem dJ1_charAt_3b067_14 : decode cJ1_charAt_3b067 14 = .ok (.ireturn, 1) := by decide +kernel
theorem dJ1_canEncode_9a6ad_0 : decode cJ1_canEncode_9a6ad 0 = .ok (.iload_n 0, 1) := by decide +kernel
theorem dJ1_canEncode_9a6ad_1 : decode cJ1_canEncode_9a6ad 1 = .ok (.ifCond .lt 14, 3) := by decide +kernel
theorem dJ1_canEncode_9a6ad_4 : decode cJ1_canEncode_9a6ad 4 = .ok (.iload_n 0, 1) := by decide +kernel
theorem dJ1_canEncode_9a6ad_5 : decode cJ1_canEncode_9a6ad 5 = .ok (.sipush 255, 3) := by decide +kernel
theorem dJ1_canEncode_9a6ad_8 : decode cJ1_canEncode_9a6ad 8 = .ok (.if_icmp .gt 7, 3) := by decide +kernel
theorem dJ1_canEncode_9a6ad_11 : decode cJ1_canEncode_9a6ad 11 = .ok (.iconst 1, 1) := by decide +kernel
theorem dJ1_canEncode_9a6ad_12 : decode cJ1_canEncode_9a6ad 12 = .ok (.goto 4, 3) := by decide +kernel
theorem dJ1_canEncode_9a6ad_15 : decode cJ1_canEncode_9a6ad 15 = .ok (.iconst 0, 1) := by decide +kernel
theorem dJ1_canEncode_9a6ad_16 : decode cJ1_canEncode_9a6ad 16 = .ok (.ireturn, 1) := by decide +kernel
theorem dJ1_indexOf_4cfef_0 : decode cJ1_indexOf_4cfef 0 = .ok (.iload_n 1, 1) := by decide +kernel
theorem dJ1_indexOf_4cfef_1 : decode cJ1_indexOf_4cfef 1 = .ok (.invokestatic 88, 3) := by decide +kernel
theorem dJ1_indexOf_4cfef_4 : decode cJ1_indexOf_4cfef 4 = .ok (.ifCond .ne 5, 3) := by decide +kernel
theorem dJ1_indexOf_4cfef_7 : decode cJ1_indexOf_4cfef 7 = .ok (.iconst (-1), 1) := by decide +kernel
theorem dJ1_indexOf_4cfef_8 : decode cJ1_indexOf_4cfef 8 = .ok (.ireturn, 1) := by decide +kernel
theorem dJ1_indexOf_4cfef_9 : decode cJ1_indexOf_4cfef 9 = .ok (.iload_n 2, 1) := by decide +kernel
theorem dJ1_indexOf_4cfef_10 : decode cJ1_indexOf_4cfef 10 = .ok (.iconst 0, 1) := by decide +kernel
theorem dJ1_indexOf_4cfef_11 : decode cJ1_indexOf_4cfef 11 = .ok (.invokestatic 92, 3) := by decide +kernel
theorem dJ1_indexOf_4cfef_14 : decode cJ1_indexOf_4cfef 14 = .ok (.istore_n 2, 1) := by decide +kernel
theorem dJ1_indexOf_4cfef_15 : decode cJ1_indexOf_4cfef 15 = .ok (.iload_n 3, 1) := by decide +kernel
theorem dJ1_indexOf_4cfef_16 : decode cJ1_indexOf_4cfef 16 = .ok (.aload_n 0, 1) := by decide +kernel
theorem dJ1_indexOf_4cfef_17 : decode cJ1_indexOf_4cfef 17 = .ok (.arraylength, 1) := by decide +kernel
theorem dJ1_indexOf_4cfef_18 : decode cJ1_indexOf_4cfef 18 = .ok (.invokestatic 38, 3) := by decide +kernel
theorem dJ1_indexOf_4cfef_21 : decode cJ1_indexOf_4cfef 21 = .ok (.istore_n 3, 1) := by decide +kernel
theorem dJ1_indexOf_4cfef_22 : decode cJ1_indexOf_4cfef 22 = .ok (.iload_n 2, 1) := by decide +kernel
theorem dJ1_indexOf_4cfef_23 : decode cJ1_indexOf_4cfef 23 = .ok (.iload_n 3, 1) := by decide +kernel
theorem dJ1_indexOf_4cfef_24 : decode cJ1_indexOf_4cfef 24 = .ok (.if_icmp .lt 5, 3) := by decide +kernel
theorem dJ1_indexOf_4cfef_27 : decode cJ1_indexOf_4cfef 27 = .ok (.iconst (-1), 1) := by decide +kernel
theorem dJ1_indexOf_4cfef_28 : decode cJ1_indexOf_4cfef 28 = .ok (.ireturn, 1) := by decide +kernel
theorem dJ1_indexOf_4cfef_29 : decode cJ1_indexOf_4cfef 29 = .ok (.aload_n 0, 1) := by decide +kernel
theorem dJ1_indexOf_4cfef_30 : decode cJ1_indexOf_4cfef 30 = .ok (.iload_n 1, 1) := by decide +kernel
theorem dJ1_indexOf_4cfef_31 : decode cJ1_indexOf_4cfef 31 = .ok (.iload_n 2, 1) := by decide +kernel
theorem dJ1_indexOf_4cfef_32 : decode cJ1_indexOf_4cfef 32 = .ok (.iload_n 3, 1) := by decide +kernel
theorem dJ1_indexOf_4cfef_33 : decode cJ1_indexOf_4cfef 33 = .ok (.invokestatic 95, 3) := by decide +kernel
theorem dJ1_indexOf_4cfef_36 : decode cJ1_indexOf_4cfef 36 = .ok (.ireturn, 1) := by decide +kernel
theorem dJ1_indexOfChar_4cfef_0 : decode cJ1_indexOfChar_4cfef 0 = .ok (.iload_n 1, 1) := by decide +kernel
theorem dJ1_indexOfChar_4cfef_1 : decode cJ1_indexOfChar_4cfef 1 = .ok (.i2b, 1) := by decide +kernel
theorem dJ1_indexOfChar_4cfef_2 : decode cJ1_indexOfChar_4cfef 2 = .ok (.istore 4, 2) := by decide +kernel
theorem dJ1_indexOfChar_4cfef_4 : decode cJ1_indexOfChar_4cfef 4 = .ok (.iload_n 2, 1) := by decide +kernel
theorem dJ1_indexOfChar_4cfef_5 : decode cJ1_indexOfChar_4cfef 5 = .ok (.istore 5, 2) := by decide +kernel
theorem dJ1_indexOfChar_4cfef_7 : decode cJ1_indexOfChar_4cfef 7 = .ok (.iload 5, 2) := by decide +kernel
theorem dJ1_indexOfChar_4cfef_9 : decode cJ1_indexOfChar_4cfef 9 = .ok (.iload_n 3, 1) := by decide +kernel
theorem dJ1_indexOfChar_4cfef_10 : decode cJ1_indexOfChar_4cfef 10 = .ok (.if_icmp .ge 21, 3) := by decide +kernel
theorem dJ1_indexOfChar_4cfef_13 : decode cJ1_indexOfChar_4cfef 13 = .ok (.aload_n 0, 1) := by decide +kernel
theorem dJ1_indexOfChar_4cfef_14 : decode cJ1_indexOfChar_4cfef 14 = .ok (.iload 5, 2) := by decide +kernel
theorem dJ1_indexOfChar_4cfef_16 : decode cJ1_indexOfChar_4cfef 16 = .ok (.baload, 1) := by decide +kernel
theorem dJ1_indexOfChar_4cfef_17 : decode cJ1_indexOfChar_4cfef 17 = .ok (.iload 4, 2) := by decide +kernel
theorem dJ1_indexOfChar_4cfef_19 : decode cJ1_indexOfChar_4cfef 19 = .ok (.if_icmp .ne 6, 3) := by decide +kernel
theorem dJ1_indexOfChar_4cfef_22 : decode cJ1_indexOfChar_4cfef 22 = .ok (.iload 5, 2) := by decide +kernel
theorem dJ1_indexOfChar_4cfef_24 : decode cJ1_indexOfChar_4cfef 24 = .ok (.ireturn, 1) := by decide +kernel
theorem dJ1_indexOfChar_4cfef_25 : decode cJ1_indexOfChar_4cfef 25 = .ok (.iinc 5 1, 3) := by decide +kernel
theorem dJ1_indexOfChar_4cfef_28 : decode cJ1_indexOfChar_4cfef 28 = .ok (.goto (-21), 3) := by decide +kernel
theorem dJ1_indexOfChar_4cfef_31 : decode cJ1_indexOfChar_4cfef 31 = .ok (.iconst (-1), 1) := by decide +kernel
theorem dJ1_indexOfChar_4cfef_32 : decode cJ1_indexOfChar_4cfef 32 = .ok (.ireturn, 1) := by decide +kernel
theorem dJ2_getChar_3b067_0 : decode cJ2_getChar_3b067 0 = .ok (.getstatic 44, 3) := by decide +kernel
theorem dJ2_getChar_3b067_3 : decode cJ2_getChar_3b067 3 = .ok (.ifCond .ne 25, 3) := by decide +kernel
theorem dJ2_getChar_3b067_6 : decode cJ2_getChar_3b067 6 = .ok (.iload_n 1, 1) := by decide +kernel
theorem dJ2_getChar_3b067_7 : decode cJ2_getChar_3b067 7 = .ok (.ifCond .lt 11, 3) := by decide +kernel
theorem dJ2_getChar_3b067_10 : decode cJ2_getChar_3b067 10 = .ok (.iload_n 1, 1) := by decide +kernel
theorem dJ2_getChar_3b067_11 : decode cJ2_getChar_3b067 11 = .ok (.aload_n 0, 1) := by decide +kernel
theorem dJ2_getChar_3b067_12 : decode cJ2_getChar_3b067 12 = .ok (.invokestatic 48, 3) := by decide +kernel
theorem dJ2_getChar_3b067_15 : decode cJ2_getChar_3b067 15 = .ok (.if_icmp .lt 13, 3) := by decide +kernel
theorem dJ2_getChar_3b067_18 : decode cJ2_getChar_3b067 18 = .ok (.new 52, 3) := by decide +kernel
theorem dJ2_getChar_3b067_21 : decode cJ2_getChar_3b067 21 = .ok (.dup, 1) := by decide +kernel
theorem dJ2_getChar_3b067_22 : decode cJ2_getChar_3b067 22 = .ok (.ldc 54, 2) := by decide +kernel
theorem dJ2_getChar_3b067_24 : decode cJ2_getChar_3b067 24 = .ok (.invokespecial 56, 3) := by decide +kernel
theorem dJ2_getChar_3b067_27 : decode cJ2_getChar_3b067 27 = .ok (.athrow, 1) := by decide +kernel
theorem dJ2_getChar_3b067_28 : decode cJ2_getChar_3b067 28 = .ok (.iload_n 1, 1) := by decide +kernel
theorem dJ2_getChar_3b067_29 : decode cJ2_getChar_3b067 29 = .ok (.iconst 1, 1) := by decide +kernel
theorem dJ2_getChar_3b067_30 : decode cJ2_getChar_3b067 30 = .ok (.ishl, 1) := by decide +kernel
theorem dJ2_getChar_3b067_31 : decode cJ2_getChar_3b067 31 = .ok (.istore_n 1, 1) := by decide +kernel
theorem dJ2_getChar_3b067_32 : decode cJ2_getChar_3b067 32 = .ok (.aload_n 0, 1) := by decide +kernel
theorem dJ2_getChar_3b067_33 : decode cJ2_getChar_3b067 33 = .ok (.iload_n 1, 1) := by decide +kernel
theorem dJ2_getChar_3b067_34 : decode cJ2_getChar_3b067 34 = .ok (.iinc 1 1, 3) := by decide +kernel
theorem dJ2_getChar_3b067_37 : decode cJ2_getChar_3b067 37 = .ok (.baload, 1) := by decide +kernel
theorem dJ2_getChar_3b067_38 : decode cJ2_getChar_3b067 38 = .ok (.sipush 255, 3) := by decide +kernel
theorem dJ2_getChar_3b067_41 : decode cJ2_getChar_3b067 41 = .ok (.iand, 1) := by decide +kernel
theorem dJ2_getChar_3b067_42 : decode cJ2_getChar_3b067 42 = .ok (.getstatic 59, 3) := by decide +kernel
theorem dJ2_getChar_3b067_45 : decode cJ2_getChar_3b067 45 = .ok (.ishl, 1) := by decide +kernel
theorem dJ2_getChar_3b067_46 : decode cJ2_getChar_3b067 46 = .ok (.aload_n 0, 1) := by decide +kernel
theorem dJ2_getChar_3b067_47 : decode cJ2_getChar_3b067 47 = .ok (.iload_n 1, 1) := by decide +kernel
theorem dJ2_getChar_3b067_48 : decode cJ2_getChar_3b067 48 = .ok (.baload, 1) := by decide +kernel
theorem dJ2_getChar_3b067_49 : decode cJ2_getChar_3b067 49 = .ok (.sipush 255, 3) := by decide +kernel
theorem dJ2_getChar_3b067_52 : decode cJ2_getChar_3b067 52 = .ok (.iand, 1) := by decide +kernel
theorem dJ2_getChar_3b067_53 : decode cJ2_getChar_3b067 53 = .ok (.getstatic 63, 3) := by decide +kernel
theorem dJ2_getChar_3b067_56 : decode cJ2_getChar_3b067 56 = .ok (.ishl, 1) := by decide +kernel
theorem dJ2_getChar_3b067_57 : decode cJ2_getChar_3b067 57 = .ok (.ior, 1) := by decide +kernel
theorem dJ2_getChar_3b067_58 : decode cJ2_getChar_3b067 58 = .ok (.i2c, 1) := by decide +kernel
theorem dJ2_getChar_3b067_59 : decode cJ2_getChar_3b067 59 = .ok (.ireturn, 1) := by decide +kernel
theorem dJ2_length_9d52b_0 : decode cJ2_length_9d52b 0 = .ok (.aload_n 0, 1) := by decide +kernel
theorem dJ2_length_9d52b_1 : decode cJ2_length_9d52b 1 = .ok (.arraylength, 1) := by decide +kernel
theorem dJ2_length_9d52b_2 : decode cJ2_length_9d52b 2 = .ok (.iconst 1, 1) := by decide +kernel
theorem dJ2_length_9d52b_3 : decode cJ2_length_9d52b 3 = .ok (.ishr, 1) := by decide +kernel
theorem dJ2_length_9d52b_4 : decode cJ2_length_9d52b 4 = .ok (.ireturn, 1) := by decide +kernel
theorem dJ2_indexOf_4cfef_0 : decode cJ2_indexOf_4cfef 0 = .ok (.iload_n 2, 1) := by decide +kernel
theorem dJ2_indexOf_4cfef_1 : decode cJ2_indexOf_4cfef 1 = .ok (.iconst 0, 1) := by decide +kernel
theorem dJ2_indexOf_4cfef_2 : decode cJ2_indexOf_4cfef 2 = .ok (.invokestatic 224, 3) := by decide +kernel
theorem dJ2_indexOf_4cfef_5 : decode cJ2_indexOf_4cfef 5 = .ok (.istore_n 2, 1) := by decide +kernel
theorem dJ2_indexOf_4cfef_6 : decode cJ2_indexOf_4cfef 6 = .ok (.iload_n 3, 1) := by decide +kernel
theorem dJ2_indexOf_4cfef_7 : decode cJ2_indexOf_4cfef 7 = .ok (.aload_n 0, 1) := by decide +kernel
theorem dJ2_indexOf_4cfef_8 : decode cJ2_indexOf_4cfef 8 = .ok (.arraylength, 1) := by decide +kernel
theorem dJ2_indexOf_4cfef_9 : decode cJ2_indexOf_4cfef 9 = .ok (.iconst 1, 1) := by decide +kernel
theorem dJ2_indexOf_4cfef_10 : decode cJ2_indexOf_4cfef 10 = .ok (.ishr, 1) := by decide +kernel
theorem dJ2_indexOf_4cfef_11 : decode cJ2_indexOf_4cfef 11 = .ok (.invokestatic 183, 3) := by decide +kernel
theorem dJ2_indexOf_4cfef_14 : decode cJ2_indexOf_4cfef 14 = .ok (.istore_n 3, 1) := by decide +kernel
theorem dJ2_indexOf_4cfef_15 : decode cJ2_indexOf_4cfef 15 = .ok (.iload_n 2, 1) := by decide +kernel
theorem dJ2_indexOf_4cfef_16 : decode cJ2_indexOf_4cfef 16 = .ok (.iload_n 3, 1) := by decide +kernel
theorem dJ2_indexOf_4cfef_17 : decode cJ2_indexOf_4cfef 17 = .ok (.if_icmp .lt 5, 3) := by decide +kernel
theorem dJ2_indexOf_4cfef_20 : decode cJ2_indexOf_4cfef 20 = .ok (.iconst (-1), 1) := by decide +kernel
theorem dJ2_indexOf_4cfef_21 : decode cJ2_indexOf_4cfef 21 = .ok (.ireturn, 1) := by decide +kernel
theorem dJ2_indexOf_4cfef_22 : decode cJ2_indexOf_4cfef 22 = .ok (.iload_n 1, 1) := by decide +kernel
theorem dJ2_indexOf_4cfef_23 : decode cJ2_indexOf_4cfef 23 = .ok (.ldc 227, 2) := by decide +kernel
theorem dJ2_indexOf_4cfef_25 : decode cJ2_indexOf_4cfef 25 = .ok (.if_icmp .ge 11, 3) := by decide +kernel
theorem dJ2_indexOf_4cfef_28 : decode cJ2_indexOf_4cfef 28 = .ok (.aload_n 0, 1) := by decide +kernel
theorem dJ2_indexOf_4cfef_29 : decode cJ2_indexOf_4cfef 29 = .ok (.iload_n 1, 1) := by decide +kernel
theorem dJ2_indexOf_4cfef_30 : decode cJ2_indexOf_4cfef 30 = .ok (.iload_n 2, 1) := by decide +kernel
theorem dJ2_indexOf_4cfef_31 : decode cJ2_indexOf_4cfef 31 = .ok (.iload_n 3, 1) := by decide +kernel
theorem dJ2_indexOf_4cfef_32 : decode cJ2_indexOf_4cfef 32 = .ok (.invokestatic 228, 3) := by decide +kernel
theorem dJ2_indexOf_4cfef_35 : decode cJ2_indexOf_4cfef 35 = .ok (.ireturn, 1) := by decide +kernel
theorem dJ2_indexOf_4cfef_36 : decode cJ2_indexOf_4cfef 36 = .ok (.aload_n 0, 1) := by decide +kernel
theorem dJ2_indexOf_4cfef_37 : decode cJ2_indexOf_4cfef 37 = .ok (.iload_n 1, 1) := by decide +kernel
theorem dJ2_indexOf_4cfef_38 : decode cJ2_indexOf_4cfef 38 = .ok (.iload_n 2, 1) := by decide +kernel
theorem dJ2_indexOf_4cfef_39 : decode cJ2_indexOf_4cfef 39 = .ok (.iload_n 3, 1) := by decide +kernel
theorem dJ2_indexOf_4cfef_40 : decode cJ2_indexOf_4cfef 40 = .ok (.invokestatic 232, 3) := by decide +kernel
theorem dJ2_indexOf_4cfef_43 : decode cJ2_indexOf_4cfef 43 = .ok (.ireturn, 1) := by decide +kernel
theorem dJ2_indexOfChar_4cfef_0 : decode cJ2_indexOfChar_4cfef 0 = .ok (.iload_n 2, 1) := by decide +kernel
theorem dJ2_indexOfChar_4cfef_1 : decode cJ2_indexOfChar_4cfef 1 = .ok (.iload_n 3, 1) := by decide +kernel
theorem dJ2_indexOfChar_4cfef_2 : decode cJ2_indexOfChar_4cfef 2 = .ok (.aload_n 0, 1) := by decide +kernel
theorem dJ2_indexOfChar_4cfef_3 : decode cJ2_indexOfChar_4cfef 3 = .ok (.invokestatic 96, 3) := by decide +kernel
theorem dJ2_indexOfChar_4cfef_6 : decode cJ2_indexOfChar_4cfef 6 = .ok (.aload_n 0, 1) := by decide +kernel
theorem dJ2_indexOfChar_4cfef_7 : decode cJ2_indexOfChar_4cfef 7 = .ok (.iload_n 1, 1) := by decide +kernel
theorem dJ2_indexOfChar_4cfef_8 : decode cJ2_indexOfChar_4cfef 8 = .ok (.iload_n 2, 1) := by decide +kernel
theorem dJ2_indexOfChar_4cfef_9 : decode cJ2_indexOfChar_4cfef 9 = .ok (.iload_n 3, 1) := by decide +kernel
theorem dJ2_indexOfChar_4cfef_10 : decode cJ2_indexOfChar_4cfef 10 = .ok (.invokestatic 244, 3) := by decide +kernel
theorem dJ2_indexOfChar_4cfef_13 : decode cJ2_indexOfChar_4cfef 13 = .ok (.ireturn, 1) := by decide +kernel
theorem dJ2_indexOfCharUnsafe_4cfef_0 : decode cJ2_indexOfCharUnsafe_4cfef 0 = .ok (.iload_n 2, 1) := by decide +kernel
theorem dJ2_indexOfCharUnsafe_4cfef_1 : decode cJ2_indexOfCharUnsafe_4cfef 1 = .ok (.istore 4, 2) := by decide +kernel
theorem dJ2_indexOfCharUnsafe_4cfef_3 : decode cJ2_indexOfCharUnsafe_4cfef 3 = .ok (.iload 4, 2) := by decide +kernel
theorem dJ2_indexOfCharUnsafe_4cfef_5 : decode cJ2_indexOfCharUnsafe_4cfef 5 = .ok (.iload_n 3, 1) := by decide +kernel
theorem dJ2_indexOfCharUnsafe_4cfef_6 : decode cJ2_indexOfCharUnsafe_4cfef 6 = .ok (.if_icmp .ge 22, 3) := by decide +kernel
theorem dJ2_indexOfCharUnsafe_4cfef_9 : decode cJ2_indexOfCharUnsafe_4cfef 9 = .ok (.aload_n 0, 1) := by decide +kernel
theorem dJ2_indexOfCharUnsafe_4cfef_10 : decode cJ2_indexOfCharUnsafe_4cfef 10 = .ok (.iload 4, 2) := by decide +kernel
theorem dJ2_indexOfCharUnsafe_4cfef_12 : decode cJ2_indexOfCharUnsafe_4cfef 12 = .ok (.invokestatic 71, 3) := by decide +kernel
theorem dJ2_indexOfCharUnsafe_4cfef_15 : decode cJ2_indexOfCharUnsafe_4cfef 15 = .ok (.iload_n 1, 1) := by decide +kernel
theorem dJ2_indexOfCharUnsafe_4cfef_16 : decode cJ2_indexOfCharUnsafe_4cfef 16 = .ok (.if_icmp .ne 6, 3) := by decide +kernel
theorem dJ2_indexOfCharUnsafe_4cfef_19 : decode cJ2_indexOfCharUnsafe_4cfef 19 = .ok (.iload 4, 2) := by decide +kernel
theorem dJ2_indexOfCharUnsafe_4cfef_21 : decode cJ2_indexOfCharUnsafe_4cfef 21 = .ok (.ireturn, 1) := by decide +kernel
theorem dJ2_indexOfCharUnsafe_4cfef_22 : decode cJ2_indexOfCharUnsafe_4cfef 22 = .ok (.iinc 4 1, 3) := by decide +kernel
theorem dJ2_indexOfCharUnsafe_4cfef_25 : decode cJ2_indexOfCharUnsafe_4cfef 25 = .ok (.goto (-22), 3) := by decide +kernel
theorem dJ2_indexOfCharUnsafe_4cfef_28 : decode cJ2_indexOfCharUnsafe_4cfef 28 = .ok (.iconst (-1), 1) := by decide +kernel
theorem dJ2_indexOfCharUnsafe_4cfef_29 : decode cJ2_indexOfCharUnsafe_4cfef 29 = .ok (.ireturn, 1) := by decide +kernel
theorem dJ2_indexOfSupplementary_4cfef_0 : decode cJ2_indexOfSupplementary_4cfef 0 = .ok (.iload_n 1, 1) := by decide +kernel
theorem dJ2_indexOfSupplementary_4cfef_1 : decode cJ2_indexOfSupplementary_4cfef 1 = .ok (.invokestatic 164, 3) := by decide +kernel
theorem dJ2_indexOfSupplementary_4cfef_4 : decode cJ2_indexOfSupplementary_4cfef 4 = .ok (.ifCond .eq 65, 3) := by decide +kernel
theorem dJ2_indexOfSupplementary_4cfef_7 : decode cJ2_indexOfSupplementary_4cfef 7 = .ok (.iload_n 1, 1) := by decide +kernel
theorem dJ2_indexOfSupplementary_4cfef_8 : decode cJ2_indexOfSupplementary_4cfef 8 = .ok (.invokestatic 157, 3) := by decide +kernel
theorem dJ2_indexOfSupplementary_4cfef_11 : decode cJ2_indexOfSupplementary_4cfef 11 = .ok (.istore 4, 2) := by decide +kernel
theorem dJ2_indexOfSupplementary_4cfef_13 : decode cJ2_indexOfSupplementary_4cfef 13 = .ok (.iload_n 1, 1) := by decide +kernel
theorem dJ2_indexOfSupplementary_4cfef_14 : decode cJ2_indexOfSupplementary_4cfef 14 = .ok (.invokestatic 161, 3) := by decide +kernel
theorem dJ2_indexOfSupplementary_4cfef_17 : decode cJ2_indexOfSupplementary_4cfef 17 = .ok (.istore 5, 2) := by decide +kernel
theorem dJ2_indexOfSupplementary_4cfef_19 : decode cJ2_indexOfSupplementary_4cfef 19 = .ok (.iload_n 2, 1) := by decide +kernel
theorem dJ2_indexOfSupplementary_4cfef_20 : decode cJ2_indexOfSupplementary_4cfef 20 = .ok (.iload_n 3, 1) := by decide +kernel
theorem dJ2_indexOfSupplementary_4cfef_21 : decode cJ2_indexOfSupplementary_4cfef 21 = .ok (.aload_n 0, 1) := by decide +kernel
theorem dJ2_indexOfSupplementary_4cfef_22 : decode cJ2_indexOfSupplementary_4cfef 22 = .ok (.invokestatic 96, 3) := by decide +kernel
theorem dJ2_indexOfSupplementary_4cfef_25 : decode cJ2_indexOfSupplementary_4cfef 25 = .ok (.iload_n 2, 1) := by decide +kernel
theorem dJ2_indexOfSupplementary_4cfef_26 : decode cJ2_indexOfSupplementary_4cfef 26 = .ok (.istore 6, 2) := by decide +kernel
theorem dJ2_indexOfSupplementary_4cfef_28 : decode cJ2_indexOfSupplementary_4cfef 28 = .ok (.iload 6, 2) := by decide +kernel
theorem dJ2_indexOfSupplementary_4cfef_30 : decode cJ2_indexOfSupplementary_4cfef 30 = .ok (.iload_n 3, 1) := by decide +kernel
theorem dJ2_indexOfSupplementary_4cfef_31 : decode cJ2_indexOfSupplementary_4cfef 31 = .ok (.iconst 1, 1) := by decide +kernel
theorem dJ2_indexOfSupplementary_4cfef_32 : decode cJ2_indexOfSupplementary_4cfef 32 = .ok (.isub, 1) := by decide +kernel
theorem dJ2_indexOfSupplementary_4cfef_33 : decode cJ2_indexOfSupplementary_4cfef 33 = .ok (.if_icmp .ge 36, 3) := by decide +kernel
theorem dJ2_indexOfSupplementary_4cfef_36 : decode cJ2_indexOfSupplementary_4cfef 36 = .ok (.aload_n 0, 1) := by decide +kernel
theorem dJ2_indexOfSupplementary_4cfef_37 : decode cJ2_indexOfSupplementary_4cfef 37 = .ok (.iload 6, 2) := by decide +kernel
theorem dJ2_indexOfSupplementary_4cfef_39 : decode cJ2_indexOfSupplementary_4cfef 39 = .ok (.invokestatic 71, 3) := by decide +kernel
theorem dJ2_indexOfSupplementary_4cfef_42 : decode cJ2_indexOfSupplementary_4cfef 42 = .ok (.iload 4, 2) := by decide +kernel
theorem dJ2_indexOfSupplementary_4cfef_44 : decode cJ2_indexOfSupplementary_4cfef 44 = .ok (.if_icmp .ne 19, 3) := by decide +kernel
theorem dJ2_indexOfSupplementary_4cfef_47 : decode cJ2_indexOfSupplementary_4cfef 47 = .ok (.aload_n 0, 1) := by decide +kernel
theorem dJ2_indexOfSupplementary_4cfef_48 : decode cJ2_indexOfSupplementary_4cfef 48 = .ok (.iload 6, 2) := by decide +kernel
theorem dJ2_indexOfSupplementary_4cfef_50 : decode cJ2_indexOfSupplementary_4cfef 50 = .ok (.iconst 1, 1) := by decide +kernel
theorem dJ2_indexOfSupplementary_4cfef_51 : decode cJ2_indexOfSupplementary_4cfef 51 = .ok (.iadd, 1) := by decide +kernel
theorem dJ2_indexOfSupplementary_4cfef_52 : decode cJ2_indexOfSupplementary_4cfef 52 = .ok (.invokestatic 71, 3) := by decide +kernel
theorem dJ2_indexOfSupplementary_4cfef_55 : decode cJ2_indexOfSupplementary_4cfef 55 = .ok (.iload 5, 2) := by decide +kernel
theorem dJ2_indexOfSupplementary_4cfef_57 : decode cJ2_indexOfSupplementary_4cfef 57 = .ok (.if_icmp .ne 6, 3) := by decide +kernel
theorem dJ2_indexOfSupplementary_4cfef_60 : decode cJ2_indexOfSupplementary_4cfef 60 = .ok (.iload 6, 2) := by decide +kernel
theorem dJ2_indexOfSupplementary_4cfef_62 : decode cJ2_indexOfSupplementary_4cfef 62 = .ok (.ireturn, 1) := by decide +kernel
theorem dJ2_indexOfSupplementary_4cfef_63 : decode cJ2_indexOfSupplementary_4cfef 63 = .ok (.iinc 6 1, 3) := by decide +kernel
theorem dJ2_indexOfSupplementary_4cfef_66 : decode cJ2_indexOfSupplementary_4cfef 66 = .ok (.goto (-38), 3) := by decide +kernel
theorem dJ2_indexOfSupplementary_4cfef_69 : decode cJ2_indexOfSupplementary_4cfef 69 = .ok (.iconst (-1), 1) := by decide +kernel
theorem dJ2_indexOfSupplementary_4cfef_70 : decode cJ2_indexOfSupplementary_4cfef 70 = .ok (.ireturn, 1) := by decide +kernel
theorem dJ2_charAt_3b067_0 : decode cJ2_charAt_3b067 0 = .ok (.iload_n 1, 1) := by decide +kernel
theorem dJ2_charAt_3b067_1 : decode cJ2_charAt_3b067 1 = .ok (.aload_n 0, 1) := by decide +kernel
theorem dJ2_charAt_3b067_2 : decode cJ2_charAt_3b067 2 = .ok (.invokestatic 67, 3) := by decide +kernel
theorem dJ2_charAt_3b067_5 : decode cJ2_charAt_3b067 5 = .ok (.aload_n 0, 1) := by decide +kernel
theorem dJ2_charAt_3b067_6 : decode cJ2_charAt_3b067 6 = .ok (.iload_n 1, 1) := by decide +kernel
theorem dJ2_charAt_3b067_7 : decode cJ2_charAt_3b067 7 = .ok (.invokestatic 71, 3) := by decide +kernel
theorem dJ2_charAt_3b067_10 : decode cJ2_charAt_3b067 10 = .ok (.ireturn, 1) := by decide +kernel
theorem dJ2_checkIndex_2214a_0 : decode cJ2_checkIndex_2214a 0 = .ok (.iload_n 0, 1) := by decide +kernel
theorem dJ2_checkIndex_2214a_1 : decode cJ2_checkIndex_2214a 1 = .ok (.aload_n 1, 1) := by decide +kernel
theorem dJ2_checkIndex_2214a_2 : decode cJ2_checkIndex_2214a 2 = .ok (.invokestatic 48, 3) := by decide +kernel
theorem dJ2_checkIndex_2214a_5 : decode cJ2_checkIndex_2214a 5 = .ok (.invokestatic 414, 3) := by decide +kernel
theorem dJ2_checkIndex_2214a_8 : decode cJ2_checkIndex_2214a 8 = .ok (.return_, 1) := by decide +kernel
theorem dJ2_checkBoundsBeginEnd_d044e_0 : decode cJ2_checkBoundsBeginEnd_d044e 0 = .ok (.iload_n 0, 1) := by decide +kernel
theorem dJ2_checkBoundsBeginEnd_d044e_1 : decode cJ2_checkBoundsBeginEnd_d044e 1 = .ok (.iload_n 1, 1) := by decide +kernel
theorem dJ2_checkBoundsBeginEnd_d044e_2 : decode cJ2_checkBoundsBeginEnd_d044e 2 = .ok (.aload_n 2, 1) := by decide +kernel
theorem dJ2_checkBoundsBeginEnd_d044e_3 : decode cJ2_checkBoundsBeginEnd_d044e 3 = .ok (.invokestatic 48, 3) := by decide +kernel
theorem dJ2_checkBoundsBeginEnd_d044e_6 : decode cJ2_checkBoundsBeginEnd_d044e 6 = .ok (.invokestatic 241, 3) := by decide +kernel
theorem dJ2_checkBoundsBeginEnd_d044e_9 : decode cJ2_checkBoundsBeginEnd_d044e 9 = .ok (.return_, 1) := by decide +kernel
theorem dJ7_fill_53178_0 : decode cJ7_fill_53178 0 = .ok (.iconst 0, 1) := by decide +kernel
theorem dJ7_fill_53178_1 : decode cJ7_fill_53178 1 = .ok (.istore_n 2, 1) := by decide +kernel
theorem dJ7_fill_53178_2 : decode cJ7_fill_53178 2 = .ok (.aload_n 0, 1) := by decide +kernel
theorem dJ7_fill_53178_3 : decode cJ7_fill_53178 3 = .ok (.arraylength, 1) := by decide +kernel
theorem dJ7_fill_53178_4 : decode cJ7_fill_53178 4 = .ok (.istore_n 3, 1) := by decide +kernel
theorem dJ7_fill_53178_5 : decode cJ7_fill_53178 5 = .ok (.iload_n 2, 1) := by decide +kernel
theorem dJ7_fill_53178_6 : decode cJ7_fill_53178 6 = .ok (.iload_n 3, 1) := by decide +kernel
theorem dJ7_fill_53178_7 : decode cJ7_fill_53178 7 = .ok (.if_icmp .ge 13, 3) := by decide +kernel
theorem dJ7_fill_53178_10 : decode cJ7_fill_53178 10 = .ok (.aload_n 0, 1) := by decide +kernel
theorem dJ7_fill_53178_11 : decode cJ7_fill_53178 11 = .ok (.iload_n 2, 1) := by decide +kernel
theorem dJ7_fill_53178_12 : decode cJ7_fill_53178 12 = .ok (.iload_n 1, 1) := by decide +kernel
theorem dJ7_fill_53178_13 : decode cJ7_fill_53178 13 = .ok (.iastore, 1) := by decide +kernel
theorem dJ7_fill_53178_14 : decode cJ7_fill_53178 14 = .ok (.iinc 2 1, 3) := by decide +kernel
theorem dJ7_fill_53178_17 : decode cJ7_fill_53178 17 = .ok (.goto (-12), 3) := by decide +kernel
theorem dJ7_fill_53178_20 : decode cJ7_fill_53178 20 = .ok (.return_, 1) := by decide +kernel
theorem dJ3_checkIndex_8e157_0 : decode cJ3_checkIndex_8e157 0 = .ok (.iload_n 0, 1) := by decide +kernel
theorem dJ3_checkIndex_8e157_1 : decode cJ3_checkIndex_8e157 1 = .ok (.ifCond .lt 8, 3) := by decide +kernel
theorem dJ3_checkIndex_8e157_4 : decode cJ3_checkIndex_8e157 4 = .ok (.iload_n 0, 1) := by decide +kernel
theorem dJ3_checkIndex_8e157_5 : decode cJ3_checkIndex_8e157 5 = .ok (.iload_n 1, 1) := by decide +kernel
theorem dJ3_checkIndex_8e157_6 : decode cJ3_checkIndex_8e157 6 = .ok (.if_icmp .lt 10, 3) := by decide +kernel
theorem dJ3_checkIndex_8e157_9 : decode cJ3_checkIndex_8e157 9 = .ok (.aload_n 2, 1) := by decide +kernel
theorem dJ3_checkIndex_8e157_10 : decode cJ3_checkIndex_8e157 10 = .ok (.iload_n 0, 1) := by decide +kernel
theorem dJ3_checkIndex_8e157_11 : decode cJ3_checkIndex_8e157 11 = .ok (.iload_n 1, 1) := by decide +kernel
theorem dJ3_checkIndex_8e157_12 : decode cJ3_checkIndex_8e157 12 = .ok (.invokestatic 95, 3) := by decide +kernel
theorem dJ3_checkIndex_8e157_15 : decode cJ3_checkIndex_8e157 15 = .ok (.athrow, 1) := by decide +kernel
theorem dJ3_checkIndex_8e157_16 : decode cJ3_checkIndex_8e157 16 = .ok (.iload_n 0, 1) := by decide +kernel
theorem dJ3_checkIndex_8e157_17 : decode cJ3_checkIndex_8e157 17 = .ok (.ireturn, 1) := by decide +kernel
theorem dJ3_checkFromToIndex_8c36e_0 : decode cJ3_checkFromToIndex_8c36e 0 = .ok (.iload_n 0, 1) := by decide +kernel
theorem dJ3_checkFromToIndex_8c36e_1 : decode cJ3_checkFromToIndex_8c36e 1 = .ok (.ifCond .lt 13, 3) := by decide +kernel
theorem dJ3_checkFromToIndex_8c36e_4 : decode cJ3_checkFromToIndex_8c36e 4 = .ok (.iload_n 0, 1) := by decide +kernel
theorem dJ3_checkFromToIndex_8c36e_5 : decode cJ3_checkFromToIndex_8c36e 5 = .ok (.iload_n 1, 1) := by decide +kernel
theorem dJ3_checkFromToIndex_8c36e_6 : decode cJ3_checkFromToIndex_8c36e 6 = .ok (.if_icmp .gt 8, 3) := by decide +kernel
theorem dJ3_checkFromToIndex_8c36e_9 : decode cJ3_checkFromToIndex_8c36e 9 = .ok (.iload_n 1, 1) := by decide +kernel
theorem dJ3_checkFromToIndex_8c36e_10 : decode cJ3_checkFromToIndex_8c36e 10 = .ok (.iload_n 2, 1) := by decide +kernel
theorem dJ3_checkFromToIndex_8c36e_11 : decode cJ3_checkFromToIndex_8c36e 11 = .ok (.if_icmp .le 11, 3) := by decide +kernel
theorem dJ3_checkFromToIndex_8c36e_14 : decode cJ3_checkFromToIndex_8c36e 14 = .ok (.aload_n 3, 1) := by decide +kernel
theorem dJ3_checkFromToIndex_8c36e_15 : decode cJ3_checkFromToIndex_8c36e 15 = .ok (.iload_n 0, 1) := by decide +kernel
theorem dJ3_checkFromToIndex_8c36e_16 : decode cJ3_checkFromToIndex_8c36e 16 = .ok (.iload_n 1, 1) := by decide +kernel
theorem dJ3_checkFromToIndex_8c36e_17 : decode cJ3_checkFromToIndex_8c36e 17 = .ok (.iload_n 2, 1) := by decide +kernel
theorem dJ3_checkFromToIndex_8c36e_18 : decode cJ3_checkFromToIndex_8c36e 18 = .ok (.invokestatic 99, 3) := by decide +kernel
theorem dJ3_checkFromToIndex_8c36e_21 : decode cJ3_checkFromToIndex_8c36e 21 = .ok (.athrow, 1) := by decide +kernel
theorem dJ3_checkFromToIndex_8c36e_22 : decode cJ3_checkFromToIndex_8c36e 22 = .ok (.iload_n 0, 1) := by decide +kernel
theorem dJ3_checkFromToIndex_8c36e_23 : decode cJ3_checkFromToIndex_8c36e 23 = .ok (.ireturn, 1) := by decide +kernel
theorem dL_law_0 : decode cL_law 0 = .ok (.new 7, 3) := by decide +kernel
theorem dL_law_3 : decode cL_law 3 = .ok (.dup, 1) := by decide +kernel
theorem dL_law_4 : decode cL_law 4 = .ok (.invokespecial 9, 3) := by decide +kernel
theorem dL_law_7 : decode cL_law 7 = .ok (.astore_n 1, 1) := by decide +kernel
theorem dL_law_8 : decode cL_law 8 = .ok (.new 10, 3) := by decide +kernel
theorem dL_law_11 : decode cL_law 11 = .ok (.dup, 1) := by decide +kernel
theorem dL_law_12 : decode cL_law 12 = .ok (.invokespecial 12, 3) := by decide +kernel
theorem dL_law_15 : decode cL_law 15 = .ok (.astore_n 2, 1) := by decide +kernel
theorem dL_law_16 : decode cL_law 16 = .ok (.iconst 0, 1) := by decide +kernel
theorem dL_law_17 : decode cL_law 17 = .ok (.istore_n 3, 1) := by decide +kernel
theorem dL_law_18 : decode cL_law 18 = .ok (.iload_n 3, 1) := by decide +kernel
theorem dL_law_19 : decode cL_law 19 = .ok (.aload_n 0, 1) := by decide +kernel
theorem dL_law_20 : decode cL_law 20 = .ok (.arraylength, 1) := by decide +kernel
theorem dL_law_21 : decode cL_law 21 = .ok (.bipush 6, 2) := by decide +kernel
theorem dL_law_23 : decode cL_law 23 = .ok (.isub, 1) := by decide +kernel
theorem dL_law_24 : decode cL_law 24 = .ok (.if_icmp .gt 921, 3) := by decide +kernel
theorem dL_law_27 : decode cL_law 27 = .ok (.aload_n 0, 1) := by decide +kernel
theorem dL_law_28 : decode cL_law 28 = .ok (.iload_n 3, 1) := by decide +kernel
theorem dL_law_29 : decode cL_law 29 = .ok (.iaload, 1) := by decide +kernel
theorem dL_law_30 : decode cL_law 30 = .ok (.bipush 31, 2) := by decide +kernel
theorem dL_law_32 : decode cL_law 32 = .ok (.iand, 1) := by decide +kernel
theorem dL_law_33 : decode cL_law 33 = .ok (.tableswitch 906 0 22 #[107, 170, 193, 216, 239, 252, 285, 328, 371, 424, 487, 530, 583, 616, 649, 672, 695, 718, 751, 774, 807, 830, 873], 107) := by decide +kernel
theorem dL_law_140 : decode cL_law 140 = .ok (.aload_n 1, 1) := by decide +kernel
theorem dL_law_141 : decode cL_law 141 = .ok (.aload_n 0, 1) := by decide +kernel
theorem dL_law_142 : decode cL_law 142 = .ok (.iload_n 3, 1) := by decide +kernel
theorem dL_law_143 : decode cL_law 143 = .ok (.iconst 1, 1) := by decide +kernel
theorem dL_law_144 : decode cL_law 144 = .ok (.iadd, 1) := by decide +kernel
theorem dL_law_145 : decode cL_law 145 = .ok (.iaload, 1) := by decide +kernel
theorem dL_law_146 : decode cL_law 146 = .ok (.i2l, 1) := by decide +kernel
theorem dL_law_147 : decode cL_law 147 = .ok (.bipush 32, 2) := by decide +kernel
theorem dL_law_149 : decode cL_law 149 = .ok (.lshl, 1) := by decide +kernel
theorem dL_law_150 : decode cL_law 150 = .ok (.aload_n 0, 1) := by decide +kernel
theorem dL_law_151 : decode cL_law 151 = .ok (.iload_n 3, 1) := by decide +kernel
theorem dL_law_152 : decode cL_law 152 = .ok (.iconst 2, 1) := by decide +kernel
theorem dL_law_153 : decode cL_law 153 = .ok (.iadd, 1) := by decide +kernel
theorem dL_law_154 : decode cL_law 154 = .ok (.iaload, 1) := by decide +kernel
theorem dL_law_155 : decode cL_law 155 = .ok (.i2l, 1) := by decide +kernel
theorem dL_law_156 : decode cL_law 156 = .ok (.ldc2_w 13, 3) := by decide +kernel
theorem dL_law_159 : decode cL_law 159 = .ok (.land, 1) := by decide +kernel
theorem dL_law_160 : decode cL_law 160 = .ok (.lor, 1) := by decide +kernel
theorem dL_law_161 : decode cL_law 161 = .ok (.aload_n 0, 1) := by decide +kernel
theorem dL_law_162 : decode cL_law 162 = .ok (.iload_n 3, 1) := by decide +kernel
theorem dL_law_163 : decode cL_law 163 = .ok (.iconst 3, 1) := by decide +kernel
theorem dL_law_164 : decode cL_law 164 = .ok (.iadd, 1) := by decide +kernel
theorem dL_law_165 : decode cL_law 165 = .ok (.iaload, 1) := by decide +kernel
theorem dL_law_166 : decode cL_law 166 = .ok (.invokevirtual 15, 3) := by decide +kernel
theorem dL_law_169 : decode cL_law 169 = .ok (.aload_n 2, 1) := by decide +kernel
theorem dL_law_170 : decode cL_law 170 = .ok (.aload_n 0, 1) := by decide +kernel
theorem dL_law_171 : decode cL_law 171 = .ok (.iload_n 3, 1) := by decide +kernel
theorem dL_law_172 : decode cL_law 172 = .ok (.iconst 1, 1) := by decide +kernel
theorem dL_law_173 : decode cL_law 173 = .ok (.iadd, 1) := by decide +kernel
theorem dL_law_174 : decode cL_law 174 = .ok (.iaload, 1) := by decide +kernel
theorem dL_law_175 : decode cL_law 175 = .ok (.i2l, 1) := by decide +kernel
theorem dL_law_176 : decode cL_law 176 = .ok (.bipush 32, 2) := by decide +kernel
theorem dL_law_178 : decode cL_law 178 = .ok (.lshl, 1) := by decide +kernel
theorem dL_law_179 : decode cL_law 179 = .ok (.aload_n 0, 1) := by decide +kernel
theorem dL_law_180 : decode cL_law 180 = .ok (.iload_n 3, 1) := by decide +kernel
theorem dL_law_181 : decode cL_law 181 = .ok (.iconst 2, 1) := by decide +kernel
theorem dL_law_182 : decode cL_law 182 = .ok (.iadd, 1) := by decide +kernel
theorem dL_law_183 : decode cL_law 183 = .ok (.iaload, 1) := by decide +kernel
theorem dL_law_184 : decode cL_law 184 = .ok (.i2l, 1) := by decide +kernel
theorem dL_law_185 : decode cL_law 185 = .ok (.ldc2_w 13, 3) := by decide +kernel
theorem dL_law_188 : decode cL_law 188 = .ok (.land, 1) := by decide +kernel
theorem dL_law_189 : decode cL_law 189 = .ok (.lor, 1) := by decide +kernel
theorem dL_law_190 : decode cL_law 190 = .ok (.aload_n 0, 1) := by decide +kernel
theorem dL_law_191 : decode cL_law 191 = .ok (.iload_n 3, 1) := by decide +kernel
theorem dL_law_192 : decode cL_law 192 = .ok (.iconst 3, 1) := by decide +kernel
theorem dL_law_193 : decode cL_law 193 = .ok (.iadd, 1) := by decide +kernel
theorem dL_law_194 : decode cL_law 194 = .ok (.iaload, 1) := by decide +kernel
theorem dL_law_195 : decode cL_law 195 = .ok (.invokevirtual 19, 3) := by decide +kernel
theorem dL_law_198 : decode cL_law 198 = .ok (.if_icmp .eq 741, 3) := by decide +kernel
theorem dL_law_201 : decode cL_law 201 = .ok (.iconst 0, 1) := by decide +kernel
theorem dL_law_202 : decode cL_law 202 = .ok (.ireturn, 1) := by decide +kernel
theorem dL_law_203 : decode cL_law 203 = .ok (.aload_n 1, 1) := by decide +kernel
theorem dL_law_204 : decode cL_law 204 = .ok (.aload_n 0, 1) := by decide +kernel
theorem dL_law_205 : decode cL_law 205 = .ok (.iload_n 3, 1) := by decide +kernel
theorem dL_law_206 : decode cL_law 206 = .ok (.iconst 1, 1) := by decide +kernel
theorem dL_law_207 : decode cL_law 207 = .ok (.iadd, 1) := by decide +kernel
theorem dL_law_208 : decode cL_law 208 = .ok (.iaload, 1) := by decide +kernel
theorem dL_law_209 : decode cL_law 209 = .ok (.invokevirtual 20, 3) := by decide +kernel
theorem dL_law_212 : decode cL_law 212 = .ok (.aload_n 2, 1) := by decide +kernel
theorem dL_law_213 : decode cL_law 213 = .ok (.aload_n 0, 1) := by decide +kernel
theorem dL_law_214 : decode cL_law 214 = .ok (.iload_n 3, 1) := by decide +kernel
theorem dL_law_215 : decode cL_law 215 = .ok (.iconst 1, 1) := by decide +kernel
theorem dL_law_216 : decode cL_law 216 = .ok (.iadd, 1) := by decide +kernel
theorem dL_law_217 : decode cL_law 217 = .ok (.iaload, 1) := by decide +kernel
theorem dL_law_218 : decode cL_law 218 = .ok (.invokevirtual 24, 3) := by decide +kernel
theorem dL_law_221 : decode cL_law 221 = .ok (.if_icmp .eq 718, 3) := by decide +kernel
theorem dL_law_224 : decode cL_law 224 = .ok (.iconst 0, 1) := by decide +kernel
theorem dL_law_225 : decode cL_law 225 = .ok (.ireturn, 1) := by decide +kernel
theorem dL_law_226 : decode cL_law 226 = .ok (.aload_n 1, 1) := by decide +kernel
theorem dL_law_227 : decode cL_law 227 = .ok (.aload_n 0, 1) := by decide +kernel
theorem dL_law_228 : decode cL_law 228 = .ok (.iload_n 3, 1) := by decide +kernel
theorem dL_law_229 : decode cL_law 229 = .ok (.iconst 1, 1) := by decide +kernel
theorem dL_law_230 : decode cL_law 230 = .ok (.iadd, 1) := by decide +kernel
theorem dL_law_231 : decode cL_law 231 = .ok (.iaload, 1) := by decide +kernel
theorem dL_law_232 : decode cL_law 232 = .ok (.invokevirtual 25, 3) := by decide +kernel
theorem dL_law_235 : decode cL_law 235 = .ok (.aload_n 2, 1) := by decide +kernel
theorem dL_law_236 : decode cL_law 236 = .ok (.aload_n 0, 1) := by decide +kernel
theorem dL_law_237 : decode cL_law 237 = .ok (.iload_n 3, 1) := by decide +kernel
theorem dL_law_238 : decode cL_law 238 = .ok (.iconst 1, 1) := by decide +kernel
theorem dL_law_239 : decode cL_law 239 = .ok (.iadd, 1) := by decide +kernel
theorem dL_law_240 : decode cL_law 240 = .ok (.iaload, 1) := by decide +kernel
theorem dL_law_241 : decode cL_law 241 = .ok (.invokevirtual 28, 3) := by decide +kernel
theorem dL_law_244 : decode cL_law 244 = .ok (.if_icmp .eq 695, 3) := by decide +kernel
theorem dL_law_247 : decode cL_law 247 = .ok (.iconst 0, 1) := by decide +kernel
theorem dL_law_248 : decode cL_law 248 = .ok (.ireturn, 1) := by decide +kernel
theorem dL_law_249 : decode cL_law 249 = .ok (.aload_n 1, 1) := by decide +kernel
theorem dL_law_250 : decode cL_law 250 = .ok (.aload_n 0, 1) := by decide +kernel
theorem dL_law_251 : decode cL_law 251 = .ok (.iload_n 3, 1) := by decide +kernel
theorem dL_law_252 : decode cL_law 252 = .ok (.iconst 1, 1) := by decide +kernel
theorem dL_law_253 : decode cL_law 253 = .ok (.iadd, 1) := by decide +kernel
theorem dL_law_254 : decode cL_law 254 = .ok (.iaload, 1) := by decide +kernel
theorem dL_law_255 : decode cL_law 255 = .ok (.invokevirtual 29, 3) := by decide +kernel
theorem dL_law_258 : decode cL_law 258 = .ok (.aload_n 2, 1) := by decide +kernel
theorem dL_law_259 : decode cL_law 259 = .ok (.aload_n 0, 1) := by decide +kernel
theorem dL_law_260 : decode cL_law 260 = .ok (.iload_n 3, 1) := by decide +kernel
theorem dL_law_261 : decode cL_law 261 = .ok (.iconst 1, 1) := by decide +kernel
theorem dL_law_262 : decode cL_law 262 = .ok (.iadd, 1) := by decide +kernel
theorem dL_law_263 : decode cL_law 263 = .ok (.iaload, 1) := by decide +kernel
theorem dL_law_264 : decode cL_law 264 = .ok (.invokevirtual 32, 3) := by decide +kernel
theorem dL_law_267 : decode cL_law 267 = .ok (.if_icmp .eq 672, 3) := by decide +kernel
theorem dL_law_270 : decode cL_law 270 = .ok (.iconst 0, 1) := by decide +kernel
theorem dL_law_271 : decode cL_law 271 = .ok (.ireturn, 1) := by decide +kernel
theorem dL_law_272 : decode cL_law 272 = .ok (.aload_n 1, 1) := by decide +kernel
theorem dL_law_273 : decode cL_law 273 = .ok (.invokevirtual 33, 3) := by decide +kernel
theorem dL_law_276 : decode cL_law 276 = .ok (.aload_n 2, 1) := by decide +kernel
theorem dL_law_277 : decode cL_law 277 = .ok (.invokevirtual 37, 3) := by decide +kernel
theorem dL_law_280 : decode cL_law 280 = .ok (.if_icmp .eq 659, 3) := by decide +kernel
theorem dL_law_283 : decode cL_law 283 = .ok (.iconst 0, 1) := by decide +kernel
theorem dL_law_284 : decode cL_law 284 = .ok (.ireturn, 1) := by decide +kernel
theorem dL_law_285 : decode cL_law 285 = .ok (.aload_n 1, 1) := by decide +kernel
theorem dL_law_286 : decode cL_law 286 = .ok (.aload_n 0, 1) := by decide +kernel
theorem dL_law_287 : decode cL_law 287 = .ok (.iload_n 3, 1) := by decide +kernel
theorem dL_law_288 : decode cL_law 288 = .ok (.iconst 1, 1) := by decide +kernel
theorem dL_law_289 : decode cL_law 289 = .ok (.iadd, 1) := by decide +kernel
theorem dL_law_290 : decode cL_law 290 = .ok (.iaload, 1) := by decide +kernel
theorem dL_law_291 : decode cL_law 291 = .ok (.aload_n 0, 1) := by decide +kernel
theorem dL_law_292 : decode cL_law 292 = .ok (.iload_n 3, 1) := by decide +kernel
theorem dL_law_293 : decode cL_law 293 = .ok (.iconst 2, 1) := by decide +kernel
theorem dL_law_294 : decode cL_law 294 = .ok (.iadd, 1) := by decide +kernel
theorem dL_law_295 : decode cL_law 295 = .ok (.iaload, 1) := by decide +kernel
theorem dL_law_296 : decode cL_law 296 = .ok (.invokevirtual 38, 3) := by decide +kernel
theorem dL_law_299 : decode cL_law 299 = .ok (.aload_n 2, 1) := by decide +kernel
theorem dL_law_300 : decode cL_law 300 = .ok (.aload_n 0, 1) := by decide +kernel
theorem dL_law_301 : decode cL_law 301 = .ok (.iload_n 3, 1) := by decide +kernel
theorem dL_law_302 : decode cL_law 302 = .ok (.iconst 1, 1) := by decide +kernel
theorem dL_law_303 : decode cL_law 303 = .ok (.iadd, 1) := by decide +kernel
theorem dL_law_304 : decode cL_law 304 = .ok (.iaload, 1) := by decide +kernel
theorem dL_law_305 : decode cL_law 305 = .ok (.aload_n 0, 1) := by decide +kernel
theorem dL_law_306 : decode cL_law 306 = .ok (.iload_n 3, 1) := by decide +kernel
theorem dL_law_307 : decode cL_law 307 = .ok (.iconst 2, 1) := by decide +kernel
theorem dL_law_308 : decode cL_law 308 = .ok (.iadd, 1) := by decide +kernel
theorem dL_law_309 : decode cL_law 309 = .ok (.iaload, 1) := by decide +kernel
theorem dL_law_310 : decode cL_law 310 = .ok (.invokevirtual 42, 3) := by decide +kernel
theorem dL_law_313 : decode cL_law 313 = .ok (.if_icmp .eq 626, 3) := by decide +kernel
theorem dL_law_316 : decode cL_law 316 = .ok (.iconst 0, 1) := by decide +kernel
theorem dL_law_317 : decode cL_law 317 = .ok (.ireturn, 1) := by decide +kernel
theorem dL_law_318 : decode cL_law 318 = .ok (.aload_n 1, 1) := by decide +kernel
theorem dL_law_319 : decode cL_law 319 = .ok (.aload_n 0, 1) := by decide +kernel
theorem dL_law_320 : decode cL_law 320 = .ok (.iload_n 3, 1) := by decide +kernel
theorem dL_law_321 : decode cL_law 321 = .ok (.iconst 1, 1) := by decide +kernel
theorem dL_law_322 : decode cL_law 322 = .ok (.iadd, 1) := by decide +kernel
theorem dL_law_323 : decode cL_law 323 = .ok (.iaload, 1) := by decide +kernel
theorem dL_law_324 : decode cL_law 324 = .ok (.aload_n 0, 1) := by decide +kernel
theorem dL_law_325 : decode cL_law 325 = .ok (.iload_n 3, 1) := by decide +kernel
theorem dL_law_326 : decode cL_law 326 = .ok (.iconst 2, 1) := by decide +kernel
theorem dL_law_327 : decode cL_law 327 = .ok (.iadd, 1) := by decide +kernel
theorem dL_law_328 : decode cL_law 328 = .ok (.iaload, 1) := by decide +kernel
theorem dL_law_329 : decode cL_law 329 = .ok (.aload_n 0, 1) := by decide +kernel
theorem dL_law_330 : decode cL_law 330 = .ok (.iload_n 3, 1) := by decide +kernel
theorem dL_law_331 : decode cL_law 331 = .ok (.iconst 3, 1) := by decide +kernel
theorem dL_law_332 : decode cL_law 332 = .ok (.iadd, 1) := by decide +kernel
theorem dL_law_333 : decode cL_law 333 = .ok (.iaload, 1) := by decide +kernel
theorem dL_law_334 : decode cL_law 334 = .ok (.invokevirtual 43, 3) := by decide +kernel
theorem dL_law_337 : decode cL_law 337 = .ok (.aload_n 2, 1) := by decide +kernel
theorem dL_law_338 : decode cL_law 338 = .ok (.aload_n 0, 1) := by decide +kernel
theorem dL_law_339 : decode cL_law 339 = .ok (.iload_n 3, 1) := by decide +kernel
theorem dL_law_340 : decode cL_law 340 = .ok (.iconst 1, 1) := by decide +kernel
theorem dL_law_341 : decode cL_law 341 = .ok (.iadd, 1) := by decide +kernel
theorem dL_law_342 : decode cL_law 342 = .ok (.iaload, 1) := by decide +kernel
theorem dL_law_343 : decode cL_law 343 = .ok (.aload_n 0, 1) := by decide +kernel
theorem dL_law_344 : decode cL_law 344 = .ok (.iload_n 3, 1) := by decide +kernel
theorem dL_law_345 : decode cL_law 345 = .ok (.iconst 2, 1) := by decide +kernel
theorem dL_law_346 : decode cL_law 346 = .ok (.iadd, 1) := by decide +kernel
theorem dL_law_347 : decode cL_law 347 = .ok (.iaload, 1) := by decide +kernel
theorem dL_law_348 : decode cL_law 348 = .ok (.aload_n 0, 1) := by decide +kernel
theorem dL_law_349 : decode cL_law 349 = .ok (.iload_n 3, 1) := by decide +kernel
theorem dL_law_350 : decode cL_law 350 = .ok (.iconst 3, 1) := by decide +kernel
theorem dL_law_351 : decode cL_law 351 = .ok (.iadd, 1) := by decide +kernel
theorem dL_law_352 : decode cL_law 352 = .ok (.iaload, 1) := by decide +kernel
theorem dL_law_353 : decode cL_law 353 = .ok (.invokevirtual 47, 3) := by decide +kernel
theorem dL_law_356 : decode cL_law 356 = .ok (.if_icmp .eq 583, 3) := by decide +kernel
theorem dL_law_359 : decode cL_law 359 = .ok (.iconst 0, 1) := by decide +kernel
theorem dL_law_360 : decode cL_law 360 = .ok (.ireturn, 1) := by decide +kernel
theorem dL_law_361 : decode cL_law 361 = .ok (.aload_n 1, 1) := by decide +kernel
theorem dL_law_362 : decode cL_law 362 = .ok (.aload_n 0, 1) := by decide +kernel
theorem dL_law_363 : decode cL_law 363 = .ok (.iload_n 3, 1) := by decide +kernel
theorem dL_law_364 : decode cL_law 364 = .ok (.iconst 1, 1) := by decide +kernel
theorem dL_law_365 : decode cL_law 365 = .ok (.iadd, 1) := by decide +kernel
theorem dL_law_366 : decode cL_law 366 = .ok (.iaload, 1) := by decide +kernel
theorem dL_law_367 : decode cL_law 367 = .ok (.aload_n 0, 1) := by decide +kernel
theorem dL_law_368 : decode cL_law 368 = .ok (.iload_n 3, 1) := by decide +kernel
theorem dL_law_369 : decode cL_law 369 = .ok (.iconst 2, 1) := by decide +kernel
theorem dL_law_370 : decode cL_law 370 = .ok (.iadd, 1) := by decide +kernel
theorem dL_law_371 : decode cL_law 371 = .ok (.iaload, 1) := by decide +kernel
theorem dL_law_372 : decode cL_law 372 = .ok (.aload_n 0, 1) := by decide +kernel
theorem dL_law_373 : decode cL_law 373 = .ok (.iload_n 3, 1) := by decide +kernel
theorem dL_law_374 : decode cL_law 374 = .ok (.iconst 3, 1) := by decide +kernel
theorem dL_law_375 : decode cL_law 375 = .ok (.iadd, 1) := by decide +kernel
theorem dL_law_376 : decode cL_law 376 = .ok (.iaload, 1) := by decide +kernel
theorem dL_law_377 : decode cL_law 377 = .ok (.invokevirtual 48, 3) := by decide +kernel
theorem dL_law_380 : decode cL_law 380 = .ok (.aload_n 2, 1) := by decide +kernel
theorem dL_law_381 : decode cL_law 381 = .ok (.aload_n 0, 1) := by decide +kernel
theorem dL_law_382 : decode cL_law 382 = .ok (.iload_n 3, 1) := by decide +kernel
theorem dL_law_383 : decode cL_law 383 = .ok (.iconst 1, 1) := by decide +kernel
theorem dL_law_384 : decode cL_law 384 = .ok (.iadd, 1) := by decide +kernel
theorem dL_law_385 : decode cL_law 385 = .ok (.iaload, 1) := by decide +kernel
theorem dL_law_386 : decode cL_law 386 = .ok (.aload_n 0, 1) := by decide +kernel
theorem dL_law_387 : decode cL_law 387 = .ok (.iload_n 3, 1) := by decide +kernel
theorem dL_law_388 : decode cL_law 388 = .ok (.iconst 2, 1) := by decide +kernel
theorem dL_law_389 : decode cL_law 389 = .ok (.iadd, 1) := by decide +kernel
theorem dL_law_390 : decode cL_law 390 = .ok (.iaload, 1) := by decide +kernel
theorem dL_law_391 : decode cL_law 391 = .ok (.aload_n 0, 1) := by decide +kernel
theorem dL_law_392 : decode cL_law 392 = .ok (.iload_n 3, 1) := by decide +kernel
theorem dL_law_393 : decode cL_law 393 = .ok (.iconst 3, 1) := by decide +kernel
theorem dL_law_394 : decode cL_law 394 = .ok (.iadd, 1) := by decide +kernel
theorem dL_law_395 : decode cL_law 395 = .ok (.iaload, 1) := by decide +kernel
theorem dL_law_396 : decode cL_law 396 = .ok (.invokevirtual 51, 3) := by decide +kernel
theorem dL_law_399 : decode cL_law 399 = .ok (.if_icmp .eq 540, 3) := by decide +kernel
theorem dL_law_402 : decode cL_law 402 = .ok (.iconst 0, 1) := by decide +kernel
theorem dL_law_403 : decode cL_law 403 = .ok (.ireturn, 1) := by decide +kernel
theorem dL_law_404 : decode cL_law 404 = .ok (.aload_n 1, 1) := by decide +kernel
theorem dL_law_405 : decode cL_law 405 = .ok (.aload_n 0, 1) := by decide +kernel
theorem dL_law_406 : decode cL_law 406 = .ok (.iload_n 3, 1) := by decide +kernel
theorem dL_law_407 : decode cL_law 407 = .ok (.iconst 1, 1) := by decide +kernel
theorem dL_law_408 : decode cL_law 408 = .ok (.iadd, 1) := by decide +kernel
theorem dL_law_409 : decode cL_law 409 = .ok (.iaload, 1) := by decide +kernel
theorem dL_law_410 : decode cL_law 410 = .ok (.aload_n 0, 1) := by decide +kernel
theorem dL_law_411 : decode cL_law 411 = .ok (.iload_n 3, 1) := by decide +kernel
theorem dL_law_412 : decode cL_law 412 = .ok (.iconst 2, 1) := by decide +kernel
theorem dL_law_413 : decode cL_law 413 = .ok (.iadd, 1) := by decide +kernel
theorem dL_law_414 : decode cL_law 414 = .ok (.iaload, 1) := by decide +kernel
theorem dL_law_415 : decode cL_law 415 = .ok (.aload_n 0, 1) := by decide +kernel
theorem dL_law_416 : decode cL_law 416 = .ok (.iload_n 3, 1) := by decide +kernel
theorem dL_law_417 : decode cL_law 417 = .ok (.iconst 3, 1) := by decide +kernel
theorem dL_law_418 : decode cL_law 418 = .ok (.iadd, 1) := by decide +kernel
theorem dL_law_419 : decode cL_law 419 = .ok (.iaload, 1) := by decide +kernel
theorem dL_law_420 : decode cL_law 420 = .ok (.aload_n 0, 1) := by decide +kernel
theorem dL_law_421 : decode cL_law 421 = .ok (.iload_n 3, 1) := by decide +kernel
theorem dL_law_422 : decode cL_law 422 = .ok (.iconst 4, 1) := by decide +kernel
theorem dL_law_423 : decode cL_law 423 = .ok (.iadd, 1) := by decide +kernel
theorem dL_law_424 : decode cL_law 424 = .ok (.iaload, 1) := by decide +kernel
theorem dL_law_425 : decode cL_law 425 = .ok (.invokevirtual 52, 3) := by decide +kernel
theorem dL_law_428 : decode cL_law 428 = .ok (.aload_n 2, 1) := by decide +kernel
theorem dL_law_429 : decode cL_law 429 = .ok (.aload_n 0, 1) := by decide +kernel
theorem dL_law_430 : decode cL_law 430 = .ok (.iload_n 3, 1) := by decide +kernel
theorem dL_law_431 : decode cL_law 431 = .ok (.iconst 1, 1) := by decide +kernel
theorem dL_law_432 : decode cL_law 432 = .ok (.iadd, 1) := by decide +kernel
theorem dL_law_433 : decode cL_law 433 = .ok (.iaload, 1) := by decide +kernel
theorem dL_law_434 : decode cL_law 434 = .ok (.aload_n 0, 1) := by decide +kernel
theorem dL_law_435 : decode cL_law 435 = .ok (.iload_n 3, 1) := by decide +kernel
theorem dL_law_436 : decode cL_law 436 = .ok (.iconst 2, 1) := by decide +kernel
theorem dL_law_437 : decode cL_law 437 = .ok (.iadd, 1) := by decide +kernel
theorem dL_law_438 : decode cL_law 438 = .ok (.iaload, 1) := by decide +kernel
theorem dL_law_439 : decode cL_law 439 = .ok (.aload_n 0, 1) := by decide +kernel
theorem dL_law_440 : decode cL_law 440 = .ok (.iload_n 3, 1) := by decide +kernel
theorem dL_law_441 : decode cL_law 441 = .ok (.iconst 3, 1) := by decide +kernel
theorem dL_law_442 : decode cL_law 442 = .ok (.iadd, 1) := by decide +kernel
theorem dL_law_443 : decode cL_law 443 = .ok (.iaload, 1) := by decide +kernel
theorem dL_law_444 : decode cL_law 444 = .ok (.aload_n 0, 1) := by decide +kernel
theorem dL_law_445 : decode cL_law 445 = .ok (.iload_n 3, 1) := by decide +kernel
theorem dL_law_446 : decode cL_law 446 = .ok (.iconst 4, 1) := by decide +kernel
theorem dL_law_447 : decode cL_law 447 = .ok (.iadd, 1) := by decide +kernel
theorem dL_law_448 : decode cL_law 448 = .ok (.iaload, 1) := by decide +kernel
theorem dL_law_449 : decode cL_law 449 = .ok (.invokevirtual 56, 3) := by decide +kernel
theorem dL_law_452 : decode cL_law 452 = .ok (.if_icmp .eq 487, 3) := by decide +kernel
theorem dL_law_455 : decode cL_law 455 = .ok (.iconst 0, 1) := by decide +kernel
theorem dL_law_456 : decode cL_law 456 = .ok (.ireturn, 1) := by decide +kernel
theorem dL_law_457 : decode cL_law 457 = .ok (.aload_n 1, 1) := by decide +kernel
theorem dL_law_458 : decode cL_law 458 = .ok (.aload_n 0, 1) := by decide +kernel
theorem dL_law_459 : decode cL_law 459 = .ok (.iload_n 3, 1) := by decide +kernel
theorem dL_law_460 : decode cL_law 460 = .ok (.iconst 1, 1) := by decide +kernel
theorem dL_law_461 : decode cL_law 461 = .ok (.iadd, 1) := by decide +kernel
theorem dL_law_462 : decode cL_law 462 = .ok (.iaload, 1) := by decide +kernel
theorem dL_law_463 : decode cL_law 463 = .ok (.aload_n 0, 1) := by decide +kernel
theorem dL_law_464 : decode cL_law 464 = .ok (.iload_n 3, 1) := by decide +kernel
theorem dL_law_465 : decode cL_law 465 = .ok (.iconst 2, 1) := by decide +kernel
theorem dL_law_466 : decode cL_law 466 = .ok (.iadd, 1) := by decide +kernel
theorem dL_law_467 : decode cL_law 467 = .ok (.iaload, 1) := by decide +kernel
theorem dL_law_468 : decode cL_law 468 = .ok (.aload_n 0, 1) := by decide +kernel
theorem dL_law_469 : decode cL_law 469 = .ok (.iload_n 3, 1) := by decide +kernel
theorem dL_law_470 : decode cL_law 470 = .ok (.iconst 3, 1) := by decide +kernel
theorem dL_law_471 : decode cL_law 471 = .ok (.iadd, 1) := by decide +kernel
theorem dL_law_472 : decode cL_law 472 = .ok (.iaload, 1) := by decide +kernel
theorem dL_law_473 : decode cL_law 473 = .ok (.aload_n 0, 1) := by decide +kernel
theorem dL_law_474 : decode cL_law 474 = .ok (.iload_n 3, 1) := by decide +kernel
theorem dL_law_475 : decode cL_law 475 = .ok (.iconst 4, 1) := by decide +kernel
theorem dL_law_476 : decode cL_law 476 = .ok (.iadd, 1) := by decide +kernel
theorem dL_law_477 : decode cL_law 477 = .ok (.iaload, 1) := by decide +kernel
theorem dL_law_478 : decode cL_law 478 = .ok (.aload_n 0, 1) := by decide +kernel
theorem dL_law_479 : decode cL_law 479 = .ok (.iload_n 3, 1) := by decide +kernel
theorem dL_law_480 : decode cL_law 480 = .ok (.iconst 5, 1) := by decide +kernel
theorem dL_law_481 : decode cL_law 481 = .ok (.iadd, 1) := by decide +kernel
theorem dL_law_482 : decode cL_law 482 = .ok (.iaload, 1) := by decide +kernel
theorem dL_law_483 : decode cL_law 483 = .ok (.invokevirtual 57, 3) := by decide +kernel
theorem dL_law_486 : decode cL_law 486 = .ok (.aload_n 2, 1) := by decide +kernel
theorem dL_law_487 : decode cL_law 487 = .ok (.aload_n 0, 1) := by decide +kernel
theorem dL_law_488 : decode cL_law 488 = .ok (.iload_n 3, 1) := by decide +kernel
theorem dL_law_489 : decode cL_law 489 = .ok (.iconst 1, 1) := by decide +kernel
theorem dL_law_490 : decode cL_law 490 = .ok (.iadd, 1) := by decide +kernel
theorem dL_law_491 : decode cL_law 491 = .ok (.iaload, 1) := by decide +kernel
theorem dL_law_492 : decode cL_law 492 = .ok (.aload_n 0, 1) := by decide +kernel
theorem dL_law_493 : decode cL_law 493 = .ok (.iload_n 3, 1) := by decide +kernel
theorem dL_law_494 : decode cL_law 494 = .ok (.iconst 2, 1) := by decide +kernel
theorem dL_law_495 : decode cL_law 495 = .ok (.iadd, 1) := by decide +kernel
theorem dL_law_496 : decode cL_law 496 = .ok (.iaload, 1) := by decide +kernel
theorem dL_law_497 : decode cL_law 497 = .ok (.aload_n 0, 1) := by decide +kernel
theorem dL_law_498 : decode cL_law 498 = .ok (.iload_n 3, 1) := by decide +kernel
theorem dL_law_499 : decode cL_law 499 = .ok (.iconst 3, 1) := by decide +kernel
theorem dL_law_500 : decode cL_law 500 = .ok (.iadd, 1) := by decide +kernel
theorem dL_law_501 : decode cL_law 501 = .ok (.iaload, 1) := by decide +kernel
theorem dL_law_502 : decode cL_law 502 = .ok (.aload_n 0, 1) := by decide +kernel
theorem dL_law_503 : decode cL_law 503 = .ok (.iload_n 3, 1) := by decide +kernel
theorem dL_law_504 : decode cL_law 504 = .ok (.iconst 4, 1) := by decide +kernel
theorem dL_law_505 : decode cL_law 505 = .ok (.iadd, 1) := by decide +kernel
theorem dL_law_506 : decode cL_law 506 = .ok (.iaload, 1) := by decide +kernel
theorem dL_law_507 : decode cL_law 507 = .ok (.aload_n 0, 1) := by decide +kernel
theorem dL_law_508 : decode cL_law 508 = .ok (.iload_n 3, 1) := by decide +kernel
theorem dL_law_509 : decode cL_law 509 = .ok (.iconst 5, 1) := by decide +kernel
theorem dL_law_510 : decode cL_law 510 = .ok (.iadd, 1) := by decide +kernel
theorem dL_law_511 : decode cL_law 511 = .ok (.iaload, 1) := by decide +kernel
theorem dL_law_512 : decode cL_law 512 = .ok (.invokevirtual 61, 3) := by decide +kernel
theorem dL_law_515 : decode cL_law 515 = .ok (.if_icmp .eq 424, 3) := by decide +kernel
theorem dL_law_518 : decode cL_law 518 = .ok (.iconst 0, 1) := by decide +kernel
theorem dL_law_519 : decode cL_law 519 = .ok (.ireturn, 1) := by decide +kernel
theorem dL_law_520 : decode cL_law 520 = .ok (.aload_n 1, 1) := by decide +kernel
theorem dL_law_521 : decode cL_law 521 = .ok (.aload_n 0, 1) := by decide +kernel
theorem dL_law_522 : decode cL_law 522 = .ok (.iload_n 3, 1) := by decide +kernel
theorem dL_law_523 : decode cL_law 523 = .ok (.iconst 1, 1) := by decide +kernel
theorem dL_law_524 : decode cL_law 524 = .ok (.iadd, 1) := by decide +kernel
theorem dL_law_525 : decode cL_law 525 = .ok (.iaload, 1) := by decide +kernel
theorem dL_law_526 : decode cL_law 526 = .ok (.aload_n 0, 1) := by decide +kernel
theorem dL_law_527 : decode cL_law 527 = .ok (.iload_n 3, 1) := by decide +kernel
theorem dL_law_528 : decode cL_law 528 = .ok (.iconst 2, 1) := by decide +kernel
theorem dL_law_529 : decode cL_law 529 = .ok (.iadd, 1) := by decide +kernel
theorem dL_law_530 : decode cL_law 530 = .ok (.iaload, 1) := by decide +kernel
theorem dL_law_531 : decode cL_law 531 = .ok (.aload_n 0, 1) := by decide +kernel
theorem dL_law_532 : decode cL_law 532 = .ok (.iload_n 3, 1) := by decide +kernel
theorem dL_law_533 : decode cL_law 533 = .ok (.iconst 3, 1) := by decide +kernel
theorem dL_law_534 : decode cL_law 534 = .ok (.iadd, 1) := by decide +kernel
theorem dL_law_535 : decode cL_law 535 = .ok (.iaload, 1) := by decide +kernel
theorem dL_law_536 : decode cL_law 536 = .ok (.invokevirtual 62, 3) := by decide +kernel
theorem dL_law_539 : decode cL_law 539 = .ok (.aload_n 2, 1) := by decide +kernel
theorem dL_law_540 : decode cL_law 540 = .ok (.aload_n 0, 1) := by decide +kernel
theorem dL_law_541 : decode cL_law 541 = .ok (.iload_n 3, 1) := by decide +kernel
theorem dL_law_542 : decode cL_law 542 = .ok (.iconst 1, 1) := by decide +kernel
theorem dL_law_543 : decode cL_law 543 = .ok (.iadd, 1) := by decide +kernel
theorem dL_law_544 : decode cL_law 544 = .ok (.iaload, 1) := by decide +kernel
theorem dL_law_545 : decode cL_law 545 = .ok (.aload_n 0, 1) := by decide +kernel
theorem dL_law_546 : decode cL_law 546 = .ok (.iload_n 3, 1) := by decide +kernel
theorem dL_law_547 : decode cL_law 547 = .ok (.iconst 2, 1) := by decide +kernel
theorem dL_law_548 : decode cL_law 548 = .ok (.iadd, 1) := by decide +kernel
theorem dL_law_549 : decode cL_law 549 = .ok (.iaload, 1) := by decide +kernel
theorem dL_law_550 : decode cL_law 550 = .ok (.aload_n 0, 1) := by decide +kernel
theorem dL_law_551 : decode cL_law 551 = .ok (.iload_n 3, 1) := by decide +kernel
theorem dL_law_552 : decode cL_law 552 = .ok (.iconst 3, 1) := by decide +kernel
theorem dL_law_553 : decode cL_law 553 = .ok (.iadd, 1) := by decide +kernel
theorem dL_law_554 : decode cL_law 554 = .ok (.iaload, 1) := by decide +kernel
theorem dL_law_555 : decode cL_law 555 = .ok (.invokevirtual 65, 3) := by decide +kernel
theorem dL_law_558 : decode cL_law 558 = .ok (.if_icmp .eq 381, 3) := by decide +kernel
theorem dL_law_561 : decode cL_law 561 = .ok (.iconst 0, 1) := by decide +kernel
theorem dL_law_562 : decode cL_law 562 = .ok (.ireturn, 1) := by decide +kernel
theorem dL_law_563 : decode cL_law 563 = .ok (.aload_n 1, 1) := by decide +kernel
theorem dL_law_564 : decode cL_law 564 = .ok (.aload_n 0, 1) := by decide +kernel
theorem dL_law_565 : decode cL_law 565 = .ok (.iload_n 3, 1) := by decide +kernel
theorem dL_law_566 : decode cL_law 566 = .ok (.iconst 1, 1) := by decide +kernel
theorem dL_law_567 : decode cL_law 567 = .ok (.iadd, 1) := by decide +kernel
theorem dL_law_568 : decode cL_law 568 = .ok (.iaload, 1) := by decide +kernel
theorem dL_law_569 : decode cL_law 569 = .ok (.aload_n 0, 1) := by decide +kernel
theorem dL_law_570 : decode cL_law 570 = .ok (.iload_n 3, 1) := by decide +kernel
theorem dL_law_571 : decode cL_law 571 = .ok (.iconst 2, 1) := by decide +kernel
theorem dL_law_572 : decode cL_law 572 = .ok (.iadd, 1) := by decide +kernel
theorem dL_law_573 : decode cL_law 573 = .ok (.iaload, 1) := by decide +kernel
theorem dL_law_574 : decode cL_law 574 = .ok (.aload_n 0, 1) := by decide +kernel
theorem dL_law_575 : decode cL_law 575 = .ok (.iload_n 3, 1) := by decide +kernel
theorem dL_law_576 : decode cL_law 576 = .ok (.iconst 3, 1) := by decide +kernel
theorem dL_law_577 : decode cL_law 577 = .ok (.iadd, 1) := by decide +kernel
theorem dL_law_578 : decode cL_law 578 = .ok (.iaload, 1) := by decide +kernel
theorem dL_law_579 : decode cL_law 579 = .ok (.aload_n 0, 1) := by decide +kernel
theorem dL_law_580 : decode cL_law 580 = .ok (.iload_n 3, 1) := by decide +kernel
theorem dL_law_581 : decode cL_law 581 = .ok (.iconst 4, 1) := by decide +kernel
theorem dL_law_582 : decode cL_law 582 = .ok (.iadd, 1) := by decide +kernel
theorem dL_law_583 : decode cL_law 583 = .ok (.iaload, 1) := by decide +kernel
theorem dL_law_584 : decode cL_law 584 = .ok (.invokevirtual 66, 3) := by decide +kernel
theorem dL_law_587 : decode cL_law 587 = .ok (.aload_n 2, 1) := by decide +kernel
theorem dL_law_588 : decode cL_law 588 = .ok (.aload_n 0, 1) := by decide +kernel
theorem dL_law_589 : decode cL_law 589 = .ok (.iload_n 3, 1) := by decide +kernel
theorem dL_law_590 : decode cL_law 590 = .ok (.iconst 1, 1) := by decide +kernel
theorem dL_law_591 : decode cL_law 591 = .ok (.iadd, 1) := by decide +kernel
theorem dL_law_592 : decode cL_law 592 = .ok (.iaload, 1) := by decide +kernel
theorem dL_law_593 : decode cL_law 593 = .ok (.aload_n 0, 1) := by decide +kernel
theorem dL_law_594 : decode cL_law 594 = .ok (.iload_n 3, 1) := by decide +kernel
theorem dL_law_595 : decode cL_law 595 = .ok (.iconst 2, 1) := by decide +kernel
theorem dL_law_596 : decode cL_law 596 = .ok (.iadd, 1) := by decide +kernel
theorem dL_law_597 : decode cL_law 597 = .ok (.iaload, 1) := by decide +kernel
theorem dL_law_598 : decode cL_law 598 = .ok (.aload_n 0, 1) := by decide +kernel
theorem dL_law_599 : decode cL_law 599 = .ok (.iload_n 3, 1) := by decide +kernel
theorem dL_law_600 : decode cL_law 600 = .ok (.iconst 3, 1) := by decide +kernel
theorem dL_law_601 : decode cL_law 601 = .ok (.iadd, 1) := by decide +kernel
theorem dL_law_602 : decode cL_law 602 = .ok (.iaload, 1) := by decide +kernel
theorem dL_law_603 : decode cL_law 603 = .ok (.aload_n 0, 1) := by decide +kernel
theorem dL_law_604 : decode cL_law 604 = .ok (.iload_n 3, 1) := by decide +kernel
theorem dL_law_605 : decode cL_law 605 = .ok (.iconst 4, 1) := by decide +kernel
theorem dL_law_606 : decode cL_law 606 = .ok (.iadd, 1) := by decide +kernel
theorem dL_law_607 : decode cL_law 607 = .ok (.iaload, 1) := by decide +kernel
theorem dL_law_608 : decode cL_law 608 = .ok (.invokevirtual 69, 3) := by decide +kernel
theorem dL_law_611 : decode cL_law 611 = .ok (.if_icmp .eq 328, 3) := by decide +kernel
theorem dL_law_614 : decode cL_law 614 = .ok (.iconst 0, 1) := by decide +kernel
theorem dL_law_615 : decode cL_law 615 = .ok (.ireturn, 1) := by decide +kernel
theorem dL_law_616 : decode cL_law 616 = .ok (.aload_n 1, 1) := by decide +kernel
theorem dL_law_617 : decode cL_law 617 = .ok (.aload_n 0, 1) := by decide +kernel
theorem dL_law_618 : decode cL_law 618 = .ok (.iload_n 3, 1) := by decide +kernel
theorem dL_law_619 : decode cL_law 619 = .ok (.iconst 1, 1) := by decide +kernel
theorem dL_law_620 : decode cL_law 620 = .ok (.iadd, 1) := by decide +kernel
theorem dL_law_621 : decode cL_law 621 = .ok (.iaload, 1) := by decide +kernel
theorem dL_law_622 : decode cL_law 622 = .ok (.aload_n 0, 1) := by decide +kernel
theorem dL_law_623 : decode cL_law 623 = .ok (.iload_n 3, 1) := by decide +kernel
theorem dL_law_624 : decode cL_law 624 = .ok (.iconst 2, 1) := by decide +kernel
theorem dL_law_625 : decode cL_law 625 = .ok (.iadd, 1) := by decide +kernel
theorem dL_law_626 : decode cL_law 626 = .ok (.iaload, 1) := by decide +kernel
theorem dL_law_627 : decode cL_law 627 = .ok (.invokevirtual 70, 3) := by decide +kernel
theorem dL_law_630 : decode cL_law 630 = .ok (.aload_n 2, 1) := by decide +kernel
theorem dL_law_631 : decode cL_law 631 = .ok (.aload_n 0, 1) := by decide +kernel
theorem dL_law_632 : decode cL_law 632 = .ok (.iload_n 3, 1) := by decide +kernel
theorem dL_law_633 : decode cL_law 633 = .ok (.iconst 1, 1) := by decide +kernel
theorem dL_law_634 : decode cL_law 634 = .ok (.iadd, 1) := by decide +kernel
theorem dL_law_635 : decode cL_law 635 = .ok (.iaload, 1) := by decide +kernel
theorem dL_law_636 : decode cL_law 636 = .ok (.aload_n 0, 1) := by decide +kernel
theorem dL_law_637 : decode cL_law 637 = .ok (.iload_n 3, 1) := by decide +kernel
theorem dL_law_638 : decode cL_law 638 = .ok (.iconst 2, 1) := by decide +kernel
theorem dL_law_639 : decode cL_law 639 = .ok (.iadd, 1) := by decide +kernel
theorem dL_law_640 : decode cL_law 640 = .ok (.iaload, 1) := by decide +kernel
theorem dL_law_641 : decode cL_law 641 = .ok (.invokevirtual 73, 3) := by decide +kernel
theorem dL_law_644 : decode cL_law 644 = .ok (.if_icmp .eq 295, 3) := by decide +kernel
theorem dL_law_647 : decode cL_law 647 = .ok (.iconst 0, 1) := by decide +kernel
theorem dL_law_648 : decode cL_law 648 = .ok (.ireturn, 1) := by decide +kernel
theorem dL_law_649 : decode cL_law 649 = .ok (.aload_n 1, 1) := by decide +kernel
theorem dL_law_650 : decode cL_law 650 = .ok (.aload_n 0, 1) := by decide +kernel
theorem dL_law_651 : decode cL_law 651 = .ok (.iload_n 3, 1) := by decide +kernel
theorem dL_law_652 : decode cL_law 652 = .ok (.iconst 1, 1) := by decide +kernel
theorem dL_law_653 : decode cL_law 653 = .ok (.iadd, 1) := by decide +kernel
theorem dL_law_654 : decode cL_law 654 = .ok (.iaload, 1) := by decide +kernel
theorem dL_law_655 : decode cL_law 655 = .ok (.aload_n 0, 1) := by decide +kernel
theorem dL_law_656 : decode cL_law 656 = .ok (.iload_n 3, 1) := by decide +kernel
theorem dL_law_657 : decode cL_law 657 = .ok (.iconst 2, 1) := by decide +kernel
theorem dL_law_658 : decode cL_law 658 = .ok (.iadd, 1) := by decide +kernel
theorem dL_law_659 : decode cL_law 659 = .ok (.iaload, 1) := by decide +kernel
theorem dL_law_660 : decode cL_law 660 = .ok (.invokevirtual 74, 3) := by decide +kernel
theorem dL_law_663 : decode cL_law 663 = .ok (.aload_n 2, 1) := by decide +kernel
theorem dL_law_664 : decode cL_law 664 = .ok (.aload_n 0, 1) := by decide +kernel
theorem dL_law_665 : decode cL_law 665 = .ok (.iload_n 3, 1) := by decide +kernel
theorem dL_law_666 : decode cL_law 666 = .ok (.iconst 1, 1) := by decide +kernel
theorem dL_law_667 : decode cL_law 667 = .ok (.iadd, 1) := by decide +kernel
theorem dL_law_668 : decode cL_law 668 = .ok (.iaload, 1) := by decide +kernel
theorem dL_law_669 : decode cL_law 669 = .ok (.aload_n 0, 1) := by decide +kernel
theorem dL_law_670 : decode cL_law 670 = .ok (.iload_n 3, 1) := by decide +kernel
theorem dL_law_671 : decode cL_law 671 = .ok (.iconst 2, 1) := by decide +kernel
theorem dL_law_672 : decode cL_law 672 = .ok (.iadd, 1) := by decide +kernel
theorem dL_law_673 : decode cL_law 673 = .ok (.iaload, 1) := by decide +kernel
theorem dL_law_674 : decode cL_law 674 = .ok (.invokevirtual 77, 3) := by decide +kernel
theorem dL_law_677 : decode cL_law 677 = .ok (.if_icmp .eq 262, 3) := by decide +kernel
theorem dL_law_680 : decode cL_law 680 = .ok (.iconst 0, 1) := by decide +kernel
theorem dL_law_681 : decode cL_law 681 = .ok (.ireturn, 1) := by decide +kernel
theorem dL_law_682 : decode cL_law 682 = .ok (.aload_n 1, 1) := by decide +kernel
theorem dL_law_683 : decode cL_law 683 = .ok (.aload_n 0, 1) := by decide +kernel
theorem dL_law_684 : decode cL_law 684 = .ok (.iload_n 3, 1) := by decide +kernel
theorem dL_law_685 : decode cL_law 685 = .ok (.iconst 1, 1) := by decide +kernel
theorem dL_law_686 : decode cL_law 686 = .ok (.iadd, 1) := by decide +kernel
theorem dL_law_687 : decode cL_law 687 = .ok (.iaload, 1) := by decide +kernel
theorem dL_law_688 : decode cL_law 688 = .ok (.invokevirtual 78, 3) := by decide +kernel
theorem dL_law_691 : decode cL_law 691 = .ok (.aload_n 2, 1) := by decide +kernel
theorem dL_law_692 : decode cL_law 692 = .ok (.aload_n 0, 1) := by decide +kernel
theorem dL_law_693 : decode cL_law 693 = .ok (.iload_n 3, 1) := by decide +kernel
theorem dL_law_694 : decode cL_law 694 = .ok (.iconst 1, 1) := by decide +kernel
theorem dL_law_695 : decode cL_law 695 = .ok (.iadd, 1) := by decide +kernel
theorem dL_law_696 : decode cL_law 696 = .ok (.iaload, 1) := by decide +kernel
theorem dL_law_697 : decode cL_law 697 = .ok (.invokevirtual 81, 3) := by decide +kernel
theorem dL_law_700 : decode cL_law 700 = .ok (.if_icmp .eq 239, 3) := by decide +kernel
theorem dL_law_703 : decode cL_law 703 = .ok (.iconst 0, 1) := by decide +kernel
theorem dL_law_704 : decode cL_law 704 = .ok (.ireturn, 1) := by decide +kernel
theorem dL_law_705 : decode cL_law 705 = .ok (.aload_n 1, 1) := by decide +kernel
theorem dL_law_706 : decode cL_law 706 = .ok (.aload_n 0, 1) := by decide +kernel
theorem dL_law_707 : decode cL_law 707 = .ok (.iload_n 3, 1) := by decide +kernel
theorem dL_law_708 : decode cL_law 708 = .ok (.iconst 1, 1) := by decide +kernel
theorem dL_law_709 : decode cL_law 709 = .ok (.iadd, 1) := by decide +kernel
theorem dL_law_710 : decode cL_law 710 = .ok (.iaload, 1) := by decide +kernel
theorem dL_law_711 : decode cL_law 711 = .ok (.invokevirtual 82, 3) := by decide +kernel
theorem dL_law_714 : decode cL_law 714 = .ok (.aload_n 2, 1) := by decide +kernel
theorem dL_law_715 : decode cL_law 715 = .ok (.aload_n 0, 1) := by decide +kernel
theorem dL_law_716 : decode cL_law 716 = .ok (.iload_n 3, 1) := by decide +kernel
theorem dL_law_717 : decode cL_law 717 = .ok (.iconst 1, 1) := by decide +kernel
theorem dL_law_718 : decode cL_law 718 = .ok (.iadd, 1) := by decide +kernel
theorem dL_law_719 : decode cL_law 719 = .ok (.iaload, 1) := by decide +kernel
theorem dL_law_720 : decode cL_law 720 = .ok (.invokevirtual 85, 3) := by decide +kernel
theorem dL_law_723 : decode cL_law 723 = .ok (.if_icmp .eq 216, 3) := by decide +kernel
theorem dL_law_726 : decode cL_law 726 = .ok (.iconst 0, 1) := by decide +kernel
theorem dL_law_727 : decode cL_law 727 = .ok (.ireturn, 1) := by decide +kernel
theorem dL_law_728 : decode cL_law 728 = .ok (.aload_n 1, 1) := by decide +kernel
theorem dL_law_729 : decode cL_law 729 = .ok (.aload_n 0, 1) := by decide +kernel
theorem dL_law_730 : decode cL_law 730 = .ok (.iload_n 3, 1) := by decide +kernel
theorem dL_law_731 : decode cL_law 731 = .ok (.iconst 1, 1) := by decide +kernel
theorem dL_law_732 : decode cL_law 732 = .ok (.iadd, 1) := by decide +kernel
theorem dL_law_733 : decode cL_law 733 = .ok (.iaload, 1) := by decide +kernel
theorem dL_law_734 : decode cL_law 734 = .ok (.invokevirtual 86, 3) := by decide +kernel
theorem dL_law_737 : decode cL_law 737 = .ok (.aload_n 2, 1) := by decide +kernel
theorem dL_law_738 : decode cL_law 738 = .ok (.aload_n 0, 1) := by decide +kernel
theorem dL_law_739 : decode cL_law 739 = .ok (.iload_n 3, 1) := by decide +kernel
theorem dL_law_740 : decode cL_law 740 = .ok (.iconst 1, 1) := by decide +kernel
theorem dL_law_741 : decode cL_law 741 = .ok (.iadd, 1) := by decide +kernel
theorem dL_law_742 : decode cL_law 742 = .ok (.iaload, 1) := by decide +kernel
theorem dL_law_743 : decode cL_law 743 = .ok (.invokevirtual 89, 3) := by decide +kernel
theorem dL_law_746 : decode cL_law 746 = .ok (.if_icmp .eq 193, 3) := by decide +kernel
theorem dL_law_749 : decode cL_law 749 = .ok (.iconst 0, 1) := by decide +kernel
theorem dL_law_750 : decode cL_law 750 = .ok (.ireturn, 1) := by decide +kernel
theorem dL_law_751 : decode cL_law 751 = .ok (.aload_n 1, 1) := by decide +kernel
theorem dL_law_752 : decode cL_law 752 = .ok (.aload_n 0, 1) := by decide +kernel
theorem dL_law_753 : decode cL_law 753 = .ok (.iload_n 3, 1) := by decide +kernel
theorem dL_law_754 : decode cL_law 754 = .ok (.iconst 1, 1) := by decide +kernel
theorem dL_law_755 : decode cL_law 755 = .ok (.iadd, 1) := by decide +kernel
theorem dL_law_756 : decode cL_law 756 = .ok (.iaload, 1) := by decide +kernel
theorem dL_law_757 : decode cL_law 757 = .ok (.aload_n 0, 1) := by decide +kernel
theorem dL_law_758 : decode cL_law 758 = .ok (.iload_n 3, 1) := by decide +kernel
theorem dL_law_759 : decode cL_law 759 = .ok (.iconst 2, 1) := by decide +kernel
theorem dL_law_760 : decode cL_law 760 = .ok (.iadd, 1) := by decide +kernel
theorem dL_law_761 : decode cL_law 761 = .ok (.iaload, 1) := by decide +kernel
theorem dL_law_762 : decode cL_law 762 = .ok (.invokevirtual 90, 3) := by decide +kernel
theorem dL_law_765 : decode cL_law 765 = .ok (.aload_n 2, 1) := by decide +kernel
theorem dL_law_766 : decode cL_law 766 = .ok (.aload_n 0, 1) := by decide +kernel
theorem dL_law_767 : decode cL_law 767 = .ok (.iload_n 3, 1) := by decide +kernel
theorem dL_law_768 : decode cL_law 768 = .ok (.iconst 1, 1) := by decide +kernel
theorem dL_law_769 : decode cL_law 769 = .ok (.iadd, 1) := by decide +kernel
theorem dL_law_770 : decode cL_law 770 = .ok (.iaload, 1) := by decide +kernel
theorem dL_law_771 : decode cL_law 771 = .ok (.aload_n 0, 1) := by decide +kernel
theorem dL_law_772 : decode cL_law 772 = .ok (.iload_n 3, 1) := by decide +kernel
theorem dL_law_773 : decode cL_law 773 = .ok (.iconst 2, 1) := by decide +kernel
theorem dL_law_774 : decode cL_law 774 = .ok (.iadd, 1) := by decide +kernel
theorem dL_law_775 : decode cL_law 775 = .ok (.iaload, 1) := by decide +kernel
theorem dL_law_776 : decode cL_law 776 = .ok (.invokevirtual 93, 3) := by decide +kernel
theorem dL_law_779 : decode cL_law 779 = .ok (.if_icmp .eq 160, 3) := by decide +kernel
theorem dL_law_782 : decode cL_law 782 = .ok (.iconst 0, 1) := by decide +kernel
theorem dL_law_783 : decode cL_law 783 = .ok (.ireturn, 1) := by decide +kernel
theorem dL_law_784 : decode cL_law 784 = .ok (.aload_n 1, 1) := by decide +kernel
theorem dL_law_785 : decode cL_law 785 = .ok (.aload_n 0, 1) := by decide +kernel
theorem dL_law_786 : decode cL_law 786 = .ok (.iload_n 3, 1) := by decide +kernel
theorem dL_law_787 : decode cL_law 787 = .ok (.iconst 1, 1) := by decide +kernel
theorem dL_law_788 : decode cL_law 788 = .ok (.iadd, 1) := by decide +kernel
theorem dL_law_789 : decode cL_law 789 = .ok (.iaload, 1) := by decide +kernel
theorem dL_law_790 : decode cL_law 790 = .ok (.invokevirtual 94, 3) := by decide +kernel
theorem dL_law_793 : decode cL_law 793 = .ok (.aload_n 2, 1) := by decide +kernel
theorem dL_law_794 : decode cL_law 794 = .ok (.aload_n 0, 1) := by decide +kernel
theorem dL_law_795 : decode cL_law 795 = .ok (.iload_n 3, 1) := by decide +kernel
theorem dL_law_796 : decode cL_law 796 = .ok (.iconst 1, 1) := by decide +kernel
theorem dL_law_797 : decode cL_law 797 = .ok (.iadd, 1) := by decide +kernel
theorem dL_law_798 : decode cL_law 798 = .ok (.iaload, 1) := by decide +kernel
theorem dL_law_799 : decode cL_law 799 = .ok (.invokevirtual 97, 3) := by decide +kernel
theorem dL_law_802 : decode cL_law 802 = .ok (.if_icmp .eq 137, 3) := by decide +kernel
theorem dL_law_805 : decode cL_law 805 = .ok (.iconst 0, 1) := by decide +kernel
theorem dL_law_806 : decode cL_law 806 = .ok (.ireturn, 1) := by decide +kernel
theorem dL_law_807 : decode cL_law 807 = .ok (.aload_n 1, 1) := by decide +kernel
theorem dL_law_808 : decode cL_law 808 = .ok (.aload_n 0, 1) := by decide +kernel
theorem dL_law_809 : decode cL_law 809 = .ok (.iload_n 3, 1) := by decide +kernel
theorem dL_law_810 : decode cL_law 810 = .ok (.iconst 1, 1) := by decide +kernel
theorem dL_law_811 : decode cL_law 811 = .ok (.iadd, 1) := by decide +kernel
theorem dL_law_812 : decode cL_law 812 = .ok (.iaload, 1) := by decide +kernel
theorem dL_law_813 : decode cL_law 813 = .ok (.aload_n 0, 1) := by decide +kernel
theorem dL_law_814 : decode cL_law 814 = .ok (.iload_n 3, 1) := by decide +kernel
theorem dL_law_815 : decode cL_law 815 = .ok (.iconst 2, 1) := by decide +kernel
theorem dL_law_816 : decode cL_law 816 = .ok (.iadd, 1) := by decide +kernel
theorem dL_law_817 : decode cL_law 817 = .ok (.iaload, 1) := by decide +kernel
theorem dL_law_818 : decode cL_law 818 = .ok (.invokevirtual 98, 3) := by decide +kernel
theorem dL_law_821 : decode cL_law 821 = .ok (.aload_n 2, 1) := by decide +kernel
theorem dL_law_822 : decode cL_law 822 = .ok (.aload_n 0, 1) := by decide +kernel
theorem dL_law_823 : decode cL_law 823 = .ok (.iload_n 3, 1) := by decide +kernel
theorem dL_law_824 : decode cL_law 824 = .ok (.iconst 1, 1) := by decide +kernel
theorem dL_law_825 : decode cL_law 825 = .ok (.iadd, 1) := by decide +kernel
theorem dL_law_826 : decode cL_law 826 = .ok (.iaload, 1) := by decide +kernel
theorem dL_law_827 : decode cL_law 827 = .ok (.aload_n 0, 1) := by decide +kernel
theorem dL_law_828 : decode cL_law 828 = .ok (.iload_n 3, 1) := by decide +kernel
theorem dL_law_829 : decode cL_law 829 = .ok (.iconst 2, 1) := by decide +kernel
theorem dL_law_830 : decode cL_law 830 = .ok (.iadd, 1) := by decide +kernel
theorem dL_law_831 : decode cL_law 831 = .ok (.iaload, 1) := by decide +kernel
theorem dL_law_832 : decode cL_law 832 = .ok (.invokevirtual 101, 3) := by decide +kernel
theorem dL_law_835 : decode cL_law 835 = .ok (.if_icmp .eq 104, 3) := by decide +kernel
theorem dL_law_838 : decode cL_law 838 = .ok (.iconst 0, 1) := by decide +kernel
theorem dL_law_839 : decode cL_law 839 = .ok (.ireturn, 1) := by decide +kernel
theorem dL_law_840 : decode cL_law 840 = .ok (.aload_n 1, 1) := by decide +kernel
theorem dL_law_841 : decode cL_law 841 = .ok (.aload_n 0, 1) := by decide +kernel
theorem dL_law_842 : decode cL_law 842 = .ok (.iload_n 3, 1) := by decide +kernel
theorem dL_law_843 : decode cL_law 843 = .ok (.iconst 1, 1) := by decide +kernel
theorem dL_law_844 : decode cL_law 844 = .ok (.iadd, 1) := by decide +kernel
theorem dL_law_845 : decode cL_law 845 = .ok (.iaload, 1) := by decide +kernel
theorem dL_law_846 : decode cL_law 846 = .ok (.invokevirtual 102, 3) := by decide +kernel
theorem dL_law_849 : decode cL_law 849 = .ok (.aload_n 2, 1) := by decide +kernel
theorem dL_law_850 : decode cL_law 850 = .ok (.aload_n 0, 1) := by decide +kernel
theorem dL_law_851 : decode cL_law 851 = .ok (.iload_n 3, 1) := by decide +kernel
theorem dL_law_852 : decode cL_law 852 = .ok (.iconst 1, 1) := by decide +kernel
theorem dL_law_853 : decode cL_law 853 = .ok (.iadd, 1) := by decide +kernel
theorem dL_law_854 : decode cL_law 854 = .ok (.iaload, 1) := by decide +kernel
theorem dL_law_855 : decode cL_law 855 = .ok (.invokevirtual 105, 3) := by decide +kernel
theorem dL_law_858 : decode cL_law 858 = .ok (.if_icmp .eq 81, 3) := by decide +kernel
theorem dL_law_861 : decode cL_law 861 = .ok (.iconst 0, 1) := by decide +kernel
theorem dL_law_862 : decode cL_law 862 = .ok (.ireturn, 1) := by decide +kernel
theorem dL_law_863 : decode cL_law 863 = .ok (.aload_n 1, 1) := by decide +kernel
theorem dL_law_864 : decode cL_law 864 = .ok (.aload_n 0, 1) := by decide +kernel
theorem dL_law_865 : decode cL_law 865 = .ok (.iload_n 3, 1) := by decide +kernel
theorem dL_law_866 : decode cL_law 866 = .ok (.iconst 1, 1) := by decide +kernel
theorem dL_law_867 : decode cL_law 867 = .ok (.iadd, 1) := by decide +kernel
theorem dL_law_868 : decode cL_law 868 = .ok (.iaload, 1) := by decide +kernel
theorem dL_law_869 : decode cL_law 869 = .ok (.aload_n 0, 1) := by decide +kernel
theorem dL_law_870 : decode cL_law 870 = .ok (.iload_n 3, 1) := by decide +kernel
theorem dL_law_871 : decode cL_law 871 = .ok (.iconst 2, 1) := by decide +kernel
theorem dL_law_872 : decode cL_law 872 = .ok (.iadd, 1) := by decide +kernel
theorem dL_law_873 : decode cL_law 873 = .ok (.iaload, 1) := by decide +kernel
theorem dL_law_874 : decode cL_law 874 = .ok (.aload_n 0, 1) := by decide +kernel
theorem dL_law_875 : decode cL_law 875 = .ok (.iload_n 3, 1) := by decide +kernel
theorem dL_law_876 : decode cL_law 876 = .ok (.iconst 3, 1) := by decide +kernel
theorem dL_law_877 : decode cL_law 877 = .ok (.iadd, 1) := by decide +kernel
theorem dL_law_878 : decode cL_law 878 = .ok (.iaload, 1) := by decide +kernel
