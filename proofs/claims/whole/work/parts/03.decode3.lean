theorem dX9_take_0 : decode cX9_take 0 = .ok (.aload_n 0, 1) := by decide +kernel
theorem dX9_take_1 : decode cX9_take 1 = .ok (.aload_n 0, 1) := by decide +kernel
theorem dX9_take_2 : decode cX9_take 2 = .ok (.iload_n 1, 1) := by decide +kernel
theorem dX9_take_3 : decode cX9_take 3 = .ok (.invokevirtual 229, 3) := by decide +kernel
theorem dX9_take_6 : decode cX9_take 6 = .ok (.iconst 2, 1) := by decide +kernel
theorem dX9_take_7 : decode cX9_take 7 = .ok (.invokevirtual 232, 3) := by decide +kernel
theorem dX9_take_10 : decode cX9_take 10 = .ok (.ifCond .eq 7, 3) := by decide +kernel
theorem dX9_take_13 : decode cX9_take 13 = .ok (.aload_n 0, 1) := by decide +kernel
theorem dX9_take_14 : decode cX9_take 14 = .ok (.invokevirtual 236, 3) := by decide +kernel
theorem dX9_take_17 : decode cX9_take 17 = .ok (.return_, 1) := by decide +kernel
theorem dX9_operand_0 : decode cX9_operand 0 = .ok (.aload_n 0, 1) := by decide +kernel
theorem dX9_operand_1 : decode cX9_operand 1 = .ok (.getfield 110, 3) := by decide +kernel
theorem dX9_operand_4 : decode cX9_operand 4 = .ok (.ifCond .le 4, 3) := by decide +kernel
theorem dX9_operand_7 : decode cX9_operand 7 = .ok (.return_, 1) := by decide +kernel
theorem dX9_operand_8 : decode cX9_operand 8 = .ok (.aload_n 0, 1) := by decide +kernel
theorem dX9_operand_9 : decode cX9_operand 9 = .ok (.bipush 45, 2) := by decide +kernel
theorem dX9_operand_11 : decode cX9_operand 11 = .ok (.invokevirtual 229, 3) := by decide +kernel
theorem dX9_operand_14 : decode cX9_operand 14 = .ok (.istore_n 1, 1) := by decide +kernel
theorem dX9_operand_15 : decode cX9_operand 15 = .ok (.iload_n 1, 1) := by decide +kernel
theorem dX9_operand_16 : decode cX9_operand 16 = .ok (.ifCond .eq 7, 3) := by decide +kernel
theorem dX9_operand_19 : decode cX9_operand 19 = .ok (.aload_n 0, 1) := by decide +kernel
theorem dX9_operand_20 : decode cX9_operand 20 = .ok (.invokevirtual 236, 3) := by decide +kernel
theorem dX9_operand_23 : decode cX9_operand 23 = .ok (.iload_n 1, 1) := by decide +kernel
theorem dX9_operand_24 : decode cX9_operand 24 = .ok (.ifCond .eq 25, 3) := by decide +kernel
theorem dX9_operand_27 : decode cX9_operand 27 = .ok (.aload_n 0, 1) := by decide +kernel
theorem dX9_operand_28 : decode cX9_operand 28 = .ok (.aload_n 0, 1) := by decide +kernel
theorem dX9_operand_29 : decode cX9_operand 29 = .ok (.getfield 17, 3) := by decide +kernel
theorem dX9_operand_32 : decode cX9_operand 32 = .ok (.iconst 2, 1) := by decide +kernel
theorem dX9_operand_33 : decode cX9_operand 33 = .ok (.if_icmp .ne 7, 3) := by decide +kernel
theorem dX9_operand_36 : decode cX9_operand 36 = .ok (.iconst 1, 1) := by decide +kernel
theorem dX9_operand_37 : decode cX9_operand 37 = .ok (.goto 4, 3) := by decide +kernel
theorem dX9_operand_40 : decode cX9_operand 40 = .ok (.iconst 0, 1) := by decide +kernel
theorem dX9_operand_41 : decode cX9_operand 41 = .ok (.iconst 2, 1) := by decide +kernel
theorem dX9_operand_42 : decode cX9_operand 42 = .ok (.invokevirtual 232, 3) := by decide +kernel
theorem dX9_operand_45 : decode cX9_operand 45 = .ok (.ifCond .ne 33, 3) := by decide +kernel
theorem dX9_operand_48 : decode cX9_operand 48 = .ok (.return_, 1) := by decide +kernel
theorem dX9_operand_49 : decode cX9_operand 49 = .ok (.aload_n 0, 1) := by decide +kernel
theorem dX9_operand_50 : decode cX9_operand 50 = .ok (.aload_n 0, 1) := by decide +kernel
theorem dX9_operand_51 : decode cX9_operand 51 = .ok (.getfield 17, 3) := by decide +kernel
theorem dX9_operand_54 : decode cX9_operand 54 = .ok (.iconst 2, 1) := by decide +kernel
theorem dX9_operand_55 : decode cX9_operand 55 = .ok (.if_icmp .eq 10, 3) := by decide +kernel
theorem dX9_operand_58 : decode cX9_operand 58 = .ok (.aload_n 0, 1) := by decide +kernel
theorem dX9_operand_59 : decode cX9_operand 59 = .ok (.invokevirtual 239, 3) := by decide +kernel
theorem dX9_operand_62 : decode cX9_operand 62 = .ok (.ifCond .lt 7, 3) := by decide +kernel
theorem dX9_operand_65 : decode cX9_operand 65 = .ok (.iconst 1, 1) := by decide +kernel
theorem dX9_operand_66 : decode cX9_operand 66 = .ok (.goto 4, 3) := by decide +kernel
theorem dX9_operand_69 : decode cX9_operand 69 = .ok (.iconst 0, 1) := by decide +kernel
theorem dX9_operand_70 : decode cX9_operand 70 = .ok (.iconst 2, 1) := by decide +kernel
theorem dX9_operand_71 : decode cX9_operand 71 = .ok (.invokevirtual 232, 3) := by decide +kernel
theorem dX9_operand_74 : decode cX9_operand 74 = .ok (.ifCond .ne 4, 3) := by decide +kernel
theorem dX9_operand_77 : decode cX9_operand 77 = .ok (.return_, 1) := by decide +kernel
theorem dX9_operand_78 : decode cX9_operand 78 = .ok (.aload_n 0, 1) := by decide +kernel
theorem dX9_operand_79 : decode cX9_operand 79 = .ok (.aload_n 0, 1) := by decide +kernel
theorem dX9_operand_80 : decode cX9_operand 80 = .ok (.getfield 17, 3) := by decide +kernel
theorem dX9_operand_83 : decode cX9_operand 83 = .ok (.iconst 2, 1) := by decide +kernel
theorem dX9_operand_84 : decode cX9_operand 84 = .ok (.if_icmp .ne 7, 3) := by decide +kernel
theorem dX9_operand_87 : decode cX9_operand 87 = .ok (.iconst (-1), 1) := by decide +kernel
theorem dX9_operand_88 : decode cX9_operand 88 = .ok (.goto 7, 3) := by decide +kernel
theorem dX9_operand_91 : decode cX9_operand 91 = .ok (.aload_n 0, 1) := by decide +kernel
theorem dX9_operand_92 : decode cX9_operand 92 = .ok (.invokevirtual 239, 3) := by decide +kernel
theorem dX9_operand_95 : decode cX9_operand 95 = .ok (.putfield 119, 3) := by decide +kernel
theorem dX9_operand_98 : decode cX9_operand 98 = .ok (.aload_n 0, 1) := by decide +kernel
theorem dX9_operand_99 : decode cX9_operand 99 = .ok (.aload_n 0, 1) := by decide +kernel
theorem dX9_operand_100 : decode cX9_operand 100 = .ok (.getfield 17, 3) := by decide +kernel
theorem dX9_operand_103 : decode cX9_operand 103 = .ok (.iconst 2, 1) := by decide +kernel
theorem dX9_operand_104 : decode cX9_operand 104 = .ok (.if_icmp .ne 22, 3) := by decide +kernel
theorem dX9_operand_107 : decode cX9_operand 107 = .ok (.iload_n 1, 1) := by decide +kernel
theorem dX9_operand_108 : decode cX9_operand 108 = .ok (.ifCond .eq 11, 3) := by decide +kernel
theorem dX9_operand_111 : decode cX9_operand 111 = .ok (.aload_n 0, 1) := by decide +kernel
theorem dX9_operand_112 : decode cX9_operand 112 = .ok (.getfield 29, 3) := by decide +kernel
theorem dX9_operand_115 : decode cX9_operand 115 = .ok (.ineg, 1) := by decide +kernel
theorem dX9_operand_116 : decode cX9_operand 116 = .ok (.goto 11, 3) := by decide +kernel
theorem dX9_operand_119 : decode cX9_operand 119 = .ok (.aload_n 0, 1) := by decide +kernel
theorem dX9_operand_120 : decode cX9_operand 120 = .ok (.getfield 29, 3) := by decide +kernel
theorem dX9_operand_123 : decode cX9_operand 123 = .ok (.goto 4, 3) := by decide +kernel
theorem dX9_operand_126 : decode cX9_operand 126 = .ok (.iconst 0, 1) := by decide +kernel
theorem dX9_operand_127 : decode cX9_operand 127 = .ok (.putfield 122, 3) := by decide +kernel
theorem dX9_operand_130 : decode cX9_operand 130 = .ok (.aload_n 0, 1) := by decide +kernel
theorem dX9_operand_131 : decode cX9_operand 131 = .ok (.invokevirtual 236, 3) := by decide +kernel
theorem dX9_operand_134 : decode cX9_operand 134 = .ok (.return_, 1) := by decide +kernel
theorem dX9_block_0 : decode cX9_block 0 = .ok (.aload_n 0, 1) := by decide +kernel
theorem dX9_block_1 : decode cX9_block 1 = .ok (.getfield 110, 3) := by decide +kernel
theorem dX9_block_4 : decode cX9_block 4 = .ok (.ifCond .le 5, 3) := by decide +kernel
theorem dX9_block_7 : decode cX9_block 7 = .ok (.iconst 0, 1) := by decide +kernel
theorem dX9_block_8 : decode cX9_block 8 = .ok (.ireturn, 1) := by decide +kernel
theorem dX9_block_9 : decode cX9_block 9 = .ok (.aload_n 0, 1) := by decide +kernel
theorem dX9_block_10 : decode cX9_block 10 = .ok (.bipush 98, 2) := by decide +kernel
theorem dX9_block_12 : decode cX9_block 12 = .ok (.bipush 39, 2) := by decide +kernel
theorem dX9_block_14 : decode cX9_block 14 = .ok (.invokevirtual 225, 3) := by decide +kernel
theorem dX9_block_17 : decode cX9_block 17 = .ok (.istore_n 1, 1) := by decide +kernel
theorem dX9_block_18 : decode cX9_block 18 = .ok (.aload_n 0, 1) := by decide +kernel
theorem dX9_block_19 : decode cX9_block 19 = .ok (.iload_n 1, 1) := by decide +kernel
theorem dX9_block_20 : decode cX9_block 20 = .ok (.ifCond .lt 7, 3) := by decide +kernel
theorem dX9_block_23 : decode cX9_block 23 = .ok (.iconst 1, 1) := by decide +kernel
theorem dX9_block_24 : decode cX9_block 24 = .ok (.goto 4, 3) := by decide +kernel
theorem dX9_block_27 : decode cX9_block 27 = .ok (.iconst 0, 1) := by decide +kernel
theorem dX9_block_28 : decode cX9_block 28 = .ok (.iconst 2, 1) := by decide +kernel
theorem dX9_block_29 : decode cX9_block 29 = .ok (.invokevirtual 232, 3) := by decide +kernel
theorem dX9_block_32 : decode cX9_block 32 = .ok (.ifCond .ne 5, 3) := by decide +kernel
theorem dX9_block_35 : decode cX9_block 35 = .ok (.iconst 0, 1) := by decide +kernel
theorem dX9_block_36 : decode cX9_block 36 = .ok (.ireturn, 1) := by decide +kernel
theorem dX9_block_37 : decode cX9_block 37 = .ok (.aload_n 0, 1) := by decide +kernel
theorem dX9_block_38 : decode cX9_block 38 = .ok (.getfield 132, 3) := by decide +kernel
theorem dX9_block_41 : decode cX9_block 41 = .ok (.aload_n 0, 1) := by decide +kernel
theorem dX9_block_42 : decode cX9_block 42 = .ok (.getfield 138, 3) := by decide +kernel
theorem dX9_block_45 : decode cX9_block 45 = .ok (.aload_n 0, 1) := by decide +kernel
theorem dX9_block_46 : decode cX9_block 46 = .ok (.getfield 20, 3) := by decide +kernel
theorem dX9_block_49 : decode cX9_block 49 = .ok (.iastore, 1) := by decide +kernel
theorem dX9_block_50 : decode cX9_block 50 = .ok (.aload_n 0, 1) := by decide +kernel
theorem dX9_block_51 : decode cX9_block 51 = .ok (.getfield 135, 3) := by decide +kernel
theorem dX9_block_54 : decode cX9_block 54 = .ok (.aload_n 0, 1) := by decide +kernel
theorem dX9_block_55 : decode cX9_block 55 = .ok (.getfield 138, 3) := by decide +kernel
theorem dX9_block_58 : decode cX9_block 58 = .ok (.iload_n 1, 1) := by decide +kernel
theorem dX9_block_59 : decode cX9_block 59 = .ok (.iastore, 1) := by decide +kernel
theorem dX9_block_60 : decode cX9_block 60 = .ok (.aload_n 0, 1) := by decide +kernel
theorem dX9_block_61 : decode cX9_block 61 = .ok (.dup, 1) := by decide +kernel
theorem dX9_block_62 : decode cX9_block 62 = .ok (.getfield 138, 3) := by decide +kernel
theorem dX9_block_65 : decode cX9_block 65 = .ok (.iconst 1, 1) := by decide +kernel
theorem dX9_block_66 : decode cX9_block 66 = .ok (.iadd, 1) := by decide +kernel
theorem dX9_block_67 : decode cX9_block 67 = .ok (.putfield 138, 3) := by decide +kernel
theorem dX9_block_70 : decode cX9_block 70 = .ok (.aload_n 0, 1) := by decide +kernel
theorem dX9_block_71 : decode cX9_block 71 = .ok (.invokevirtual 236, 3) := by decide +kernel
theorem dX9_block_74 : decode cX9_block 74 = .ok (.iload_n 1, 1) := by decide +kernel
theorem dX9_block_75 : decode cX9_block 75 = .ok (.ireturn, 1) := by decide +kernel
theorem dX9_mayBegin_0 : decode cX9_mayBegin 0 = .ok (.aload_n 0, 1) := by decide +kernel
theorem dX9_mayBegin_1 : decode cX9_mayBegin 1 = .ok (.invokevirtual 239, 3) := by decide +kernel
theorem dX9_mayBegin_4 : decode cX9_mayBegin 4 = .ok (.ifCond .ge 53, 3) := by decide +kernel
theorem dX9_mayBegin_7 : decode cX9_mayBegin 7 = .ok (.aload_n 0, 1) := by decide +kernel
theorem dX9_mayBegin_8 : decode cX9_mayBegin 8 = .ok (.bipush 114, 2) := by decide +kernel
theorem dX9_mayBegin_10 : decode cX9_mayBegin 10 = .ok (.iconst 1, 1) := by decide +kernel
theorem dX9_mayBegin_11 : decode cX9_mayBegin 11 = .ok (.invokevirtual 225, 3) := by decide +kernel
theorem dX9_mayBegin_14 : decode cX9_mayBegin 14 = .ok (.ifCond .ge 43, 3) := by decide +kernel
theorem dX9_mayBegin_17 : decode cX9_mayBegin 17 = .ok (.aload_n 0, 1) := by decide +kernel
theorem dX9_mayBegin_18 : decode cX9_mayBegin 18 = .ok (.ldc2_w 243, 3) := by decide +kernel
theorem dX9_mayBegin_21 : decode cX9_mayBegin 21 = .ok (.invokevirtual 245, 3) := by decide +kernel
theorem dX9_mayBegin_24 : decode cX9_mayBegin 24 = .ok (.ifCond .ne 33, 3) := by decide +kernel
theorem dX9_mayBegin_27 : decode cX9_mayBegin 27 = .ok (.aload_n 0, 1) := by decide +kernel
theorem dX9_mayBegin_28 : decode cX9_mayBegin 28 = .ok (.ldc2_w 249, 3) := by decide +kernel
theorem dX9_mayBegin_31 : decode cX9_mayBegin 31 = .ok (.invokevirtual 245, 3) := by decide +kernel
theorem dX9_mayBegin_34 : decode cX9_mayBegin 34 = .ok (.ifCond .ne 23, 3) := by decide +kernel
theorem dX9_mayBegin_37 : decode cX9_mayBegin 37 = .ok (.aload_n 0, 1) := by decide +kernel
theorem dX9_mayBegin_38 : decode cX9_mayBegin 38 = .ok (.ldc2_w 251, 3) := by decide +kernel
theorem dX9_mayBegin_41 : decode cX9_mayBegin 41 = .ok (.invokevirtual 245, 3) := by decide +kernel
theorem dX9_mayBegin_44 : decode cX9_mayBegin 44 = .ok (.ifCond .ne 13, 3) := by decide +kernel
theorem dX9_mayBegin_47 : decode cX9_mayBegin 47 = .ok (.aload_n 0, 1) := by decide +kernel
theorem dX9_mayBegin_48 : decode cX9_mayBegin 48 = .ok (.ldc2_w 253, 3) := by decide +kernel
theorem dX9_mayBegin_51 : decode cX9_mayBegin 51 = .ok (.invokevirtual 245, 3) := by decide +kernel
theorem dX9_mayBegin_54 : decode cX9_mayBegin 54 = .ok (.ifCond .eq 7, 3) := by decide +kernel
theorem dX9_mayBegin_57 : decode cX9_mayBegin 57 = .ok (.iconst 1, 1) := by decide +kernel
theorem dX9_mayBegin_58 : decode cX9_mayBegin 58 = .ok (.goto 4, 3) := by decide +kernel
theorem dX9_mayBegin_61 : decode cX9_mayBegin 61 = .ok (.iconst 0, 1) := by decide +kernel
theorem dX9_mayBegin_62 : decode cX9_mayBegin 62 = .ok (.ireturn, 1) := by decide +kernel
theorem dX9_statement_0 : decode cX9_statement 0 = .ok (.aload_n 0, 1) := by decide +kernel
theorem dX9_statement_1 : decode cX9_statement 1 = .ok (.aload_n 0, 1) := by decide +kernel
theorem dX9_statement_2 : decode cX9_statement 2 = .ok (.invokevirtual 255, 3) := by decide +kernel
theorem dX9_statement_5 : decode cX9_statement 5 = .ok (.iconst 2, 1) := by decide +kernel
theorem dX9_statement_6 : decode cX9_statement 6 = .ok (.invokevirtual 232, 3) := by decide +kernel
theorem dX9_statement_9 : decode cX9_statement 9 = .ok (.ifCond .eq 28, 3) := by decide +kernel
theorem dX9_statement_12 : decode cX9_statement 12 = .ok (.aload_n 0, 1) := by decide +kernel
theorem dX9_statement_13 : decode cX9_statement 13 = .ok (.aload_n 0, 1) := by decide +kernel
theorem dX9_statement_14 : decode cX9_statement 14 = .ok (.getfield 43, 3) := by decide +kernel
theorem dX9_statement_17 : decode cX9_statement 17 = .ok (.iconst 4, 1) := by decide +kernel
theorem dX9_statement_18 : decode cX9_statement 18 = .ok (.iaload, 1) := by decide +kernel
theorem dX9_statement_19 : decode cX9_statement 19 = .ok (.sipush 160, 3) := by decide +kernel
theorem dX9_statement_22 : decode cX9_statement 22 = .ok (.if_icmp .ge 7, 3) := by decide +kernel
theorem dX9_statement_25 : decode cX9_statement 25 = .ok (.iconst 1, 1) := by decide +kernel
theorem dX9_statement_26 : decode cX9_statement 26 = .ok (.goto 4, 3) := by decide +kernel
theorem dX9_statement_29 : decode cX9_statement 29 = .ok (.iconst 0, 1) := by decide +kernel
theorem dX9_statement_30 : decode cX9_statement 30 = .ok (.iconst 3, 1) := by decide +kernel
theorem dX9_statement_31 : decode cX9_statement 31 = .ok (.invokevirtual 232, 3) := by decide +kernel
theorem dX9_statement_34 : decode cX9_statement 34 = .ok (.ifCond .ne 5, 3) := by decide +kernel
theorem dX9_statement_37 : decode cX9_statement 37 = .ok (.iconst 1, 1) := by decide +kernel
theorem dX9_statement_38 : decode cX9_statement 38 = .ok (.ireturn, 1) := by decide +kernel
theorem dX9_statement_39 : decode cX9_statement 39 = .ok (.sipush 960, 3) := by decide +kernel
theorem dX9_statement_42 : decode cX9_statement 42 = .ok (.aload_n 0, 1) := by decide +kernel
theorem dX9_statement_43 : decode cX9_statement 43 = .ok (.getfield 43, 3) := by decide +kernel
theorem dX9_statement_46 : decode cX9_statement 46 = .ok (.iconst 4, 1) := by decide +kernel
theorem dX9_statement_47 : decode cX9_statement 47 = .ok (.iaload, 1) := by decide +kernel
theorem dX9_statement_48 : decode cX9_statement 48 = .ok (.iadd, 1) := by decide +kernel
theorem dX9_statement_49 : decode cX9_statement 49 = .ok (.istore_n 1, 1) := by decide +kernel
theorem dX9_statement_50 : decode cX9_statement 50 = .ok (.aload_n 0, 1) := by decide +kernel
theorem dX9_statement_51 : decode cX9_statement 51 = .ok (.getfield 43, 3) := by decide +kernel
theorem dX9_statement_54 : decode cX9_statement 54 = .ok (.iconst 4, 1) := by decide +kernel
theorem dX9_statement_55 : decode cX9_statement 55 = .ok (.dup2, 1) := by decide +kernel
theorem dX9_statement_56 : decode cX9_statement 56 = .ok (.iaload, 1) := by decide +kernel
theorem dX9_statement_57 : decode cX9_statement 57 = .ok (.iconst 1, 1) := by decide +kernel
theorem dX9_statement_58 : decode cX9_statement 58 = .ok (.iadd, 1) := by decide +kernel
theorem dX9_statement_59 : decode cX9_statement 59 = .ok (.iastore, 1) := by decide +kernel
theorem dX9_statement_60 : decode cX9_statement 60 = .ok (.aload_n 0, 1) := by decide +kernel
theorem dX9_statement_61 : decode cX9_statement 61 = .ok (.getfield 61, 3) := by decide +kernel
theorem dX9_statement_64 : decode cX9_statement 64 = .ok (.iload_n 1, 1) := by decide +kernel
theorem dX9_statement_65 : decode cX9_statement 65 = .ok (.aload_n 0, 1) := by decide +kernel
theorem dX9_statement_66 : decode cX9_statement 66 = .ok (.getfield 40, 3) := by decide +kernel
theorem dX9_statement_69 : decode cX9_statement 69 = .ok (.iconst 4, 1) := by decide +kernel
theorem dX9_statement_70 : decode cX9_statement 70 = .ok (.iaload, 1) := by decide +kernel
theorem dX9_statement_71 : decode cX9_statement 71 = .ok (.iconst 1, 1) := by decide +kernel
theorem dX9_statement_72 : decode cX9_statement 72 = .ok (.isub, 1) := by decide +kernel
theorem dX9_statement_73 : decode cX9_statement 73 = .ok (.iastore, 1) := by decide +kernel
theorem dX9_statement_74 : decode cX9_statement 74 = .ok (.aload_n 0, 1) := by decide +kernel
theorem dX9_statement_75 : decode cX9_statement 75 = .ok (.getfield 64, 3) := by decide +kernel
theorem dX9_statement_78 : decode cX9_statement 78 = .ok (.iload_n 1, 1) := by decide +kernel
theorem dX9_statement_79 : decode cX9_statement 79 = .ok (.iconst (-1), 1) := by decide +kernel
theorem dX9_statement_80 : decode cX9_statement 80 = .ok (.iastore, 1) := by decide +kernel
theorem dX9_statement_81 : decode cX9_statement 81 = .ok (.aload_n 0, 1) := by decide +kernel
theorem dX9_statement_82 : decode cX9_statement 82 = .ok (.getfield 67, 3) := by decide +kernel
theorem dX9_statement_85 : decode cX9_statement 85 = .ok (.iload_n 1, 1) := by decide +kernel
theorem dX9_statement_86 : decode cX9_statement 86 = .ok (.iconst (-1), 1) := by decide +kernel
theorem dX9_statement_87 : decode cX9_statement 87 = .ok (.iastore, 1) := by decide +kernel
theorem dX9_statement_88 : decode cX9_statement 88 = .ok (.aload_n 0, 1) := by decide +kernel
theorem dX9_statement_89 : decode cX9_statement 89 = .ok (.getfield 70, 3) := by decide +kernel
theorem dX9_statement_92 : decode cX9_statement 92 = .ok (.iload_n 1, 1) := by decide +kernel
theorem dX9_statement_93 : decode cX9_statement 93 = .ok (.iconst (-1), 1) := by decide +kernel
theorem dX9_statement_94 : decode cX9_statement 94 = .ok (.iastore, 1) := by decide +kernel
theorem dX9_statement_95 : decode cX9_statement 95 = .ok (.aload_n 0, 1) := by decide +kernel
theorem dX9_statement_96 : decode cX9_statement 96 = .ok (.getfield 73, 3) := by decide +kernel
theorem dX9_statement_99 : decode cX9_statement 99 = .ok (.iload_n 1, 1) := by decide +kernel
theorem dX9_statement_100 : decode cX9_statement 100 = .ok (.iconst (-1), 1) := by decide +kernel
theorem dX9_statement_101 : decode cX9_statement 101 = .ok (.iastore, 1) := by decide +kernel
theorem dX9_statement_102 : decode cX9_statement 102 = .ok (.aload_n 0, 1) := by decide +kernel
theorem dX9_statement_103 : decode cX9_statement 103 = .ok (.invokevirtual 239, 3) := by decide +kernel
theorem dX9_statement_106 : decode cX9_statement 106 = .ok (.istore_n 2, 1) := by decide +kernel
theorem dX9_statement_107 : decode cX9_statement 107 = .ok (.aload_n 0, 1) := by decide +kernel
theorem dX9_statement_108 : decode cX9_statement 108 = .ok (.bipush 114, 2) := by decide +kernel
theorem dX9_statement_110 : decode cX9_statement 110 = .ok (.iconst 1, 1) := by decide +kernel
theorem dX9_statement_111 : decode cX9_statement 111 = .ok (.invokevirtual 225, 3) := by decide +kernel
theorem dX9_statement_114 : decode cX9_statement 114 = .ok (.istore_n 3, 1) := by decide +kernel
theorem dX9_statement_115 : decode cX9_statement 115 = .ok (.iload_n 2, 1) := by decide +kernel
theorem dX9_statement_116 : decode cX9_statement 116 = .ok (.ifCond .ge 21, 3) := by decide +kernel
theorem dX9_statement_119 : decode cX9_statement 119 = .ok (.iload_n 3, 1) := by decide +kernel
theorem dX9_statement_120 : decode cX9_statement 120 = .ok (.ifCond .ge 17, 3) := by decide +kernel
theorem dX9_statement_123 : decode cX9_statement 123 = .ok (.aload_n 0, 1) := by decide +kernel
theorem dX9_statement_124 : decode cX9_statement 124 = .ok (.ldc2_w 243, 3) := by decide +kernel
theorem dX9_statement_127 : decode cX9_statement 127 = .ok (.invokevirtual 245, 3) := by decide +kernel
theorem dX9_statement_130 : decode cX9_statement 130 = .ok (.ifCond .ne 7, 3) := by decide +kernel
theorem dX9_statement_133 : decode cX9_statement 133 = .ok (.iconst 1, 1) := by decide +kernel
theorem dX9_statement_134 : decode cX9_statement 134 = .ok (.goto 4, 3) := by decide +kernel
theorem dX9_statement_137 : decode cX9_statement 137 = .ok (.iconst 0, 1) := by decide +kernel
theorem dX9_statement_138 : decode cX9_statement 138 = .ok (.istore 4, 2) := by decide +kernel
theorem dX9_statement_140 : decode cX9_statement 140 = .ok (.iload_n 2, 1) := by decide +kernel
theorem dX9_statement_141 : decode cX9_statement 141 = .ok (.ifCond .lt 12, 3) := by decide +kernel
theorem dX9_statement_144 : decode cX9_statement 144 = .ok (.aload_n 0, 1) := by decide +kernel
theorem dX9_statement_145 : decode cX9_statement 145 = .ok (.iload_n 1, 1) := by decide +kernel
theorem dX9_statement_146 : decode cX9_statement 146 = .ok (.iload_n 2, 1) := by decide +kernel
theorem dX9_statement_147 : decode cX9_statement 147 = .ok (.invokevirtual 259, 3) := by decide +kernel
theorem dX9_statement_150 : decode cX9_statement 150 = .ok (.goto 75, 3) := by decide +kernel
theorem dX9_statement_153 : decode cX9_statement 153 = .ok (.iload_n 3, 1) := by decide +kernel
theorem dX9_statement_154 : decode cX9_statement 154 = .ok (.ifCond .lt 12, 3) := by decide +kernel
theorem dX9_statement_157 : decode cX9_statement 157 = .ok (.aload_n 0, 1) := by decide +kernel
theorem dX9_statement_158 : decode cX9_statement 158 = .ok (.iload_n 1, 1) := by decide +kernel
theorem dX9_statement_159 : decode cX9_statement 159 = .ok (.iload_n 3, 1) := by decide +kernel
theorem dX9_statement_160 : decode cX9_statement 160 = .ok (.invokevirtual 263, 3) := by decide +kernel
theorem dX9_statement_163 : decode cX9_statement 163 = .ok (.goto 62, 3) := by decide +kernel
theorem dX9_statement_166 : decode cX9_statement 166 = .ok (.aload_n 0, 1) := by decide +kernel
theorem dX9_statement_167 : decode cX9_statement 167 = .ok (.ldc2_w 243, 3) := by decide +kernel
theorem dX9_statement_170 : decode cX9_statement 170 = .ok (.invokevirtual 245, 3) := by decide +kernel
theorem dX9_statement_173 : decode cX9_statement 173 = .ok (.ifCond .eq 11, 3) := by decide +kernel
theorem dX9_statement_176 : decode cX9_statement 176 = .ok (.aload_n 0, 1) := by decide +kernel
theorem dX9_statement_177 : decode cX9_statement 177 = .ok (.iload_n 1, 1) := by decide +kernel
theorem dX9_statement_178 : decode cX9_statement 178 = .ok (.invokevirtual 266, 3) := by decide +kernel
theorem dX9_statement_181 : decode cX9_statement 181 = .ok (.goto 44, 3) := by decide +kernel
theorem dX9_statement_184 : decode cX9_statement 184 = .ok (.aload_n 0, 1) := by decide +kernel
theorem dX9_statement_185 : decode cX9_statement 185 = .ok (.ldc2_w 249, 3) := by decide +kernel
theorem dX9_statement_188 : decode cX9_statement 188 = .ok (.invokevirtual 245, 3) := by decide +kernel
theorem dX9_statement_191 : decode cX9_statement 191 = .ok (.ifCond .eq 11, 3) := by decide +kernel
theorem dX9_statement_194 : decode cX9_statement 194 = .ok (.aload_n 0, 1) := by decide +kernel
theorem dX9_statement_195 : decode cX9_statement 195 = .ok (.iload_n 1, 1) := by decide +kernel
theorem dX9_statement_196 : decode cX9_statement 196 = .ok (.invokevirtual 270, 3) := by decide +kernel
theorem dX9_statement_199 : decode cX9_statement 199 = .ok (.goto 26, 3) := by decide +kernel
theorem dX9_statement_202 : decode cX9_statement 202 = .ok (.aload_n 0, 1) := by decide +kernel
theorem dX9_statement_203 : decode cX9_statement 203 = .ok (.ldc2_w 251, 3) := by decide +kernel
theorem dX9_statement_206 : decode cX9_statement 206 = .ok (.invokevirtual 245, 3) := by decide +kernel
theorem dX9_statement_209 : decode cX9_statement 209 = .ok (.ifCond .eq 11, 3) := by decide +kernel
theorem dX9_statement_212 : decode cX9_statement 212 = .ok (.aload_n 0, 1) := by decide +kernel
theorem dX9_statement_213 : decode cX9_statement 213 = .ok (.iload_n 1, 1) := by decide +kernel
theorem dX9_statement_214 : decode cX9_statement 214 = .ok (.invokevirtual 273, 3) := by decide +kernel
theorem dX9_statement_217 : decode cX9_statement 217 = .ok (.goto 8, 3) := by decide +kernel
theorem dX9_statement_220 : decode cX9_statement 220 = .ok (.aload_n 0, 1) := by decide +kernel
theorem dX9_statement_221 : decode cX9_statement 221 = .ok (.iload_n 1, 1) := by decide +kernel
theorem dX9_statement_222 : decode cX9_statement 222 = .ok (.invokevirtual 276, 3) := by decide +kernel
theorem dX9_statement_225 : decode cX9_statement 225 = .ok (.aload_n 0, 1) := by decide +kernel
theorem dX9_statement_226 : decode cX9_statement 226 = .ok (.bipush 59, 2) := by decide +kernel
theorem dX9_statement_228 : decode cX9_statement 228 = .ok (.invokevirtual 279, 3) := by decide +kernel
theorem dX9_statement_231 : decode cX9_statement 231 = .ok (.iload 4, 2) := by decide +kernel
theorem dX9_statement_233 : decode cX9_statement 233 = .ok (.ireturn, 1) := by decide +kernel
theorem dX9_leave_0 : decode cX9_leave 0 = .ok (.aload_n 0, 1) := by decide +kernel
theorem dX9_leave_1 : decode cX9_leave 1 = .ok (.getfield 58, 3) := by decide +kernel
theorem dX9_leave_4 : decode cX9_leave 4 = .ok (.iload_n 1, 1) := by decide +kernel
theorem dX9_leave_5 : decode cX9_leave 5 = .ok (.bipush 6, 2) := by decide +kernel
theorem dX9_leave_7 : decode cX9_leave 7 = .ok (.iastore, 1) := by decide +kernel
theorem dX9_leave_8 : decode cX9_leave 8 = .ok (.aload_n 0, 1) := by decide +kernel
theorem dX9_leave_9 : decode cX9_leave 9 = .ok (.invokevirtual 236, 3) := by decide +kernel
theorem dX9_leave_12 : decode cX9_leave 12 = .ok (.return_, 1) := by decide +kernel
theorem dX9_go_0 : decode cX9_go 0 = .ok (.aload_n 0, 1) := by decide +kernel
theorem dX9_go_1 : decode cX9_go 1 = .ok (.getfield 58, 3) := by decide +kernel
theorem dX9_go_4 : decode cX9_go 4 = .ok (.iload_n 1, 1) := by decide +kernel
theorem dX9_go_5 : decode cX9_go 5 = .ok (.iconst 4, 1) := by decide +kernel
theorem dX9_go_6 : decode cX9_go 6 = .ok (.iastore, 1) := by decide +kernel
theorem dX9_go_7 : decode cX9_go 7 = .ok (.aload_n 0, 1) := by decide +kernel
theorem dX9_go_8 : decode cX9_go 8 = .ok (.invokevirtual 236, 3) := by decide +kernel
theorem dX9_go_11 : decode cX9_go 11 = .ok (.aload_n 0, 1) := by decide +kernel
theorem dX9_go_12 : decode cX9_go 12 = .ok (.getfield 70, 3) := by decide +kernel
theorem dX9_go_15 : decode cX9_go 15 = .ok (.iload_n 1, 1) := by decide +kernel
theorem dX9_go_16 : decode cX9_go 16 = .ok (.aload_n 0, 1) := by decide +kernel
theorem dX9_go_17 : decode cX9_go 17 = .ok (.invokevirtual 282, 3) := by decide +kernel
theorem dX9_go_20 : decode cX9_go 20 = .ok (.iastore, 1) := by decide +kernel
theorem dX9_go_21 : decode cX9_go 21 = .ok (.return_, 1) := by decide +kernel
theorem dX9_test_0 : decode cX9_test 0 = .ok (.aload_n 0, 1) := by decide +kernel
theorem dX9_test_1 : decode cX9_test 1 = .ok (.getfield 58, 3) := by decide +kernel
theorem dX9_test_4 : decode cX9_test 4 = .ok (.iload_n 1, 1) := by decide +kernel
theorem dX9_test_5 : decode cX9_test 5 = .ok (.iconst 5, 1) := by decide +kernel
theorem dX9_test_6 : decode cX9_test 6 = .ok (.iastore, 1) := by decide +kernel
theorem dX9_test_7 : decode cX9_test 7 = .ok (.aload_n 0, 1) := by decide +kernel
theorem dX9_test_8 : decode cX9_test 8 = .ok (.invokevirtual 236, 3) := by decide +kernel
theorem dX9_test_11 : decode cX9_test 11 = .ok (.aload_n 0, 1) := by decide +kernel
theorem dX9_test_12 : decode cX9_test 12 = .ok (.iload_n 1, 1) := by decide +kernel
theorem dX9_test_13 : decode cX9_test 13 = .ok (.invokevirtual 285, 3) := by decide +kernel
theorem dX9_test_16 : decode cX9_test 16 = .ok (.aload_n 0, 1) := by decide +kernel
theorem dX9_test_17 : decode cX9_test 17 = .ok (.bipush 60, 2) := by decide +kernel
theorem dX9_test_19 : decode cX9_test 19 = .ok (.invokevirtual 279, 3) := by decide +kernel
theorem dX9_test_22 : decode cX9_test 22 = .ok (.aload_n 0, 1) := by decide +kernel
theorem dX9_test_23 : decode cX9_test 23 = .ok (.iload_n 1, 1) := by decide +kernel
theorem dX9_test_24 : decode cX9_test 24 = .ok (.invokevirtual 288, 3) := by decide +kernel
theorem dX9_test_27 : decode cX9_test 27 = .ok (.aload_n 0, 1) := by decide +kernel
theorem dX9_test_28 : decode cX9_test 28 = .ok (.getfield 70, 3) := by decide +kernel
theorem dX9_test_31 : decode cX9_test 31 = .ok (.iload_n 1, 1) := by decide +kernel
theorem dX9_test_32 : decode cX9_test 32 = .ok (.aload_n 0, 1) := by decide +kernel
theorem dX9_test_33 : decode cX9_test 33 = .ok (.invokevirtual 282, 3) := by decide +kernel
theorem dX9_test_36 : decode cX9_test 36 = .ok (.iastore, 1) := by decide +kernel
theorem dX9_test_37 : decode cX9_test 37 = .ok (.aload_n 0, 1) := by decide +kernel
theorem dX9_test_38 : decode cX9_test 38 = .ok (.getfield 73, 3) := by decide +kernel
theorem dX9_test_41 : decode cX9_test 41 = .ok (.iload_n 1, 1) := by decide +kernel
theorem dX9_test_42 : decode cX9_test 42 = .ok (.aload_n 0, 1) := by decide +kernel
theorem dX9_test_43 : decode cX9_test 43 = .ok (.invokevirtual 282, 3) := by decide +kernel
theorem dX9_test_46 : decode cX9_test 46 = .ok (.iastore, 1) := by decide +kernel
theorem dX9_test_47 : decode cX9_test 47 = .ok (.return_, 1) := by decide +kernel
theorem dX9_tell_0 : decode cX9_tell 0 = .ok (.aload_n 0, 1) := by decide +kernel
theorem dX9_tell_1 : decode cX9_tell 1 = .ok (.getfield 58, 3) := by decide +kernel
theorem dX9_tell_4 : decode cX9_tell 4 = .ok (.iload_n 1, 1) := by decide +kernel
theorem dX9_tell_5 : decode cX9_tell 5 = .ok (.iconst 3, 1) := by decide +kernel
theorem dX9_tell_6 : decode cX9_tell 6 = .ok (.iastore, 1) := by decide +kernel
theorem dX9_tell_7 : decode cX9_tell 7 = .ok (.aload_n 0, 1) := by decide +kernel
theorem dX9_tell_8 : decode cX9_tell 8 = .ok (.invokevirtual 236, 3) := by decide +kernel
theorem dX9_tell_11 : decode cX9_tell 11 = .ok (.aload_n 0, 1) := by decide +kernel
theorem dX9_tell_12 : decode cX9_tell 12 = .ok (.iload_n 1, 1) := by decide +kernel
theorem dX9_tell_13 : decode cX9_tell 13 = .ok (.invokevirtual 285, 3) := by decide +kernel
theorem dX9_tell_16 : decode cX9_tell 16 = .ok (.return_, 1) := by decide +kernel
theorem dX9_first_0 : decode cX9_first 0 = .ok (.aload_n 0, 1) := by decide +kernel
theorem dX9_first_1 : decode cX9_first 1 = .ok (.invokevirtual 291, 3) := by decide +kernel
theorem dX9_first_4 : decode cX9_first 4 = .ok (.aload_n 0, 1) := by decide +kernel
theorem dX9_first_5 : decode cX9_first 5 = .ok (.getfield 76, 3) := by decide +kernel
theorem dX9_first_8 : decode cX9_first 8 = .ok (.iload_n 1, 1) := by decide +kernel
theorem dX9_first_9 : decode cX9_first 9 = .ok (.aload_n 0, 1) := by decide +kernel
theorem dX9_first_10 : decode cX9_first 10 = .ok (.getfield 119, 3) := by decide +kernel
theorem dX9_first_13 : decode cX9_first 13 = .ok (.iastore, 1) := by decide +kernel
theorem dX9_first_14 : decode cX9_first 14 = .ok (.aload_n 0, 1) := by decide +kernel
theorem dX9_first_15 : decode cX9_first 15 = .ok (.getfield 79, 3) := by decide +kernel
theorem dX9_first_18 : decode cX9_first 18 = .ok (.iload_n 1, 1) := by decide +kernel
theorem dX9_first_19 : decode cX9_first 19 = .ok (.aload_n 0, 1) := by decide +kernel
theorem dX9_first_20 : decode cX9_first 20 = .ok (.getfield 122, 3) := by decide +kernel
theorem dX9_first_23 : decode cX9_first 23 = .ok (.iastore, 1) := by decide +kernel
theorem dX9_first_24 : decode cX9_first 24 = .ok (.return_, 1) := by decide +kernel
theorem dX9_second_0 : decode cX9_second 0 = .ok (.aload_n 0, 1) := by decide +kernel
theorem dX9_second_1 : decode cX9_second 1 = .ok (.invokevirtual 291, 3) := by decide +kernel
theorem dX9_second_4 : decode cX9_second 4 = .ok (.aload_n 0, 1) := by decide +kernel
theorem dX9_second_5 : decode cX9_second 5 = .ok (.getfield 82, 3) := by decide +kernel
theorem dX9_second_8 : decode cX9_second 8 = .ok (.iload_n 1, 1) := by decide +kernel
theorem dX9_second_9 : decode cX9_second 9 = .ok (.aload_n 0, 1) := by decide +kernel
theorem dX9_second_10 : decode cX9_second 10 = .ok (.getfield 119, 3) := by decide +kernel
theorem dX9_second_13 : decode cX9_second 13 = .ok (.iastore, 1) := by decide +kernel
theorem dX9_second_14 : decode cX9_second 14 = .ok (.aload_n 0, 1) := by decide +kernel
theorem dX9_second_15 : decode cX9_second 15 = .ok (.getfield 85, 3) := by decide +kernel
theorem dX9_second_18 : decode cX9_second 18 = .ok (.iload_n 1, 1) := by decide +kernel
theorem dX9_second_19 : decode cX9_second 19 = .ok (.aload_n 0, 1) := by decide +kernel
theorem dX9_second_20 : decode cX9_second 20 = .ok (.getfield 122, 3) := by decide +kernel
theorem dX9_second_23 : decode cX9_second 23 = .ok (.iastore, 1) := by decide +kernel
theorem dX9_second_24 : decode cX9_second 24 = .ok (.return_, 1) := by decide +kernel
theorem dX9_put_0 : decode cX9_put 0 = .ok (.aload_n 0, 1) := by decide +kernel
theorem dX9_put_1 : decode cX9_put 1 = .ok (.getfield 58, 3) := by decide +kernel
theorem dX9_put_4 : decode cX9_put 4 = .ok (.iload_n 1, 1) := by decide +kernel
theorem dX9_put_5 : decode cX9_put 5 = .ok (.iconst 2, 1) := by decide +kernel
theorem dX9_put_6 : decode cX9_put 6 = .ok (.iastore, 1) := by decide +kernel
theorem dX9_put_7 : decode cX9_put 7 = .ok (.aload_n 0, 1) := by decide +kernel
theorem dX9_put_8 : decode cX9_put 8 = .ok (.getfield 88, 3) := by decide +kernel
theorem dX9_put_11 : decode cX9_put 11 = .ok (.iload_n 1, 1) := by decide +kernel
theorem dX9_put_12 : decode cX9_put 12 = .ok (.iload_n 2, 1) := by decide +kernel
theorem dX9_put_13 : decode cX9_put 13 = .ok (.iastore, 1) := by decide +kernel
theorem dX9_put_14 : decode cX9_put 14 = .ok (.aload_n 0, 1) := by decide +kernel
theorem dX9_put_15 : decode cX9_put 15 = .ok (.invokevirtual 236, 3) := by decide +kernel
theorem dX9_put_18 : decode cX9_put 18 = .ok (.aload_n 0, 1) := by decide +kernel
theorem dX9_put_19 : decode cX9_put 19 = .ok (.bipush 91, 2) := by decide +kernel
theorem dX9_put_21 : decode cX9_put 21 = .ok (.invokevirtual 279, 3) := by decide +kernel
theorem dX9_put_24 : decode cX9_put 24 = .ok (.aload_n 0, 1) := by decide +kernel
theorem dX9_put_25 : decode cX9_put 25 = .ok (.iload_n 1, 1) := by decide +kernel
theorem dX9_put_26 : decode cX9_put 26 = .ok (.invokevirtual 285, 3) := by decide +kernel
theorem dX9_put_29 : decode cX9_put 29 = .ok (.aload_n 0, 1) := by decide +kernel
theorem dX9_put_30 : decode cX9_put 30 = .ok (.bipush 93, 2) := by decide +kernel
theorem dX9_put_32 : decode cX9_put 32 = .ok (.invokevirtual 279, 3) := by decide +kernel
theorem dX9_put_35 : decode cX9_put 35 = .ok (.aload_n 0, 1) := by decide +kernel
theorem dX9_put_36 : decode cX9_put 36 = .ok (.bipush 61, 2) := by decide +kernel
theorem dX9_put_38 : decode cX9_put 38 = .ok (.invokevirtual 279, 3) := by decide +kernel
theorem dX9_put_41 : decode cX9_put 41 = .ok (.aload_n 0, 1) := by decide +kernel
theorem dX9_put_42 : decode cX9_put 42 = .ok (.iload_n 1, 1) := by decide +kernel
theorem dX9_put_43 : decode cX9_put 43 = .ok (.invokevirtual 288, 3) := by decide +kernel
theorem dX9_put_46 : decode cX9_put 46 = .ok (.return_, 1) := by decide +kernel
theorem dX9_isOp_0 : decode cX9_isOp 0 = .ok (.aload_n 0, 1) := by decide +kernel
theorem dX9_isOp_1 : decode cX9_isOp 1 = .ok (.bipush 43, 2) := by decide +kernel
theorem dX9_isOp_3 : decode cX9_isOp 3 = .ok (.invokevirtual 229, 3) := by decide +kernel
theorem dX9_isOp_6 : decode cX9_isOp 6 = .ok (.ifCond .ne 48, 3) := by decide +kernel
theorem dX9_isOp_9 : decode cX9_isOp 9 = .ok (.aload_n 0, 1) := by decide +kernel
theorem dX9_isOp_10 : decode cX9_isOp 10 = .ok (.bipush 45, 2) := by decide +kernel
theorem dX9_isOp_12 : decode cX9_isOp 12 = .ok (.invokevirtual 229, 3) := by decide +kernel
theorem dX9_isOp_15 : decode cX9_isOp 15 = .ok (.ifCond .ne 39, 3) := by decide +kernel
theorem dX9_isOp_18 : decode cX9_isOp 18 = .ok (.aload_n 0, 1) := by decide +kernel
theorem dX9_isOp_19 : decode cX9_isOp 19 = .ok (.bipush 42, 2) := by decide +kernel
theorem dX9_isOp_21 : decode cX9_isOp 21 = .ok (.invokevirtual 229, 3) := by decide +kernel
theorem dX9_isOp_24 : decode cX9_isOp 24 = .ok (.ifCond .ne 30, 3) := by decide +kernel
theorem dX9_isOp_27 : decode cX9_isOp 27 = .ok (.aload_n 0, 1) := by decide +kernel
theorem dX9_isOp_28 : decode cX9_isOp 28 = .ok (.bipush 38, 2) := by decide +kernel
theorem dX9_isOp_30 : decode cX9_isOp 30 = .ok (.invokevirtual 229, 3) := by decide +kernel
theorem dX9_isOp_33 : decode cX9_isOp 33 = .ok (.ifCond .ne 21, 3) := by decide +kernel
theorem dX9_isOp_36 : decode cX9_isOp 36 = .ok (.aload_n 0, 1) := by decide +kernel
theorem dX9_isOp_37 : decode cX9_isOp 37 = .ok (.bipush 94, 2) := by decide +kernel
theorem dX9_isOp_39 : decode cX9_isOp 39 = .ok (.invokevirtual 229, 3) := by decide +kernel
theorem dX9_isOp_42 : decode cX9_isOp 42 = .ok (.ifCond .ne 12, 3) := by decide +kernel
theorem dX9_isOp_45 : decode cX9_isOp 45 = .ok (.aload_n 0, 1) := by decide +kernel
theorem dX9_isOp_46 : decode cX9_isOp 46 = .ok (.bipush 47, 2) := by decide +kernel
theorem dX9_isOp_48 : decode cX9_isOp 48 = .ok (.invokevirtual 229, 3) := by decide +kernel
theorem dX9_isOp_51 : decode cX9_isOp 51 = .ok (.ifCond .eq 7, 3) := by decide +kernel
theorem dX9_isOp_54 : decode cX9_isOp 54 = .ok (.iconst 1, 1) := by decide +kernel
theorem dX9_isOp_55 : decode cX9_isOp 55 = .ok (.goto 4, 3) := by decide +kernel
theorem dX9_isOp_58 : decode cX9_isOp 58 = .ok (.iconst 0, 1) := by decide +kernel
theorem dX9_isOp_59 : decode cX9_isOp 59 = .ok (.ireturn, 1) := by decide +kernel
theorem dX9_assigned_0 : decode cX9_assigned 0 = .ok (.aload_n 0, 1) := by decide +kernel
theorem dX9_assigned_1 : decode cX9_assigned 1 = .ok (.getfield 58, 3) := by decide +kernel
theorem dX9_assigned_4 : decode cX9_assigned 4 = .ok (.iload_n 1, 1) := by decide +kernel
theorem dX9_assigned_5 : decode cX9_assigned 5 = .ok (.iconst 1, 1) := by decide +kernel
theorem dX9_assigned_6 : decode cX9_assigned 6 = .ok (.iastore, 1) := by decide +kernel
theorem dX9_assigned_7 : decode cX9_assigned 7 = .ok (.aload_n 0, 1) := by decide +kernel
theorem dX9_assigned_8 : decode cX9_assigned 8 = .ok (.getfield 64, 3) := by decide +kernel
theorem dX9_assigned_11 : decode cX9_assigned 11 = .ok (.iload_n 1, 1) := by decide +kernel
theorem dX9_assigned_12 : decode cX9_assigned 12 = .ok (.iload_n 2, 1) := by decide +kernel
theorem dX9_assigned_13 : decode cX9_assigned 13 = .ok (.iastore, 1) := by decide +kernel
theorem dX9_assigned_14 : decode cX9_assigned 14 = .ok (.aload_n 0, 1) := by decide +kernel
theorem dX9_assigned_15 : decode cX9_assigned 15 = .ok (.invokevirtual 236, 3) := by decide +kernel
theorem dX9_assigned_18 : decode cX9_assigned 18 = .ok (.aload_n 0, 1) := by decide +kernel
theorem dX9_assigned_19 : decode cX9_assigned 19 = .ok (.bipush 61, 2) := by decide +kernel
theorem dX9_assigned_21 : decode cX9_assigned 21 = .ok (.invokevirtual 279, 3) := by decide +kernel
theorem dX9_assigned_24 : decode cX9_assigned 24 = .ok (.aload_n 0, 1) := by decide +kernel
theorem dX9_assigned_25 : decode cX9_assigned 25 = .ok (.getfield 110, 3) := by decide +kernel
theorem dX9_assigned_28 : decode cX9_assigned 28 = .ok (.ifCond .le 4, 3) := by decide +kernel
theorem dX9_assigned_31 : decode cX9_assigned 31 = .ok (.return_, 1) := by decide +kernel
theorem dX9_assigned_32 : decode cX9_assigned 32 = .ok (.aload_n 0, 1) := by decide +kernel
theorem dX9_assigned_33 : decode cX9_assigned 33 = .ok (.bipush 114, 2) := by decide +kernel
theorem dX9_assigned_35 : decode cX9_assigned 35 = .ok (.iconst 1, 1) := by decide +kernel
theorem dX9_assigned_36 : decode cX9_assigned 36 = .ok (.invokevirtual 225, 3) := by decide +kernel
theorem dX9_assigned_39 : decode cX9_assigned 39 = .ok (.istore_n 3, 1) := by decide +kernel
theorem dX9_assigned_40 : decode cX9_assigned 40 = .ok (.iload_n 3, 1) := by decide +kernel
theorem dX9_assigned_41 : decode cX9_assigned 41 = .ok (.ifCond .lt 48, 3) := by decide +kernel
theorem dX9_assigned_44 : decode cX9_assigned 44 = .ok (.aload_n 0, 1) := by decide +kernel
theorem dX9_assigned_45 : decode cX9_assigned 45 = .ok (.invokevirtual 236, 3) := by decide +kernel
theorem dX9_assigned_48 : decode cX9_assigned 48 = .ok (.aload_n 0, 1) := by decide +kernel
theorem dX9_assigned_49 : decode cX9_assigned 49 = .ok (.bipush 91, 2) := by decide +kernel
theorem dX9_assigned_51 : decode cX9_assigned 51 = .ok (.invokevirtual 279, 3) := by decide +kernel
theorem dX9_assigned_54 : decode cX9_assigned 54 = .ok (.aload_n 0, 1) := by decide +kernel
theorem dX9_assigned_55 : decode cX9_assigned 55 = .ok (.invokevirtual 291, 3) := by decide +kernel
theorem dX9_assigned_58 : decode cX9_assigned 58 = .ok (.aload_n 0, 1) := by decide +kernel
theorem dX9_assigned_59 : decode cX9_assigned 59 = .ok (.bipush 93, 2) := by decide +kernel
theorem dX9_assigned_61 : decode cX9_assigned 61 = .ok (.invokevirtual 279, 3) := by decide +kernel
theorem dX9_assigned_64 : decode cX9_assigned 64 = .ok (.aload_n 0, 1) := by decide +kernel
theorem dX9_assigned_65 : decode cX9_assigned 65 = .ok (.getfield 110, 3) := by decide +kernel
theorem dX9_assigned_68 : decode cX9_assigned 68 = .ok (.ifCond .ne 20, 3) := by decide +kernel
theorem dX9_assigned_71 : decode cX9_assigned 71 = .ok (.aload_n 0, 1) := by decide +kernel
theorem dX9_assigned_72 : decode cX9_assigned 72 = .ok (.iload_n 1, 1) := by decide +kernel
theorem dX9_assigned_73 : decode cX9_assigned 73 = .ok (.bipush 114, 2) := by decide +kernel
theorem dX9_assigned_75 : decode cX9_assigned 75 = .ok (.iconst (-1), 1) := by decide +kernel
theorem dX9_assigned_76 : decode cX9_assigned 76 = .ok (.iload_n 3, 1) := by decide +kernel
theorem dX9_assigned_77 : decode cX9_assigned 77 = .ok (.aload_n 0, 1) := by decide +kernel
theorem dX9_assigned_78 : decode cX9_assigned 78 = .ok (.getfield 119, 3) := by decide +kernel
theorem dX9_assigned_81 : decode cX9_assigned 81 = .ok (.aload_n 0, 1) := by decide +kernel
theorem dX9_assigned_82 : decode cX9_assigned 82 = .ok (.getfield 122, 3) := by decide +kernel
theorem dX9_assigned_85 : decode cX9_assigned 85 = .ok (.invokevirtual 294, 3) := by decide +kernel
theorem dX9_assigned_88 : decode cX9_assigned 88 = .ok (.return_, 1) := by decide +kernel
theorem dX9_assigned_89 : decode cX9_assigned 89 = .ok (.aload_n 0, 1) := by decide +kernel
theorem dX9_assigned_90 : decode cX9_assigned 90 = .ok (.iload_n 1, 1) := by decide +kernel
theorem dX9_assigned_91 : decode cX9_assigned 91 = .ok (.invokevirtual 285, 3) := by decide +kernel
theorem dX9_assigned_94 : decode cX9_assigned 94 = .ok (.aload_n 0, 1) := by decide +kernel
theorem dX9_assigned_95 : decode cX9_assigned 95 = .ok (.getfield 110, 3) := by decide +kernel
theorem dX9_assigned_98 : decode cX9_assigned 98 = .ok (.ifCond .gt 10, 3) := by decide +kernel
theorem dX9_assigned_101 : decode cX9_assigned 101 = .ok (.aload_n 0, 1) := by decide +kernel
theorem dX9_assigned_102 : decode cX9_assigned 102 = .ok (.invokevirtual 298, 3) := by decide +kernel
theorem dX9_assigned_105 : decode cX9_assigned 105 = .ok (.ifCond .ne 4, 3) := by decide +kernel
theorem dX9_assigned_108 : decode cX9_assigned 108 = .ok (.return_, 1) := by decide +kernel
theorem dX9_assigned_109 : decode cX9_assigned 109 = .ok (.aload_n 0, 1) := by decide +kernel
theorem dX9_assigned_110 : decode cX9_assigned 110 = .ok (.getfield 29, 3) := by decide +kernel
theorem dX9_assigned_113 : decode cX9_assigned 113 = .ok (.istore 4, 2) := by decide +kernel
theorem dX9_assigned_115 : decode cX9_assigned 115 = .ok (.aload_n 0, 1) := by decide +kernel
theorem dX9_assigned_116 : decode cX9_assigned 116 = .ok (.invokevirtual 236, 3) := by decide +kernel
theorem dX9_assigned_119 : decode cX9_assigned 119 = .ok (.aload_n 0, 1) := by decide +kernel
theorem dX9_assigned_120 : decode cX9_assigned 120 = .ok (.invokevirtual 291, 3) := by decide +kernel
theorem dX9_assigned_123 : decode cX9_assigned 123 = .ok (.aload_n 0, 1) := by decide +kernel
theorem dX9_assigned_124 : decode cX9_assigned 124 = .ok (.getfield 110, 3) := by decide +kernel
theorem dX9_assigned_127 : decode cX9_assigned 127 = .ok (.ifCond .ne 30, 3) := by decide +kernel
theorem dX9_assigned_130 : decode cX9_assigned 130 = .ok (.aload_n 0, 1) := by decide +kernel
theorem dX9_assigned_131 : decode cX9_assigned 131 = .ok (.iload_n 1, 1) := by decide +kernel
theorem dX9_assigned_132 : decode cX9_assigned 132 = .ok (.iload 4, 2) := by decide +kernel
theorem dX9_assigned_134 : decode cX9_assigned 134 = .ok (.aload_n 0, 1) := by decide +kernel
theorem dX9_assigned_135 : decode cX9_assigned 135 = .ok (.getfield 76, 3) := by decide +kernel
theorem dX9_assigned_138 : decode cX9_assigned 138 = .ok (.iload_n 1, 1) := by decide +kernel
theorem dX9_assigned_139 : decode cX9_assigned 139 = .ok (.iaload, 1) := by decide +kernel
theorem dX9_assigned_140 : decode cX9_assigned 140 = .ok (.aload_n 0, 1) := by decide +kernel
theorem dX9_assigned_141 : decode cX9_assigned 141 = .ok (.getfield 79, 3) := by decide +kernel
theorem dX9_assigned_144 : decode cX9_assigned 144 = .ok (.iload_n 1, 1) := by decide +kernel
theorem dX9_assigned_145 : decode cX9_assigned 145 = .ok (.iaload, 1) := by decide +kernel
theorem dX9_assigned_146 : decode cX9_assigned 146 = .ok (.aload_n 0, 1) := by decide +kernel
theorem dX9_assigned_147 : decode cX9_assigned 147 = .ok (.getfield 119, 3) := by decide +kernel
theorem dX9_assigned_150 : decode cX9_assigned 150 = .ok (.aload_n 0, 1) := by decide +kernel
theorem dX9_assigned_151 : decode cX9_assigned 151 = .ok (.getfield 122, 3) := by decide +kernel
theorem dX9_assigned_154 : decode cX9_assigned 154 = .ok (.invokevirtual 294, 3) := by decide +kernel
theorem dX9_assigned_157 : decode cX9_assigned 157 = .ok (.return_, 1) := by decide +kernel
theorem dX9_summed_0 : decode cX9_summed 0 = .ok (.aload_n 0, 1) := by decide +kernel
theorem dX9_summed_1 : decode cX9_summed 1 = .ok (.getfield 58, 3) := by decide +kernel
theorem dX9_summed_4 : decode cX9_summed 4 = .ok (.iload_n 1, 1) := by decide +kernel
theorem dX9_summed_5 : decode cX9_summed 5 = .ok (.iconst 0, 1) := by decide +kernel
theorem dX9_summed_6 : decode cX9_summed 6 = .ok (.iastore, 1) := by decide +kernel
theorem dX9_summed_7 : decode cX9_summed 7 = .ok (.iconst 0, 1) := by decide +kernel
theorem dX9_summed_8 : decode cX9_summed 8 = .ok (.istore 7, 2) := by decide +kernel
theorem dX9_summed_10 : decode cX9_summed 10 = .ok (.sipush 128, 3) := by decide +kernel
theorem dX9_summed_13 : decode cX9_summed 13 = .ok (.istore 8, 2) := by decide +kernel
theorem dX9_summed_15 : decode cX9_summed 15 = .ok (.iload 7, 2) := by decide +kernel
theorem dX9_summed_17 : decode cX9_summed 17 = .ok (.aload_n 0, 1) := by decide +kernel
theorem dX9_summed_18 : decode cX9_summed 18 = .ok (.getfield 49, 3) := by decide +kernel
theorem dX9_summed_21 : decode cX9_summed 21 = .ok (.iconst 4, 1) := by decide +kernel
theorem dX9_summed_22 : decode cX9_summed 22 = .ok (.iaload, 1) := by decide +kernel
theorem dX9_summed_23 : decode cX9_summed 23 = .ok (.if_icmp .ge 82, 3) := by decide +kernel
theorem dX9_summed_26 : decode cX9_summed 26 = .ok (.aload_n 0, 1) := by decide +kernel
theorem dX9_summed_27 : decode cX9_summed 27 = .ok (.getfield 91, 3) := by decide +kernel
theorem dX9_summed_30 : decode cX9_summed 30 = .ok (.iload 8, 2) := by decide +kernel
theorem dX9_summed_32 : decode cX9_summed 32 = .ok (.iload 7, 2) := by decide +kernel
theorem dX9_summed_34 : decode cX9_summed 34 = .ok (.iadd, 1) := by decide +kernel
theorem dX9_summed_35 : decode cX9_summed 35 = .ok (.iaload, 1) := by decide +kernel
theorem dX9_summed_36 : decode cX9_summed 36 = .ok (.iload_n 2, 1) := by decide +kernel
theorem dX9_summed_37 : decode cX9_summed 37 = .ok (.if_icmp .ne 62, 3) := by decide +kernel
theorem dX9_summed_40 : decode cX9_summed 40 = .ok (.aload_n 0, 1) := by decide +kernel
theorem dX9_summed_41 : decode cX9_summed 41 = .ok (.getfield 94, 3) := by decide +kernel
theorem dX9_summed_44 : decode cX9_summed 44 = .ok (.iload 8, 2) := by decide +kernel
theorem dX9_summed_46 : decode cX9_summed 46 = .ok (.iload 7, 2) := by decide +kernel
theorem dX9_summed_48 : decode cX9_summed 48 = .ok (.iadd, 1) := by decide +kernel
theorem dX9_summed_49 : decode cX9_summed 49 = .ok (.iaload, 1) := by decide +kernel
theorem dX9_summed_50 : decode cX9_summed 50 = .ok (.iload_n 3, 1) := by decide +kernel
theorem dX9_summed_51 : decode cX9_summed 51 = .ok (.if_icmp .ne 48, 3) := by decide +kernel
theorem dX9_summed_54 : decode cX9_summed 54 = .ok (.aload_n 0, 1) := by decide +kernel
theorem dX9_summed_55 : decode cX9_summed 55 = .ok (.getfield 97, 3) := by decide +kernel
theorem dX9_summed_58 : decode cX9_summed 58 = .ok (.iload 8, 2) := by decide +kernel
theorem dX9_summed_60 : decode cX9_summed 60 = .ok (.iload 7, 2) := by decide +kernel
theorem dX9_summed_62 : decode cX9_summed 62 = .ok (.iadd, 1) := by decide +kernel
theorem dX9_summed_63 : decode cX9_summed 63 = .ok (.iaload, 1) := by decide +kernel
theorem dX9_summed_64 : decode cX9_summed 64 = .ok (.iload 4, 2) := by decide +kernel
theorem dX9_summed_66 : decode cX9_summed 66 = .ok (.if_icmp .ne 33, 3) := by decide +kernel
theorem dX9_summed_69 : decode cX9_summed 69 = .ok (.aload_n 0, 1) := by decide +kernel
theorem dX9_summed_70 : decode cX9_summed 70 = .ok (.getfield 100, 3) := by decide +kernel
theorem dX9_summed_73 : decode cX9_summed 73 = .ok (.iload 8, 2) := by decide +kernel
theorem dX9_summed_75 : decode cX9_summed 75 = .ok (.iload 7, 2) := by decide +kernel
theorem dX9_summed_77 : decode cX9_summed 77 = .ok (.iadd, 1) := by decide +kernel
theorem dX9_summed_78 : decode cX9_summed 78 = .ok (.iaload, 1) := by decide +kernel
theorem dX9_summed_79 : decode cX9_summed 79 = .ok (.iload 5, 2) := by decide +kernel
theorem dX9_summed_81 : decode cX9_summed 81 = .ok (.if_icmp .ne 18, 3) := by decide +kernel
theorem dX9_summed_84 : decode cX9_summed 84 = .ok (.aload_n 0, 1) := by decide +kernel
theorem dX9_summed_85 : decode cX9_summed 85 = .ok (.getfield 103, 3) := by decide +kernel
theorem dX9_summed_88 : decode cX9_summed 88 = .ok (.iload 8, 2) := by decide +kernel
theorem dX9_summed_90 : decode cX9_summed 90 = .ok (.iload 7, 2) := by decide +kernel
theorem dX9_summed_92 : decode cX9_summed 92 = .ok (.iadd, 1) := by decide +kernel
theorem dX9_summed_93 : decode cX9_summed 93 = .ok (.iaload, 1) := by decide +kernel
theorem dX9_summed_94 : decode cX9_summed 94 = .ok (.iload 6, 2) := by decide +kernel
theorem dX9_summed_96 : decode cX9_summed 96 = .ok (.if_icmp .eq 9, 3) := by decide +kernel
theorem dX9_summed_99 : decode cX9_summed 99 = .ok (.iinc 7 1, 3) := by decide +kernel
theorem dX9_summed_102 : decode cX9_summed 102 = .ok (.goto (-87), 3) := by decide +kernel
theorem dX9_summed_105 : decode cX9_summed 105 = .ok (.aload_n 0, 1) := by decide +kernel
theorem dX9_summed_106 : decode cX9_summed 106 = .ok (.getfield 67, 3) := by decide +kernel
theorem dX9_summed_109 : decode cX9_summed 109 = .ok (.iload_n 1, 1) := by decide +kernel
theorem dX9_summed_110 : decode cX9_summed 110 = .ok (.iload 7, 2) := by decide +kernel
theorem dX9_summed_112 : decode cX9_summed 112 = .ok (.iastore, 1) := by decide +kernel
theorem dX9_summed_113 : decode cX9_summed 113 = .ok (.iload 7, 2) := by decide +kernel
theorem dX9_summed_115 : decode cX9_summed 115 = .ok (.aload_n 0, 1) := by decide +kernel
theorem dX9_summed_116 : decode cX9_summed 116 = .ok (.getfield 49, 3) := by decide +kernel
theorem dX9_summed_119 : decode cX9_summed 119 = .ok (.iconst 4, 1) := by decide +kernel
theorem dX9_summed_120 : decode cX9_summed 120 = .ok (.iaload, 1) := by decide +kernel
theorem dX9_summed_121 : decode cX9_summed 121 = .ok (.if_icmp .ge 4, 3) := by decide +kernel
theorem dX9_summed_124 : decode cX9_summed 124 = .ok (.return_, 1) := by decide +kernel
theorem dX9_summed_125 : decode cX9_summed 125 = .ok (.iload 7, 2) := by decide +kernel
theorem dX9_summed_127 : decode cX9_summed 127 = .ok (.bipush 32, 2) := by decide +kernel
theorem dX9_summed_129 : decode cX9_summed 129 = .ok (.if_icmp .ne 9, 3) := by decide +kernel
theorem dX9_summed_132 : decode cX9_summed 132 = .ok (.aload_n 0, 1) := by decide +kernel
theorem dX9_summed_133 : decode cX9_summed 133 = .ok (.iconst 1, 1) := by decide +kernel
theorem dX9_summed_134 : decode cX9_summed 134 = .ok (.putfield 128, 3) := by decide +kernel
theorem dX9_summed_137 : decode cX9_summed 137 = .ok (.return_, 1) := by decide +kernel
theorem dX9_summed_138 : decode cX9_summed 138 = .ok (.aload_n 0, 1) := by decide +kernel
theorem dX9_summed_139 : decode cX9_summed 139 = .ok (.getfield 91, 3) := by decide +kernel
theorem dX9_summed_142 : decode cX9_summed 142 = .ok (.iload 8, 2) := by decide +kernel
theorem dX9_summed_144 : decode cX9_summed 144 = .ok (.iload 7, 2) := by decide +kernel
theorem dX9_summed_146 : decode cX9_summed 146 = .ok (.iadd, 1) := by decide +kernel
theorem dX9_summed_147 : decode cX9_summed 147 = .ok (.iload_n 2, 1) := by decide +kernel
theorem dX9_summed_148 : decode cX9_summed 148 = .ok (.iastore, 1) := by decide +kernel
theorem dX9_summed_149 : decode cX9_summed 149 = .ok (.aload_n 0, 1) := by decide +kernel
theorem dX9_summed_150 : decode cX9_summed 150 = .ok (.getfield 94, 3) := by decide +kernel
theorem dX9_summed_153 : decode cX9_summed 153 = .ok (.iload 8, 2) := by decide +kernel
theorem dX9_summed_155 : decode cX9_summed 155 = .ok (.iload 7, 2) := by decide +kernel
theorem dX9_summed_157 : decode cX9_summed 157 = .ok (.iadd, 1) := by decide +kernel
theorem dX9_summed_158 : decode cX9_summed 158 = .ok (.iload_n 3, 1) := by decide +kernel
theorem dX9_summed_159 : decode cX9_summed 159 = .ok (.iastore, 1) := by decide +kernel
theorem dX9_summed_160 : decode cX9_summed 160 = .ok (.aload_n 0, 1) := by decide +kernel
theorem dX9_summed_161 : decode cX9_summed 161 = .ok (.getfield 97, 3) := by decide +kernel
theorem dX9_summed_164 : decode cX9_summed 164 = .ok (.iload 8, 2) := by decide +kernel
theorem dX9_summed_166 : decode cX9_summed 166 = .ok (.iload 7, 2) := by decide +kernel
theorem dX9_summed_168 : decode cX9_summed 168 = .ok (.iadd, 1) := by decide +kernel
theorem dX9_summed_169 : decode cX9_summed 169 = .ok (.iload 4, 2) := by decide +kernel
theorem dX9_summed_171 : decode cX9_summed 171 = .ok (.iastore, 1) := by decide +kernel
theorem dX9_summed_172 : decode cX9_summed 172 = .ok (.aload_n 0, 1) := by decide +kernel
theorem dX9_summed_173 : decode cX9_summed 173 = .ok (.getfield 100, 3) := by decide +kernel
theorem dX9_summed_176 : decode cX9_summed 176 = .ok (.iload 8, 2) := by decide +kernel
theorem dX9_summed_178 : decode cX9_summed 178 = .ok (.iload 7, 2) := by decide +kernel
theorem dX9_summed_180 : decode cX9_summed 180 = .ok (.iadd, 1) := by decide +kernel
theorem dX9_summed_181 : decode cX9_summed 181 = .ok (.iload 5, 2) := by decide +kernel
theorem dX9_summed_183 : decode cX9_summed 183 = .ok (.iastore, 1) := by decide +kernel
theorem dX9_summed_184 : decode cX9_summed 184 = .ok (.aload_n 0, 1) := by decide +kernel
theorem dX9_summed_185 : decode cX9_summed 185 = .ok (.getfield 103, 3) := by decide +kernel
theorem dX9_summed_188 : decode cX9_summed 188 = .ok (.iload 8, 2) := by decide +kernel
theorem dX9_summed_190 : decode cX9_summed 190 = .ok (.iload 7, 2) := by decide +kernel
theorem dX9_summed_192 : decode cX9_summed 192 = .ok (.iadd, 1) := by decide +kernel
theorem dX9_summed_193 : decode cX9_summed 193 = .ok (.iload 6, 2) := by decide +kernel
theorem dX9_summed_195 : decode cX9_summed 195 = .ok (.iastore, 1) := by decide +kernel
theorem dX9_summed_196 : decode cX9_summed 196 = .ok (.aload_n 0, 1) := by decide +kernel
theorem dX9_summed_197 : decode cX9_summed 197 = .ok (.getfield 49, 3) := by decide +kernel
theorem dX9_summed_200 : decode cX9_summed 200 = .ok (.iconst 4, 1) := by decide +kernel
theorem dX9_summed_201 : decode cX9_summed 201 = .ok (.dup2, 1) := by decide +kernel
theorem dX9_summed_202 : decode cX9_summed 202 = .ok (.iaload, 1) := by decide +kernel
theorem dX9_summed_203 : decode cX9_summed 203 = .ok (.iconst 1, 1) := by decide +kernel
theorem dX9_summed_204 : decode cX9_summed 204 = .ok (.iadd, 1) := by decide +kernel
theorem dX9_summed_205 : decode cX9_summed 205 = .ok (.iastore, 1) := by decide +kernel
theorem dX9_summed_206 : decode cX9_summed 206 = .ok (.return_, 1) := by decide +kernel
theorem dX9_readBlock_0 : decode cX9_readBlock 0 = .ok (.aload_n 0, 1) := by decide +kernel
theorem dX9_readBlock_1 : decode cX9_readBlock 1 = .ok (.getfield 40, 3) := by decide +kernel
theorem dX9_readBlock_4 : decode cX9_readBlock 4 = .ok (.iconst 4, 1) := by decide +kernel
theorem dX9_readBlock_5 : decode cX9_readBlock 5 = .ok (.iaload, 1) := by decide +kernel
theorem dX9_readBlock_6 : decode cX9_readBlock 6 = .ok (.istore_n 1, 1) := by decide +kernel
theorem dX9_readBlock_7 : decode cX9_readBlock 7 = .ok (.aload_n 0, 1) := by decide +kernel
theorem dX9_readBlock_8 : decode cX9_readBlock 8 = .ok (.iload_n 1, 1) := by decide +kernel
theorem dX9_readBlock_9 : decode cX9_readBlock 9 = .ok (.bipush 40, 2) := by decide +kernel
theorem dX9_readBlock_11 : decode cX9_readBlock 11 = .ok (.if_icmp .ge 7, 3) := by decide +kernel
theorem dX9_readBlock_14 : decode cX9_readBlock 14 = .ok (.iconst 1, 1) := by decide +kernel
theorem dX9_readBlock_15 : decode cX9_readBlock 15 = .ok (.goto 4, 3) := by decide +kernel
theorem dX9_readBlock_18 : decode cX9_readBlock 18 = .ok (.iconst 0, 1) := by decide +kernel
theorem dX9_readBlock_19 : decode cX9_readBlock 19 = .ok (.iconst 3, 1) := by decide +kernel
theorem dX9_readBlock_20 : decode cX9_readBlock 20 = .ok (.invokevirtual 232, 3) := by decide +kernel
theorem dX9_readBlock_23 : decode cX9_readBlock 23 = .ok (.ifCond .eq 28, 3) := by decide +kernel
theorem dX9_readBlock_26 : decode cX9_readBlock 26 = .ok (.aload_n 0, 1) := by decide +kernel
theorem dX9_readBlock_27 : decode cX9_readBlock 27 = .ok (.aload_n 0, 1) := by decide +kernel
theorem dX9_readBlock_28 : decode cX9_readBlock 28 = .ok (.bipush 98, 2) := by decide +kernel
theorem dX9_readBlock_30 : decode cX9_readBlock 30 = .ok (.bipush 39, 2) := by decide +kernel
theorem dX9_readBlock_32 : decode cX9_readBlock 32 = .ok (.invokevirtual 225, 3) := by decide +kernel
theorem dX9_readBlock_35 : decode cX9_readBlock 35 = .ok (.iload_n 1, 1) := by decide +kernel
theorem dX9_readBlock_36 : decode cX9_readBlock 36 = .ok (.if_icmp .ne 7, 3) := by decide +kernel
theorem dX9_readBlock_39 : decode cX9_readBlock 39 = .ok (.iconst 1, 1) := by decide +kernel
theorem dX9_readBlock_40 : decode cX9_readBlock 40 = .ok (.goto 4, 3) := by decide +kernel
theorem dX9_readBlock_43 : decode cX9_readBlock 43 = .ok (.iconst 0, 1) := by decide +kernel
theorem dX9_readBlock_44 : decode cX9_readBlock 44 = .ok (.iconst 2, 1) := by decide +kernel
theorem dX9_readBlock_45 : decode cX9_readBlock 45 = .ok (.invokevirtual 232, 3) := by decide +kernel
theorem dX9_readBlock_48 : decode cX9_readBlock 48 = .ok (.ifCond .ne 4, 3) := by decide +kernel
theorem dX9_readBlock_51 : decode cX9_readBlock 51 = .ok (.return_, 1) := by decide +kernel
theorem dX9_readBlock_52 : decode cX9_readBlock 52 = .ok (.aload_n 0, 1) := by decide +kernel
theorem dX9_readBlock_53 : decode cX9_readBlock 53 = .ok (.getfield 55, 3) := by decide +kernel
theorem dX9_readBlock_56 : decode cX9_readBlock 56 = .ok (.sipush 164, 3) := by decide +kernel
theorem dX9_readBlock_59 : decode cX9_readBlock 59 = .ok (.iload_n 1, 1) := by decide +kernel
theorem dX9_readBlock_60 : decode cX9_readBlock 60 = .ok (.iadd, 1) := by decide +kernel
theorem dX9_readBlock_61 : decode cX9_readBlock 61 = .ok (.aload_n 0, 1) := by decide +kernel
theorem dX9_readBlock_62 : decode cX9_readBlock 62 = .ok (.getfield 20, 3) := by decide +kernel
theorem dX9_readBlock_65 : decode cX9_readBlock 65 = .ok (.iastore, 1) := by decide +kernel
theorem dX9_readBlock_66 : decode cX9_readBlock 66 = .ok (.aload_n 0, 1) := by decide +kernel
theorem dX9_readBlock_67 : decode cX9_readBlock 67 = .ok (.getfield 52, 3) := by decide +kernel
theorem dX9_readBlock_70 : decode cX9_readBlock 70 = .ok (.sipush 164, 3) := by decide +kernel
theorem dX9_readBlock_73 : decode cX9_readBlock 73 = .ok (.iload_n 1, 1) := by decide +kernel
theorem dX9_readBlock_74 : decode cX9_readBlock 74 = .ok (.iadd, 1) := by decide +kernel
theorem dX9_readBlock_75 : decode cX9_readBlock 75 = .ok (.aload_n 0, 1) := by decide +kernel
theorem dX9_readBlock_76 : decode cX9_readBlock 76 = .ok (.getfield 43, 3) := by decide +kernel
theorem dX9_readBlock_79 : decode cX9_readBlock 79 = .ok (.iconst 4, 1) := by decide +kernel
theorem dX9_readBlock_80 : decode cX9_readBlock 80 = .ok (.iaload, 1) := by decide +kernel
theorem dX9_readBlock_81 : decode cX9_readBlock 81 = .ok (.iastore, 1) := by decide +kernel
theorem dX9_readBlock_82 : decode cX9_readBlock 82 = .ok (.aload_n 0, 1) := by decide +kernel
theorem dX9_readBlock_83 : decode cX9_readBlock 83 = .ok (.getfield 40, 3) := by decide +kernel
theorem dX9_readBlock_86 : decode cX9_readBlock 86 = .ok (.iconst 4, 1) := by decide +kernel
theorem dX9_readBlock_87 : decode cX9_readBlock 87 = .ok (.dup2, 1) := by decide +kernel
theorem dX9_readBlock_88 : decode cX9_readBlock 88 = .ok (.iaload, 1) := by decide +kernel
theorem dX9_readBlock_89 : decode cX9_readBlock 89 = .ok (.iconst 1, 1) := by decide +kernel
theorem dX9_readBlock_90 : decode cX9_readBlock 90 = .ok (.iadd, 1) := by decide +kernel
theorem dX9_readBlock_91 : decode cX9_readBlock 91 = .ok (.iastore, 1) := by decide +kernel
theorem dX9_readBlock_92 : decode cX9_readBlock 92 = .ok (.aload_n 0, 1) := by decide +kernel
theorem dX9_readBlock_93 : decode cX9_readBlock 93 = .ok (.invokevirtual 236, 3) := by decide +kernel
theorem dX9_readBlock_96 : decode cX9_readBlock 96 = .ok (.aload_n 0, 1) := by decide +kernel
theorem dX9_readBlock_97 : decode cX9_readBlock 97 = .ok (.bipush 58, 2) := by decide +kernel
theorem dX9_readBlock_99 : decode cX9_readBlock 99 = .ok (.invokevirtual 279, 3) := by decide +kernel
theorem dX9_readBlock_102 : decode cX9_readBlock 102 = .ok (.iconst 0, 1) := by decide +kernel
theorem dX9_readBlock_103 : decode cX9_readBlock 103 = .ok (.istore_n 2, 1) := by decide +kernel
theorem dX9_readBlock_104 : decode cX9_readBlock 104 = .ok (.aload_n 0, 1) := by decide +kernel
theorem dX9_readBlock_105 : decode cX9_readBlock 105 = .ok (.getfield 110, 3) := by decide +kernel
theorem dX9_readBlock_108 : decode cX9_readBlock 108 = .ok (.ifCond .ne 15, 3) := by decide +kernel
theorem dX9_readBlock_111 : decode cX9_readBlock 111 = .ok (.iload_n 2, 1) := by decide +kernel
theorem dX9_readBlock_112 : decode cX9_readBlock 112 = .ok (.ifCond .ne 11, 3) := by decide +kernel
theorem dX9_readBlock_115 : decode cX9_readBlock 115 = .ok (.aload_n 0, 1) := by decide +kernel
theorem dX9_readBlock_116 : decode cX9_readBlock 116 = .ok (.invokevirtual 301, 3) := by decide +kernel
theorem dX9_readBlock_119 : decode cX9_readBlock 119 = .ok (.istore_n 2, 1) := by decide +kernel
theorem dX9_readBlock_120 : decode cX9_readBlock 120 = .ok (.goto (-16), 3) := by decide +kernel
theorem dX9_readBlock_123 : decode cX9_readBlock 123 = .ok (.return_, 1) := by decide +kernel
theorem dX9_parse_0 : decode cX9_parse 0 = .ok (.iload_n 1, 1) := by decide +kernel
theorem dX9_parse_1 : decode cX9_parse 1 = .ok (.ifCond .lt 8, 3) := by decide +kernel
theorem dX9_parse_4 : decode cX9_parse 4 = .ok (.iload_n 1, 1) := by decide +kernel
theorem dX9_parse_5 : decode cX9_parse 5 = .ok (.iconst 3, 1) := by decide +kernel
theorem dX9_parse_6 : decode cX9_parse 6 = .ok (.if_icmp .le 5, 3) := by decide +kernel
theorem dX9_parse_9 : decode cX9_parse 9 = .ok (.iconst (-1), 1) := by decide +kernel
theorem dX9_parse_10 : decode cX9_parse 10 = .ok (.ireturn, 1) := by decide +kernel
theorem dX9_parse_11 : decode cX9_parse 11 = .ok (.aload_n 0, 1) := by decide +kernel
theorem dX9_parse_12 : decode cX9_parse 12 = .ok (.getfield 40, 3) := by decide +kernel
theorem dX9_parse_15 : decode cX9_parse 15 = .ok (.iconst 4, 1) := by decide +kernel
theorem dX9_parse_16 : decode cX9_parse 16 = .ok (.iconst 0, 1) := by decide +kernel
theorem dX9_parse_17 : decode cX9_parse 17 = .ok (.iastore, 1) := by decide +kernel
theorem dX9_parse_18 : decode cX9_parse 18 = .ok (.aload_n 0, 1) := by decide +kernel
theorem dX9_parse_19 : decode cX9_parse 19 = .ok (.getfield 43, 3) := by decide +kernel
theorem dX9_parse_22 : decode cX9_parse 22 = .ok (.iconst 4, 1) := by decide +kernel
theorem dX9_parse_23 : decode cX9_parse 23 = .ok (.iconst 0, 1) := by decide +kernel
theorem dX9_parse_24 : decode cX9_parse 24 = .ok (.iastore, 1) := by decide +kernel
theorem dX9_parse_25 : decode cX9_parse 25 = .ok (.aload_n 0, 1) := by decide +kernel
theorem dX9_parse_26 : decode cX9_parse 26 = .ok (.getfield 49, 3) := by decide +kernel
theorem dX9_parse_29 : decode cX9_parse 29 = .ok (.iconst 4, 1) := by decide +kernel
theorem dX9_parse_30 : decode cX9_parse 30 = .ok (.iconst 0, 1) := by decide +kernel
theorem dX9_parse_31 : decode cX9_parse 31 = .ok (.iastore, 1) := by decide +kernel
theorem dX9_parse_32 : decode cX9_parse 32 = .ok (.aload_n 0, 1) := by decide +kernel
theorem dX9_parse_33 : decode cX9_parse 33 = .ok (.iconst 0, 1) := by decide +kernel
theorem dX9_parse_34 : decode cX9_parse 34 = .ok (.putfield 138, 3) := by decide +kernel
theorem dX9_parse_37 : decode cX9_parse 37 = .ok (.aload_n 0, 1) := by decide +kernel
theorem dX9_parse_38 : decode cX9_parse 38 = .ok (.iconst 0, 1) := by decide +kernel
theorem dX9_parse_39 : decode cX9_parse 39 = .ok (.putfield 110, 3) := by decide +kernel
theorem dX9_parse_42 : decode cX9_parse 42 = .ok (.aload_n 0, 1) := by decide +kernel
theorem dX9_parse_43 : decode cX9_parse 43 = .ok (.iconst 0, 1) := by decide +kernel
theorem dX9_parse_44 : decode cX9_parse 44 = .ok (.putfield 128, 3) := by decide +kernel
theorem dX9_parse_47 : decode cX9_parse 47 = .ok (.aload_n 0, 1) := by decide +kernel
theorem dX9_parse_48 : decode cX9_parse 48 = .ok (.iconst 0, 1) := by decide +kernel
theorem dX9_parse_49 : decode cX9_parse 49 = .ok (.putfield 23, 3) := by decide +kernel
theorem dX9_parse_52 : decode cX9_parse 52 = .ok (.aload_n 0, 1) := by decide +kernel
theorem dX9_parse_53 : decode cX9_parse 53 = .ok (.invokevirtual 236, 3) := by decide +kernel
theorem dX9_parse_56 : decode cX9_parse 56 = .ok (.aload_n 0, 1) := by decide +kernel
theorem dX9_parse_57 : decode cX9_parse 57 = .ok (.aload_n 0, 1) := by decide +kernel
theorem dX9_parse_58 : decode cX9_parse 58 = .ok (.getfield 17, 3) := by decide +kernel
theorem dX9_parse_61 : decode cX9_parse 61 = .ok (.ifCond .eq 7, 3) := by decide +kernel
theorem dX9_parse_64 : decode cX9_parse 64 = .ok (.iconst 1, 1) := by decide +kernel
theorem dX9_parse_65 : decode cX9_parse 65 = .ok (.goto 4, 3) := by decide +kernel
theorem dX9_parse_68 : decode cX9_parse 68 = .ok (.iconst 0, 1) := by decide +kernel
theorem dX9_parse_69 : decode cX9_parse 69 = .ok (.iconst 2, 1) := by decide +kernel
theorem dX9_parse_70 : decode cX9_parse 70 = .ok (.invokevirtual 232, 3) := by decide +kernel
theorem dX9_parse_73 : decode cX9_parse 73 = .ok (.pop, 1) := by decide +kernel
theorem dX9_parse_74 : decode cX9_parse 74 = .ok (.aload_n 0, 1) := by decide +kernel
theorem dX9_parse_75 : decode cX9_parse 75 = .ok (.getfield 110, 3) := by decide +kernel
theorem dX9_parse_78 : decode cX9_parse 78 = .ok (.ifCond .ne 17, 3) := by decide +kernel
theorem dX9_parse_81 : decode cX9_parse 81 = .ok (.aload_n 0, 1) := by decide +kernel
theorem dX9_parse_82 : decode cX9_parse 82 = .ok (.getfield 17, 3) := by decide +kernel
theorem dX9_parse_85 : decode cX9_parse 85 = .ok (.ifCond .eq 10, 3) := by decide +kernel
theorem dX9_parse_88 : decode cX9_parse 88 = .ok (.aload_n 0, 1) := by decide +kernel
theorem dX9_parse_89 : decode cX9_parse 89 = .ok (.invokevirtual 304, 3) := by decide +kernel
theorem dX9_parse_92 : decode cX9_parse 92 = .ok (.goto (-18), 3) := by decide +kernel
theorem dX9_parse_95 : decode cX9_parse 95 = .ok (.aload_n 0, 1) := by decide +kernel
theorem dX9_parse_96 : decode cX9_parse 96 = .ok (.getfield 110, 3) := by decide +kernel
theorem dX9_parse_99 : decode cX9_parse 99 = .ok (.ifCond .ne 7, 3) := by decide +kernel
theorem dX9_parse_102 : decode cX9_parse 102 = .ok (.aload_n 0, 1) := by decide +kernel
theorem dX9_parse_103 : decode cX9_parse 103 = .ok (.invokevirtual 307, 3) := by decide +kernel
theorem dX9_parse_106 : decode cX9_parse 106 = .ok (.aload_n 0, 1) := by decide +kernel
theorem dX9_parse_107 : decode cX9_parse 107 = .ok (.iconst 0, 1) := by decide +kernel
theorem dX9_parse_108 : decode cX9_parse 108 = .ok (.putfield 13, 3) := by decide +kernel
theorem dX9_parse_111 : decode cX9_parse 111 = .ok (.aload_n 0, 1) := by decide +kernel
theorem dX9_parse_112 : decode cX9_parse 112 = .ok (.aload_n 0, 1) := by decide +kernel
theorem dX9_parse_113 : decode cX9_parse 113 = .ok (.getfield 110, 3) := by decide +kernel
theorem dX9_parse_116 : decode cX9_parse 116 = .ok (.putfield 116, 3) := by decide +kernel
theorem dX9_parse_119 : decode cX9_parse 119 = .ok (.aload_n 0, 1) := by decide +kernel
theorem dX9_parse_120 : decode cX9_parse 120 = .ok (.getfield 110, 3) := by decide +kernel
theorem dX9_parse_123 : decode cX9_parse 123 = .ok (.ifCond .le 11, 3) := by decide +kernel
theorem dX9_parse_126 : decode cX9_parse 126 = .ok (.bipush (-10), 2) := by decide +kernel
theorem dX9_parse_128 : decode cX9_parse 128 = .ok (.aload_n 0, 1) := by decide +kernel
theorem dX9_parse_129 : decode cX9_parse 129 = .ok (.getfield 113, 3) := by decide +kernel
theorem dX9_parse_132 : decode cX9_parse 132 = .ok (.isub, 1) := by decide +kernel
theorem dX9_parse_133 : decode cX9_parse 133 = .ok (.ireturn, 1) := by decide +kernel
theorem dX9_parse_134 : decode cX9_parse 134 = .ok (.aload_n 0, 1) := by decide +kernel
theorem dX9_parse_135 : decode cX9_parse 135 = .ok (.getfield 128, 3) := by decide +kernel
theorem dX9_parse_138 : decode cX9_parse 138 = .ok (.ifCond .eq 6, 3) := by decide +kernel
theorem dX9_parse_141 : decode cX9_parse 141 = .ok (.bipush (-3), 2) := by decide +kernel
theorem dX9_parse_143 : decode cX9_parse 143 = .ok (.ireturn, 1) := by decide +kernel
theorem dX9_parse_144 : decode cX9_parse 144 = .ok (.aload_n 0, 1) := by decide +kernel
theorem dX9_parse_145 : decode cX9_parse 145 = .ok (.invokevirtual 310, 3) := by decide +kernel
theorem dX9_parse_148 : decode cX9_parse 148 = .ok (.iconst 0, 1) := by decide +kernel
theorem dX9_parse_149 : decode cX9_parse 149 = .ok (.istore_n 2, 1) := by decide +kernel
theorem dX9_parse_150 : decode cX9_parse 150 = .ok (.iload_n 2, 1) := by decide +kernel
theorem dX9_parse_151 : decode cX9_parse 151 = .ok (.aload_n 0, 1) := by decide +kernel
theorem dX9_parse_152 : decode cX9_parse 152 = .ok (.getfield 49, 3) := by decide +kernel
theorem dX9_parse_155 : decode cX9_parse 155 = .ok (.iconst 4, 1) := by decide +kernel
theorem dX9_parse_156 : decode cX9_parse 156 = .ok (.iaload, 1) := by decide +kernel
theorem dX9_parse_157 : decode cX9_parse 157 = .ok (.if_icmp .ge 14, 3) := by decide +kernel
theorem dX9_parse_160 : decode cX9_parse 160 = .ok (.aload_n 0, 1) := by decide +kernel
theorem dX9_parse_161 : decode cX9_parse 161 = .ok (.iload_n 2, 1) := by decide +kernel
theorem dX9_parse_162 : decode cX9_parse 162 = .ok (.invokevirtual 313, 3) := by decide +kernel
theorem dX9_parse_165 : decode cX9_parse 165 = .ok (.iinc 2 1, 3) := by decide +kernel
theorem dX9_parse_168 : decode cX9_parse 168 = .ok (.goto (-18), 3) := by decide +kernel
theorem dX9_parse_171 : decode cX9_parse 171 = .ok (.aload_n 0, 1) := by decide +kernel
theorem dX9_parse_172 : decode cX9_parse 172 = .ok (.iload_n 1, 1) := by decide +kernel
theorem dX9_parse_173 : decode cX9_parse 173 = .ok (.invokevirtual 316, 3) := by decide +kernel
theorem dX9_parse_176 : decode cX9_parse 176 = .ok (.aload_n 0, 1) := by decide +kernel
theorem dX9_parse_177 : decode cX9_parse 177 = .ok (.getfield 43, 3) := by decide +kernel
theorem dX9_parse_180 : decode cX9_parse 180 = .ok (.iload_n 1, 1) := by decide +kernel
theorem dX9_parse_181 : decode cX9_parse 181 = .ok (.iaload, 1) := by decide +kernel
theorem dX9_parse_182 : decode cX9_parse 182 = .ok (.ireturn, 1) := by decide +kernel
theorem dX9_lastNode_0 : decode cX9_lastNode 0 = .ok (.sipush 960, 3) := by decide +kernel
theorem dX9_lastNode_3 : decode cX9_lastNode 3 = .ok (.iload_n 1, 1) := by decide +kernel
theorem dX9_lastNode_4 : decode cX9_lastNode 4 = .ok (.iconst 1, 1) := by decide +kernel
theorem dX9_lastNode_5 : decode cX9_lastNode 5 = .ok (.iadd, 1) := by decide +kernel
theorem dX9_lastNode_6 : decode cX9_lastNode 6 = .ok (.aload_n 0, 1) := by decide +kernel
theorem dX9_lastNode_7 : decode cX9_lastNode 7 = .ok (.getfield 40, 3) := by decide +kernel
theorem dX9_lastNode_10 : decode cX9_lastNode 10 = .ok (.iconst 4, 1) := by decide +kernel
theorem dX9_lastNode_11 : decode cX9_lastNode 11 = .ok (.iaload, 1) := by decide +kernel
theorem dX9_lastNode_12 : decode cX9_lastNode 12 = .ok (.if_icmp .ge 18, 3) := by decide +kernel
theorem dX9_lastNode_15 : decode cX9_lastNode 15 = .ok (.aload_n 0, 1) := by decide +kernel
theorem dX9_lastNode_16 : decode cX9_lastNode 16 = .ok (.getfield 52, 3) := by decide +kernel
theorem dX9_lastNode_19 : decode cX9_lastNode 19 = .ok (.sipush 164, 3) := by decide +kernel
theorem dX9_lastNode_22 : decode cX9_lastNode 22 = .ok (.iload_n 1, 1) := by decide +kernel
theorem dX9_lastNode_23 : decode cX9_lastNode 23 = .ok (.iadd, 1) := by decide +kernel
theorem dX9_lastNode_24 : decode cX9_lastNode 24 = .ok (.iconst 1, 1) := by decide +kernel
theorem dX9_lastNode_25 : decode cX9_lastNode 25 = .ok (.iadd, 1) := by decide +kernel
theorem dX9_lastNode_26 : decode cX9_lastNode 26 = .ok (.iaload, 1) := by decide +kernel
theorem dX9_lastNode_27 : decode cX9_lastNode 27 = .ok (.goto 9, 3) := by decide +kernel
theorem dX9_lastNode_30 : decode cX9_lastNode 30 = .ok (.aload_n 0, 1) := by decide +kernel
theorem dX9_lastNode_31 : decode cX9_lastNode 31 = .ok (.getfield 43, 3) := by decide +kernel
theorem dX9_lastNode_34 : decode cX9_lastNode 34 = .ok (.iconst 4, 1) := by decide +kernel
theorem dX9_lastNode_35 : decode cX9_lastNode 35 = .ok (.iaload, 1) := by decide +kernel
theorem dX9_lastNode_36 : decode cX9_lastNode 36 = .ok (.iadd, 1) := by decide +kernel
theorem dX9_lastNode_37 : decode cX9_lastNode 37 = .ok (.iconst 1, 1) := by decide +kernel
theorem dX9_lastNode_38 : decode cX9_lastNode 38 = .ok (.isub, 1) := by decide +kernel
theorem dX9_lastNode_39 : decode cX9_lastNode 39 = .ok (.ireturn, 1) := by decide +kernel
theorem dX9_fault_0 : decode cX9_fault 0 = .ok (.aload_n 0, 1) := by decide +kernel
theorem dX9_fault_1 : decode cX9_fault 1 = .ok (.iload_n 1, 1) := by decide +kernel
theorem dX9_fault_2 : decode cX9_fault 2 = .ok (.putfield 110, 3) := by decide +kernel
theorem dX9_fault_5 : decode cX9_fault 5 = .ok (.aload_n 0, 1) := by decide +kernel
theorem dX9_fault_6 : decode cX9_fault 6 = .ok (.iload_n 2, 1) := by decide +kernel
theorem dX9_fault_7 : decode cX9_fault 7 = .ok (.putfield 113, 3) := by decide +kernel
theorem dX9_fault_10 : decode cX9_fault 10 = .ok (.return_, 1) := by decide +kernel
theorem dX9_ends_0 : decode cX9_ends 0 = .ok (.iconst 0, 1) := by decide +kernel
theorem dX9_ends_1 : decode cX9_ends 1 = .ok (.istore_n 1, 1) := by decide +kernel
theorem dX9_ends_2 : decode cX9_ends 2 = .ok (.iload_n 1, 1) := by decide +kernel
theorem dX9_ends_3 : decode cX9_ends 3 = .ok (.aload_n 0, 1) := by decide +kernel
theorem dX9_ends_4 : decode cX9_ends 4 = .ok (.getfield 138, 3) := by decide +kernel
theorem dX9_ends_7 : decode cX9_ends 7 = .ok (.if_icmp .ge 51, 3) := by decide +kernel
theorem dX9_ends_10 : decode cX9_ends 10 = .ok (.aload_n 0, 1) := by decide +kernel
theorem dX9_ends_11 : decode cX9_ends 11 = .ok (.getfield 110, 3) := by decide +kernel
theorem dX9_ends_14 : decode cX9_ends 14 = .ok (.ifCond .ne 44, 3) := by decide +kernel
theorem dX9_ends_17 : decode cX9_ends 17 = .ok (.aload_n 0, 1) := by decide +kernel
theorem dX9_ends_18 : decode cX9_ends 18 = .ok (.getfield 135, 3) := by decide +kernel
theorem dX9_ends_21 : decode cX9_ends 21 = .ok (.iload_n 1, 1) := by decide +kernel
theorem dX9_ends_22 : decode cX9_ends 22 = .ok (.iaload, 1) := by decide +kernel
theorem dX9_ends_23 : decode cX9_ends 23 = .ok (.ifCond .eq 18, 3) := by decide +kernel
theorem dX9_ends_26 : decode cX9_ends 26 = .ok (.aload_n 0, 1) := by decide +kernel
theorem dX9_ends_27 : decode cX9_ends 27 = .ok (.getfield 135, 3) := by decide +kernel
theorem dX9_ends_30 : decode cX9_ends 30 = .ok (.iload_n 1, 1) := by decide +kernel
theorem dX9_ends_31 : decode cX9_ends 31 = .ok (.iaload, 1) := by decide +kernel
theorem dX9_ends_32 : decode cX9_ends 32 = .ok (.aload_n 0, 1) := by decide +kernel
theorem dX9_ends_33 : decode cX9_ends 33 = .ok (.getfield 40, 3) := by decide +kernel
theorem dX9_ends_36 : decode cX9_ends 36 = .ok (.iconst 4, 1) := by decide +kernel
theorem dX9_ends_37 : decode cX9_ends 37 = .ok (.iaload, 1) := by decide +kernel
theorem dX9_ends_38 : decode cX9_ends 38 = .ok (.if_icmp .lt 14, 3) := by decide +kernel
theorem dX9_ends_41 : decode cX9_ends 41 = .ok (.aload_n 0, 1) := by decide +kernel
theorem dX9_ends_42 : decode cX9_ends 42 = .ok (.iconst 4, 1) := by decide +kernel
theorem dX9_ends_43 : decode cX9_ends 43 = .ok (.aload_n 0, 1) := by decide +kernel
theorem dX9_ends_44 : decode cX9_ends 44 = .ok (.getfield 132, 3) := by decide +kernel
theorem dX9_ends_47 : decode cX9_ends 47 = .ok (.iload_n 1, 1) := by decide +kernel
theorem dX9_ends_48 : decode cX9_ends 48 = .ok (.iaload, 1) := by decide +kernel
theorem dX9_ends_49 : decode cX9_ends 49 = .ok (.invokevirtual 319, 3) := by decide +kernel
theorem dX9_ends_52 : decode cX9_ends 52 = .ok (.iinc 1 1, 3) := by decide +kernel
theorem dX9_ends_55 : decode cX9_ends 55 = .ok (.goto (-53), 3) := by decide +kernel
theorem dX9_ends_58 : decode cX9_ends 58 = .ok (.aload_n 0, 1) := by decide +kernel
theorem dX9_ends_59 : decode cX9_ends 59 = .ok (.getfield 110, 3) := by decide +kernel
theorem dX9_ends_62 : decode cX9_ends 62 = .ok (.ifCond .le 4, 3) := by decide +kernel
theorem dX9_ends_65 : decode cX9_ends 65 = .ok (.return_, 1) := by decide +kernel
theorem dX9_ends_66 : decode cX9_ends 66 = .ok (.iconst 0, 1) := by decide +kernel
theorem dX9_ends_67 : decode cX9_ends 67 = .ok (.istore_n 1, 1) := by decide +kernel
theorem dX9_ends_68 : decode cX9_ends 68 = .ok (.iload_n 1, 1) := by decide +kernel
theorem dX9_ends_69 : decode cX9_ends 69 = .ok (.aload_n 0, 1) := by decide +kernel
theorem dX9_ends_70 : decode cX9_ends 70 = .ok (.getfield 40, 3) := by decide +kernel
theorem dX9_ends_73 : decode cX9_ends 73 = .ok (.iconst 4, 1) := by decide +kernel
theorem dX9_ends_74 : decode cX9_ends 74 = .ok (.iaload, 1) := by decide +kernel
theorem dX9_ends_75 : decode cX9_ends 75 = .ok (.if_icmp .ge 24, 3) := by decide +kernel
theorem dX9_ends_78 : decode cX9_ends 78 = .ok (.aload_n 0, 1) := by decide +kernel
theorem dX9_ends_79 : decode cX9_ends 79 = .ok (.getfield 141, 3) := by decide +kernel
theorem dX9_ends_82 : decode cX9_ends 82 = .ok (.iload_n 1, 1) := by decide +kernel
theorem dX9_ends_83 : decode cX9_ends 83 = .ok (.iload_n 1, 1) := by decide +kernel
theorem dX9_ends_84 : decode cX9_ends 84 = .ok (.ifCond .ne 7, 3) := by decide +kernel
theorem dX9_ends_87 : decode cX9_ends 87 = .ok (.iconst 1, 1) := by decide +kernel
theorem dX9_ends_88 : decode cX9_ends 88 = .ok (.goto 4, 3) := by decide +kernel
theorem dX9_ends_91 : decode cX9_ends 91 = .ok (.iconst 0, 1) := by decide +kernel
theorem dX9_ends_92 : decode cX9_ends 92 = .ok (.bastore, 1) := by decide +kernel
theorem dX9_ends_93 : decode cX9_ends 93 = .ok (.iinc 1 1, 3) := by decide +kernel
theorem dX9_ends_96 : decode cX9_ends 96 = .ok (.goto (-28), 3) := by decide +kernel
theorem dX9_ends_99 : decode cX9_ends 99 = .ok (.iconst 1, 1) := by decide +kernel
theorem dX9_ends_100 : decode cX9_ends 100 = .ok (.istore_n 1, 1) := by decide +kernel
theorem dX9_ends_101 : decode cX9_ends 101 = .ok (.iload_n 1, 1) := by decide +kernel
theorem dX9_ends_102 : decode cX9_ends 102 = .ok (.ifCond .eq 77, 3) := by decide +kernel
theorem dX9_ends_105 : decode cX9_ends 105 = .ok (.iconst 0, 1) := by decide +kernel
theorem dX9_ends_106 : decode cX9_ends 106 = .ok (.istore_n 1, 1) := by decide +kernel
theorem dX9_ends_107 : decode cX9_ends 107 = .ok (.iconst 0, 1) := by decide +kernel
theorem dX9_ends_108 : decode cX9_ends 108 = .ok (.istore_n 2, 1) := by decide +kernel
theorem dX9_ends_109 : decode cX9_ends 109 = .ok (.iload_n 2, 1) := by decide +kernel
theorem dX9_ends_110 : decode cX9_ends 110 = .ok (.aload_n 0, 1) := by decide +kernel
theorem dX9_ends_111 : decode cX9_ends 111 = .ok (.getfield 40, 3) := by decide +kernel
theorem dX9_ends_114 : decode cX9_ends 114 = .ok (.iconst 4, 1) := by decide +kernel
theorem dX9_ends_115 : decode cX9_ends 115 = .ok (.iaload, 1) := by decide +kernel
theorem dX9_ends_116 : decode cX9_ends 116 = .ok (.if_icmp .ge 60, 3) := by decide +kernel
theorem dX9_ends_119 : decode cX9_ends 119 = .ok (.aload_n 0, 1) := by decide +kernel
theorem dX9_ends_120 : decode cX9_ends 120 = .ok (.getfield 141, 3) := by decide +kernel
theorem dX9_ends_123 : decode cX9_ends 123 = .ok (.iload_n 2, 1) := by decide +kernel
theorem dX9_ends_124 : decode cX9_ends 124 = .ok (.baload, 1) := by decide +kernel
theorem dX9_ends_125 : decode cX9_ends 125 = .ok (.ifCond .eq 35, 3) := by decide +kernel
theorem dX9_ends_128 : decode cX9_ends 128 = .ok (.aload_n 0, 1) := by decide +kernel
theorem dX9_ends_129 : decode cX9_ends 129 = .ok (.aload_n 0, 1) := by decide +kernel
theorem dX9_ends_130 : decode cX9_ends 130 = .ok (.getfield 70, 3) := by decide +kernel
theorem dX9_ends_133 : decode cX9_ends 133 = .ok (.aload_n 0, 1) := by decide +kernel
theorem dX9_ends_134 : decode cX9_ends 134 = .ok (.iload_n 2, 1) := by decide +kernel
theorem dX9_ends_135 : decode cX9_ends 135 = .ok (.invokevirtual 322, 3) := by decide +kernel
theorem dX9_ends_138 : decode cX9_ends 138 = .ok (.iaload, 1) := by decide +kernel
theorem dX9_ends_139 : decode cX9_ends 139 = .ok (.invokevirtual 325, 3) := by decide +kernel
theorem dX9_ends_142 : decode cX9_ends 142 = .ok (.aload_n 0, 1) := by decide +kernel
theorem dX9_ends_143 : decode cX9_ends 143 = .ok (.aload_n 0, 1) := by decide +kernel
theorem dX9_ends_144 : decode cX9_ends 144 = .ok (.getfield 73, 3) := by decide +kernel
theorem dX9_ends_147 : decode cX9_ends 147 = .ok (.aload_n 0, 1) := by decide +kernel
theorem dX9_ends_148 : decode cX9_ends 148 = .ok (.iload_n 2, 1) := by decide +kernel
theorem dX9_ends_149 : decode cX9_ends 149 = .ok (.invokevirtual 322, 3) := by decide +kernel
theorem dX9_ends_152 : decode cX9_ends 152 = .ok (.iaload, 1) := by decide +kernel
theorem dX9_ends_153 : decode cX9_ends 153 = .ok (.invokevirtual 325, 3) := by decide +kernel
theorem dX9_ends_156 : decode cX9_ends 156 = .ok (.ior, 1) := by decide +kernel
theorem dX9_ends_157 : decode cX9_ends 157 = .ok (.ifCond .ne 7, 3) := by decide +kernel
theorem dX9_ends_160 : decode cX9_ends 160 = .ok (.iload_n 1, 1) := by decide +kernel
theorem dX9_ends_161 : decode cX9_ends 161 = .ok (.ifCond .eq 7, 3) := by decide +kernel
theorem dX9_ends_164 : decode cX9_ends 164 = .ok (.iconst 1, 1) := by decide +kernel
theorem dX9_ends_165 : decode cX9_ends 165 = .ok (.goto 4, 3) := by decide +kernel
theorem dX9_ends_168 : decode cX9_ends 168 = .ok (.iconst 0, 1) := by decide +kernel
theorem dX9_ends_169 : decode cX9_ends 169 = .ok (.istore_n 1, 1) := by decide +kernel
theorem dX9_ends_170 : decode cX9_ends 170 = .ok (.iinc 2 1, 3) := by decide +kernel
theorem dX9_ends_173 : decode cX9_ends 173 = .ok (.goto (-64), 3) := by decide +kernel
theorem dX9_ends_176 : decode cX9_ends 176 = .ok (.goto (-75), 3) := by decide +kernel
theorem dX9_ends_179 : decode cX9_ends 179 = .ok (.aload_n 0, 1) := by decide +kernel
theorem dX9_ends_180 : decode cX9_ends 180 = .ok (.getfield 40, 3) := by decide +kernel
theorem dX9_ends_183 : decode cX9_ends 183 = .ok (.iconst 4, 1) := by decide +kernel
theorem dX9_ends_184 : decode cX9_ends 184 = .ok (.iaload, 1) := by decide +kernel
theorem dX9_ends_185 : decode cX9_ends 185 = .ok (.iconst 1, 1) := by decide +kernel
theorem dX9_ends_186 : decode cX9_ends 186 = .ok (.isub, 1) := by decide +kernel
theorem dX9_ends_187 : decode cX9_ends 187 = .ok (.istore_n 2, 1) := by decide +kernel
theorem dX9_ends_188 : decode cX9_ends 188 = .ok (.iload_n 2, 1) := by decide +kernel
theorem dX9_ends_189 : decode cX9_ends 189 = .ok (.ifCond .lt 33, 3) := by decide +kernel
theorem dX9_ends_192 : decode cX9_ends 192 = .ok (.aload_n 0, 1) := by decide +kernel
theorem dX9_ends_193 : decode cX9_ends 193 = .ok (.getfield 141, 3) := by decide +kernel
theorem dX9_ends_196 : decode cX9_ends 196 = .ok (.iload_n 2, 1) := by decide +kernel
theorem dX9_ends_197 : decode cX9_ends 197 = .ok (.baload, 1) := by decide +kernel
theorem dX9_ends_198 : decode cX9_ends 198 = .ok (.ifCond .ne 18, 3) := by decide +kernel
theorem dX9_ends_201 : decode cX9_ends 201 = .ok (.aload_n 0, 1) := by decide +kernel
theorem dX9_ends_202 : decode cX9_ends 202 = .ok (.iconst 5, 1) := by decide +kernel
theorem dX9_ends_203 : decode cX9_ends 203 = .ok (.aload_n 0, 1) := by decide +kernel
theorem dX9_ends_204 : decode cX9_ends 204 = .ok (.getfield 55, 3) := by decide +kernel
theorem dX9_ends_207 : decode cX9_ends 207 = .ok (.sipush 164, 3) := by decide +kernel
theorem dX9_ends_210 : decode cX9_ends 210 = .ok (.iload_n 2, 1) := by decide +kernel
theorem dX9_ends_211 : decode cX9_ends 211 = .ok (.iadd, 1) := by decide +kernel
theorem dX9_ends_212 : decode cX9_ends 212 = .ok (.iaload, 1) := by decide +kernel
theorem dX9_ends_213 : decode cX9_ends 213 = .ok (.invokevirtual 319, 3) := by decide +kernel
theorem dX9_ends_216 : decode cX9_ends 216 = .ok (.iinc 2 (-1), 3) := by decide +kernel
theorem dX9_ends_219 : decode cX9_ends 219 = .ok (.goto (-31), 3) := by decide +kernel
theorem dX9_ends_222 : decode cX9_ends 222 = .ok (.aload_n 0, 1) := by decide +kernel
theorem dX9_ends_223 : decode cX9_ends 223 = .ok (.getfield 110, 3) := by decide +kernel
theorem dX9_ends_226 : decode cX9_ends 226 = .ok (.ifCond .le 4, 3) := by decide +kernel
theorem dX9_ends_229 : decode cX9_ends 229 = .ok (.return_, 1) := by decide +kernel
theorem dX9_ends_230 : decode cX9_ends 230 = .ok (.iconst 0, 1) := by decide +kernel
theorem dX9_ends_231 : decode cX9_ends 231 = .ok (.istore_n 2, 1) := by decide +kernel
theorem dX9_ends_232 : decode cX9_ends 232 = .ok (.iload_n 2, 1) := by decide +kernel
theorem dX9_ends_233 : decode cX9_ends 233 = .ok (.aload_n 0, 1) := by decide +kernel
theorem dX9_ends_234 : decode cX9_ends 234 = .ok (.getfield 40, 3) := by decide +kernel
theorem dX9_ends_237 : decode cX9_ends 237 = .ok (.iconst 4, 1) := by decide +kernel
theorem dX9_ends_238 : decode cX9_ends 238 = .ok (.iaload, 1) := by decide +kernel
theorem dX9_ends_239 : decode cX9_ends 239 = .ok (.if_icmp .ge 35, 3) := by decide +kernel
theorem dX9_ends_242 : decode cX9_ends 242 = .ok (.aload_n 0, 1) := by decide +kernel
theorem dX9_ends_243 : decode cX9_ends 243 = .ok (.getfield 141, 3) := by decide +kernel
theorem dX9_ends_246 : decode cX9_ends 246 = .ok (.iload_n 2, 1) := by decide +kernel
theorem dX9_ends_247 : decode cX9_ends 247 = .ok (.aload_n 0, 1) := by decide +kernel
theorem dX9_ends_248 : decode cX9_ends 248 = .ok (.getfield 58, 3) := by decide +kernel
theorem dX9_ends_251 : decode cX9_ends 251 = .ok (.aload_n 0, 1) := by decide +kernel
theorem dX9_ends_252 : decode cX9_ends 252 = .ok (.iload_n 2, 1) := by decide +kernel
theorem dX9_ends_253 : decode cX9_ends 253 = .ok (.invokevirtual 322, 3) := by decide +kernel
theorem dX9_ends_256 : decode cX9_ends 256 = .ok (.iaload, 1) := by decide +kernel
theorem dX9_ends_257 : decode cX9_ends 257 = .ok (.bipush 6, 2) := by decide +kernel
theorem dX9_ends_259 : decode cX9_ends 259 = .ok (.if_icmp .ne 7, 3) := by decide +kernel
theorem dX9_ends_262 : decode cX9_ends 262 = .ok (.iconst 1, 1) := by decide +kernel
theorem dX9_ends_263 : decode cX9_ends 263 = .ok (.goto 4, 3) := by decide +kernel
theorem dX9_ends_266 : decode cX9_ends 266 = .ok (.iconst 0, 1) := by decide +kernel
theorem dX9_ends_267 : decode cX9_ends 267 = .ok (.bastore, 1) := by decide +kernel
theorem dX9_ends_268 : decode cX9_ends 268 = .ok (.iinc 2 1, 3) := by decide +kernel
theorem dX9_ends_271 : decode cX9_ends 271 = .ok (.goto (-39), 3) := by decide +kernel
theorem dX9_ends_274 : decode cX9_ends 274 = .ok (.iconst 1, 1) := by decide +kernel
theorem dX9_ends_275 : decode cX9_ends 275 = .ok (.istore_n 1, 1) := by decide +kernel
theorem dX9_ends_276 : decode cX9_ends 276 = .ok (.iload_n 1, 1) := by decide +kernel
theorem dX9_ends_277 : decode cX9_ends 277 = .ok (.ifCond .eq 111, 3) := by decide +kernel
theorem dX9_ends_280 : decode cX9_ends 280 = .ok (.iconst 0, 1) := by decide +kernel
theorem dX9_ends_281 : decode cX9_ends 281 = .ok (.istore_n 1, 1) := by decide +kernel
theorem dX9_ends_282 : decode cX9_ends 282 = .ok (.iconst 0, 1) := by decide +kernel
theorem dX9_ends_283 : decode cX9_ends 283 = .ok (.istore_n 2, 1) := by decide +kernel
theorem dX9_ends_284 : decode cX9_ends 284 = .ok (.iload_n 2, 1) := by decide +kernel
theorem dX9_ends_285 : decode cX9_ends 285 = .ok (.aload_n 0, 1) := by decide +kernel
theorem dX9_ends_286 : decode cX9_ends 286 = .ok (.getfield 40, 3) := by decide +kernel
theorem dX9_ends_289 : decode cX9_ends 289 = .ok (.iconst 4, 1) := by decide +kernel
theorem dX9_ends_290 : decode cX9_ends 290 = .ok (.iaload, 1) := by decide +kernel
theorem dX9_ends_291 : decode cX9_ends 291 = .ok (.if_icmp .ge 94, 3) := by decide +kernel
theorem dX9_ends_294 : decode cX9_ends 294 = .ok (.aload_n 0, 1) := by decide +kernel
theorem dX9_ends_295 : decode cX9_ends 295 = .ok (.iload_n 2, 1) := by decide +kernel
theorem dX9_ends_296 : decode cX9_ends 296 = .ok (.invokevirtual 322, 3) := by decide +kernel
theorem dX9_ends_299 : decode cX9_ends 299 = .ok (.istore_n 3, 1) := by decide +kernel
theorem dX9_ends_300 : decode cX9_ends 300 = .ok (.aload_n 0, 1) := by decide +kernel
theorem dX9_ends_301 : decode cX9_ends 301 = .ok (.getfield 70, 3) := by decide +kernel
theorem dX9_ends_304 : decode cX9_ends 304 = .ok (.iload_n 3, 1) := by decide +kernel
theorem dX9_ends_305 : decode cX9_ends 305 = .ok (.iaload, 1) := by decide +kernel
theorem dX9_ends_306 : decode cX9_ends 306 = .ok (.ifCond .lt 17, 3) := by decide +kernel
theorem dX9_ends_309 : decode cX9_ends 309 = .ok (.aload_n 0, 1) := by decide +kernel
theorem dX9_ends_310 : decode cX9_ends 310 = .ok (.getfield 141, 3) := by decide +kernel
theorem dX9_ends_313 : decode cX9_ends 313 = .ok (.aload_n 0, 1) := by decide +kernel
theorem dX9_ends_314 : decode cX9_ends 314 = .ok (.getfield 70, 3) := by decide +kernel
theorem dX9_ends_317 : decode cX9_ends 317 = .ok (.iload_n 3, 1) := by decide +kernel
theorem dX9_ends_318 : decode cX9_ends 318 = .ok (.iaload, 1) := by decide +kernel
theorem dX9_ends_319 : decode cX9_ends 319 = .ok (.baload, 1) := by decide +kernel
theorem dX9_ends_320 : decode cX9_ends 320 = .ok (.ifCond .ne 26, 3) := by decide +kernel
theorem dX9_ends_323 : decode cX9_ends 323 = .ok (.aload_n 0, 1) := by decide +kernel
theorem dX9_ends_324 : decode cX9_ends 324 = .ok (.getfield 73, 3) := by decide +kernel
theorem dX9_ends_327 : decode cX9_ends 327 = .ok (.iload_n 3, 1) := by decide +kernel
theorem dX9_ends_328 : decode cX9_ends 328 = .ok (.iaload, 1) := by decide +kernel
theorem dX9_ends_329 : decode cX9_ends 329 = .ok (.ifCond .lt 21, 3) := by decide +kernel
theorem dX9_ends_332 : decode cX9_ends 332 = .ok (.aload_n 0, 1) := by decide +kernel
theorem dX9_ends_333 : decode cX9_ends 333 = .ok (.getfield 141, 3) := by decide +kernel
theorem dX9_ends_336 : decode cX9_ends 336 = .ok (.aload_n 0, 1) := by decide +kernel
theorem dX9_ends_337 : decode cX9_ends 337 = .ok (.getfield 73, 3) := by decide +kernel
theorem dX9_ends_340 : decode cX9_ends 340 = .ok (.iload_n 3, 1) := by decide +kernel
theorem dX9_ends_341 : decode cX9_ends 341 = .ok (.iaload, 1) := by decide +kernel
theorem dX9_ends_342 : decode cX9_ends 342 = .ok (.baload, 1) := by decide +kernel
theorem dX9_ends_343 : decode cX9_ends 343 = .ok (.ifCond .eq 7, 3) := by decide +kernel
theorem dX9_ends_346 : decode cX9_ends 346 = .ok (.iconst 1, 1) := by decide +kernel
theorem dX9_ends_347 : decode cX9_ends 347 = .ok (.goto 4, 3) := by decide +kernel
theorem dX9_ends_350 : decode cX9_ends 350 = .ok (.iconst 0, 1) := by decide +kernel
theorem dX9_ends_351 : decode cX9_ends 351 = .ok (.istore 4, 2) := by decide +kernel
theorem dX9_ends_353 : decode cX9_ends 353 = .ok (.iload 4, 2) := by decide +kernel
theorem dX9_ends_355 : decode cX9_ends 355 = .ok (.ifCond .eq 24, 3) := by decide +kernel
theorem dX9_ends_358 : decode cX9_ends 358 = .ok (.aload_n 0, 1) := by decide +kernel
theorem dX9_ends_359 : decode cX9_ends 359 = .ok (.getfield 141, 3) := by decide +kernel
theorem dX9_ends_362 : decode cX9_ends 362 = .ok (.iload_n 2, 1) := by decide +kernel
theorem dX9_ends_363 : decode cX9_ends 363 = .ok (.baload, 1) := by decide +kernel
theorem dX9_ends_364 : decode cX9_ends 364 = .ok (.ifCond .eq 6, 3) := by decide +kernel
theorem dX9_ends_367 : decode cX9_ends 367 = .ok (.goto 12, 3) := by decide +kernel
theorem dX9_ends_370 : decode cX9_ends 370 = .ok (.aload_n 0, 1) := by decide +kernel
theorem dX9_ends_371 : decode cX9_ends 371 = .ok (.getfield 141, 3) := by decide +kernel
theorem dX9_ends_374 : decode cX9_ends 374 = .ok (.iload_n 2, 1) := by decide +kernel
theorem dX9_ends_375 : decode cX9_ends 375 = .ok (.iconst 1, 1) := by decide +kernel
theorem dX9_ends_376 : decode cX9_ends 376 = .ok (.bastore, 1) := by decide +kernel
theorem dX9_ends_377 : decode cX9_ends 377 = .ok (.iconst 1, 1) := by decide +kernel
theorem dX9_ends_378 : decode cX9_ends 378 = .ok (.istore_n 1, 1) := by decide +kernel
theorem dX9_ends_379 : decode cX9_ends 379 = .ok (.iinc 2 1, 3) := by decide +kernel
theorem dX9_ends_382 : decode cX9_ends 382 = .ok (.goto (-98), 3) := by decide +kernel
theorem dX9_ends_385 : decode cX9_ends 385 = .ok (.goto (-109), 3) := by decide +kernel
theorem dX9_ends_388 : decode cX9_ends 388 = .ok (.aload_n 0, 1) := by decide +kernel
theorem dX9_ends_389 : decode cX9_ends 389 = .ok (.getfield 40, 3) := by decide +kernel
theorem dX9_ends_392 : decode cX9_ends 392 = .ok (.iconst 4, 1) := by decide +kernel
theorem dX9_ends_393 : decode cX9_ends 393 = .ok (.iaload, 1) := by decide +kernel
theorem dX9_ends_394 : decode cX9_ends 394 = .ok (.iconst 1, 1) := by decide +kernel
theorem dX9_ends_395 : decode cX9_ends 395 = .ok (.isub, 1) := by decide +kernel
theorem dX9_ends_396 : decode cX9_ends 396 = .ok (.istore_n 2, 1) := by decide +kernel
theorem dX9_ends_397 : decode cX9_ends 397 = .ok (.iload_n 2, 1) := by decide +kernel
theorem dX9_ends_398 : decode cX9_ends 398 = .ok (.ifCond .lt 34, 3) := by decide +kernel
theorem dX9_ends_401 : decode cX9_ends 401 = .ok (.aload_n 0, 1) := by decide +kernel
theorem dX9_ends_402 : decode cX9_ends 402 = .ok (.getfield 141, 3) := by decide +kernel
theorem dX9_ends_405 : decode cX9_ends 405 = .ok (.iload_n 2, 1) := by decide +kernel
theorem dX9_ends_406 : decode cX9_ends 406 = .ok (.baload, 1) := by decide +kernel
theorem dX9_ends_407 : decode cX9_ends 407 = .ok (.ifCond .ne 19, 3) := by decide +kernel
theorem dX9_ends_410 : decode cX9_ends 410 = .ok (.aload_n 0, 1) := by decide +kernel
theorem dX9_ends_411 : decode cX9_ends 411 = .ok (.bipush 6, 2) := by decide +kernel
theorem dX9_ends_413 : decode cX9_ends 413 = .ok (.aload_n 0, 1) := by decide +kernel
theorem dX9_ends_414 : decode cX9_ends 414 = .ok (.getfield 55, 3) := by decide +kernel
theorem dX9_ends_417 : decode cX9_ends 417 = .ok (.sipush 164, 3) := by decide +kernel
theorem dX9_ends_420 : decode cX9_ends 420 = .ok (.iload_n 2, 1) := by decide +kernel
theorem dX9_ends_421 : decode cX9_ends 421 = .ok (.iadd, 1) := by decide +kernel
theorem dX9_ends_422 : decode cX9_ends 422 = .ok (.iaload, 1) := by decide +kernel
theorem dX9_ends_423 : decode cX9_ends 423 = .ok (.invokevirtual 319, 3) := by decide +kernel
theorem dX9_ends_426 : decode cX9_ends 426 = .ok (.iinc 2 (-1), 3) := by decide +kernel
theorem dX9_ends_429 : decode cX9_ends 429 = .ok (.goto (-32), 3) := by decide +kernel
theorem dX9_ends_432 : decode cX9_ends 432 = .ok (.return_, 1) := by decide +kernel
theorem dX9_mark_0 : decode cX9_mark 0 = .ok (.iload_n 1, 1) := by decide +kernel
theorem dX9_mark_1 : decode cX9_mark 1 = .ok (.ifCond .lt 12, 3) := by decide +kernel
theorem dX9_mark_4 : decode cX9_mark 4 = .ok (.aload_n 0, 1) := by decide +kernel
theorem dX9_mark_5 : decode cX9_mark 5 = .ok (.getfield 141, 3) := by decide +kernel
theorem dX9_mark_8 : decode cX9_mark 8 = .ok (.iload_n 1, 1) := by decide +kernel
theorem dX9_mark_9 : decode cX9_mark 9 = .ok (.baload, 1) := by decide +kernel
theorem dX9_mark_10 : decode cX9_mark 10 = .ok (.ifCond .eq 5, 3) := by decide +kernel
theorem dX9_mark_13 : decode cX9_mark 13 = .ok (.iconst 0, 1) := by decide +kernel
theorem dX9_mark_14 : decode cX9_mark 14 = .ok (.ireturn, 1) := by decide +kernel
theorem dX9_mark_15 : decode cX9_mark 15 = .ok (.aload_n 0, 1) := by decide +kernel
theorem dX9_mark_16 : decode cX9_mark 16 = .ok (.getfield 141, 3) := by decide +kernel
theorem dX9_mark_19 : decode cX9_mark 19 = .ok (.iload_n 1, 1) := by decide +kernel
theorem dX9_mark_20 : decode cX9_mark 20 = .ok (.iconst 1, 1) := by decide +kernel
theorem dX9_mark_21 : decode cX9_mark 21 = .ok (.bastore, 1) := by decide +kernel
theorem dX9_mark_22 : decode cX9_mark 22 = .ok (.iconst 1, 1) := by decide +kernel
theorem dX9_mark_23 : decode cX9_mark 23 = .ok (.ireturn, 1) := by decide +kernel
theorem dX9_waysTo_0 : decode cX9_waysTo 0 = .ok (.iconst 0, 1) := by decide +kernel
theorem dX9_waysTo_1 : decode cX9_waysTo 1 = .ok (.istore_n 2, 1) := by decide +kernel
theorem dX9_waysTo_2 : decode cX9_waysTo 2 = .ok (.iconst 0, 1) := by decide +kernel
theorem dX9_waysTo_3 : decode cX9_waysTo 3 = .ok (.istore_n 3, 1) := by decide +kernel
theorem dX9_waysTo_4 : decode cX9_waysTo 4 = .ok (.iload_n 3, 1) := by decide +kernel
theorem dX9_waysTo_5 : decode cX9_waysTo 5 = .ok (.aload_n 0, 1) := by decide +kernel
theorem dX9_waysTo_6 : decode cX9_waysTo 6 = .ok (.getfield 40, 3) := by decide +kernel
theorem dX9_waysTo_9 : decode cX9_waysTo 9 = .ok (.iconst 4, 1) := by decide +kernel
theorem dX9_waysTo_10 : decode cX9_waysTo 10 = .ok (.iaload, 1) := by decide +kernel
theorem dX9_waysTo_11 : decode cX9_waysTo 11 = .ok (.if_icmp .ge 52, 3) := by decide +kernel
theorem dX9_waysTo_14 : decode cX9_waysTo 14 = .ok (.aload_n 0, 1) := by decide +kernel
theorem dX9_waysTo_15 : decode cX9_waysTo 15 = .ok (.iload_n 3, 1) := by decide +kernel
theorem dX9_waysTo_16 : decode cX9_waysTo 16 = .ok (.invokevirtual 322, 3) := by decide +kernel
theorem dX9_waysTo_19 : decode cX9_waysTo 19 = .ok (.istore 4, 2) := by decide +kernel
theorem dX9_waysTo_21 : decode cX9_waysTo 21 = .ok (.iload_n 2, 1) := by decide +kernel
theorem dX9_waysTo_22 : decode cX9_waysTo 22 = .ok (.aload_n 0, 1) := by decide +kernel
theorem dX9_waysTo_23 : decode cX9_waysTo 23 = .ok (.getfield 70, 3) := by decide +kernel
theorem dX9_waysTo_26 : decode cX9_waysTo 26 = .ok (.iload 4, 2) := by decide +kernel
theorem dX9_waysTo_28 : decode cX9_waysTo 28 = .ok (.iaload, 1) := by decide +kernel
theorem dX9_waysTo_29 : decode cX9_waysTo 29 = .ok (.iload_n 1, 1) := by decide +kernel
theorem dX9_waysTo_30 : decode cX9_waysTo 30 = .ok (.if_icmp .ne 7, 3) := by decide +kernel
theorem dX9_waysTo_33 : decode cX9_waysTo 33 = .ok (.iconst 1, 1) := by decide +kernel
theorem dX9_waysTo_34 : decode cX9_waysTo 34 = .ok (.goto 4, 3) := by decide +kernel
theorem dX9_waysTo_37 : decode cX9_waysTo 37 = .ok (.iconst 0, 1) := by decide +kernel
theorem dX9_waysTo_38 : decode cX9_waysTo 38 = .ok (.aload_n 0, 1) := by decide +kernel
theorem dX9_waysTo_39 : decode cX9_waysTo 39 = .ok (.getfield 73, 3) := by decide +kernel
theorem dX9_waysTo_42 : decode cX9_waysTo 42 = .ok (.iload 4, 2) := by decide +kernel
theorem dX9_waysTo_44 : decode cX9_waysTo 44 = .ok (.iaload, 1) := by decide +kernel
theorem dX9_waysTo_45 : decode cX9_waysTo 45 = .ok (.iload_n 1, 1) := by decide +kernel
theorem dX9_waysTo_46 : decode cX9_waysTo 46 = .ok (.if_icmp .ne 7, 3) := by decide +kernel
theorem dX9_waysTo_49 : decode cX9_waysTo 49 = .ok (.iconst 1, 1) := by decide +kernel
theorem dX9_waysTo_50 : decode cX9_waysTo 50 = .ok (.goto 4, 3) := by decide +kernel
theorem dX9_waysTo_53 : decode cX9_waysTo 53 = .ok (.iconst 0, 1) := by decide +kernel
theorem dX9_waysTo_54 : decode cX9_waysTo 54 = .ok (.iadd, 1) := by decide +kernel
theorem dX9_waysTo_55 : decode cX9_waysTo 55 = .ok (.iadd, 1) := by decide +kernel
theorem dX9_waysTo_56 : decode cX9_waysTo 56 = .ok (.istore_n 2, 1) := by decide +kernel
theorem dX9_waysTo_57 : decode cX9_waysTo 57 = .ok (.iinc 3 1, 3) := by decide +kernel
theorem dX9_waysTo_60 : decode cX9_waysTo 60 = .ok (.goto (-56), 3) := by decide +kernel
theorem dX9_waysTo_63 : decode cX9_waysTo 63 = .ok (.iload_n 2, 1) := by decide +kernel
theorem dX9_waysTo_64 : decode cX9_waysTo 64 = .ok (.ireturn, 1) := by decide +kernel
theorem dX9_lead_0 : decode cX9_lead 0 = .ok (.aload_n 0, 1) := by decide +kernel
theorem dX9_lead_1 : decode cX9_lead 1 = .ok (.getfield 46, 3) := by decide +kernel
theorem dX9_lead_4 : decode cX9_lead 4 = .ok (.iconst 4, 1) := by decide +kernel
theorem dX9_lead_5 : decode cX9_lead 5 = .ok (.aload_n 0, 1) := by decide +kernel
theorem dX9_lead_6 : decode cX9_lead 6 = .ok (.getfield 43, 3) := by decide +kernel
theorem dX9_lead_9 : decode cX9_lead 9 = .ok (.iconst 4, 1) := by decide +kernel
theorem dX9_lead_10 : decode cX9_lead 10 = .ok (.iaload, 1) := by decide +kernel
theorem dX9_lead_11 : decode cX9_lead 11 = .ok (.iastore, 1) := by decide +kernel
theorem dX9_lead_12 : decode cX9_lead 12 = .ok (.iconst 0, 1) := by decide +kernel
theorem dX9_lead_13 : decode cX9_lead 13 = .ok (.istore_n 1, 1) := by decide +kernel
theorem dX9_lead_14 : decode cX9_lead 14 = .ok (.iload_n 1, 1) := by decide +kernel
theorem dX9_lead_15 : decode cX9_lead 15 = .ok (.aload_n 0, 1) := by decide +kernel
theorem dX9_lead_16 : decode cX9_lead 16 = .ok (.getfield 40, 3) := by decide +kernel
theorem dX9_lead_19 : decode cX9_lead 19 = .ok (.iconst 4, 1) := by decide +kernel
theorem dX9_lead_20 : decode cX9_lead 20 = .ok (.iaload, 1) := by decide +kernel
theorem dX9_lead_21 : decode cX9_lead 21 = .ok (.if_icmp .ge 20, 3) := by decide +kernel
theorem dX9_lead_24 : decode cX9_lead 24 = .ok (.aload_n 0, 1) := by decide +kernel
theorem dX9_lead_25 : decode cX9_lead 25 = .ok (.getfield 144, 3) := by decide +kernel
theorem dX9_lead_28 : decode cX9_lead 28 = .ok (.iload_n 1, 1) := by decide +kernel
theorem dX9_lead_29 : decode cX9_lead 29 = .ok (.aload_n 0, 1) := by decide +kernel
theorem dX9_lead_30 : decode cX9_lead 30 = .ok (.iload_n 1, 1) := by decide +kernel
theorem dX9_lead_31 : decode cX9_lead 31 = .ok (.invokevirtual 328, 3) := by decide +kernel
theorem dX9_lead_34 : decode cX9_lead 34 = .ok (.iastore, 1) := by decide +kernel
theorem dX9_lead_35 : decode cX9_lead 35 = .ok (.iinc 1 1, 3) := by decide +kernel
theorem dX9_lead_38 : decode cX9_lead 38 = .ok (.goto (-24), 3) := by decide +kernel
theorem dX9_lead_41 : decode cX9_lead 41 = .ok (.aload_n 0, 1) := by decide +kernel
theorem dX9_lead_42 : decode cX9_lead 42 = .ok (.getfield 43, 3) := by decide +kernel
theorem dX9_lead_45 : decode cX9_lead 45 = .ok (.iconst 4, 1) := by decide +kernel
theorem dX9_lead_46 : decode cX9_lead 46 = .ok (.iaload, 1) := by decide +kernel
theorem dX9_lead_47 : decode cX9_lead 47 = .ok (.istore_n 1, 1) := by decide +kernel
theorem dX9_lead_48 : decode cX9_lead 48 = .ok (.iconst 0, 1) := by decide +kernel
theorem dX9_lead_49 : decode cX9_lead 49 = .ok (.istore_n 2, 1) := by decide +kernel
theorem dX9_lead_50 : decode cX9_lead 50 = .ok (.iload_n 2, 1) := by decide +kernel
theorem dX9_lead_51 : decode cX9_lead 51 = .ok (.iload_n 1, 1) := by decide +kernel
theorem dX9_lead_52 : decode cX9_lead 52 = .ok (.if_icmp .ge 113, 3) := by decide +kernel
theorem dX9_lead_55 : decode cX9_lead 55 = .ok (.sipush 960, 3) := by decide +kernel
theorem dX9_lead_58 : decode cX9_lead 58 = .ok (.iload_n 2, 1) := by decide +kernel
theorem dX9_lead_59 : decode cX9_lead 59 = .ok (.iadd, 1) := by decide +kernel
theorem dX9_lead_60 : decode cX9_lead 60 = .ok (.istore_n 3, 1) := by decide +kernel
theorem dX9_lead_61 : decode cX9_lead 61 = .ok (.aload_n 0, 1) := by decide +kernel
theorem dX9_lead_62 : decode cX9_lead 62 = .ok (.getfield 58, 3) := by decide +kernel
theorem dX9_lead_65 : decode cX9_lead 65 = .ok (.iload_n 3, 1) := by decide +kernel
theorem dX9_lead_66 : decode cX9_lead 66 = .ok (.iaload, 1) := by decide +kernel
theorem dX9_lead_67 : decode cX9_lead 67 = .ok (.iconst 4, 1) := by decide +kernel
theorem dX9_lead_68 : decode cX9_lead 68 = .ok (.if_icmp .ge 15, 3) := by decide +kernel
theorem dX9_lead_71 : decode cX9_lead 71 = .ok (.aload_n 0, 1) := by decide +kernel
theorem dX9_lead_72 : decode cX9_lead 72 = .ok (.getfield 70, 3) := by decide +kernel
theorem dX9_lead_75 : decode cX9_lead 75 = .ok (.iload_n 3, 1) := by decide +kernel
theorem dX9_lead_76 : decode cX9_lead 76 = .ok (.iload_n 2, 1) := by decide +kernel
theorem dX9_lead_77 : decode cX9_lead 77 = .ok (.iconst 1, 1) := by decide +kernel
theorem dX9_lead_78 : decode cX9_lead 78 = .ok (.iadd, 1) := by decide +kernel
theorem dX9_lead_79 : decode cX9_lead 79 = .ok (.iastore, 1) := by decide +kernel
theorem dX9_lead_80 : decode cX9_lead 80 = .ok (.goto 79, 3) := by decide +kernel
theorem dX9_lead_83 : decode cX9_lead 83 = .ok (.aload_n 0, 1) := by decide +kernel
theorem dX9_lead_84 : decode cX9_lead 84 = .ok (.getfield 58, 3) := by decide +kernel
theorem dX9_lead_87 : decode cX9_lead 87 = .ok (.iload_n 3, 1) := by decide +kernel
theorem dX9_lead_88 : decode cX9_lead 88 = .ok (.iaload, 1) := by decide +kernel
theorem dX9_lead_89 : decode cX9_lead 89 = .ok (.iconst 4, 1) := by decide +kernel
theorem dX9_lead_90 : decode cX9_lead 90 = .ok (.if_icmp .ne 27, 3) := by decide +kernel
theorem dX9_lead_93 : decode cX9_lead 93 = .ok (.aload_n 0, 1) := by decide +kernel
theorem dX9_lead_94 : decode cX9_lead 94 = .ok (.getfield 70, 3) := by decide +kernel
theorem dX9_lead_97 : decode cX9_lead 97 = .ok (.iload_n 3, 1) := by decide +kernel
theorem dX9_lead_98 : decode cX9_lead 98 = .ok (.aload_n 0, 1) := by decide +kernel
theorem dX9_lead_99 : decode cX9_lead 99 = .ok (.getfield 52, 3) := by decide +kernel
theorem dX9_lead_102 : decode cX9_lead 102 = .ok (.sipush 164, 3) := by decide +kernel
theorem dX9_lead_105 : decode cX9_lead 105 = .ok (.aload_n 0, 1) := by decide +kernel
theorem dX9_lead_106 : decode cX9_lead 106 = .ok (.getfield 70, 3) := by decide +kernel
theorem dX9_lead_109 : decode cX9_lead 109 = .ok (.iload_n 3, 1) := by decide +kernel
theorem dX9_lead_110 : decode cX9_lead 110 = .ok (.iaload, 1) := by decide +kernel
theorem dX9_lead_111 : decode cX9_lead 111 = .ok (.iadd, 1) := by decide +kernel
theorem dX9_lead_112 : decode cX9_lead 112 = .ok (.iaload, 1) := by decide +kernel
theorem dX9_lead_113 : decode cX9_lead 113 = .ok (.iastore, 1) := by decide +kernel
theorem dX9_lead_114 : decode cX9_lead 114 = .ok (.goto 45, 3) := by decide +kernel
theorem dX9_lead_117 : decode cX9_lead 117 = .ok (.aload_n 0, 1) := by decide +kernel
theorem dX9_lead_118 : decode cX9_lead 118 = .ok (.getfield 58, 3) := by decide +kernel
theorem dX9_lead_121 : decode cX9_lead 121 = .ok (.iload_n 3, 1) := by decide +kernel
theorem dX9_lead_122 : decode cX9_lead 122 = .ok (.iaload, 1) := by decide +kernel
theorem dX9_lead_123 : decode cX9_lead 123 = .ok (.iconst 5, 1) := by decide +kernel
theorem dX9_lead_124 : decode cX9_lead 124 = .ok (.if_icmp .ne 35, 3) := by decide +kernel
theorem dX9_lead_127 : decode cX9_lead 127 = .ok (.aload_n 0, 1) := by decide +kernel
theorem dX9_lead_128 : decode cX9_lead 128 = .ok (.getfield 70, 3) := by decide +kernel
theorem dX9_lead_131 : decode cX9_lead 131 = .ok (.iload_n 3, 1) := by decide +kernel
theorem dX9_lead_132 : decode cX9_lead 132 = .ok (.aload_n 0, 1) := by decide +kernel
theorem dX9_lead_133 : decode cX9_lead 133 = .ok (.aload_n 0, 1) := by decide +kernel
theorem dX9_lead_134 : decode cX9_lead 134 = .ok (.getfield 70, 3) := by decide +kernel
theorem dX9_lead_137 : decode cX9_lead 137 = .ok (.iload_n 3, 1) := by decide +kernel
theorem dX9_lead_138 : decode cX9_lead 138 = .ok (.iaload, 1) := by decide +kernel
theorem dX9_lead_139 : decode cX9_lead 139 = .ok (.invokevirtual 331, 3) := by decide +kernel
theorem dX9_lead_142 : decode cX9_lead 142 = .ok (.iastore, 1) := by decide +kernel
theorem dX9_lead_143 : decode cX9_lead 143 = .ok (.aload_n 0, 1) := by decide +kernel
theorem dX9_lead_144 : decode cX9_lead 144 = .ok (.getfield 73, 3) := by decide +kernel
theorem dX9_lead_147 : decode cX9_lead 147 = .ok (.iload_n 3, 1) := by decide +kernel
theorem dX9_lead_148 : decode cX9_lead 148 = .ok (.aload_n 0, 1) := by decide +kernel
theorem dX9_lead_149 : decode cX9_lead 149 = .ok (.aload_n 0, 1) := by decide +kernel
theorem dX9_lead_150 : decode cX9_lead 150 = .ok (.getfield 73, 3) := by decide +kernel
theorem dX9_lead_153 : decode cX9_lead 153 = .ok (.iload_n 3, 1) := by decide +kernel
theorem dX9_lead_154 : decode cX9_lead 154 = .ok (.iaload, 1) := by decide +kernel
theorem dX9_lead_155 : decode cX9_lead 155 = .ok (.invokevirtual 331, 3) := by decide +kernel
theorem dX9_lead_158 : decode cX9_lead 158 = .ok (.iastore, 1) := by decide +kernel
theorem dX9_lead_159 : decode cX9_lead 159 = .ok (.iinc 2 1, 3) := by decide +kernel
theorem dX9_lead_162 : decode cX9_lead 162 = .ok (.goto (-112), 3) := by decide +kernel
theorem dX9_lead_165 : decode cX9_lead 165 = .ok (.return_, 1) := by decide +kernel
theorem dX9_through_0 : decode cX9_through 0 = .ok (.aload_n 0, 1) := by decide +kernel
theorem dX9_through_1 : decode cX9_through 1 = .ok (.getfield 52, 3) := by decide +kernel
theorem dX9_through_4 : decode cX9_through 4 = .ok (.sipush 164, 3) := by decide +kernel
theorem dX9_through_7 : decode cX9_through 7 = .ok (.iload_n 1, 1) := by decide +kernel
theorem dX9_through_8 : decode cX9_through 8 = .ok (.iadd, 1) := by decide +kernel
theorem dX9_through_9 : decode cX9_through 9 = .ok (.iaload, 1) := by decide +kernel
theorem dX9_through_10 : decode cX9_through 10 = .ok (.istore_n 2, 1) := by decide +kernel
theorem dX9_through_11 : decode cX9_through 11 = .ok (.aload_n 0, 1) := by decide +kernel
theorem dX9_through_12 : decode cX9_through 12 = .ok (.getfield 144, 3) := by decide +kernel
theorem dX9_through_15 : decode cX9_through 15 = .ok (.iload_n 1, 1) := by decide +kernel
theorem dX9_through_16 : decode cX9_through 16 = .ok (.iaload, 1) := by decide +kernel
theorem dX9_through_17 : decode cX9_through 17 = .ok (.iconst 2, 1) := by decide +kernel
theorem dX9_through_18 : decode cX9_through 18 = .ok (.if_icmp .ge 5, 3) := by decide +kernel
theorem dX9_through_21 : decode cX9_through 21 = .ok (.iload_n 2, 1) := by decide +kernel
theorem dX9_through_22 : decode cX9_through 22 = .ok (.ireturn, 1) := by decide +kernel
theorem dX9_through_23 : decode cX9_through 23 = .ok (.sipush 960, 3) := by decide +kernel
theorem dX9_through_26 : decode cX9_through 26 = .ok (.aload_n 0, 1) := by decide +kernel
theorem dX9_through_27 : decode cX9_through 27 = .ok (.getfield 43, 3) := by decide +kernel
theorem dX9_through_30 : decode cX9_through 30 = .ok (.iconst 4, 1) := by decide +kernel
theorem dX9_through_31 : decode cX9_through 31 = .ok (.iaload, 1) := by decide +kernel
theorem dX9_through_32 : decode cX9_through 32 = .ok (.iadd, 1) := by decide +kernel
theorem dX9_through_33 : decode cX9_through 33 = .ok (.istore_n 3, 1) := by decide +kernel
theorem dX9_through_34 : decode cX9_through 34 = .ok (.aload_n 0, 1) := by decide +kernel
theorem dX9_through_35 : decode cX9_through 35 = .ok (.getfield 58, 3) := by decide +kernel
theorem dX9_through_38 : decode cX9_through 38 = .ok (.iload_n 3, 1) := by decide +kernel
theorem dX9_through_39 : decode cX9_through 39 = .ok (.bipush 7, 2) := by decide +kernel
theorem dX9_through_41 : decode cX9_through 41 = .ok (.iastore, 1) := by decide +kernel
theorem dX9_through_42 : decode cX9_through 42 = .ok (.aload_n 0, 1) := by decide +kernel
theorem dX9_through_43 : decode cX9_through 43 = .ok (.getfield 61, 3) := by decide +kernel
theorem dX9_through_46 : decode cX9_through 46 = .ok (.iload_n 3, 1) := by decide +kernel
theorem dX9_through_47 : decode cX9_through 47 = .ok (.iload_n 1, 1) := by decide +kernel
theorem dX9_through_48 : decode cX9_through 48 = .ok (.iastore, 1) := by decide +kernel
theorem dX9_through_49 : decode cX9_through 49 = .ok (.aload_n 0, 1) := by decide +kernel
theorem dX9_through_50 : decode cX9_through 50 = .ok (.getfield 64, 3) := by decide +kernel
theorem dX9_through_53 : decode cX9_through 53 = .ok (.iload_n 3, 1) := by decide +kernel
theorem dX9_through_54 : decode cX9_through 54 = .ok (.iconst (-1), 1) := by decide +kernel
theorem dX9_through_55 : decode cX9_through 55 = .ok (.iastore, 1) := by decide +kernel
theorem dX9_through_56 : decode cX9_through 56 = .ok (.aload_n 0, 1) := by decide +kernel
theorem dX9_through_57 : decode cX9_through 57 = .ok (.getfield 67, 3) := by decide +kernel
theorem dX9_through_60 : decode cX9_through 60 = .ok (.iload_n 3, 1) := by decide +kernel
theorem dX9_through_61 : decode cX9_through 61 = .ok (.iconst (-1), 1) := by decide +kernel
theorem dX9_through_62 : decode cX9_through 62 = .ok (.iastore, 1) := by decide +kernel
theorem dX9_through_63 : decode cX9_through 63 = .ok (.aload_n 0, 1) := by decide +kernel
theorem dX9_through_64 : decode cX9_through 64 = .ok (.getfield 70, 3) := by decide +kernel
theorem dX9_through_67 : decode cX9_through 67 = .ok (.iload_n 3, 1) := by decide +kernel
theorem dX9_through_68 : decode cX9_through 68 = .ok (.iload_n 2, 1) := by decide +kernel
theorem dX9_through_69 : decode cX9_through 69 = .ok (.iastore, 1) := by decide +kernel
theorem dX9_through_70 : decode cX9_through 70 = .ok (.aload_n 0, 1) := by decide +kernel
theorem dX9_through_71 : decode cX9_through 71 = .ok (.getfield 73, 3) := by decide +kernel
theorem dX9_through_74 : decode cX9_through 74 = .ok (.iload_n 3, 1) := by decide +kernel
theorem dX9_through_75 : decode cX9_through 75 = .ok (.iconst (-1), 1) := by decide +kernel
theorem dX9_through_76 : decode cX9_through 76 = .ok (.iastore, 1) := by decide +kernel
theorem dX9_through_77 : decode cX9_through 77 = .ok (.aload_n 0, 1) := by decide +kernel
theorem dX9_through_78 : decode cX9_through 78 = .ok (.getfield 43, 3) := by decide +kernel
theorem dX9_through_81 : decode cX9_through 81 = .ok (.iconst 4, 1) := by decide +kernel
theorem dX9_through_82 : decode cX9_through 82 = .ok (.dup2, 1) := by decide +kernel
theorem dX9_through_83 : decode cX9_through 83 = .ok (.iaload, 1) := by decide +kernel
theorem dX9_through_84 : decode cX9_through 84 = .ok (.iconst 1, 1) := by decide +kernel
theorem dX9_through_85 : decode cX9_through 85 = .ok (.iadd, 1) := by decide +kernel
theorem dX9_through_86 : decode cX9_through 86 = .ok (.iastore, 1) := by decide +kernel
theorem dX9_through_87 : decode cX9_through 87 = .ok (.aload_n 0, 1) := by decide +kernel
theorem dX9_through_88 : decode cX9_through 88 = .ok (.getfield 43, 3) := by decide +kernel
theorem dX9_through_91 : decode cX9_through 91 = .ok (.iconst 4, 1) := by decide +kernel
theorem dX9_through_92 : decode cX9_through 92 = .ok (.iaload, 1) := by decide +kernel
theorem dX9_through_93 : decode cX9_through 93 = .ok (.iconst 1, 1) := by decide +kernel
theorem dX9_through_94 : decode cX9_through 94 = .ok (.isub, 1) := by decide +kernel
theorem dX9_through_95 : decode cX9_through 95 = .ok (.ireturn, 1) := by decide +kernel
theorem dX9_isBold_0 : decode cX9_isBold 0 = .ok (.aload_n 0, 1) := by decide +kernel
theorem dX9_isBold_1 : decode cX9_isBold 1 = .ok (.getfield 91, 3) := by decide +kernel
theorem dX9_isBold_4 : decode cX9_isBold 4 = .ok (.bipush 32, 2) := by decide +kernel
theorem dX9_isBold_6 : decode cX9_isBold 6 = .ok (.iload_n 1, 1) := by decide +kernel
theorem dX9_isBold_7 : decode cX9_isBold 7 = .ok (.imul, 1) := by decide +kernel
theorem dX9_isBold_8 : decode cX9_isBold 8 = .ok (.iload_n 2, 1) := by decide +kernel
theorem dX9_isBold_9 : decode cX9_isBold 9 = .ok (.iadd, 1) := by decide +kernel
theorem dX9_isBold_10 : decode cX9_isBold 10 = .ok (.iaload, 1) := by decide +kernel
theorem dX9_isBold_11 : decode cX9_isBold 11 = .ok (.bipush 47, 2) := by decide +kernel
theorem dX9_isBold_13 : decode cX9_isBold 13 = .ok (.if_icmp .eq 19, 3) := by decide +kernel
theorem dX9_isBold_16 : decode cX9_isBold 16 = .ok (.aload_n 0, 1) := by decide +kernel
theorem dX9_isBold_17 : decode cX9_isBold 17 = .ok (.getfield 91, 3) := by decide +kernel
theorem dX9_isBold_20 : decode cX9_isBold 20 = .ok (.bipush 32, 2) := by decide +kernel
theorem dX9_isBold_22 : decode cX9_isBold 22 = .ok (.iload_n 1, 1) := by decide +kernel
theorem dX9_isBold_23 : decode cX9_isBold 23 = .ok (.imul, 1) := by decide +kernel
theorem dX9_isBold_24 : decode cX9_isBold 24 = .ok (.iload_n 2, 1) := by decide +kernel
theorem dX9_isBold_25 : decode cX9_isBold 25 = .ok (.iadd, 1) := by decide +kernel
theorem dX9_isBold_26 : decode cX9_isBold 26 = .ok (.iaload, 1) := by decide +kernel
theorem dX9_isBold_27 : decode cX9_isBold 27 = .ok (.bipush 114, 2) := by decide +kernel
theorem dX9_isBold_29 : decode cX9_isBold 29 = .ok (.if_icmp .ne 7, 3) := by decide +kernel
theorem dX9_isBold_32 : decode cX9_isBold 32 = .ok (.iconst 1, 1) := by decide +kernel
theorem dX9_isBold_33 : decode cX9_isBold 33 = .ok (.goto 4, 3) := by decide +kernel
theorem dX9_isBold_36 : decode cX9_isBold 36 = .ok (.iconst 0, 1) := by decide +kernel
theorem dX9_isBold_37 : decode cX9_isBold 37 = .ok (.ireturn, 1) := by decide +kernel
theorem dX9_kills_0 : decode cX9_kills 0 = .ok (.sipush 128, 3) := by decide +kernel
theorem dX9_kills_3 : decode cX9_kills 3 = .ok (.iload_n 2, 1) := by decide +kernel
theorem dX9_kills_4 : decode cX9_kills 4 = .ok (.iadd, 1) := by decide +kernel
theorem dX9_kills_5 : decode cX9_kills 5 = .ok (.istore_n 3, 1) := by decide +kernel
theorem dX9_kills_6 : decode cX9_kills 6 = .ok (.aload_n 0, 1) := by decide +kernel
theorem dX9_kills_7 : decode cX9_kills 7 = .ok (.getfield 58, 3) := by decide +kernel
theorem dX9_kills_10 : decode cX9_kills 10 = .ok (.iload_n 1, 1) := by decide +kernel
theorem dX9_kills_11 : decode cX9_kills 11 = .ok (.iaload, 1) := by decide +kernel
theorem dX9_kills_12 : decode cX9_kills 12 = .ok (.iconst 2, 1) := by decide +kernel
theorem dX9_kills_13 : decode cX9_kills 13 = .ok (.if_icmp .ne 35, 3) := by decide +kernel
theorem dX9_kills_16 : decode cX9_kills 16 = .ok (.aload_n 0, 1) := by decide +kernel
theorem dX9_kills_17 : decode cX9_kills 17 = .ok (.getfield 91, 3) := by decide +kernel
theorem dX9_kills_20 : decode cX9_kills 20 = .ok (.iload_n 3, 1) := by decide +kernel
theorem dX9_kills_21 : decode cX9_kills 21 = .ok (.iaload, 1) := by decide +kernel
theorem dX9_kills_22 : decode cX9_kills 22 = .ok (.bipush 114, 2) := by decide +kernel
theorem dX9_kills_24 : decode cX9_kills 24 = .ok (.if_icmp .ne 22, 3) := by decide +kernel
theorem dX9_kills_27 : decode cX9_kills 27 = .ok (.aload_n 0, 1) := by decide +kernel
theorem dX9_kills_28 : decode cX9_kills 28 = .ok (.getfield 97, 3) := by decide +kernel
theorem dX9_kills_31 : decode cX9_kills 31 = .ok (.iload_n 3, 1) := by decide +kernel
theorem dX9_kills_32 : decode cX9_kills 32 = .ok (.iaload, 1) := by decide +kernel
theorem dX9_kills_33 : decode cX9_kills 33 = .ok (.aload_n 0, 1) := by decide +kernel
theorem dX9_kills_34 : decode cX9_kills 34 = .ok (.getfield 88, 3) := by decide +kernel
theorem dX9_kills_37 : decode cX9_kills 37 = .ok (.iload_n 1, 1) := by decide +kernel
theorem dX9_kills_38 : decode cX9_kills 38 = .ok (.iaload, 1) := by decide +kernel
theorem dX9_kills_39 : decode cX9_kills 39 = .ok (.if_icmp .ne 7, 3) := by decide +kernel
theorem dX9_kills_42 : decode cX9_kills 42 = .ok (.iconst 1, 1) := by decide +kernel
theorem dX9_kills_43 : decode cX9_kills 43 = .ok (.goto 4, 3) := by decide +kernel
theorem dX9_kills_46 : decode cX9_kills 46 = .ok (.iconst 0, 1) := by decide +kernel
theorem dX9_kills_47 : decode cX9_kills 47 = .ok (.ireturn, 1) := by decide +kernel
theorem dX9_kills_48 : decode cX9_kills 48 = .ok (.aload_n 0, 1) := by decide +kernel
theorem dX9_kills_49 : decode cX9_kills 49 = .ok (.getfield 64, 3) := by decide +kernel
theorem dX9_kills_52 : decode cX9_kills 52 = .ok (.iload_n 1, 1) := by decide +kernel
theorem dX9_kills_53 : decode cX9_kills 53 = .ok (.iaload, 1) := by decide +kernel
theorem dX9_kills_54 : decode cX9_kills 54 = .ok (.ifCond .lt 37, 3) := by decide +kernel
theorem dX9_kills_57 : decode cX9_kills 57 = .ok (.aload_n 0, 1) := by decide +kernel
theorem dX9_kills_58 : decode cX9_kills 58 = .ok (.getfield 94, 3) := by decide +kernel
theorem dX9_kills_61 : decode cX9_kills 61 = .ok (.iload_n 3, 1) := by decide +kernel
theorem dX9_kills_62 : decode cX9_kills 62 = .ok (.iaload, 1) := by decide +kernel
theorem dX9_kills_63 : decode cX9_kills 63 = .ok (.aload_n 0, 1) := by decide +kernel
theorem dX9_kills_64 : decode cX9_kills 64 = .ok (.getfield 64, 3) := by decide +kernel
theorem dX9_kills_67 : decode cX9_kills 67 = .ok (.iload_n 1, 1) := by decide +kernel
theorem dX9_kills_68 : decode cX9_kills 68 = .ok (.iaload, 1) := by decide +kernel
theorem dX9_kills_69 : decode cX9_kills 69 = .ok (.if_icmp .eq 18, 3) := by decide +kernel
theorem dX9_kills_72 : decode cX9_kills 72 = .ok (.aload_n 0, 1) := by decide +kernel
theorem dX9_kills_73 : decode cX9_kills 73 = .ok (.getfield 100, 3) := by decide +kernel
theorem dX9_kills_76 : decode cX9_kills 76 = .ok (.iload_n 3, 1) := by decide +kernel
theorem dX9_kills_77 : decode cX9_kills 77 = .ok (.iaload, 1) := by decide +kernel
theorem dX9_kills_78 : decode cX9_kills 78 = .ok (.aload_n 0, 1) := by decide +kernel
theorem dX9_kills_79 : decode cX9_kills 79 = .ok (.getfield 64, 3) := by decide +kernel
theorem dX9_kills_82 : decode cX9_kills 82 = .ok (.iload_n 1, 1) := by decide +kernel
theorem dX9_kills_83 : decode cX9_kills 83 = .ok (.iaload, 1) := by decide +kernel
theorem dX9_kills_84 : decode cX9_kills 84 = .ok (.if_icmp .ne 7, 3) := by decide +kernel
theorem dX9_kills_87 : decode cX9_kills 87 = .ok (.iconst 1, 1) := by decide +kernel
theorem dX9_kills_88 : decode cX9_kills 88 = .ok (.goto 4, 3) := by decide +kernel
theorem dX9_kills_91 : decode cX9_kills 91 = .ok (.iconst 0, 1) := by decide +kernel
theorem dX9_kills_92 : decode cX9_kills 92 = .ok (.ireturn, 1) := by decide +kernel
theorem dX9_isSeen_0 : decode cX9_isSeen 0 = .ok (.aload_n 0, 1) := by decide +kernel
theorem dX9_isSeen_1 : decode cX9_isSeen 1 = .ok (.getfield 58, 3) := by decide +kernel
theorem dX9_isSeen_4 : decode cX9_isSeen 4 = .ok (.iload_n 1, 1) := by decide +kernel
theorem dX9_isSeen_5 : decode cX9_isSeen 5 = .ok (.iaload, 1) := by decide +kernel
theorem dX9_isSeen_6 : decode cX9_isSeen 6 = .ok (.iconst 3, 1) := by decide +kernel
theorem dX9_isSeen_7 : decode cX9_isSeen 7 = .ok (.if_icmp .eq 36, 3) := by decide +kernel
theorem dX9_isSeen_10 : decode cX9_isSeen 10 = .ok (.aload_n 0, 1) := by decide +kernel
theorem dX9_isSeen_11 : decode cX9_isSeen 11 = .ok (.getfield 58, 3) := by decide +kernel
theorem dX9_isSeen_14 : decode cX9_isSeen 14 = .ok (.iload_n 1, 1) := by decide +kernel
theorem dX9_isSeen_15 : decode cX9_isSeen 15 = .ok (.iaload, 1) := by decide +kernel
theorem dX9_isSeen_16 : decode cX9_isSeen 16 = .ok (.iconst 2, 1) := by decide +kernel
theorem dX9_isSeen_17 : decode cX9_isSeen 17 = .ok (.if_icmp .eq 26, 3) := by decide +kernel
theorem dX9_isSeen_20 : decode cX9_isSeen 20 = .ok (.aload_n 0, 1) := by decide +kernel
theorem dX9_isSeen_21 : decode cX9_isSeen 21 = .ok (.getfield 58, 3) := by decide +kernel
theorem dX9_isSeen_24 : decode cX9_isSeen 24 = .ok (.iload_n 1, 1) := by decide +kernel
theorem dX9_isSeen_25 : decode cX9_isSeen 25 = .ok (.iaload, 1) := by decide +kernel
theorem dX9_isSeen_26 : decode cX9_isSeen 26 = .ok (.ifCond .ne 21, 3) := by decide +kernel
theorem dX9_isSeen_29 : decode cX9_isSeen 29 = .ok (.aload_n 0, 1) := by decide +kernel
theorem dX9_isSeen_30 : decode cX9_isSeen 30 = .ok (.iconst 4, 1) := by decide +kernel
theorem dX9_isSeen_31 : decode cX9_isSeen 31 = .ok (.aload_n 0, 1) := by decide +kernel
theorem dX9_isSeen_32 : decode cX9_isSeen 32 = .ok (.getfield 67, 3) := by decide +kernel
theorem dX9_isSeen_35 : decode cX9_isSeen 35 = .ok (.iload_n 1, 1) := by decide +kernel
theorem dX9_isSeen_36 : decode cX9_isSeen 36 = .ok (.iaload, 1) := by decide +kernel
theorem dX9_isSeen_37 : decode cX9_isSeen 37 = .ok (.invokevirtual 334, 3) := by decide +kernel
theorem dX9_isSeen_40 : decode cX9_isSeen 40 = .ok (.ifCond .eq 7, 3) := by decide +kernel
theorem dX9_isSeen_43 : decode cX9_isSeen 43 = .ok (.iconst 1, 1) := by decide +kernel
theorem dX9_isSeen_44 : decode cX9_isSeen 44 = .ok (.goto 4, 3) := by decide +kernel
theorem dX9_isSeen_47 : decode cX9_isSeen 47 = .ok (.iconst 0, 1) := by decide +kernel
theorem dX9_isSeen_48 : decode cX9_isSeen 48 = .ok (.ireturn, 1) := by decide +kernel
theorem dX9_base_0 : decode cX9_base 0 = .ok (.bipush 32, 2) := by decide +kernel
theorem dX9_base_2 : decode cX9_base 2 = .ok (.iload_n 1, 1) := by decide +kernel
theorem dX9_base_3 : decode cX9_base 3 = .ok (.imul, 1) := by decide +kernel
theorem dX9_base_4 : decode cX9_base 4 = .ok (.iload_n 2, 1) := by decide +kernel
theorem dX9_base_5 : decode cX9_base 5 = .ok (.iadd, 1) := by decide +kernel
theorem dX9_base_6 : decode cX9_base 6 = .ok (.sipush 240, 3) := by decide +kernel
theorem dX9_base_9 : decode cX9_base 9 = .ok (.imul, 1) := by decide +kernel
theorem dX9_base_10 : decode cX9_base 10 = .ok (.ireturn, 1) := by decide +kernel
theorem dX9_is_0 : decode cX9_is 0 = .ok (.aload_n 0, 1) := by decide +kernel
theorem dX9_is_1 : decode cX9_is 1 = .ok (.getfield 107, 3) := by decide +kernel
theorem dX9_is_4 : decode cX9_is 4 = .ok (.iload_n 1, 1) := by decide +kernel
theorem dX9_is_5 : decode cX9_is 5 = .ok (.iload_n 2, 1) := by decide +kernel
theorem dX9_is_6 : decode cX9_is 6 = .ok (.iadd, 1) := by decide +kernel
theorem dX9_is_7 : decode cX9_is 7 = .ok (.iaload, 1) := by decide +kernel
theorem dX9_is_8 : decode cX9_is 8 = .ok (.iload_n 3, 1) := by decide +kernel
theorem dX9_is_9 : decode cX9_is 9 = .ok (.iand, 1) := by decide +kernel
theorem dX9_is_10 : decode cX9_is 10 = .ok (.ifCond .eq 7, 3) := by decide +kernel
theorem dX9_is_13 : decode cX9_is 13 = .ok (.iconst 1, 1) := by decide +kernel
theorem dX9_is_14 : decode cX9_is 14 = .ok (.goto 4, 3) := by decide +kernel
theorem dX9_is_17 : decode cX9_is 17 = .ok (.iconst 0, 1) := by decide +kernel
theorem dX9_is_18 : decode cX9_is 18 = .ok (.ireturn, 1) := by decide +kernel
theorem dX9_settle_0 : decode cX9_settle 0 = .ok (.aload_n 0, 1) := by decide +kernel
theorem dX9_settle_1 : decode cX9_settle 1 = .ok (.iconst 4, 1) := by decide +kernel
theorem dX9_settle_2 : decode cX9_settle 2 = .ok (.iload_n 1, 1) := by decide +kernel
theorem dX9_settle_3 : decode cX9_settle 3 = .ok (.invokevirtual 338, 3) := by decide +kernel
theorem dX9_settle_6 : decode cX9_settle 6 = .ok (.istore_n 2, 1) := by decide +kernel
theorem dX9_settle_7 : decode cX9_settle 7 = .ok (.iconst 0, 1) := by decide +kernel
theorem dX9_settle_8 : decode cX9_settle 8 = .ok (.istore_n 3, 1) := by decide +kernel
theorem dX9_settle_9 : decode cX9_settle 9 = .ok (.iload_n 3, 1) := by decide +kernel
theorem dX9_settle_10 : decode cX9_settle 10 = .ok (.aload_n 0, 1) := by decide +kernel
theorem dX9_settle_11 : decode cX9_settle 11 = .ok (.getfield 43, 3) := by decide +kernel
theorem dX9_settle_14 : decode cX9_settle 14 = .ok (.iconst 4, 1) := by decide +kernel
theorem dX9_settle_15 : decode cX9_settle 15 = .ok (.iaload, 1) := by decide +kernel
theorem dX9_settle_16 : decode cX9_settle 16 = .ok (.if_icmp .ge 68, 3) := by decide +kernel
theorem dX9_settle_19 : decode cX9_settle 19 = .ok (.sipush 960, 3) := by decide +kernel
theorem dX9_settle_22 : decode cX9_settle 22 = .ok (.iload_n 3, 1) := by decide +kernel
theorem dX9_settle_23 : decode cX9_settle 23 = .ok (.iadd, 1) := by decide +kernel
theorem dX9_settle_24 : decode cX9_settle 24 = .ok (.istore 4, 2) := by decide +kernel
theorem dX9_settle_26 : decode cX9_settle 26 = .ok (.aload_n 0, 1) := by decide +kernel
theorem dX9_settle_27 : decode cX9_settle 27 = .ok (.getfield 107, 3) := by decide +kernel
theorem dX9_settle_30 : decode cX9_settle 30 = .ok (.iload_n 2, 1) := by decide +kernel
theorem dX9_settle_31 : decode cX9_settle 31 = .ok (.iload_n 3, 1) := by decide +kernel
theorem dX9_settle_32 : decode cX9_settle 32 = .ok (.iadd, 1) := by decide +kernel
theorem dX9_settle_33 : decode cX9_settle 33 = .ok (.aload_n 0, 1) := by decide +kernel
theorem dX9_settle_34 : decode cX9_settle 34 = .ok (.getfield 67, 3) := by decide +kernel
theorem dX9_settle_37 : decode cX9_settle 37 = .ok (.iload 4, 2) := by decide +kernel
theorem dX9_settle_39 : decode cX9_settle 39 = .ok (.iaload, 1) := by decide +kernel
theorem dX9_settle_40 : decode cX9_settle 40 = .ok (.iload_n 1, 1) := by decide +kernel
theorem dX9_settle_41 : decode cX9_settle 41 = .ok (.if_icmp .ne 7, 3) := by decide +kernel
theorem dX9_settle_44 : decode cX9_settle 44 = .ok (.iconst 1, 1) := by decide +kernel
theorem dX9_settle_45 : decode cX9_settle 45 = .ok (.goto 4, 3) := by decide +kernel
theorem dX9_settle_48 : decode cX9_settle 48 = .ok (.iconst 0, 1) := by decide +kernel
theorem dX9_settle_49 : decode cX9_settle 49 = .ok (.aload_n 0, 1) := by decide +kernel
theorem dX9_settle_50 : decode cX9_settle 50 = .ok (.iload 4, 2) := by decide +kernel
theorem dX9_settle_52 : decode cX9_settle 52 = .ok (.iload_n 1, 1) := by decide +kernel
theorem dX9_settle_53 : decode cX9_settle 53 = .ok (.invokevirtual 341, 3) := by decide +kernel
theorem dX9_settle_56 : decode cX9_settle 56 = .ok (.ifCond .eq 7, 3) := by decide +kernel
theorem dX9_settle_59 : decode cX9_settle 59 = .ok (.iconst 2, 1) := by decide +kernel
theorem dX9_settle_60 : decode cX9_settle 60 = .ok (.goto 4, 3) := by decide +kernel
theorem dX9_settle_63 : decode cX9_settle 63 = .ok (.iconst 0, 1) := by decide +kernel
theorem dX9_settle_64 : decode cX9_settle 64 = .ok (.ior, 1) := by decide +kernel
theorem dX9_settle_65 : decode cX9_settle 65 = .ok (.iconst 4, 1) := by decide +kernel
theorem dX9_settle_66 : decode cX9_settle 66 = .ok (.ior, 1) := by decide +kernel
theorem dX9_settle_67 : decode cX9_settle 67 = .ok (.bipush 8, 2) := by decide +kernel
theorem dX9_settle_69 : decode cX9_settle 69 = .ok (.ior, 1) := by decide +kernel
theorem dX9_settle_70 : decode cX9_settle 70 = .ok (.bipush 32, 2) := by decide +kernel
theorem dX9_settle_72 : decode cX9_settle 72 = .ok (.ior, 1) := by decide +kernel
theorem dX9_settle_73 : decode cX9_settle 73 = .ok (.sipush 128, 3) := by decide +kernel
theorem dX9_settle_76 : decode cX9_settle 76 = .ok (.ior, 1) := by decide +kernel
theorem dX9_settle_77 : decode cX9_settle 77 = .ok (.iastore, 1) := by decide +kernel
theorem dX9_settle_78 : decode cX9_settle 78 = .ok (.iinc 3 1, 3) := by decide +kernel
theorem dX9_settle_81 : decode cX9_settle 81 = .ok (.goto (-72), 3) := by decide +kernel
theorem dX9_settle_84 : decode cX9_settle 84 = .ok (.aload_n 0, 1) := by decide +kernel
theorem dX9_settle_85 : decode cX9_settle 85 = .ok (.iload_n 1, 1) := by decide +kernel
theorem dX9_settle_86 : decode cX9_settle 86 = .ok (.iconst 4, 1) := by decide +kernel
theorem dX9_settle_87 : decode cX9_settle 87 = .ok (.invokevirtual 344, 3) := by decide +kernel
theorem dX9_settle_90 : decode cX9_settle 90 = .ok (.aload_n 0, 1) := by decide +kernel
theorem dX9_settle_91 : decode cX9_settle 91 = .ok (.iload_n 1, 1) := by decide +kernel
theorem dX9_settle_92 : decode cX9_settle 92 = .ok (.bipush 8, 2) := by decide +kernel
theorem dX9_settle_94 : decode cX9_settle 94 = .ok (.invokevirtual 344, 3) := by decide +kernel
theorem dX9_settle_97 : decode cX9_settle 97 = .ok (.iconst 0, 1) := by decide +kernel
theorem dX9_settle_98 : decode cX9_settle 98 = .ok (.istore_n 3, 1) := by decide +kernel
theorem dX9_settle_99 : decode cX9_settle 99 = .ok (.iload_n 3, 1) := by decide +kernel
theorem dX9_settle_100 : decode cX9_settle 100 = .ok (.aload_n 0, 1) := by decide +kernel
theorem dX9_settle_101 : decode cX9_settle 101 = .ok (.getfield 43, 3) := by decide +kernel
theorem dX9_settle_104 : decode cX9_settle 104 = .ok (.iconst 4, 1) := by decide +kernel
theorem dX9_settle_105 : decode cX9_settle 105 = .ok (.iaload, 1) := by decide +kernel
theorem dX9_settle_106 : decode cX9_settle 106 = .ok (.if_icmp .ge 45, 3) := by decide +kernel
theorem dX9_settle_109 : decode cX9_settle 109 = .ok (.aload_n 0, 1) := by decide +kernel
theorem dX9_settle_110 : decode cX9_settle 110 = .ok (.iload_n 2, 1) := by decide +kernel
theorem dX9_settle_111 : decode cX9_settle 111 = .ok (.iload_n 3, 1) := by decide +kernel
theorem dX9_settle_112 : decode cX9_settle 112 = .ok (.iconst 4, 1) := by decide +kernel
theorem dX9_settle_113 : decode cX9_settle 113 = .ok (.invokevirtual 347, 3) := by decide +kernel
theorem dX9_settle_116 : decode cX9_settle 116 = .ok (.ifCond .eq 29, 3) := by decide +kernel
theorem dX9_settle_119 : decode cX9_settle 119 = .ok (.iload_n 3, 1) := by decide +kernel
theorem dX9_settle_120 : decode cX9_settle 120 = .ok (.ifCond .eq 12, 3) := by decide +kernel
theorem dX9_settle_123 : decode cX9_settle 123 = .ok (.aload_n 0, 1) := by decide +kernel
theorem dX9_settle_124 : decode cX9_settle 124 = .ok (.iload_n 2, 1) := by decide +kernel
theorem dX9_settle_125 : decode cX9_settle 125 = .ok (.iload_n 3, 1) := by decide +kernel
theorem dX9_settle_126 : decode cX9_settle 126 = .ok (.invokevirtual 351, 3) := by decide +kernel
theorem dX9_settle_129 : decode cX9_settle 129 = .ok (.ifCond .eq 16, 3) := by decide +kernel
theorem dX9_settle_132 : decode cX9_settle 132 = .ok (.aload_n 0, 1) := by decide +kernel
theorem dX9_settle_133 : decode cX9_settle 133 = .ok (.getfield 107, 3) := by decide +kernel
theorem dX9_settle_136 : decode cX9_settle 136 = .ok (.iload_n 2, 1) := by decide +kernel
theorem dX9_settle_137 : decode cX9_settle 137 = .ok (.iload_n 3, 1) := by decide +kernel
theorem dX9_settle_138 : decode cX9_settle 138 = .ok (.iadd, 1) := by decide +kernel
theorem dX9_settle_139 : decode cX9_settle 139 = .ok (.dup2, 1) := by decide +kernel
theorem dX9_settle_140 : decode cX9_settle 140 = .ok (.iaload, 1) := by decide +kernel
theorem dX9_settle_141 : decode cX9_settle 141 = .ok (.bipush 16, 2) := by decide +kernel
theorem dX9_settle_143 : decode cX9_settle 143 = .ok (.ior, 1) := by decide +kernel
theorem dX9_settle_144 : decode cX9_settle 144 = .ok (.iastore, 1) := by decide +kernel
theorem dX9_settle_145 : decode cX9_settle 145 = .ok (.iinc 3 1, 3) := by decide +kernel
theorem dX9_settle_148 : decode cX9_settle 148 = .ok (.goto (-49), 3) := by decide +kernel
theorem dX9_settle_151 : decode cX9_settle 151 = .ok (.aload_n 0, 1) := by decide +kernel
theorem dX9_settle_152 : decode cX9_settle 152 = .ok (.iload_n 1, 1) := by decide +kernel
theorem dX9_settle_153 : decode cX9_settle 153 = .ok (.bipush 32, 2) := by decide +kernel
theorem dX9_settle_155 : decode cX9_settle 155 = .ok (.invokevirtual 344, 3) := by decide +kernel
theorem dX9_settle_158 : decode cX9_settle 158 = .ok (.iconst 0, 1) := by decide +kernel
theorem dX9_settle_159 : decode cX9_settle 159 = .ok (.istore_n 3, 1) := by decide +kernel
theorem dX9_settle_160 : decode cX9_settle 160 = .ok (.iload_n 3, 1) := by decide +kernel
theorem dX9_settle_161 : decode cX9_settle 161 = .ok (.aload_n 0, 1) := by decide +kernel
theorem dX9_settle_162 : decode cX9_settle 162 = .ok (.getfield 43, 3) := by decide +kernel
theorem dX9_settle_165 : decode cX9_settle 165 = .ok (.iconst 4, 1) := by decide +kernel
theorem dX9_settle_166 : decode cX9_settle 166 = .ok (.iaload, 1) := by decide +kernel
theorem dX9_settle_167 : decode cX9_settle 167 = .ok (.if_icmp .ge 54, 3) := by decide +kernel
theorem dX9_settle_170 : decode cX9_settle 170 = .ok (.aload_n 0, 1) := by decide +kernel
theorem dX9_settle_171 : decode cX9_settle 171 = .ok (.iload_n 2, 1) := by decide +kernel
theorem dX9_settle_172 : decode cX9_settle 172 = .ok (.iload_n 3, 1) := by decide +kernel
theorem dX9_settle_173 : decode cX9_settle 173 = .ok (.bipush 32, 2) := by decide +kernel
theorem dX9_settle_175 : decode cX9_settle 175 = .ok (.invokevirtual 347, 3) := by decide +kernel
theorem dX9_settle_178 : decode cX9_settle 178 = .ok (.ifCond .eq 37, 3) := by decide +kernel
theorem dX9_settle_181 : decode cX9_settle 181 = .ok (.aload_n 0, 1) := by decide +kernel
theorem dX9_settle_182 : decode cX9_settle 182 = .ok (.iload_n 2, 1) := by decide +kernel
theorem dX9_settle_183 : decode cX9_settle 183 = .ok (.iload_n 3, 1) := by decide +kernel
theorem dX9_settle_184 : decode cX9_settle 184 = .ok (.iconst 1, 1) := by decide +kernel
theorem dX9_settle_185 : decode cX9_settle 185 = .ok (.invokevirtual 347, 3) := by decide +kernel
theorem dX9_settle_188 : decode cX9_settle 188 = .ok (.ifCond .ne 14, 3) := by decide +kernel
theorem dX9_settle_191 : decode cX9_settle 191 = .ok (.aload_n 0, 1) := by decide +kernel
theorem dX9_settle_192 : decode cX9_settle 192 = .ok (.iload_n 2, 1) := by decide +kernel
theorem dX9_settle_193 : decode cX9_settle 193 = .ok (.iload_n 3, 1) := by decide +kernel
theorem dX9_settle_194 : decode cX9_settle 194 = .ok (.bipush 32, 2) := by decide +kernel
theorem dX9_settle_196 : decode cX9_settle 196 = .ok (.invokevirtual 354, 3) := by decide +kernel
theorem dX9_settle_199 : decode cX9_settle 199 = .ok (.ifCond .ne 16, 3) := by decide +kernel
theorem dX9_settle_202 : decode cX9_settle 202 = .ok (.aload_n 0, 1) := by decide +kernel
theorem dX9_settle_203 : decode cX9_settle 203 = .ok (.getfield 107, 3) := by decide +kernel
theorem dX9_settle_206 : decode cX9_settle 206 = .ok (.iload_n 2, 1) := by decide +kernel
theorem dX9_settle_207 : decode cX9_settle 207 = .ok (.iload_n 3, 1) := by decide +kernel
theorem dX9_settle_208 : decode cX9_settle 208 = .ok (.iadd, 1) := by decide +kernel
theorem dX9_settle_209 : decode cX9_settle 209 = .ok (.dup2, 1) := by decide +kernel
theorem dX9_settle_210 : decode cX9_settle 210 = .ok (.iaload, 1) := by decide +kernel
theorem dX9_settle_211 : decode cX9_settle 211 = .ok (.bipush 64, 2) := by decide +kernel
theorem dX9_settle_213 : decode cX9_settle 213 = .ok (.ior, 1) := by decide +kernel
theorem dX9_settle_214 : decode cX9_settle 214 = .ok (.iastore, 1) := by decide +kernel
theorem dX9_settle_215 : decode cX9_settle 215 = .ok (.iinc 3 1, 3) := by decide +kernel
theorem dX9_settle_218 : decode cX9_settle 218 = .ok (.goto (-58), 3) := by decide +kernel
theorem dX9_settle_221 : decode cX9_settle 221 = .ok (.aload_n 0, 1) := by decide +kernel
theorem dX9_settle_222 : decode cX9_settle 222 = .ok (.iload_n 1, 1) := by decide +kernel
theorem dX9_settle_223 : decode cX9_settle 223 = .ok (.sipush 128, 3) := by decide +kernel
theorem dX9_settle_226 : decode cX9_settle 226 = .ok (.invokevirtual 344, 3) := by decide +kernel
theorem dX9_settle_229 : decode cX9_settle 229 = .ok (.return_, 1) := by decide +kernel
theorem dX9_narrow_0 : decode cX9_narrow 0 = .ok (.aload_n 0, 1) := by decide +kernel
theorem dX9_narrow_1 : decode cX9_narrow 1 = .ok (.iconst 4, 1) := by decide +kernel
theorem dX9_narrow_2 : decode cX9_narrow 2 = .ok (.iload_n 1, 1) := by decide +kernel
theorem dX9_narrow_3 : decode cX9_narrow 3 = .ok (.invokevirtual 338, 3) := by decide +kernel
theorem dX9_narrow_6 : decode cX9_narrow 6 = .ok (.istore_n 3, 1) := by decide +kernel
theorem dX9_narrow_7 : decode cX9_narrow 7 = .ok (.iconst 1, 1) := by decide +kernel
theorem dX9_narrow_8 : decode cX9_narrow 8 = .ok (.istore 4, 2) := by decide +kernel
theorem dX9_narrow_10 : decode cX9_narrow 10 = .ok (.iload 4, 2) := by decide +kernel
theorem dX9_narrow_12 : decode cX9_narrow 12 = .ok (.ifCond .eq 73, 3) := by decide +kernel
theorem dX9_narrow_15 : decode cX9_narrow 15 = .ok (.iconst 0, 1) := by decide +kernel
theorem dX9_narrow_16 : decode cX9_narrow 16 = .ok (.istore 4, 2) := by decide +kernel
theorem dX9_narrow_18 : decode cX9_narrow 18 = .ok (.iconst 0, 1) := by decide +kernel
theorem dX9_narrow_19 : decode cX9_narrow 19 = .ok (.istore 5, 2) := by decide +kernel
theorem dX9_narrow_21 : decode cX9_narrow 21 = .ok (.iload 5, 2) := by decide +kernel
theorem dX9_narrow_23 : decode cX9_narrow 23 = .ok (.aload_n 0, 1) := by decide +kernel
theorem dX9_narrow_24 : decode cX9_narrow 24 = .ok (.getfield 43, 3) := by decide +kernel
theorem dX9_narrow_27 : decode cX9_narrow 27 = .ok (.iconst 4, 1) := by decide +kernel
theorem dX9_narrow_28 : decode cX9_narrow 28 = .ok (.iaload, 1) := by decide +kernel
theorem dX9_narrow_29 : decode cX9_narrow 29 = .ok (.if_icmp .ge 53, 3) := by decide +kernel
theorem dX9_narrow_32 : decode cX9_narrow 32 = .ok (.aload_n 0, 1) := by decide +kernel
theorem dX9_narrow_33 : decode cX9_narrow 33 = .ok (.iload_n 3, 1) := by decide +kernel
theorem dX9_narrow_34 : decode cX9_narrow 34 = .ok (.iload 5, 2) := by decide +kernel
theorem dX9_narrow_36 : decode cX9_narrow 36 = .ok (.iload_n 2, 1) := by decide +kernel
theorem dX9_narrow_37 : decode cX9_narrow 37 = .ok (.invokevirtual 347, 3) := by decide +kernel
theorem dX9_narrow_40 : decode cX9_narrow 40 = .ok (.ifCond .eq 36, 3) := by decide +kernel
theorem dX9_narrow_43 : decode cX9_narrow 43 = .ok (.aload_n 0, 1) := by decide +kernel
theorem dX9_narrow_44 : decode cX9_narrow 44 = .ok (.iload_n 1, 1) := by decide +kernel
theorem dX9_narrow_45 : decode cX9_narrow 45 = .ok (.iload_n 3, 1) := by decide +kernel
theorem dX9_narrow_46 : decode cX9_narrow 46 = .ok (.iload 5, 2) := by decide +kernel
theorem dX9_narrow_48 : decode cX9_narrow 48 = .ok (.iload_n 2, 1) := by decide +kernel
theorem dX9_narrow_49 : decode cX9_narrow 49 = .ok (.invokevirtual 357, 3) := by decide +kernel
theorem dX9_narrow_52 : decode cX9_narrow 52 = .ok (.ifCond .eq 6, 3) := by decide +kernel
theorem dX9_narrow_55 : decode cX9_narrow 55 = .ok (.goto 21, 3) := by decide +kernel
theorem dX9_narrow_58 : decode cX9_narrow 58 = .ok (.aload_n 0, 1) := by decide +kernel
theorem dX9_narrow_59 : decode cX9_narrow 59 = .ok (.getfield 107, 3) := by decide +kernel
theorem dX9_narrow_62 : decode cX9_narrow 62 = .ok (.iload_n 3, 1) := by decide +kernel
theorem dX9_narrow_63 : decode cX9_narrow 63 = .ok (.iload 5, 2) := by decide +kernel
theorem dX9_narrow_65 : decode cX9_narrow 65 = .ok (.iadd, 1) := by decide +kernel
theorem dX9_narrow_66 : decode cX9_narrow 66 = .ok (.dup2, 1) := by decide +kernel
theorem dX9_narrow_67 : decode cX9_narrow 67 = .ok (.iaload, 1) := by decide +kernel
theorem dX9_narrow_68 : decode cX9_narrow 68 = .ok (.iload_n 2, 1) := by decide +kernel
theorem dX9_narrow_69 : decode cX9_narrow 69 = .ok (.iconst (-1), 1) := by decide +kernel
theorem dX9_narrow_70 : decode cX9_narrow 70 = .ok (.ixor, 1) := by decide +kernel
theorem dX9_narrow_71 : decode cX9_narrow 71 = .ok (.iand, 1) := by decide +kernel
theorem dX9_narrow_72 : decode cX9_narrow 72 = .ok (.iastore, 1) := by decide +kernel
theorem dX9_narrow_73 : decode cX9_narrow 73 = .ok (.iconst 1, 1) := by decide +kernel
theorem dX9_narrow_74 : decode cX9_narrow 74 = .ok (.istore 4, 2) := by decide +kernel
theorem dX9_narrow_76 : decode cX9_narrow 76 = .ok (.iinc 5 1, 3) := by decide +kernel
theorem dX9_narrow_79 : decode cX9_narrow 79 = .ok (.goto (-58), 3) := by decide +kernel
theorem dX9_narrow_82 : decode cX9_narrow 82 = .ok (.goto (-72), 3) := by decide +kernel
theorem dX9_narrow_85 : decode cX9_narrow 85 = .ok (.return_, 1) := by decide +kernel
theorem dX9_holds_0 : decode cX9_holds 0 = .ok (.sipush 960, 3) := by decide +kernel
theorem dX9_holds_3 : decode cX9_holds 3 = .ok (.iload_n 3, 1) := by decide +kernel
theorem dX9_holds_4 : decode cX9_holds 4 = .ok (.iadd, 1) := by decide +kernel
theorem dX9_holds_5 : decode cX9_holds 5 = .ok (.istore 5, 2) := by decide +kernel
theorem dX9_holds_7 : decode cX9_holds 7 = .ok (.iload 4, 2) := by decide +kernel
theorem dX9_holds_9 : decode cX9_holds 9 = .ok (.iconst 4, 1) := by decide +kernel
theorem dX9_holds_10 : decode cX9_holds 10 = .ok (.if_icmp .ne 69, 3) := by decide +kernel
theorem dX9_holds_13 : decode cX9_holds 13 = .ok (.aload_n 0, 1) := by decide +kernel
theorem dX9_holds_14 : decode cX9_holds 14 = .ok (.iload_n 2, 1) := by decide +kernel
theorem dX9_holds_15 : decode cX9_holds 15 = .ok (.iload_n 3, 1) := by decide +kernel
theorem dX9_holds_16 : decode cX9_holds 16 = .ok (.iconst 1, 1) := by decide +kernel
theorem dX9_holds_17 : decode cX9_holds 17 = .ok (.invokevirtual 347, 3) := by decide +kernel
theorem dX9_holds_20 : decode cX9_holds 20 = .ok (.ifCond .ne 53, 3) := by decide +kernel
theorem dX9_holds_23 : decode cX9_holds 23 = .ok (.aload_n 0, 1) := by decide +kernel
theorem dX9_holds_24 : decode cX9_holds 24 = .ok (.iload_n 2, 1) := by decide +kernel
theorem dX9_holds_25 : decode cX9_holds 25 = .ok (.iload_n 3, 1) := by decide +kernel
theorem dX9_holds_26 : decode cX9_holds 26 = .ok (.iconst 2, 1) := by decide +kernel
theorem dX9_holds_27 : decode cX9_holds 27 = .ok (.invokevirtual 347, 3) := by decide +kernel
theorem dX9_holds_30 : decode cX9_holds 30 = .ok (.ifCond .ne 47, 3) := by decide +kernel
theorem dX9_holds_33 : decode cX9_holds 33 = .ok (.aload_n 0, 1) := by decide +kernel
theorem dX9_holds_34 : decode cX9_holds 34 = .ok (.getfield 58, 3) := by decide +kernel
theorem dX9_holds_37 : decode cX9_holds 37 = .ok (.iload 5, 2) := by decide +kernel
theorem dX9_holds_39 : decode cX9_holds 39 = .ok (.iaload, 1) := by decide +kernel
theorem dX9_holds_40 : decode cX9_holds 40 = .ok (.bipush 6, 2) := by decide +kernel
theorem dX9_holds_42 : decode cX9_holds 42 = .ok (.if_icmp .eq 35, 3) := by decide +kernel
theorem dX9_holds_45 : decode cX9_holds 45 = .ok (.aload_n 0, 1) := by decide +kernel
theorem dX9_holds_46 : decode cX9_holds 46 = .ok (.iload_n 2, 1) := by decide +kernel
theorem dX9_holds_47 : decode cX9_holds 47 = .ok (.iload_n 3, 1) := by decide +kernel
theorem dX9_holds_48 : decode cX9_holds 48 = .ok (.iconst 4, 1) := by decide +kernel
theorem dX9_holds_49 : decode cX9_holds 49 = .ok (.invokevirtual 354, 3) := by decide +kernel
theorem dX9_holds_52 : decode cX9_holds 52 = .ok (.ifCond .eq 25, 3) := by decide +kernel
theorem dX9_holds_55 : decode cX9_holds 55 = .ok (.aload_n 0, 1) := by decide +kernel
theorem dX9_holds_56 : decode cX9_holds 56 = .ok (.iconst 4, 1) := by decide +kernel
theorem dX9_holds_57 : decode cX9_holds 57 = .ok (.iload_n 1, 1) := by decide +kernel
theorem dX9_holds_58 : decode cX9_holds 58 = .ok (.invokevirtual 334, 3) := by decide +kernel
theorem dX9_holds_61 : decode cX9_holds 61 = .ok (.ifCond .eq 12, 3) := by decide +kernel
theorem dX9_holds_64 : decode cX9_holds 64 = .ok (.aload_n 0, 1) := by decide +kernel
theorem dX9_holds_65 : decode cX9_holds 65 = .ok (.iload 5, 2) := by decide +kernel
theorem dX9_holds_67 : decode cX9_holds 67 = .ok (.invokevirtual 361, 3) := by decide +kernel
theorem dX9_holds_70 : decode cX9_holds 70 = .ok (.ifCond .ne 7, 3) := by decide +kernel
theorem dX9_holds_73 : decode cX9_holds 73 = .ok (.iconst 1, 1) := by decide +kernel
theorem dX9_holds_74 : decode cX9_holds 74 = .ok (.goto 4, 3) := by decide +kernel
theorem dX9_holds_77 : decode cX9_holds 77 = .ok (.iconst 0, 1) := by decide +kernel
theorem dX9_holds_78 : decode cX9_holds 78 = .ok (.ireturn, 1) := by decide +kernel
theorem dX9_holds_79 : decode cX9_holds 79 = .ok (.iload 4, 2) := by decide +kernel
theorem dX9_holds_81 : decode cX9_holds 81 = .ok (.bipush 8, 2) := by decide +kernel
theorem dX9_holds_83 : decode cX9_holds 83 = .ok (.if_icmp .ne 24, 3) := by decide +kernel
theorem dX9_holds_86 : decode cX9_holds 86 = .ok (.iload_n 3, 1) := by decide +kernel
theorem dX9_holds_87 : decode cX9_holds 87 = .ok (.ifCond .le 18, 3) := by decide +kernel
theorem dX9_holds_90 : decode cX9_holds 90 = .ok (.aload_n 0, 1) := by decide +kernel
theorem dX9_holds_91 : decode cX9_holds 91 = .ok (.iload_n 2, 1) := by decide +kernel
theorem dX9_holds_92 : decode cX9_holds 92 = .ok (.iload_n 3, 1) := by decide +kernel
theorem dX9_holds_93 : decode cX9_holds 93 = .ok (.bipush 8, 2) := by decide +kernel
theorem dX9_holds_95 : decode cX9_holds 95 = .ok (.invokevirtual 364, 3) := by decide +kernel
theorem dX9_holds_98 : decode cX9_holds 98 = .ok (.ifCond .eq 7, 3) := by decide +kernel
theorem dX9_holds_101 : decode cX9_holds 101 = .ok (.iconst 1, 1) := by decide +kernel
theorem dX9_holds_102 : decode cX9_holds 102 = .ok (.goto 4, 3) := by decide +kernel
theorem dX9_holds_105 : decode cX9_holds 105 = .ok (.iconst 0, 1) := by decide +kernel
theorem dX9_holds_106 : decode cX9_holds 106 = .ok (.ireturn, 1) := by decide +kernel
theorem dX9_holds_107 : decode cX9_holds 107 = .ok (.iload 4, 2) := by decide +kernel
theorem dX9_holds_109 : decode cX9_holds 109 = .ok (.bipush 32, 2) := by decide +kernel
theorem dX9_holds_111 : decode cX9_holds 111 = .ok (.if_icmp .ne 35, 3) := by decide +kernel
theorem dX9_holds_114 : decode cX9_holds 114 = .ok (.aload_n 0, 1) := by decide +kernel
theorem dX9_holds_115 : decode cX9_holds 115 = .ok (.iload_n 2, 1) := by decide +kernel
theorem dX9_holds_116 : decode cX9_holds 116 = .ok (.iload_n 3, 1) := by decide +kernel
theorem dX9_holds_117 : decode cX9_holds 117 = .ok (.bipush 16, 2) := by decide +kernel
theorem dX9_holds_119 : decode cX9_holds 119 = .ok (.invokevirtual 347, 3) := by decide +kernel
theorem dX9_holds_122 : decode cX9_holds 122 = .ok (.ifCond .ne 18, 3) := by decide +kernel
theorem dX9_holds_125 : decode cX9_holds 125 = .ok (.iload_n 3, 1) := by decide +kernel
theorem dX9_holds_126 : decode cX9_holds 126 = .ok (.ifCond .le 18, 3) := by decide +kernel
theorem dX9_holds_129 : decode cX9_holds 129 = .ok (.aload_n 0, 1) := by decide +kernel
theorem dX9_holds_130 : decode cX9_holds 130 = .ok (.iload_n 2, 1) := by decide +kernel
theorem dX9_holds_131 : decode cX9_holds 131 = .ok (.iload_n 3, 1) := by decide +kernel
theorem dX9_holds_132 : decode cX9_holds 132 = .ok (.bipush 32, 2) := by decide +kernel
theorem dX9_holds_134 : decode cX9_holds 134 = .ok (.invokevirtual 364, 3) := by decide +kernel
theorem dX9_holds_137 : decode cX9_holds 137 = .ok (.ifCond .eq 7, 3) := by decide +kernel
theorem dX9_holds_140 : decode cX9_holds 140 = .ok (.iconst 1, 1) := by decide +kernel
theorem dX9_holds_141 : decode cX9_holds 141 = .ok (.goto 4, 3) := by decide +kernel
theorem dX9_holds_144 : decode cX9_holds 144 = .ok (.iconst 0, 1) := by decide +kernel
theorem dX9_holds_145 : decode cX9_holds 145 = .ok (.ireturn, 1) := by decide +kernel
theorem dX9_holds_146 : decode cX9_holds 146 = .ok (.aload_n 0, 1) := by decide +kernel
theorem dX9_holds_147 : decode cX9_holds 147 = .ok (.getfield 70, 3) := by decide +kernel
theorem dX9_holds_150 : decode cX9_holds 150 = .ok (.iload 5, 2) := by decide +kernel
theorem dX9_holds_152 : decode cX9_holds 152 = .ok (.iaload, 1) := by decide +kernel
theorem dX9_holds_153 : decode cX9_holds 153 = .ok (.ifCond .lt 18, 3) := by decide +kernel
theorem dX9_holds_156 : decode cX9_holds 156 = .ok (.aload_n 0, 1) := by decide +kernel
theorem dX9_holds_157 : decode cX9_holds 157 = .ok (.iload_n 2, 1) := by decide +kernel
theorem dX9_holds_158 : decode cX9_holds 158 = .ok (.aload_n 0, 1) := by decide +kernel
theorem dX9_holds_159 : decode cX9_holds 159 = .ok (.getfield 70, 3) := by decide +kernel
theorem dX9_holds_162 : decode cX9_holds 162 = .ok (.iload 5, 2) := by decide +kernel
theorem dX9_holds_164 : decode cX9_holds 164 = .ok (.iaload, 1) := by decide +kernel
theorem dX9_holds_165 : decode cX9_holds 165 = .ok (.invokevirtual 367, 3) := by decide +kernel
theorem dX9_holds_168 : decode cX9_holds 168 = .ok (.ifCond .eq 32, 3) := by decide +kernel
theorem dX9_holds_171 : decode cX9_holds 171 = .ok (.aload_n 0, 1) := by decide +kernel
theorem dX9_holds_172 : decode cX9_holds 172 = .ok (.getfield 73, 3) := by decide +kernel
theorem dX9_holds_175 : decode cX9_holds 175 = .ok (.iload 5, 2) := by decide +kernel
theorem dX9_holds_177 : decode cX9_holds 177 = .ok (.iaload, 1) := by decide +kernel
theorem dX9_holds_178 : decode cX9_holds 178 = .ok (.ifCond .lt 18, 3) := by decide +kernel
theorem dX9_holds_181 : decode cX9_holds 181 = .ok (.aload_n 0, 1) := by decide +kernel
theorem dX9_holds_182 : decode cX9_holds 182 = .ok (.iload_n 2, 1) := by decide +kernel
theorem dX9_holds_183 : decode cX9_holds 183 = .ok (.aload_n 0, 1) := by decide +kernel
theorem dX9_holds_184 : decode cX9_holds 184 = .ok (.getfield 73, 3) := by decide +kernel
theorem dX9_holds_187 : decode cX9_holds 187 = .ok (.iload 5, 2) := by decide +kernel
theorem dX9_holds_189 : decode cX9_holds 189 = .ok (.iaload, 1) := by decide +kernel
theorem dX9_holds_190 : decode cX9_holds 190 = .ok (.invokevirtual 367, 3) := by decide +kernel
theorem dX9_holds_193 : decode cX9_holds 193 = .ok (.ifCond .eq 7, 3) := by decide +kernel
theorem dX9_holds_196 : decode cX9_holds 196 = .ok (.iconst 1, 1) := by decide +kernel
theorem dX9_holds_197 : decode cX9_holds 197 = .ok (.goto 4, 3) := by decide +kernel
theorem dX9_holds_200 : decode cX9_holds 200 = .ok (.iconst 0, 1) := by decide +kernel
theorem dX9_holds_201 : decode cX9_holds 201 = .ok (.ireturn, 1) := by decide +kernel
theorem dX9_isAloneNext_0 : decode cX9_isAloneNext 0 = .ok (.aload_n 0, 1) := by decide +kernel
theorem dX9_isAloneNext_1 : decode cX9_isAloneNext 1 = .ok (.iload_n 1, 1) := by decide +kernel
theorem dX9_isAloneNext_2 : decode cX9_isAloneNext 2 = .ok (.iload_n 2, 1) := by decide +kernel
theorem dX9_isAloneNext_3 : decode cX9_isAloneNext 3 = .ok (.bipush 64, 2) := by decide +kernel
theorem dX9_isAloneNext_5 : decode cX9_isAloneNext 5 = .ok (.invokevirtual 347, 3) := by decide +kernel
theorem dX9_isAloneNext_8 : decode cX9_isAloneNext 8 = .ok (.ifCond .ne 25, 3) := by decide +kernel
theorem dX9_isAloneNext_11 : decode cX9_isAloneNext 11 = .ok (.aload_n 0, 1) := by decide +kernel
theorem dX9_isAloneNext_12 : decode cX9_isAloneNext 12 = .ok (.iload_n 1, 1) := by decide +kernel
theorem dX9_isAloneNext_13 : decode cX9_isAloneNext 13 = .ok (.iload_n 2, 1) := by decide +kernel
theorem dX9_isAloneNext_14 : decode cX9_isAloneNext 14 = .ok (.iconst 1, 1) := by decide +kernel
theorem dX9_isAloneNext_15 : decode cX9_isAloneNext 15 = .ok (.invokevirtual 347, 3) := by decide +kernel
theorem dX9_isAloneNext_18 : decode cX9_isAloneNext 18 = .ok (.ifCond .ne 19, 3) := by decide +kernel
theorem dX9_isAloneNext_21 : decode cX9_isAloneNext 21 = .ok (.aload_n 0, 1) := by decide +kernel
theorem dX9_isAloneNext_22 : decode cX9_isAloneNext 22 = .ok (.iload_n 1, 1) := by decide +kernel
theorem dX9_isAloneNext_23 : decode cX9_isAloneNext 23 = .ok (.iload_n 2, 1) := by decide +kernel
theorem dX9_isAloneNext_24 : decode cX9_isAloneNext 24 = .ok (.sipush 128, 3) := by decide +kernel
theorem dX9_isAloneNext_27 : decode cX9_isAloneNext 27 = .ok (.invokevirtual 347, 3) := by decide +kernel
theorem dX9_isAloneNext_30 : decode cX9_isAloneNext 30 = .ok (.ifCond .eq 7, 3) := by decide +kernel
theorem dX9_isAloneNext_33 : decode cX9_isAloneNext 33 = .ok (.iconst 1, 1) := by decide +kernel
theorem dX9_isAloneNext_34 : decode cX9_isAloneNext 34 = .ok (.goto 4, 3) := by decide +kernel
theorem dX9_isAloneNext_37 : decode cX9_isAloneNext 37 = .ok (.iconst 0, 1) := by decide +kernel
theorem dX9_isAloneNext_38 : decode cX9_isAloneNext 38 = .ok (.ireturn, 1) := by decide +kernel
theorem dX9_allNext_0 : decode cX9_allNext 0 = .ok (.sipush 960, 3) := by decide +kernel
theorem dX9_allNext_3 : decode cX9_allNext 3 = .ok (.iload_n 2, 1) := by decide +kernel
theorem dX9_allNext_4 : decode cX9_allNext 4 = .ok (.iadd, 1) := by decide +kernel
theorem dX9_allNext_5 : decode cX9_allNext 5 = .ok (.istore 4, 2) := by decide +kernel
theorem dX9_allNext_7 : decode cX9_allNext 7 = .ok (.aload_n 0, 1) := by decide +kernel
theorem dX9_allNext_8 : decode cX9_allNext 8 = .ok (.getfield 70, 3) := by decide +kernel
theorem dX9_allNext_11 : decode cX9_allNext 11 = .ok (.iload 4, 2) := by decide +kernel
theorem dX9_allNext_13 : decode cX9_allNext 13 = .ok (.iaload, 1) := by decide +kernel
theorem dX9_allNext_14 : decode cX9_allNext 14 = .ok (.ifCond .lt 49, 3) := by decide +kernel
theorem dX9_allNext_17 : decode cX9_allNext 17 = .ok (.aload_n 0, 1) := by decide +kernel
theorem dX9_allNext_18 : decode cX9_allNext 18 = .ok (.iload_n 1, 1) := by decide +kernel
theorem dX9_allNext_19 : decode cX9_allNext 19 = .ok (.aload_n 0, 1) := by decide +kernel
theorem dX9_allNext_20 : decode cX9_allNext 20 = .ok (.getfield 70, 3) := by decide +kernel
theorem dX9_allNext_23 : decode cX9_allNext 23 = .ok (.iload 4, 2) := by decide +kernel
theorem dX9_allNext_25 : decode cX9_allNext 25 = .ok (.iaload, 1) := by decide +kernel
theorem dX9_allNext_26 : decode cX9_allNext 26 = .ok (.iload_n 3, 1) := by decide +kernel
theorem dX9_allNext_27 : decode cX9_allNext 27 = .ok (.invokevirtual 347, 3) := by decide +kernel
theorem dX9_allNext_30 : decode cX9_allNext 30 = .ok (.ifCond .eq 33, 3) := by decide +kernel
theorem dX9_allNext_33 : decode cX9_allNext 33 = .ok (.aload_n 0, 1) := by decide +kernel
theorem dX9_allNext_34 : decode cX9_allNext 34 = .ok (.getfield 73, 3) := by decide +kernel
theorem dX9_allNext_37 : decode cX9_allNext 37 = .ok (.iload 4, 2) := by decide +kernel
theorem dX9_allNext_39 : decode cX9_allNext 39 = .ok (.iaload, 1) := by decide +kernel
theorem dX9_allNext_40 : decode cX9_allNext 40 = .ok (.ifCond .lt 19, 3) := by decide +kernel
theorem dX9_allNext_43 : decode cX9_allNext 43 = .ok (.aload_n 0, 1) := by decide +kernel
theorem dX9_allNext_44 : decode cX9_allNext 44 = .ok (.iload_n 1, 1) := by decide +kernel
theorem dX9_allNext_45 : decode cX9_allNext 45 = .ok (.aload_n 0, 1) := by decide +kernel
theorem dX9_allNext_46 : decode cX9_allNext 46 = .ok (.getfield 73, 3) := by decide +kernel
theorem dX9_allNext_49 : decode cX9_allNext 49 = .ok (.iload 4, 2) := by decide +kernel
theorem dX9_allNext_51 : decode cX9_allNext 51 = .ok (.iaload, 1) := by decide +kernel
theorem dX9_allNext_52 : decode cX9_allNext 52 = .ok (.iload_n 3, 1) := by decide +kernel
theorem dX9_allNext_53 : decode cX9_allNext 53 = .ok (.invokevirtual 347, 3) := by decide +kernel
theorem dX9_allNext_56 : decode cX9_allNext 56 = .ok (.ifCond .eq 7, 3) := by decide +kernel
theorem dX9_allNext_59 : decode cX9_allNext 59 = .ok (.iconst 1, 1) := by decide +kernel
theorem dX9_allNext_60 : decode cX9_allNext 60 = .ok (.goto 4, 3) := by decide +kernel
theorem dX9_allNext_63 : decode cX9_allNext 63 = .ok (.iconst 0, 1) := by decide +kernel
theorem dX9_allNext_64 : decode cX9_allNext 64 = .ok (.ireturn, 1) := by decide +kernel
theorem dX9_leads_0 : decode cX9_leads 0 = .ok (.aload_n 0, 1) := by decide +kernel
theorem dX9_leads_1 : decode cX9_leads 1 = .ok (.getfield 70, 3) := by decide +kernel
theorem dX9_leads_4 : decode cX9_leads 4 = .ok (.sipush 960, 3) := by decide +kernel
theorem dX9_leads_7 : decode cX9_leads 7 = .ok (.iload_n 1, 1) := by decide +kernel
theorem dX9_leads_8 : decode cX9_leads 8 = .ok (.iadd, 1) := by decide +kernel
theorem dX9_leads_9 : decode cX9_leads 9 = .ok (.iaload, 1) := by decide +kernel
theorem dX9_leads_10 : decode cX9_leads 10 = .ok (.iload_n 2, 1) := by decide +kernel
theorem dX9_leads_11 : decode cX9_leads 11 = .ok (.if_icmp .eq 17, 3) := by decide +kernel
theorem dX9_leads_14 : decode cX9_leads 14 = .ok (.aload_n 0, 1) := by decide +kernel
theorem dX9_leads_15 : decode cX9_leads 15 = .ok (.getfield 73, 3) := by decide +kernel
theorem dX9_leads_18 : decode cX9_leads 18 = .ok (.sipush 960, 3) := by decide +kernel
theorem dX9_leads_21 : decode cX9_leads 21 = .ok (.iload_n 1, 1) := by decide +kernel
theorem dX9_leads_22 : decode cX9_leads 22 = .ok (.iadd, 1) := by decide +kernel
theorem dX9_leads_23 : decode cX9_leads 23 = .ok (.iaload, 1) := by decide +kernel
theorem dX9_leads_24 : decode cX9_leads 24 = .ok (.iload_n 2, 1) := by decide +kernel
theorem dX9_leads_25 : decode cX9_leads 25 = .ok (.if_icmp .ne 7, 3) := by decide +kernel
theorem dX9_leads_28 : decode cX9_leads 28 = .ok (.iconst 1, 1) := by decide +kernel
theorem dX9_leads_29 : decode cX9_leads 29 = .ok (.goto 4, 3) := by decide +kernel
theorem dX9_leads_32 : decode cX9_leads 32 = .ok (.iconst 0, 1) := by decide +kernel
theorem dX9_leads_33 : decode cX9_leads 33 = .ok (.ireturn, 1) := by decide +kernel
theorem dX9_allAhead_0 : decode cX9_allAhead 0 = .ok (.iconst 0, 1) := by decide +kernel
theorem dX9_allAhead_1 : decode cX9_allAhead 1 = .ok (.istore 4, 2) := by decide +kernel
theorem dX9_allAhead_3 : decode cX9_allAhead 3 = .ok (.iload 4, 2) := by decide +kernel
theorem dX9_allAhead_5 : decode cX9_allAhead 5 = .ok (.aload_n 0, 1) := by decide +kernel
theorem dX9_allAhead_6 : decode cX9_allAhead 6 = .ok (.getfield 43, 3) := by decide +kernel
theorem dX9_allAhead_9 : decode cX9_allAhead 9 = .ok (.iconst 4, 1) := by decide +kernel
theorem dX9_allAhead_10 : decode cX9_allAhead 10 = .ok (.iaload, 1) := by decide +kernel
theorem dX9_allAhead_11 : decode cX9_allAhead 11 = .ok (.if_icmp .ge 107, 3) := by decide +kernel
theorem dX9_allAhead_14 : decode cX9_allAhead 14 = .ok (.aload_n 0, 1) := by decide +kernel
theorem dX9_allAhead_15 : decode cX9_allAhead 15 = .ok (.iload 4, 2) := by decide +kernel
theorem dX9_allAhead_17 : decode cX9_allAhead 17 = .ok (.iload_n 2, 1) := by decide +kernel
theorem dX9_allAhead_18 : decode cX9_allAhead 18 = .ok (.invokevirtual 370, 3) := by decide +kernel
theorem dX9_allAhead_21 : decode cX9_allAhead 21 = .ok (.ifCond .ne 6, 3) := by decide +kernel
theorem dX9_allAhead_24 : decode cX9_allAhead 24 = .ok (.goto 88, 3) := by decide +kernel
theorem dX9_allAhead_27 : decode cX9_allAhead 27 = .ok (.iload_n 3, 1) := by decide +kernel
theorem dX9_allAhead_28 : decode cX9_allAhead 28 = .ok (.bipush 8, 2) := by decide +kernel
theorem dX9_allAhead_30 : decode cX9_allAhead 30 = .ok (.if_icmp .ne 45, 3) := by decide +kernel
theorem dX9_allAhead_33 : decode cX9_allAhead 33 = .ok (.aload_n 0, 1) := by decide +kernel
theorem dX9_allAhead_34 : decode cX9_allAhead 34 = .ok (.iload_n 1, 1) := by decide +kernel
theorem dX9_allAhead_35 : decode cX9_allAhead 35 = .ok (.iload 4, 2) := by decide +kernel
theorem dX9_allAhead_37 : decode cX9_allAhead 37 = .ok (.iconst 2, 1) := by decide +kernel
theorem dX9_allAhead_38 : decode cX9_allAhead 38 = .ok (.invokevirtual 347, 3) := by decide +kernel
theorem dX9_allAhead_41 : decode cX9_allAhead 41 = .ok (.ifCond .ne 30, 3) := by decide +kernel
theorem dX9_allAhead_44 : decode cX9_allAhead 44 = .ok (.aload_n 0, 1) := by decide +kernel
theorem dX9_allAhead_45 : decode cX9_allAhead 45 = .ok (.iload_n 1, 1) := by decide +kernel
theorem dX9_allAhead_46 : decode cX9_allAhead 46 = .ok (.iload 4, 2) := by decide +kernel
theorem dX9_allAhead_48 : decode cX9_allAhead 48 = .ok (.iconst 1, 1) := by decide +kernel
theorem dX9_allAhead_49 : decode cX9_allAhead 49 = .ok (.invokevirtual 347, 3) := by decide +kernel
theorem dX9_allAhead_52 : decode cX9_allAhead 52 = .ok (.ifCond .ne 15, 3) := by decide +kernel
theorem dX9_allAhead_55 : decode cX9_allAhead 55 = .ok (.aload_n 0, 1) := by decide +kernel
theorem dX9_allAhead_56 : decode cX9_allAhead 56 = .ok (.iload_n 1, 1) := by decide +kernel
theorem dX9_allAhead_57 : decode cX9_allAhead 57 = .ok (.iload 4, 2) := by decide +kernel
theorem dX9_allAhead_59 : decode cX9_allAhead 59 = .ok (.bipush 8, 2) := by decide +kernel
theorem dX9_allAhead_61 : decode cX9_allAhead 61 = .ok (.invokevirtual 347, 3) := by decide +kernel
theorem dX9_allAhead_64 : decode cX9_allAhead 64 = .ok (.ifCond .eq 7, 3) := by decide +kernel
theorem dX9_allAhead_67 : decode cX9_allAhead 67 = .ok (.iconst 1, 1) := by decide +kernel
theorem dX9_allAhead_68 : decode cX9_allAhead 68 = .ok (.goto 35, 3) := by decide +kernel
theorem dX9_allAhead_71 : decode cX9_allAhead 71 = .ok (.iconst 0, 1) := by decide +kernel
theorem dX9_allAhead_72 : decode cX9_allAhead 72 = .ok (.goto 31, 3) := by decide +kernel
theorem dX9_allAhead_75 : decode cX9_allAhead 75 = .ok (.aload_n 0, 1) := by decide +kernel
theorem dX9_allAhead_76 : decode cX9_allAhead 76 = .ok (.iload_n 1, 1) := by decide +kernel
theorem dX9_allAhead_77 : decode cX9_allAhead 77 = .ok (.iload 4, 2) := by decide +kernel
theorem dX9_allAhead_79 : decode cX9_allAhead 79 = .ok (.bipush 32, 2) := by decide +kernel
theorem dX9_allAhead_81 : decode cX9_allAhead 81 = .ok (.invokevirtual 347, 3) := by decide +kernel
theorem dX9_allAhead_84 : decode cX9_allAhead 84 = .ok (.ifCond .eq 18, 3) := by decide +kernel
theorem dX9_allAhead_87 : decode cX9_allAhead 87 = .ok (.aload_n 0, 1) := by decide +kernel
theorem dX9_allAhead_88 : decode cX9_allAhead 88 = .ok (.iload_n 1, 1) := by decide +kernel
theorem dX9_allAhead_89 : decode cX9_allAhead 89 = .ok (.iload 4, 2) := by decide +kernel
theorem dX9_allAhead_91 : decode cX9_allAhead 91 = .ok (.iconst 1, 1) := by decide +kernel
theorem dX9_allAhead_92 : decode cX9_allAhead 92 = .ok (.invokevirtual 347, 3) := by decide +kernel
theorem dX9_allAhead_95 : decode cX9_allAhead 95 = .ok (.ifCond .ne 7, 3) := by decide +kernel
theorem dX9_allAhead_98 : decode cX9_allAhead 98 = .ok (.iconst 1, 1) := by decide +kernel
theorem dX9_allAhead_99 : decode cX9_allAhead 99 = .ok (.goto 4, 3) := by decide +kernel
theorem dX9_allAhead_102 : decode cX9_allAhead 102 = .ok (.iconst 0, 1) := by decide +kernel
theorem dX9_allAhead_103 : decode cX9_allAhead 103 = .ok (.istore 5, 2) := by decide +kernel
theorem dX9_allAhead_105 : decode cX9_allAhead 105 = .ok (.iload 5, 2) := by decide +kernel
theorem dX9_allAhead_107 : decode cX9_allAhead 107 = .ok (.ifCond .ne 5, 3) := by decide +kernel
theorem dX9_allAhead_110 : decode cX9_allAhead 110 = .ok (.iconst 0, 1) := by decide +kernel
theorem dX9_allAhead_111 : decode cX9_allAhead 111 = .ok (.ireturn, 1) := by decide +kernel
theorem dX9_allAhead_112 : decode cX9_allAhead 112 = .ok (.iinc 4 1, 3) := by decide +kernel
theorem dX9_allAhead_115 : decode cX9_allAhead 115 = .ok (.goto (-112), 3) := by decide +kernel
theorem dX9_allAhead_118 : decode cX9_allAhead 118 = .ok (.iconst 1, 1) := by decide +kernel
theorem dX9_allAhead_119 : decode cX9_allAhead 119 = .ok (.ireturn, 1) := by decide +kernel
theorem dX9_anyAhead_0 : decode cX9_anyAhead 0 = .ok (.iconst 0, 1) := by decide +kernel
theorem dX9_anyAhead_1 : decode cX9_anyAhead 1 = .ok (.istore_n 3, 1) := by decide +kernel
theorem dX9_anyAhead_2 : decode cX9_anyAhead 2 = .ok (.iload_n 3, 1) := by decide +kernel
theorem dX9_anyAhead_3 : decode cX9_anyAhead 3 = .ok (.aload_n 0, 1) := by decide +kernel
theorem dX9_anyAhead_4 : decode cX9_anyAhead 4 = .ok (.getfield 43, 3) := by decide +kernel
theorem dX9_anyAhead_7 : decode cX9_anyAhead 7 = .ok (.iconst 4, 1) := by decide +kernel
theorem dX9_anyAhead_8 : decode cX9_anyAhead 8 = .ok (.iaload, 1) := by decide +kernel
theorem dX9_anyAhead_9 : decode cX9_anyAhead 9 = .ok (.if_icmp .ge 51, 3) := by decide +kernel
theorem dX9_anyAhead_12 : decode cX9_anyAhead 12 = .ok (.aload_n 0, 1) := by decide +kernel
theorem dX9_anyAhead_13 : decode cX9_anyAhead 13 = .ok (.iload_n 3, 1) := by decide +kernel
theorem dX9_anyAhead_14 : decode cX9_anyAhead 14 = .ok (.iload_n 2, 1) := by decide +kernel
theorem dX9_anyAhead_15 : decode cX9_anyAhead 15 = .ok (.invokevirtual 370, 3) := by decide +kernel
theorem dX9_anyAhead_18 : decode cX9_anyAhead 18 = .ok (.ifCond .eq 36, 3) := by decide +kernel
theorem dX9_anyAhead_21 : decode cX9_anyAhead 21 = .ok (.aload_n 0, 1) := by decide +kernel
theorem dX9_anyAhead_22 : decode cX9_anyAhead 22 = .ok (.iload_n 1, 1) := by decide +kernel
theorem dX9_anyAhead_23 : decode cX9_anyAhead 23 = .ok (.iload_n 3, 1) := by decide +kernel
theorem dX9_anyAhead_24 : decode cX9_anyAhead 24 = .ok (.iconst 2, 1) := by decide +kernel
theorem dX9_anyAhead_25 : decode cX9_anyAhead 25 = .ok (.invokevirtual 347, 3) := by decide +kernel
theorem dX9_anyAhead_28 : decode cX9_anyAhead 28 = .ok (.ifCond .ne 24, 3) := by decide +kernel
theorem dX9_anyAhead_31 : decode cX9_anyAhead 31 = .ok (.aload_n 0, 1) := by decide +kernel
theorem dX9_anyAhead_32 : decode cX9_anyAhead 32 = .ok (.iload_n 1, 1) := by decide +kernel
theorem dX9_anyAhead_33 : decode cX9_anyAhead 33 = .ok (.iload_n 3, 1) := by decide +kernel
theorem dX9_anyAhead_34 : decode cX9_anyAhead 34 = .ok (.bipush 8, 2) := by decide +kernel
theorem dX9_anyAhead_36 : decode cX9_anyAhead 36 = .ok (.invokevirtual 347, 3) := by decide +kernel
theorem dX9_anyAhead_39 : decode cX9_anyAhead 39 = .ok (.ifCond .ne 15, 3) := by decide +kernel
theorem dX9_anyAhead_42 : decode cX9_anyAhead 42 = .ok (.aload_n 0, 1) := by decide +kernel
theorem dX9_anyAhead_43 : decode cX9_anyAhead 43 = .ok (.iload_n 1, 1) := by decide +kernel
theorem dX9_anyAhead_44 : decode cX9_anyAhead 44 = .ok (.iload_n 3, 1) := by decide +kernel
theorem dX9_anyAhead_45 : decode cX9_anyAhead 45 = .ok (.iconst 4, 1) := by decide +kernel
theorem dX9_anyAhead_46 : decode cX9_anyAhead 46 = .ok (.invokevirtual 347, 3) := by decide +kernel
theorem dX9_anyAhead_49 : decode cX9_anyAhead 49 = .ok (.ifCond .ne 5, 3) := by decide +kernel
theorem dX9_anyAhead_52 : decode cX9_anyAhead 52 = .ok (.iconst 1, 1) := by decide +kernel
theorem dX9_anyAhead_53 : decode cX9_anyAhead 53 = .ok (.ireturn, 1) := by decide +kernel
theorem dX9_anyAhead_54 : decode cX9_anyAhead 54 = .ok (.iinc 3 1, 3) := by decide +kernel
theorem dX9_anyAhead_57 : decode cX9_anyAhead 57 = .ok (.goto (-55), 3) := by decide +kernel
theorem dX9_anyAhead_60 : decode cX9_anyAhead 60 = .ok (.iconst 0, 1) := by decide +kernel
theorem dX9_anyAhead_61 : decode cX9_anyAhead 61 = .ok (.ireturn, 1) := by decide +kernel
theorem dX9_copy_0 : decode cX9_copy 0 = .ok (.aload_n 0, 1) := by decide +kernel
theorem dX9_copy_1 : decode cX9_copy 1 = .ok (.getfield 36, 3) := by decide +kernel
theorem dX9_copy_4 : decode cX9_copy 4 = .ok (.iload_n 1, 1) := by decide +kernel
theorem dX9_copy_5 : decode cX9_copy 5 = .ok (.iconst 1, 1) := by decide +kernel
theorem dX9_copy_6 : decode cX9_copy 6 = .ok (.bastore, 1) := by decide +kernel
theorem dX9_copy_7 : decode cX9_copy 7 = .ok (.aload_n 0, 1) := by decide +kernel
theorem dX9_copy_8 : decode cX9_copy 8 = .ok (.getfield 40, 3) := by decide +kernel
theorem dX9_copy_11 : decode cX9_copy 11 = .ok (.iload_n 1, 1) := by decide +kernel
theorem dX9_copy_12 : decode cX9_copy 12 = .ok (.aload_n 0, 1) := by decide +kernel
theorem dX9_copy_13 : decode cX9_copy 13 = .ok (.getfield 40, 3) := by decide +kernel
theorem dX9_copy_16 : decode cX9_copy 16 = .ok (.iconst 4, 1) := by decide +kernel
theorem dX9_copy_17 : decode cX9_copy 17 = .ok (.iaload, 1) := by decide +kernel
theorem dX9_copy_18 : decode cX9_copy 18 = .ok (.iastore, 1) := by decide +kernel
theorem dX9_copy_19 : decode cX9_copy 19 = .ok (.aload_n 0, 1) := by decide +kernel
theorem dX9_copy_20 : decode cX9_copy 20 = .ok (.getfield 43, 3) := by decide +kernel
theorem dX9_copy_23 : decode cX9_copy 23 = .ok (.iload_n 1, 1) := by decide +kernel
theorem dX9_copy_24 : decode cX9_copy 24 = .ok (.aload_n 0, 1) := by decide +kernel
theorem dX9_copy_25 : decode cX9_copy 25 = .ok (.getfield 43, 3) := by decide +kernel
theorem dX9_copy_28 : decode cX9_copy 28 = .ok (.iconst 4, 1) := by decide +kernel
theorem dX9_copy_29 : decode cX9_copy 29 = .ok (.iaload, 1) := by decide +kernel
theorem dX9_copy_30 : decode cX9_copy 30 = .ok (.iastore, 1) := by decide +kernel
theorem dX9_copy_31 : decode cX9_copy 31 = .ok (.aload_n 0, 1) := by decide +kernel
theorem dX9_copy_32 : decode cX9_copy 32 = .ok (.getfield 46, 3) := by decide +kernel
theorem dX9_copy_35 : decode cX9_copy 35 = .ok (.iload_n 1, 1) := by decide +kernel
theorem dX9_copy_36 : decode cX9_copy 36 = .ok (.aload_n 0, 1) := by decide +kernel
theorem dX9_copy_37 : decode cX9_copy 37 = .ok (.getfield 46, 3) := by decide +kernel
theorem dX9_copy_40 : decode cX9_copy 40 = .ok (.iconst 4, 1) := by decide +kernel
theorem dX9_copy_41 : decode cX9_copy 41 = .ok (.iaload, 1) := by decide +kernel
theorem dX9_copy_42 : decode cX9_copy 42 = .ok (.iastore, 1) := by decide +kernel
theorem dX9_copy_43 : decode cX9_copy 43 = .ok (.aload_n 0, 1) := by decide +kernel
theorem dX9_copy_44 : decode cX9_copy 44 = .ok (.getfield 49, 3) := by decide +kernel
theorem dX9_copy_47 : decode cX9_copy 47 = .ok (.iload_n 1, 1) := by decide +kernel
theorem dX9_copy_48 : decode cX9_copy 48 = .ok (.aload_n 0, 1) := by decide +kernel
theorem dX9_copy_49 : decode cX9_copy 49 = .ok (.getfield 49, 3) := by decide +kernel
theorem dX9_copy_52 : decode cX9_copy 52 = .ok (.iconst 4, 1) := by decide +kernel
theorem dX9_copy_53 : decode cX9_copy 53 = .ok (.iaload, 1) := by decide +kernel
theorem dX9_copy_54 : decode cX9_copy 54 = .ok (.iastore, 1) := by decide +kernel
theorem dX9_copy_55 : decode cX9_copy 55 = .ok (.aload_n 0, 1) := by decide +kernel
theorem dX9_copy_56 : decode cX9_copy 56 = .ok (.getfield 186, 3) := by decide +kernel
theorem dX9_copy_59 : decode cX9_copy 59 = .ok (.iload_n 1, 1) := by decide +kernel
theorem dX9_copy_60 : decode cX9_copy 60 = .ok (.iconst 0, 1) := by decide +kernel
theorem dX9_copy_61 : decode cX9_copy 61 = .ok (.iastore, 1) := by decide +kernel
theorem dX9_copy_62 : decode cX9_copy 62 = .ok (.iconst 0, 1) := by decide +kernel
theorem dX9_copy_63 : decode cX9_copy 63 = .ok (.istore_n 2, 1) := by decide +kernel
theorem dX9_copy_64 : decode cX9_copy 64 = .ok (.iload_n 2, 1) := by decide +kernel
theorem dX9_copy_65 : decode cX9_copy 65 = .ok (.aload_n 0, 1) := by decide +kernel
theorem dX9_copy_66 : decode cX9_copy 66 = .ok (.getfield 40, 3) := by decide +kernel
theorem dX9_copy_69 : decode cX9_copy 69 = .ok (.iload_n 1, 1) := by decide +kernel
theorem dX9_copy_70 : decode cX9_copy 70 = .ok (.iaload, 1) := by decide +kernel
theorem dX9_copy_71 : decode cX9_copy 71 = .ok (.if_icmp .ge 30, 3) := by decide +kernel
theorem dX9_copy_74 : decode cX9_copy 74 = .ok (.aload_n 0, 1) := by decide +kernel
theorem dX9_copy_75 : decode cX9_copy 75 = .ok (.getfield 52, 3) := by decide +kernel
theorem dX9_copy_78 : decode cX9_copy 78 = .ok (.bipush 41, 2) := by decide +kernel
theorem dX9_copy_80 : decode cX9_copy 80 = .ok (.iload_n 1, 1) := by decide +kernel
theorem dX9_copy_81 : decode cX9_copy 81 = .ok (.imul, 1) := by decide +kernel
theorem dX9_copy_82 : decode cX9_copy 82 = .ok (.iload_n 2, 1) := by decide +kernel
theorem dX9_copy_83 : decode cX9_copy 83 = .ok (.iadd, 1) := by decide +kernel
theorem dX9_copy_84 : decode cX9_copy 84 = .ok (.aload_n 0, 1) := by decide +kernel
theorem dX9_copy_85 : decode cX9_copy 85 = .ok (.getfield 52, 3) := by decide +kernel
theorem dX9_copy_88 : decode cX9_copy 88 = .ok (.sipush 164, 3) := by decide +kernel
theorem dX9_copy_91 : decode cX9_copy 91 = .ok (.iload_n 2, 1) := by decide +kernel
theorem dX9_copy_92 : decode cX9_copy 92 = .ok (.iadd, 1) := by decide +kernel
theorem dX9_copy_93 : decode cX9_copy 93 = .ok (.iaload, 1) := by decide +kernel
theorem dX9_copy_94 : decode cX9_copy 94 = .ok (.iastore, 1) := by decide +kernel
theorem dX9_copy_95 : decode cX9_copy 95 = .ok (.iinc 2 1, 3) := by decide +kernel
theorem dX9_copy_98 : decode cX9_copy 98 = .ok (.goto (-34), 3) := by decide +kernel
theorem dX9_copy_101 : decode cX9_copy 101 = .ok (.iconst 0, 1) := by decide +kernel
theorem dX9_copy_102 : decode cX9_copy 102 = .ok (.istore_n 2, 1) := by decide +kernel
theorem dX9_copy_103 : decode cX9_copy 103 = .ok (.iload_n 2, 1) := by decide +kernel
theorem dX9_copy_104 : decode cX9_copy 104 = .ok (.aload_n 0, 1) := by decide +kernel
theorem dX9_copy_105 : decode cX9_copy 105 = .ok (.getfield 43, 3) := by decide +kernel
theorem dX9_copy_108 : decode cX9_copy 108 = .ok (.iload_n 1, 1) := by decide +kernel
theorem dX9_copy_109 : decode cX9_copy 109 = .ok (.iaload, 1) := by decide +kernel
theorem dX9_copy_110 : decode cX9_copy 110 = .ok (.if_icmp .ge 167, 3) := by decide +kernel
theorem dX9_copy_113 : decode cX9_copy 113 = .ok (.sipush 240, 3) := by decide +kernel
theorem dX9_copy_116 : decode cX9_copy 116 = .ok (.iload_n 1, 1) := by decide +kernel
theorem dX9_copy_117 : decode cX9_copy 117 = .ok (.imul, 1) := by decide +kernel
theorem dX9_copy_118 : decode cX9_copy 118 = .ok (.iload_n 2, 1) := by decide +kernel
theorem dX9_copy_119 : decode cX9_copy 119 = .ok (.iadd, 1) := by decide +kernel
theorem dX9_copy_120 : decode cX9_copy 120 = .ok (.istore_n 3, 1) := by decide +kernel
theorem dX9_copy_121 : decode cX9_copy 121 = .ok (.sipush 960, 3) := by decide +kernel
theorem dX9_copy_124 : decode cX9_copy 124 = .ok (.iload_n 2, 1) := by decide +kernel
theorem dX9_copy_125 : decode cX9_copy 125 = .ok (.iadd, 1) := by decide +kernel
theorem dX9_copy_126 : decode cX9_copy 126 = .ok (.istore 4, 2) := by decide +kernel
theorem dX9_copy_128 : decode cX9_copy 128 = .ok (.aload_n 0, 1) := by decide +kernel
theorem dX9_copy_129 : decode cX9_copy 129 = .ok (.getfield 58, 3) := by decide +kernel
theorem dX9_copy_132 : decode cX9_copy 132 = .ok (.iload_n 3, 1) := by decide +kernel
theorem dX9_copy_133 : decode cX9_copy 133 = .ok (.aload_n 0, 1) := by decide +kernel
theorem dX9_copy_134 : decode cX9_copy 134 = .ok (.getfield 58, 3) := by decide +kernel
theorem dX9_copy_137 : decode cX9_copy 137 = .ok (.iload 4, 2) := by decide +kernel
theorem dX9_copy_139 : decode cX9_copy 139 = .ok (.iaload, 1) := by decide +kernel
theorem dX9_copy_140 : decode cX9_copy 140 = .ok (.iastore, 1) := by decide +kernel
theorem dX9_copy_141 : decode cX9_copy 141 = .ok (.aload_n 0, 1) := by decide +kernel
theorem dX9_copy_142 : decode cX9_copy 142 = .ok (.getfield 61, 3) := by decide +kernel
theorem dX9_copy_145 : decode cX9_copy 145 = .ok (.iload_n 3, 1) := by decide +kernel
theorem dX9_copy_146 : decode cX9_copy 146 = .ok (.aload_n 0, 1) := by decide +kernel
theorem dX9_copy_147 : decode cX9_copy 147 = .ok (.getfield 61, 3) := by decide +kernel
theorem dX9_copy_150 : decode cX9_copy 150 = .ok (.iload 4, 2) := by decide +kernel
theorem dX9_copy_152 : decode cX9_copy 152 = .ok (.iaload, 1) := by decide +kernel
theorem dX9_copy_153 : decode cX9_copy 153 = .ok (.iastore, 1) := by decide +kernel
theorem dX9_copy_154 : decode cX9_copy 154 = .ok (.aload_n 0, 1) := by decide +kernel
theorem dX9_copy_155 : decode cX9_copy 155 = .ok (.getfield 64, 3) := by decide +kernel
theorem dX9_copy_158 : decode cX9_copy 158 = .ok (.iload_n 3, 1) := by decide +kernel
theorem dX9_copy_159 : decode cX9_copy 159 = .ok (.aload_n 0, 1) := by decide +kernel
theorem dX9_copy_160 : decode cX9_copy 160 = .ok (.getfield 64, 3) := by decide +kernel
theorem dX9_copy_163 : decode cX9_copy 163 = .ok (.iload 4, 2) := by decide +kernel
theorem dX9_copy_165 : decode cX9_copy 165 = .ok (.iaload, 1) := by decide +kernel
theorem dX9_copy_166 : decode cX9_copy 166 = .ok (.iastore, 1) := by decide +kernel
theorem dX9_copy_167 : decode cX9_copy 167 = .ok (.aload_n 0, 1) := by decide +kernel
theorem dX9_copy_168 : decode cX9_copy 168 = .ok (.getfield 67, 3) := by decide +kernel
theorem dX9_copy_171 : decode cX9_copy 171 = .ok (.iload_n 3, 1) := by decide +kernel
theorem dX9_copy_172 : decode cX9_copy 172 = .ok (.aload_n 0, 1) := by decide +kernel
theorem dX9_copy_173 : decode cX9_copy 173 = .ok (.getfield 67, 3) := by decide +kernel
theorem dX9_copy_176 : decode cX9_copy 176 = .ok (.iload 4, 2) := by decide +kernel
theorem dX9_copy_178 : decode cX9_copy 178 = .ok (.iaload, 1) := by decide +kernel
theorem dX9_copy_179 : decode cX9_copy 179 = .ok (.iastore, 1) := by decide +kernel
theorem dX9_copy_180 : decode cX9_copy 180 = .ok (.aload_n 0, 1) := by decide +kernel
theorem dX9_copy_181 : decode cX9_copy 181 = .ok (.getfield 70, 3) := by decide +kernel
theorem dX9_copy_184 : decode cX9_copy 184 = .ok (.iload_n 3, 1) := by decide +kernel
theorem dX9_copy_185 : decode cX9_copy 185 = .ok (.aload_n 0, 1) := by decide +kernel
theorem dX9_copy_186 : decode cX9_copy 186 = .ok (.getfield 70, 3) := by decide +kernel
theorem dX9_copy_189 : decode cX9_copy 189 = .ok (.iload 4, 2) := by decide +kernel
theorem dX9_copy_191 : decode cX9_copy 191 = .ok (.iaload, 1) := by decide +kernel
theorem dX9_copy_192 : decode cX9_copy 192 = .ok (.iastore, 1) := by decide +kernel
theorem dX9_copy_193 : decode cX9_copy 193 = .ok (.aload_n 0, 1) := by decide +kernel
theorem dX9_copy_194 : decode cX9_copy 194 = .ok (.getfield 73, 3) := by decide +kernel
theorem dX9_copy_197 : decode cX9_copy 197 = .ok (.iload_n 3, 1) := by decide +kernel
theorem dX9_copy_198 : decode cX9_copy 198 = .ok (.aload_n 0, 1) := by decide +kernel
theorem dX9_copy_199 : decode cX9_copy 199 = .ok (.getfield 73, 3) := by decide +kernel
theorem dX9_copy_202 : decode cX9_copy 202 = .ok (.iload 4, 2) := by decide +kernel
theorem dX9_copy_204 : decode cX9_copy 204 = .ok (.iaload, 1) := by decide +kernel
theorem dX9_copy_205 : decode cX9_copy 205 = .ok (.iastore, 1) := by decide +kernel
theorem dX9_copy_206 : decode cX9_copy 206 = .ok (.aload_n 0, 1) := by decide +kernel
theorem dX9_copy_207 : decode cX9_copy 207 = .ok (.getfield 76, 3) := by decide +kernel
theorem dX9_copy_210 : decode cX9_copy 210 = .ok (.iload_n 3, 1) := by decide +kernel
theorem dX9_copy_211 : decode cX9_copy 211 = .ok (.aload_n 0, 1) := by decide +kernel
theorem dX9_copy_212 : decode cX9_copy 212 = .ok (.getfield 76, 3) := by decide +kernel
theorem dX9_copy_215 : decode cX9_copy 215 = .ok (.iload 4, 2) := by decide +kernel
theorem dX9_copy_217 : decode cX9_copy 217 = .ok (.iaload, 1) := by decide +kernel
theorem dX9_copy_218 : decode cX9_copy 218 = .ok (.iastore, 1) := by decide +kernel
theorem dX9_copy_219 : decode cX9_copy 219 = .ok (.aload_n 0, 1) := by decide +kernel
theorem dX9_copy_220 : decode cX9_copy 220 = .ok (.getfield 79, 3) := by decide +kernel
theorem dX9_copy_223 : decode cX9_copy 223 = .ok (.iload_n 3, 1) := by decide +kernel
theorem dX9_copy_224 : decode cX9_copy 224 = .ok (.aload_n 0, 1) := by decide +kernel
theorem dX9_copy_225 : decode cX9_copy 225 = .ok (.getfield 79, 3) := by decide +kernel
theorem dX9_copy_228 : decode cX9_copy 228 = .ok (.iload 4, 2) := by decide +kernel
theorem dX9_copy_230 : decode cX9_copy 230 = .ok (.iaload, 1) := by decide +kernel
theorem dX9_copy_231 : decode cX9_copy 231 = .ok (.iastore, 1) := by decide +kernel
theorem dX9_copy_232 : decode cX9_copy 232 = .ok (.aload_n 0, 1) := by decide +kernel
theorem dX9_copy_233 : decode cX9_copy 233 = .ok (.getfield 82, 3) := by decide +kernel
theorem dX9_copy_236 : decode cX9_copy 236 = .ok (.iload_n 3, 1) := by decide +kernel
theorem dX9_copy_237 : decode cX9_copy 237 = .ok (.aload_n 0, 1) := by decide +kernel
theorem dX9_copy_238 : decode cX9_copy 238 = .ok (.getfield 82, 3) := by decide +kernel
theorem dX9_copy_241 : decode cX9_copy 241 = .ok (.iload 4, 2) := by decide +kernel
theorem dX9_copy_243 : decode cX9_copy 243 = .ok (.iaload, 1) := by decide +kernel
theorem dX9_copy_244 : decode cX9_copy 244 = .ok (.iastore, 1) := by decide +kernel
theorem dX9_copy_245 : decode cX9_copy 245 = .ok (.aload_n 0, 1) := by decide +kernel
theorem dX9_copy_246 : decode cX9_copy 246 = .ok (.getfield 85, 3) := by decide +kernel
theorem dX9_copy_249 : decode cX9_copy 249 = .ok (.iload_n 3, 1) := by decide +kernel
theorem dX9_copy_250 : decode cX9_copy 250 = .ok (.aload_n 0, 1) := by decide +kernel
theorem dX9_copy_251 : decode cX9_copy 251 = .ok (.getfield 85, 3) := by decide +kernel
theorem dX9_copy_254 : decode cX9_copy 254 = .ok (.iload 4, 2) := by decide +kernel
theorem dX9_copy_256 : decode cX9_copy 256 = .ok (.iaload, 1) := by decide +kernel
theorem dX9_copy_257 : decode cX9_copy 257 = .ok (.iastore, 1) := by decide +kernel
theorem dX9_copy_258 : decode cX9_copy 258 = .ok (.aload_n 0, 1) := by decide +kernel
theorem dX9_copy_259 : decode cX9_copy 259 = .ok (.getfield 88, 3) := by decide +kernel
theorem dX9_copy_262 : decode cX9_copy 262 = .ok (.iload_n 3, 1) := by decide +kernel
theorem dX9_copy_263 : decode cX9_copy 263 = .ok (.aload_n 0, 1) := by decide +kernel
theorem dX9_copy_264 : decode cX9_copy 264 = .ok (.getfield 88, 3) := by decide +kernel
theorem dX9_copy_267 : decode cX9_copy 267 = .ok (.iload 4, 2) := by decide +kernel
theorem dX9_copy_269 : decode cX9_copy 269 = .ok (.iaload, 1) := by decide +kernel
theorem dX9_copy_270 : decode cX9_copy 270 = .ok (.iastore, 1) := by decide +kernel
theorem dX9_copy_271 : decode cX9_copy 271 = .ok (.iinc 2 1, 3) := by decide +kernel
theorem dX9_copy_274 : decode cX9_copy 274 = .ok (.goto (-171), 3) := by decide +kernel
theorem dX9_copy_277 : decode cX9_copy 277 = .ok (.iconst 0, 1) := by decide +kernel
theorem dX9_copy_278 : decode cX9_copy 278 = .ok (.istore_n 2, 1) := by decide +kernel
theorem dX9_copy_279 : decode cX9_copy 279 = .ok (.iload_n 2, 1) := by decide +kernel
theorem dX9_copy_280 : decode cX9_copy 280 = .ok (.aload_n 0, 1) := by decide +kernel
theorem dX9_copy_281 : decode cX9_copy 281 = .ok (.getfield 49, 3) := by decide +kernel
theorem dX9_copy_284 : decode cX9_copy 284 = .ok (.iload_n 1, 1) := by decide +kernel
theorem dX9_copy_285 : decode cX9_copy 285 = .ok (.iaload, 1) := by decide +kernel
theorem dX9_copy_286 : decode cX9_copy 286 = .ok (.if_icmp .ge 158, 3) := by decide +kernel
theorem dX9_copy_289 : decode cX9_copy 289 = .ok (.aload_n 0, 1) := by decide +kernel
theorem dX9_copy_290 : decode cX9_copy 290 = .ok (.getfield 91, 3) := by decide +kernel
theorem dX9_copy_293 : decode cX9_copy 293 = .ok (.bipush 32, 2) := by decide +kernel
theorem dX9_copy_295 : decode cX9_copy 295 = .ok (.iload_n 1, 1) := by decide +kernel
theorem dX9_copy_296 : decode cX9_copy 296 = .ok (.imul, 1) := by decide +kernel
theorem dX9_copy_297 : decode cX9_copy 297 = .ok (.iload_n 2, 1) := by decide +kernel
theorem dX9_copy_298 : decode cX9_copy 298 = .ok (.iadd, 1) := by decide +kernel
theorem dX9_copy_299 : decode cX9_copy 299 = .ok (.aload_n 0, 1) := by decide +kernel
theorem dX9_copy_300 : decode cX9_copy 300 = .ok (.getfield 91, 3) := by decide +kernel
theorem dX9_copy_303 : decode cX9_copy 303 = .ok (.sipush 128, 3) := by decide +kernel
theorem dX9_copy_306 : decode cX9_copy 306 = .ok (.iload_n 2, 1) := by decide +kernel
theorem dX9_copy_307 : decode cX9_copy 307 = .ok (.iadd, 1) := by decide +kernel
theorem dX9_copy_308 : decode cX9_copy 308 = .ok (.iaload, 1) := by decide +kernel
theorem dX9_copy_309 : decode cX9_copy 309 = .ok (.iastore, 1) := by decide +kernel
theorem dX9_copy_310 : decode cX9_copy 310 = .ok (.aload_n 0, 1) := by decide +kernel
theorem dX9_copy_311 : decode cX9_copy 311 = .ok (.getfield 94, 3) := by decide +kernel
theorem dX9_copy_314 : decode cX9_copy 314 = .ok (.bipush 32, 2) := by decide +kernel
theorem dX9_copy_316 : decode cX9_copy 316 = .ok (.iload_n 1, 1) := by decide +kernel
theorem dX9_copy_317 : decode cX9_copy 317 = .ok (.imul, 1) := by decide +kernel
theorem dX9_copy_318 : decode cX9_copy 318 = .ok (.iload_n 2, 1) := by decide +kernel
theorem dX9_copy_319 : decode cX9_copy 319 = .ok (.iadd, 1) := by decide +kernel
theorem dX9_copy_320 : decode cX9_copy 320 = .ok (.aload_n 0, 1) := by decide +kernel
theorem dX9_copy_321 : decode cX9_copy 321 = .ok (.getfield 94, 3) := by decide +kernel
theorem dX9_copy_324 : decode cX9_copy 324 = .ok (.sipush 128, 3) := by decide +kernel
theorem dX9_copy_327 : decode cX9_copy 327 = .ok (.iload_n 2, 1) := by decide +kernel
theorem dX9_copy_328 : decode cX9_copy 328 = .ok (.iadd, 1) := by decide +kernel
theorem dX9_copy_329 : decode cX9_copy 329 = .ok (.iaload, 1) := by decide +kernel
theorem dX9_copy_330 : decode cX9_copy 330 = .ok (.iastore, 1) := by decide +kernel
theorem dX9_copy_331 : decode cX9_copy 331 = .ok (.aload_n 0, 1) := by decide +kernel
theorem dX9_copy_332 : decode cX9_copy 332 = .ok (.getfield 97, 3) := by decide +kernel
theorem dX9_copy_335 : decode cX9_copy 335 = .ok (.bipush 32, 2) := by decide +kernel
theorem dX9_copy_337 : decode cX9_copy 337 = .ok (.iload_n 1, 1) := by decide +kernel
theorem dX9_copy_338 : decode cX9_copy 338 = .ok (.imul, 1) := by decide +kernel
theorem dX9_copy_339 : decode cX9_copy 339 = .ok (.iload_n 2, 1) := by decide +kernel
theorem dX9_copy_340 : decode cX9_copy 340 = .ok (.iadd, 1) := by decide +kernel
theorem dX9_copy_341 : decode cX9_copy 341 = .ok (.aload_n 0, 1) := by decide +kernel
theorem dX9_copy_342 : decode cX9_copy 342 = .ok (.getfield 97, 3) := by decide +kernel
theorem dX9_copy_345 : decode cX9_copy 345 = .ok (.sipush 128, 3) := by decide +kernel
theorem dX9_copy_348 : decode cX9_copy 348 = .ok (.iload_n 2, 1) := by decide +kernel
theorem dX9_copy_349 : decode cX9_copy 349 = .ok (.iadd, 1) := by decide +kernel
theorem dX9_copy_350 : decode cX9_copy 350 = .ok (.iaload, 1) := by decide +kernel
theorem dX9_copy_351 : decode cX9_copy 351 = .ok (.iastore, 1) := by decide +kernel
theorem dX9_copy_352 : decode cX9_copy 352 = .ok (.aload_n 0, 1) := by decide +kernel
theorem dX9_copy_353 : decode cX9_copy 353 = .ok (.getfield 100, 3) := by decide +kernel
theorem dX9_copy_356 : decode cX9_copy 356 = .ok (.bipush 32, 2) := by decide +kernel
theorem dX9_copy_358 : decode cX9_copy 358 = .ok (.iload_n 1, 1) := by decide +kernel
theorem dX9_copy_359 : decode cX9_copy 359 = .ok (.imul, 1) := by decide +kernel
theorem dX9_copy_360 : decode cX9_copy 360 = .ok (.iload_n 2, 1) := by decide +kernel
theorem dX9_copy_361 : decode cX9_copy 361 = .ok (.iadd, 1) := by decide +kernel
theorem dX9_copy_362 : decode cX9_copy 362 = .ok (.aload_n 0, 1) := by decide +kernel
theorem dX9_copy_363 : decode cX9_copy 363 = .ok (.getfield 100, 3) := by decide +kernel
theorem dX9_copy_366 : decode cX9_copy 366 = .ok (.sipush 128, 3) := by decide +kernel
theorem dX9_copy_369 : decode cX9_copy 369 = .ok (.iload_n 2, 1) := by decide +kernel
theorem dX9_copy_370 : decode cX9_copy 370 = .ok (.iadd, 1) := by decide +kernel
theorem dX9_copy_371 : decode cX9_copy 371 = .ok (.iaload, 1) := by decide +kernel
theorem dX9_copy_372 : decode cX9_copy 372 = .ok (.iastore, 1) := by decide +kernel
theorem dX9_copy_373 : decode cX9_copy 373 = .ok (.aload_n 0, 1) := by decide +kernel
theorem dX9_copy_374 : decode cX9_copy 374 = .ok (.getfield 103, 3) := by decide +kernel
theorem dX9_copy_377 : decode cX9_copy 377 = .ok (.bipush 32, 2) := by decide +kernel
theorem dX9_copy_379 : decode cX9_copy 379 = .ok (.iload_n 1, 1) := by decide +kernel
theorem dX9_copy_380 : decode cX9_copy 380 = .ok (.imul, 1) := by decide +kernel
theorem dX9_copy_381 : decode cX9_copy 381 = .ok (.iload_n 2, 1) := by decide +kernel
theorem dX9_copy_382 : decode cX9_copy 382 = .ok (.iadd, 1) := by decide +kernel
theorem dX9_copy_383 : decode cX9_copy 383 = .ok (.aload_n 0, 1) := by decide +kernel
theorem dX9_copy_384 : decode cX9_copy 384 = .ok (.getfield 103, 3) := by decide +kernel
theorem dX9_copy_387 : decode cX9_copy 387 = .ok (.sipush 128, 3) := by decide +kernel
theorem dX9_copy_390 : decode cX9_copy 390 = .ok (.iload_n 2, 1) := by decide +kernel
theorem dX9_copy_391 : decode cX9_copy 391 = .ok (.iadd, 1) := by decide +kernel
theorem dX9_copy_392 : decode cX9_copy 392 = .ok (.iaload, 1) := by decide +kernel
theorem dX9_copy_393 : decode cX9_copy 393 = .ok (.iastore, 1) := by decide +kernel
theorem dX9_copy_394 : decode cX9_copy 394 = .ok (.iconst 0, 1) := by decide +kernel
theorem dX9_copy_395 : decode cX9_copy 395 = .ok (.istore_n 3, 1) := by decide +kernel
theorem dX9_copy_396 : decode cX9_copy 396 = .ok (.iload_n 3, 1) := by decide +kernel
theorem dX9_copy_397 : decode cX9_copy 397 = .ok (.aload_n 0, 1) := by decide +kernel
theorem dX9_copy_398 : decode cX9_copy 398 = .ok (.getfield 43, 3) := by decide +kernel
theorem dX9_copy_401 : decode cX9_copy 401 = .ok (.iload_n 1, 1) := by decide +kernel
theorem dX9_copy_402 : decode cX9_copy 402 = .ok (.iaload, 1) := by decide +kernel
theorem dX9_copy_403 : decode cX9_copy 403 = .ok (.if_icmp .ge 35, 3) := by decide +kernel
theorem dX9_copy_406 : decode cX9_copy 406 = .ok (.aload_n 0, 1) := by decide +kernel
theorem dX9_copy_407 : decode cX9_copy 407 = .ok (.getfield 107, 3) := by decide +kernel
theorem dX9_copy_410 : decode cX9_copy 410 = .ok (.aload_n 0, 1) := by decide +kernel
theorem dX9_copy_411 : decode cX9_copy 411 = .ok (.iload_n 1, 1) := by decide +kernel
theorem dX9_copy_412 : decode cX9_copy 412 = .ok (.iload_n 2, 1) := by decide +kernel
theorem dX9_copy_413 : decode cX9_copy 413 = .ok (.invokevirtual 338, 3) := by decide +kernel
theorem dX9_copy_416 : decode cX9_copy 416 = .ok (.iload_n 3, 1) := by decide +kernel
theorem dX9_copy_417 : decode cX9_copy 417 = .ok (.iadd, 1) := by decide +kernel
theorem dX9_copy_418 : decode cX9_copy 418 = .ok (.aload_n 0, 1) := by decide +kernel
theorem dX9_copy_419 : decode cX9_copy 419 = .ok (.getfield 107, 3) := by decide +kernel
theorem dX9_copy_422 : decode cX9_copy 422 = .ok (.aload_n 0, 1) := by decide +kernel
theorem dX9_copy_423 : decode cX9_copy 423 = .ok (.iconst 4, 1) := by decide +kernel
theorem dX9_copy_424 : decode cX9_copy 424 = .ok (.iload_n 2, 1) := by decide +kernel
theorem dX9_copy_425 : decode cX9_copy 425 = .ok (.invokevirtual 338, 3) := by decide +kernel
theorem dX9_copy_428 : decode cX9_copy 428 = .ok (.iload_n 3, 1) := by decide +kernel
theorem dX9_copy_429 : decode cX9_copy 429 = .ok (.iadd, 1) := by decide +kernel
theorem dX9_copy_430 : decode cX9_copy 430 = .ok (.iaload, 1) := by decide +kernel
theorem dX9_copy_431 : decode cX9_copy 431 = .ok (.iastore, 1) := by decide +kernel
theorem dX9_copy_432 : decode cX9_copy 432 = .ok (.iinc 3 1, 3) := by decide +kernel
theorem dX9_copy_435 : decode cX9_copy 435 = .ok (.goto (-39), 3) := by decide +kernel
theorem dX9_copy_438 : decode cX9_copy 438 = .ok (.iinc 2 1, 3) := by decide +kernel
theorem dX9_copy_441 : decode cX9_copy 441 = .ok (.goto (-162), 3) := by decide +kernel
theorem dX9_copy_444 : decode cX9_copy 444 = .ok (.return_, 1) := by decide +kernel
theorem dX9_wrong_0 : decode cX9_wrong 0 = .ok (.aload_n 0, 1) := by decide +kernel
theorem dX9_wrong_1 : decode cX9_wrong 1 = .ok (.getfield 116, 3) := by decide +kernel
theorem dX9_wrong_4 : decode cX9_wrong 4 = .ok (.ireturn, 1) := by decide +kernel
theorem dX9_isThere_0 : decode cX9_isThere 0 = .ok (.iload_n 1, 1) := by decide +kernel
theorem dX9_isThere_1 : decode cX9_isThere 1 = .ok (.ifCond .lt 21, 3) := by decide +kernel
theorem dX9_isThere_4 : decode cX9_isThere 4 = .ok (.iload_n 1, 1) := by decide +kernel
theorem dX9_isThere_5 : decode cX9_isThere 5 = .ok (.iconst 3, 1) := by decide +kernel
theorem dX9_isThere_6 : decode cX9_isThere 6 = .ok (.if_icmp .gt 16, 3) := by decide +kernel
theorem dX9_isThere_9 : decode cX9_isThere 9 = .ok (.aload_n 0, 1) := by decide +kernel
theorem dX9_isThere_10 : decode cX9_isThere 10 = .ok (.getfield 36, 3) := by decide +kernel
theorem dX9_isThere_13 : decode cX9_isThere 13 = .ok (.iload_n 1, 1) := by decide +kernel
theorem dX9_isThere_14 : decode cX9_isThere 14 = .ok (.baload, 1) := by decide +kernel
theorem dX9_isThere_15 : decode cX9_isThere 15 = .ok (.ifCond .eq 7, 3) := by decide +kernel
theorem dX9_isThere_18 : decode cX9_isThere 18 = .ok (.iconst 1, 1) := by decide +kernel
theorem dX9_isThere_19 : decode cX9_isThere 19 = .ok (.goto 4, 3) := by decide +kernel
theorem dX9_isThere_22 : decode cX9_isThere 22 = .ok (.iconst 0, 1) := by decide +kernel
theorem dX9_isThere_23 : decode cX9_isThere 23 = .ok (.ireturn, 1) := by decide +kernel
theorem dX9_about_0 : decode cX9_about 0 = .ok (.aload_n 0, 1) := by decide +kernel
theorem dX9_about_1 : decode cX9_about 1 = .ok (.iload_n 1, 1) := by decide +kernel
theorem dX9_about_2 : decode cX9_about 2 = .ok (.invokevirtual 373, 3) := by decide +kernel
theorem dX9_about_5 : decode cX9_about 5 = .ok (.ifCond .ne 5, 3) := by decide +kernel
theorem dX9_about_8 : decode cX9_about 8 = .ok (.iconst (-1), 1) := by decide +kernel
theorem dX9_about_9 : decode cX9_about 9 = .ok (.ireturn, 1) := by decide +kernel
theorem dX9_about_10 : decode cX9_about 10 = .ok (.iload_n 2, 1) := by decide +kernel
theorem dX9_about_11 : decode cX9_about 11 = .ok (.tableswitch 75 0 4 #[33, 40, 47, 54, 68], 33) := by decide +kernel
theorem dX9_about_44 : decode cX9_about 44 = .ok (.aload_n 0, 1) := by decide +kernel
theorem dX9_about_45 : decode cX9_about 45 = .ok (.getfield 40, 3) := by decide +kernel
theorem dX9_about_48 : decode cX9_about 48 = .ok (.iload_n 1, 1) := by decide +kernel
theorem dX9_about_49 : decode cX9_about 49 = .ok (.iaload, 1) := by decide +kernel
theorem dX9_about_50 : decode cX9_about 50 = .ok (.ireturn, 1) := by decide +kernel
theorem dX9_about_51 : decode cX9_about 51 = .ok (.aload_n 0, 1) := by decide +kernel
theorem dX9_about_52 : decode cX9_about 52 = .ok (.getfield 43, 3) := by decide +kernel
theorem dX9_about_55 : decode cX9_about 55 = .ok (.iload_n 1, 1) := by decide +kernel
theorem dX9_about_56 : decode cX9_about 56 = .ok (.iaload, 1) := by decide +kernel
theorem dX9_about_57 : decode cX9_about 57 = .ok (.ireturn, 1) := by decide +kernel
theorem dX9_about_58 : decode cX9_about 58 = .ok (.aload_n 0, 1) := by decide +kernel
theorem dX9_about_59 : decode cX9_about 59 = .ok (.getfield 49, 3) := by decide +kernel
theorem dX9_about_62 : decode cX9_about 62 = .ok (.iload_n 1, 1) := by decide +kernel
theorem dX9_about_63 : decode cX9_about 63 = .ok (.iaload, 1) := by decide +kernel
theorem dX9_about_64 : decode cX9_about 64 = .ok (.ireturn, 1) := by decide +kernel
theorem dX9_about_65 : decode cX9_about 65 = .ok (.aload_n 0, 1) := by decide +kernel
theorem dX9_about_66 : decode cX9_about 66 = .ok (.getfield 43, 3) := by decide +kernel
theorem dX9_about_69 : decode cX9_about 69 = .ok (.iload_n 1, 1) := by decide +kernel
theorem dX9_about_70 : decode cX9_about 70 = .ok (.iaload, 1) := by decide +kernel
theorem dX9_about_71 : decode cX9_about 71 = .ok (.aload_n 0, 1) := by decide +kernel
theorem dX9_about_72 : decode cX9_about 72 = .ok (.getfield 46, 3) := by decide +kernel
theorem dX9_about_75 : decode cX9_about 75 = .ok (.iload_n 1, 1) := by decide +kernel
theorem dX9_about_76 : decode cX9_about 76 = .ok (.iaload, 1) := by decide +kernel
theorem dX9_about_77 : decode cX9_about 77 = .ok (.isub, 1) := by decide +kernel
theorem dX9_about_78 : decode cX9_about 78 = .ok (.ireturn, 1) := by decide +kernel
theorem dX9_about_79 : decode cX9_about 79 = .ok (.aload_n 0, 1) := by decide +kernel
theorem dX9_about_80 : decode cX9_about 80 = .ok (.getfield 46, 3) := by decide +kernel
theorem dX9_about_83 : decode cX9_about 83 = .ok (.iload_n 1, 1) := by decide +kernel
theorem dX9_about_84 : decode cX9_about 84 = .ok (.iaload, 1) := by decide +kernel
theorem dX9_about_85 : decode cX9_about 85 = .ok (.ireturn, 1) := by decide +kernel
theorem dX9_about_86 : decode cX9_about 86 = .ok (.iconst (-1), 1) := by decide +kernel
theorem dX9_about_87 : decode cX9_about 87 = .ok (.ireturn, 1) := by decide +kernel
theorem dX9_node_0 : decode cX9_node 0 = .ok (.aload_n 0, 1) := by decide +kernel
theorem dX9_node_1 : decode cX9_node 1 = .ok (.iload_n 1, 1) := by decide +kernel
theorem dX9_node_2 : decode cX9_node 2 = .ok (.invokevirtual 373, 3) := by decide +kernel
theorem dX9_node_5 : decode cX9_node 5 = .ok (.ifCond .eq 17, 3) := by decide +kernel
theorem dX9_node_8 : decode cX9_node 8 = .ok (.iload_n 2, 1) := by decide +kernel
theorem dX9_node_9 : decode cX9_node 9 = .ok (.ifCond .lt 13, 3) := by decide +kernel
theorem dX9_node_12 : decode cX9_node 12 = .ok (.iload_n 2, 1) := by decide +kernel
theorem dX9_node_13 : decode cX9_node 13 = .ok (.aload_n 0, 1) := by decide +kernel
theorem dX9_node_14 : decode cX9_node 14 = .ok (.getfield 43, 3) := by decide +kernel
theorem dX9_node_17 : decode cX9_node 17 = .ok (.iload_n 1, 1) := by decide +kernel
theorem dX9_node_18 : decode cX9_node 18 = .ok (.iaload, 1) := by decide +kernel
theorem dX9_node_19 : decode cX9_node 19 = .ok (.if_icmp .lt 5, 3) := by decide +kernel
theorem dX9_node_22 : decode cX9_node 22 = .ok (.iconst (-1), 1) := by decide +kernel
theorem dX9_node_23 : decode cX9_node 23 = .ok (.ireturn, 1) := by decide +kernel
theorem dX9_node_24 : decode cX9_node 24 = .ok (.sipush 240, 3) := by decide +kernel
theorem dX9_node_27 : decode cX9_node 27 = .ok (.iload_n 1, 1) := by decide +kernel
theorem dX9_node_28 : decode cX9_node 28 = .ok (.imul, 1) := by decide +kernel
theorem dX9_node_29 : decode cX9_node 29 = .ok (.iload_n 2, 1) := by decide +kernel
theorem dX9_node_30 : decode cX9_node 30 = .ok (.iadd, 1) := by decide +kernel
theorem dX9_node_31 : decode cX9_node 31 = .ok (.istore 4, 2) := by decide +kernel
theorem dX9_node_33 : decode cX9_node 33 = .ok (.iload_n 3, 1) := by decide +kernel
theorem dX9_node_34 : decode cX9_node 34 = .ok (.tableswitch 146 0 5 #[38, 46, 54, 62, 70, 78], 38) := by decide +kernel
theorem dX9_node_72 : decode cX9_node 72 = .ok (.aload_n 0, 1) := by decide +kernel
theorem dX9_node_73 : decode cX9_node 73 = .ok (.getfield 58, 3) := by decide +kernel
theorem dX9_node_76 : decode cX9_node 76 = .ok (.iload 4, 2) := by decide +kernel
theorem dX9_node_78 : decode cX9_node 78 = .ok (.iaload, 1) := by decide +kernel
theorem dX9_node_79 : decode cX9_node 79 = .ok (.ireturn, 1) := by decide +kernel
theorem dX9_node_80 : decode cX9_node 80 = .ok (.aload_n 0, 1) := by decide +kernel
theorem dX9_node_81 : decode cX9_node 81 = .ok (.getfield 61, 3) := by decide +kernel
theorem dX9_node_84 : decode cX9_node 84 = .ok (.iload 4, 2) := by decide +kernel
theorem dX9_node_86 : decode cX9_node 86 = .ok (.iaload, 1) := by decide +kernel
theorem dX9_node_87 : decode cX9_node 87 = .ok (.ireturn, 1) := by decide +kernel
theorem dX9_node_88 : decode cX9_node 88 = .ok (.aload_n 0, 1) := by decide +kernel
theorem dX9_node_89 : decode cX9_node 89 = .ok (.getfield 67, 3) := by decide +kernel
theorem dX9_node_92 : decode cX9_node 92 = .ok (.iload 4, 2) := by decide +kernel
theorem dX9_node_94 : decode cX9_node 94 = .ok (.iaload, 1) := by decide +kernel
theorem dX9_node_95 : decode cX9_node 95 = .ok (.ireturn, 1) := by decide +kernel
theorem dX9_node_96 : decode cX9_node 96 = .ok (.aload_n 0, 1) := by decide +kernel
theorem dX9_node_97 : decode cX9_node 97 = .ok (.getfield 70, 3) := by decide +kernel
theorem dX9_node_100 : decode cX9_node 100 = .ok (.iload 4, 2) := by decide +kernel
theorem dX9_node_102 : decode cX9_node 102 = .ok (.iaload, 1) := by decide +kernel
theorem dX9_node_103 : decode cX9_node 103 = .ok (.ireturn, 1) := by decide +kernel
theorem dX9_node_104 : decode cX9_node 104 = .ok (.aload_n 0, 1) := by decide +kernel
theorem dX9_node_105 : decode cX9_node 105 = .ok (.getfield 73, 3) := by decide +kernel
theorem dX9_node_108 : decode cX9_node 108 = .ok (.iload 4, 2) := by decide +kernel
theorem dX9_node_110 : decode cX9_node 110 = .ok (.iaload, 1) := by decide +kernel
theorem dX9_node_111 : decode cX9_node 111 = .ok (.ireturn, 1) := by decide +kernel
theorem dX9_node_112 : decode cX9_node 112 = .ok (.iconst 0, 1) := by decide +kernel
theorem dX9_node_113 : decode cX9_node 113 = .ok (.istore 5, 2) := by decide +kernel
theorem dX9_node_115 : decode cX9_node 115 = .ok (.sipush 240, 3) := by decide +kernel
theorem dX9_node_118 : decode cX9_node 118 = .ok (.iload_n 1, 1) := by decide +kernel
theorem dX9_node_119 : decode cX9_node 119 = .ok (.imul, 1) := by decide +kernel
theorem dX9_node_120 : decode cX9_node 120 = .ok (.istore 6, 2) := by decide +kernel
theorem dX9_node_122 : decode cX9_node 122 = .ok (.iload 6, 2) := by decide +kernel
theorem dX9_node_124 : decode cX9_node 124 = .ok (.sipush 240, 3) := by decide +kernel
theorem dX9_node_127 : decode cX9_node 127 = .ok (.iload_n 1, 1) := by decide +kernel
theorem dX9_node_128 : decode cX9_node 128 = .ok (.imul, 1) := by decide +kernel
theorem dX9_node_129 : decode cX9_node 129 = .ok (.aload_n 0, 1) := by decide +kernel
theorem dX9_node_130 : decode cX9_node 130 = .ok (.getfield 43, 3) := by decide +kernel
theorem dX9_node_133 : decode cX9_node 133 = .ok (.iload_n 1, 1) := by decide +kernel
theorem dX9_node_134 : decode cX9_node 134 = .ok (.iaload, 1) := by decide +kernel
theorem dX9_node_135 : decode cX9_node 135 = .ok (.iadd, 1) := by decide +kernel
theorem dX9_node_136 : decode cX9_node 136 = .ok (.if_icmp .ge 41, 3) := by decide +kernel
theorem dX9_node_139 : decode cX9_node 139 = .ok (.iload 5, 2) := by decide +kernel
theorem dX9_node_141 : decode cX9_node 141 = .ok (.aload_n 0, 1) := by decide +kernel
theorem dX9_node_142 : decode cX9_node 142 = .ok (.getfield 70, 3) := by decide +kernel
theorem dX9_node_145 : decode cX9_node 145 = .ok (.iload 6, 2) := by decide +kernel
theorem dX9_node_147 : decode cX9_node 147 = .ok (.iaload, 1) := by decide +kernel
theorem dX9_node_148 : decode cX9_node 148 = .ok (.iload_n 2, 1) := by decide +kernel
theorem dX9_node_149 : decode cX9_node 149 = .ok (.if_icmp .eq 14, 3) := by decide +kernel
theorem dX9_node_152 : decode cX9_node 152 = .ok (.aload_n 0, 1) := by decide +kernel
theorem dX9_node_153 : decode cX9_node 153 = .ok (.getfield 73, 3) := by decide +kernel
theorem dX9_node_156 : decode cX9_node 156 = .ok (.iload 6, 2) := by decide +kernel
theorem dX9_node_158 : decode cX9_node 158 = .ok (.iaload, 1) := by decide +kernel
theorem dX9_node_159 : decode cX9_node 159 = .ok (.iload_n 2, 1) := by decide +kernel
theorem dX9_node_160 : decode cX9_node 160 = .ok (.if_icmp .ne 7, 3) := by decide +kernel
theorem dX9_node_163 : decode cX9_node 163 = .ok (.iconst 1, 1) := by decide +kernel
theorem dX9_node_164 : decode cX9_node 164 = .ok (.goto 4, 3) := by decide +kernel
theorem dX9_node_167 : decode cX9_node 167 = .ok (.iconst 0, 1) := by decide +kernel
theorem dX9_node_168 : decode cX9_node 168 = .ok (.iadd, 1) := by decide +kernel
theorem dX9_node_169 : decode cX9_node 169 = .ok (.istore 5, 2) := by decide +kernel
theorem dX9_node_171 : decode cX9_node 171 = .ok (.iinc 6 1, 3) := by decide +kernel
theorem dX9_node_174 : decode cX9_node 174 = .ok (.goto (-52), 3) := by decide +kernel
theorem dX9_node_177 : decode cX9_node 177 = .ok (.iload 5, 2) := by decide +kernel
theorem dX9_node_179 : decode cX9_node 179 = .ok (.ireturn, 1) := by decide +kernel
theorem dX9_node_180 : decode cX9_node 180 = .ok (.iconst (-1), 1) := by decide +kernel
theorem dX9_node_181 : decode cX9_node 181 = .ok (.ireturn, 1) := by decide +kernel
theorem dX9_coded_0 : decode cX9_coded 0 = .ok (.iload_n 1, 1) := by decide +kernel
theorem dX9_coded_1 : decode cX9_coded 1 = .ok (.ifCond .lt 26, 3) := by decide +kernel
theorem dX9_coded_4 : decode cX9_coded 4 = .ok (.iload_n 1, 1) := by decide +kernel
theorem dX9_coded_5 : decode cX9_coded 5 = .ok (.bipush 16, 2) := by decide +kernel
theorem dX9_coded_7 : decode cX9_coded 7 = .ok (.if_icmp .ge 11, 3) := by decide +kernel
theorem dX9_coded_10 : decode cX9_coded 10 = .ok (.sipush 1000, 3) := by decide +kernel
theorem dX9_coded_13 : decode cX9_coded 13 = .ok (.iload_n 1, 1) := by decide +kernel
theorem dX9_coded_14 : decode cX9_coded 14 = .ok (.iadd, 1) := by decide +kernel
theorem dX9_coded_15 : decode cX9_coded 15 = .ok (.goto 11, 3) := by decide +kernel
theorem dX9_coded_18 : decode cX9_coded 18 = .ok (.sipush 2000, 3) := by decide +kernel
theorem dX9_coded_21 : decode cX9_coded 21 = .ok (.iload_n 1, 1) := by decide +kernel
theorem dX9_coded_22 : decode cX9_coded 22 = .ok (.iadd, 1) := by decide +kernel
theorem dX9_coded_23 : decode cX9_coded 23 = .ok (.bipush 16, 2) := by decide +kernel
theorem dX9_coded_25 : decode cX9_coded 25 = .ok (.isub, 1) := by decide +kernel
theorem dX9_coded_26 : decode cX9_coded 26 = .ok (.ireturn, 1) := by decide +kernel
theorem dX9_coded_27 : decode cX9_coded 27 = .ok (.iload_n 2, 1) := by decide +kernel
theorem dX9_coded_28 : decode cX9_coded 28 = .ok (.sipush 999, 3) := by decide +kernel
theorem dX9_coded_31 : decode cX9_coded 31 = .ok (.if_icmp .le 9, 3) := by decide +kernel
theorem dX9_coded_34 : decode cX9_coded 34 = .ok (.sipush 999, 3) := by decide +kernel
theorem dX9_coded_37 : decode cX9_coded 37 = .ok (.goto 17, 3) := by decide +kernel
theorem dX9_coded_40 : decode cX9_coded 40 = .ok (.iload_n 2, 1) := by decide +kernel
theorem dX9_coded_41 : decode cX9_coded 41 = .ok (.sipush (-999), 3) := by decide +kernel
theorem dX9_coded_44 : decode cX9_coded 44 = .ok (.if_icmp .ge 9, 3) := by decide +kernel
theorem dX9_coded_47 : decode cX9_coded 47 = .ok (.sipush (-999), 3) := by decide +kernel
theorem dX9_coded_50 : decode cX9_coded 50 = .ok (.goto 4, 3) := by decide +kernel
theorem dX9_coded_53 : decode cX9_coded 53 = .ok (.iload_n 2, 1) := by decide +kernel
theorem dX9_coded_54 : decode cX9_coded 54 = .ok (.ireturn, 1) := by decide +kernel
theorem dX9_isSum_0 : decode cX9_isSum 0 = .ok (.aload_n 0, 1) := by decide +kernel
theorem dX9_isSum_1 : decode cX9_isSum 1 = .ok (.iload_n 1, 1) := by decide +kernel
theorem dX9_isSum_2 : decode cX9_isSum 2 = .ok (.invokevirtual 373, 3) := by decide +kernel
theorem dX9_isSum_5 : decode cX9_isSum 5 = .ok (.ifCond .eq 21, 3) := by decide +kernel
theorem dX9_isSum_8 : decode cX9_isSum 8 = .ok (.iload_n 2, 1) := by decide +kernel
theorem dX9_isSum_9 : decode cX9_isSum 9 = .ok (.ifCond .lt 17, 3) := by decide +kernel
theorem dX9_isSum_12 : decode cX9_isSum 12 = .ok (.iload_n 2, 1) := by decide +kernel
theorem dX9_isSum_13 : decode cX9_isSum 13 = .ok (.aload_n 0, 1) := by decide +kernel
theorem dX9_isSum_14 : decode cX9_isSum 14 = .ok (.getfield 49, 3) := by decide +kernel
theorem dX9_isSum_17 : decode cX9_isSum 17 = .ok (.iload_n 1, 1) := by decide +kernel
theorem dX9_isSum_18 : decode cX9_isSum 18 = .ok (.iaload, 1) := by decide +kernel
theorem dX9_isSum_19 : decode cX9_isSum 19 = .ok (.if_icmp .ge 7, 3) := by decide +kernel
theorem dX9_isSum_22 : decode cX9_isSum 22 = .ok (.iconst 1, 1) := by decide +kernel
theorem dX9_isSum_23 : decode cX9_isSum 23 = .ok (.goto 4, 3) := by decide +kernel
theorem dX9_isSum_26 : decode cX9_isSum 26 = .ok (.iconst 0, 1) := by decide +kernel
theorem dX9_isSum_27 : decode cX9_isSum 27 = .ok (.ireturn, 1) := by decide +kernel
theorem dX9_sum_0 : decode cX9_sum 0 = .ok (.aload_n 0, 1) := by decide +kernel
theorem dX9_sum_1 : decode cX9_sum 1 = .ok (.iload_n 1, 1) := by decide +kernel
theorem dX9_sum_2 : decode cX9_sum 2 = .ok (.iload_n 2, 1) := by decide +kernel
theorem dX9_sum_3 : decode cX9_sum 3 = .ok (.invokevirtual 376, 3) := by decide +kernel
theorem dX9_sum_6 : decode cX9_sum 6 = .ok (.ifCond .ne 5, 3) := by decide +kernel
theorem dX9_sum_9 : decode cX9_sum 9 = .ok (.iconst (-1), 1) := by decide +kernel
theorem dX9_sum_10 : decode cX9_sum 10 = .ok (.ireturn, 1) := by decide +kernel
theorem dX9_sum_11 : decode cX9_sum 11 = .ok (.bipush 32, 2) := by decide +kernel
theorem dX9_sum_13 : decode cX9_sum 13 = .ok (.iload_n 1, 1) := by decide +kernel
theorem dX9_sum_14 : decode cX9_sum 14 = .ok (.imul, 1) := by decide +kernel
theorem dX9_sum_15 : decode cX9_sum 15 = .ok (.iload_n 2, 1) := by decide +kernel
theorem dX9_sum_16 : decode cX9_sum 16 = .ok (.iadd, 1) := by decide +kernel
theorem dX9_sum_17 : decode cX9_sum 17 = .ok (.istore 4, 2) := by decide +kernel
theorem dX9_sum_19 : decode cX9_sum 19 = .ok (.iload_n 3, 1) := by decide +kernel
theorem dX9_sum_20 : decode cX9_sum 20 = .ok (.tableswitch 150 0 4 #[36, 44, 63, 82, 97], 36) := by decide +kernel
theorem dX9_sum_56 : decode cX9_sum 56 = .ok (.aload_n 0, 1) := by decide +kernel
theorem dX9_sum_57 : decode cX9_sum 57 = .ok (.getfield 91, 3) := by decide +kernel
theorem dX9_sum_60 : decode cX9_sum 60 = .ok (.iload 4, 2) := by decide +kernel
theorem dX9_sum_62 : decode cX9_sum 62 = .ok (.iaload, 1) := by decide +kernel
theorem dX9_sum_63 : decode cX9_sum 63 = .ok (.ireturn, 1) := by decide +kernel
theorem dX9_sum_64 : decode cX9_sum 64 = .ok (.aload_n 0, 1) := by decide +kernel
theorem dX9_sum_65 : decode cX9_sum 65 = .ok (.aload_n 0, 1) := by decide +kernel
theorem dX9_sum_66 : decode cX9_sum 66 = .ok (.getfield 94, 3) := by decide +kernel
theorem dX9_sum_69 : decode cX9_sum 69 = .ok (.iload 4, 2) := by decide +kernel
theorem dX9_sum_71 : decode cX9_sum 71 = .ok (.iaload, 1) := by decide +kernel
theorem dX9_sum_72 : decode cX9_sum 72 = .ok (.aload_n 0, 1) := by decide +kernel
theorem dX9_sum_73 : decode cX9_sum 73 = .ok (.getfield 97, 3) := by decide +kernel
theorem dX9_sum_76 : decode cX9_sum 76 = .ok (.iload 4, 2) := by decide +kernel
theorem dX9_sum_78 : decode cX9_sum 78 = .ok (.iaload, 1) := by decide +kernel
theorem dX9_sum_79 : decode cX9_sum 79 = .ok (.invokevirtual 379, 3) := by decide +kernel
theorem dX9_sum_82 : decode cX9_sum 82 = .ok (.ireturn, 1) := by decide +kernel
theorem dX9_sum_83 : decode cX9_sum 83 = .ok (.aload_n 0, 1) := by decide +kernel
theorem dX9_sum_84 : decode cX9_sum 84 = .ok (.aload_n 0, 1) := by decide +kernel
theorem dX9_sum_85 : decode cX9_sum 85 = .ok (.getfield 100, 3) := by decide +kernel
theorem dX9_sum_88 : decode cX9_sum 88 = .ok (.iload 4, 2) := by decide +kernel
theorem dX9_sum_90 : decode cX9_sum 90 = .ok (.iaload, 1) := by decide +kernel
theorem dX9_sum_91 : decode cX9_sum 91 = .ok (.aload_n 0, 1) := by decide +kernel
theorem dX9_sum_92 : decode cX9_sum 92 = .ok (.getfield 103, 3) := by decide +kernel
theorem dX9_sum_95 : decode cX9_sum 95 = .ok (.iload 4, 2) := by decide +kernel
theorem dX9_sum_97 : decode cX9_sum 97 = .ok (.iaload, 1) := by decide +kernel
theorem dX9_sum_98 : decode cX9_sum 98 = .ok (.invokevirtual 379, 3) := by decide +kernel
theorem dX9_sum_101 : decode cX9_sum 101 = .ok (.ireturn, 1) := by decide +kernel
theorem dX9_sum_102 : decode cX9_sum 102 = .ok (.aload_n 0, 1) := by decide +kernel
theorem dX9_sum_103 : decode cX9_sum 103 = .ok (.iload_n 1, 1) := by decide +kernel
theorem dX9_sum_104 : decode cX9_sum 104 = .ok (.iload_n 2, 1) := by decide +kernel
theorem dX9_sum_105 : decode cX9_sum 105 = .ok (.invokevirtual 334, 3) := by decide +kernel
theorem dX9_sum_108 : decode cX9_sum 108 = .ok (.ifCond .eq 7, 3) := by decide +kernel
theorem dX9_sum_111 : decode cX9_sum 111 = .ok (.iconst 1, 1) := by decide +kernel
theorem dX9_sum_112 : decode cX9_sum 112 = .ok (.goto 4, 3) := by decide +kernel
theorem dX9_sum_115 : decode cX9_sum 115 = .ok (.iconst 0, 1) := by decide +kernel
theorem dX9_sum_116 : decode cX9_sum 116 = .ok (.ireturn, 1) := by decide +kernel
theorem dX9_sum_117 : decode cX9_sum 117 = .ok (.iconst 0, 1) := by decide +kernel
theorem dX9_sum_118 : decode cX9_sum 118 = .ok (.istore 5, 2) := by decide +kernel
theorem dX9_sum_120 : decode cX9_sum 120 = .ok (.iconst 0, 1) := by decide +kernel
theorem dX9_sum_121 : decode cX9_sum 121 = .ok (.istore 6, 2) := by decide +kernel
theorem dX9_sum_123 : decode cX9_sum 123 = .ok (.iload 6, 2) := by decide +kernel
theorem dX9_sum_125 : decode cX9_sum 125 = .ok (.aload_n 0, 1) := by decide +kernel
theorem dX9_sum_126 : decode cX9_sum 126 = .ok (.getfield 43, 3) := by decide +kernel
theorem dX9_sum_129 : decode cX9_sum 129 = .ok (.iload_n 1, 1) := by decide +kernel
theorem dX9_sum_130 : decode cX9_sum 130 = .ok (.iaload, 1) := by decide +kernel
theorem dX9_sum_131 : decode cX9_sum 131 = .ok (.if_icmp .ge 36, 3) := by decide +kernel
theorem dX9_sum_134 : decode cX9_sum 134 = .ok (.iload 5, 2) := by decide +kernel
theorem dX9_sum_136 : decode cX9_sum 136 = .ok (.aload_n 0, 1) := by decide +kernel
theorem dX9_sum_137 : decode cX9_sum 137 = .ok (.getfield 67, 3) := by decide +kernel
theorem dX9_sum_140 : decode cX9_sum 140 = .ok (.sipush 240, 3) := by decide +kernel
theorem dX9_sum_143 : decode cX9_sum 143 = .ok (.iload_n 1, 1) := by decide +kernel
theorem dX9_sum_144 : decode cX9_sum 144 = .ok (.imul, 1) := by decide +kernel
theorem dX9_sum_145 : decode cX9_sum 145 = .ok (.iload 6, 2) := by decide +kernel
theorem dX9_sum_147 : decode cX9_sum 147 = .ok (.iadd, 1) := by decide +kernel
theorem dX9_sum_148 : decode cX9_sum 148 = .ok (.iaload, 1) := by decide +kernel
theorem dX9_sum_149 : decode cX9_sum 149 = .ok (.iload_n 2, 1) := by decide +kernel
theorem dX9_sum_150 : decode cX9_sum 150 = .ok (.if_icmp .ne 7, 3) := by decide +kernel
theorem dX9_sum_153 : decode cX9_sum 153 = .ok (.iconst 1, 1) := by decide +kernel
theorem dX9_sum_154 : decode cX9_sum 154 = .ok (.goto 4, 3) := by decide +kernel
theorem dX9_sum_157 : decode cX9_sum 157 = .ok (.iconst 0, 1) := by decide +kernel
theorem dX9_sum_158 : decode cX9_sum 158 = .ok (.iadd, 1) := by decide +kernel
theorem dX9_sum_159 : decode cX9_sum 159 = .ok (.istore 5, 2) := by decide +kernel
theorem dX9_sum_161 : decode cX9_sum 161 = .ok (.iinc 6 1, 3) := by decide +kernel
theorem dX9_sum_164 : decode cX9_sum 164 = .ok (.goto (-41), 3) := by decide +kernel
theorem dX9_sum_167 : decode cX9_sum 167 = .ok (.iload 5, 2) := by decide +kernel
theorem dX9_sum_169 : decode cX9_sum 169 = .ok (.ireturn, 1) := by decide +kernel
theorem dX9_sum_170 : decode cX9_sum 170 = .ok (.iconst (-1), 1) := by decide +kernel
theorem dX9_sum_171 : decode cX9_sum 171 = .ok (.ireturn, 1) := by decide +kernel
theorem dX9_at__0 : decode cX9_at_ 0 = .ok (.aload_n 0, 1) := by decide +kernel
theorem dX9_at__1 : decode cX9_at_ 1 = .ok (.iload_n 1, 1) := by decide +kernel
theorem dX9_at__2 : decode cX9_at_ 2 = .ok (.iload_n 2, 1) := by decide +kernel
theorem dX9_at__3 : decode cX9_at_ 3 = .ok (.invokevirtual 376, 3) := by decide +kernel
theorem dX9_at__6 : decode cX9_at_ 6 = .ok (.ifCond .eq 29, 3) := by decide +kernel
theorem dX9_at__9 : decode cX9_at_ 9 = .ok (.iload_n 3, 1) := by decide +kernel
theorem dX9_at__10 : decode cX9_at_ 10 = .ok (.ifCond .lt 25, 3) := by decide +kernel
theorem dX9_at__13 : decode cX9_at_ 13 = .ok (.iload_n 3, 1) := by decide +kernel
theorem dX9_at__14 : decode cX9_at_ 14 = .ok (.aload_n 0, 1) := by decide +kernel
theorem dX9_at__15 : decode cX9_at_ 15 = .ok (.getfield 43, 3) := by decide +kernel
theorem dX9_at__18 : decode cX9_at_ 18 = .ok (.iload_n 1, 1) := by decide +kernel
theorem dX9_at__19 : decode cX9_at_ 19 = .ok (.iaload, 1) := by decide +kernel
theorem dX9_at__20 : decode cX9_at_ 20 = .ok (.if_icmp .ge 15, 3) := by decide +kernel
theorem dX9_at__23 : decode cX9_at_ 23 = .ok (.iload 4, 2) := by decide +kernel
theorem dX9_at__25 : decode cX9_at_ 25 = .ok (.ifCond .lt 10, 3) := by decide +kernel
theorem dX9_at__28 : decode cX9_at_ 28 = .ok (.iload 4, 2) := by decide +kernel
theorem dX9_at__30 : decode cX9_at_ 30 = .ok (.bipush 7, 2) := by decide +kernel
theorem dX9_at__32 : decode cX9_at_ 32 = .ok (.if_icmp .le 5, 3) := by decide +kernel
theorem dX9_at__35 : decode cX9_at_ 35 = .ok (.iconst (-1), 1) := by decide +kernel
theorem dX9_at__36 : decode cX9_at_ 36 = .ok (.ireturn, 1) := by decide +kernel
theorem dX9_at__37 : decode cX9_at_ 37 = .ok (.aload_n 0, 1) := by decide +kernel
theorem dX9_at__38 : decode cX9_at_ 38 = .ok (.getfield 107, 3) := by decide +kernel
theorem dX9_at__41 : decode cX9_at_ 41 = .ok (.aload_n 0, 1) := by decide +kernel
theorem dX9_at__42 : decode cX9_at_ 42 = .ok (.iload_n 1, 1) := by decide +kernel
theorem dX9_at__43 : decode cX9_at_ 43 = .ok (.iload_n 2, 1) := by decide +kernel
theorem dX9_at__44 : decode cX9_at_ 44 = .ok (.invokevirtual 338, 3) := by decide +kernel
theorem dX9_at__47 : decode cX9_at_ 47 = .ok (.iload_n 3, 1) := by decide +kernel
theorem dX9_at__48 : decode cX9_at_ 48 = .ok (.iadd, 1) := by decide +kernel
theorem dX9_at__49 : decode cX9_at_ 49 = .ok (.iaload, 1) := by decide +kernel
theorem dX9_at__50 : decode cX9_at_ 50 = .ok (.iload 4, 2) := by decide +kernel
theorem dX9_at__52 : decode cX9_at_ 52 = .ok (.ishr, 1) := by decide +kernel
theorem dX9_at__53 : decode cX9_at_ 53 = .ok (.iconst 1, 1) := by decide +kernel
theorem dX9_at__54 : decode cX9_at_ 54 = .ok (.iand, 1) := by decide +kernel
theorem dX9_at__55 : decode cX9_at_ 55 = .ok (.ireturn, 1) := by decide +kernel
theorem dX9_isSet_0 : decode cX9_isSet 0 = .ok (.aload_n 0, 1) := by decide +kernel
theorem dX9_isSet_1 : decode cX9_isSet 1 = .ok (.iload_n 1, 1) := by decide +kernel
theorem dX9_isSet_2 : decode cX9_isSet 2 = .ok (.iload_n 3, 1) := by decide +kernel
theorem dX9_isSet_3 : decode cX9_isSet 3 = .ok (.invokevirtual 338, 3) := by decide +kernel
theorem dX9_isSet_6 : decode cX9_isSet 6 = .ok (.istore 5, 2) := by decide +kernel
theorem dX9_isSet_8 : decode cX9_isSet 8 = .ok (.iload_n 2, 1) := by decide +kernel
theorem dX9_isSet_9 : decode cX9_isSet 9 = .ok (.iconst 1, 1) := by decide +kernel
theorem dX9_isSet_10 : decode cX9_isSet 10 = .ok (.if_icmp .ne 16, 3) := by decide +kernel
theorem dX9_isSet_13 : decode cX9_isSet 13 = .ok (.aload_n 0, 1) := by decide +kernel
theorem dX9_isSet_14 : decode cX9_isSet 14 = .ok (.iload 5, 2) := by decide +kernel
theorem dX9_isSet_16 : decode cX9_isSet 16 = .ok (.iload 4, 2) := by decide +kernel
theorem dX9_isSet_18 : decode cX9_isSet 18 = .ok (.bipush 16, 2) := by decide +kernel
theorem dX9_isSet_20 : decode cX9_isSet 20 = .ok (.invokevirtual 347, 3) := by decide +kernel
theorem dX9_isSet_23 : decode cX9_isSet 23 = .ok (.goto 40, 3) := by decide +kernel
theorem dX9_isSet_26 : decode cX9_isSet 26 = .ok (.iload_n 2, 1) := by decide +kernel
theorem dX9_isSet_27 : decode cX9_isSet 27 = .ok (.iconst 2, 1) := by decide +kernel
theorem dX9_isSet_28 : decode cX9_isSet 28 = .ok (.if_icmp .ne 34, 3) := by decide +kernel
theorem dX9_isSet_31 : decode cX9_isSet 31 = .ok (.aload_n 0, 1) := by decide +kernel
theorem dX9_isSet_32 : decode cX9_isSet 32 = .ok (.iload 5, 2) := by decide +kernel
theorem dX9_isSet_34 : decode cX9_isSet 34 = .ok (.iload 4, 2) := by decide +kernel
theorem dX9_isSet_36 : decode cX9_isSet 36 = .ok (.bipush 64, 2) := by decide +kernel
theorem dX9_isSet_38 : decode cX9_isSet 38 = .ok (.invokevirtual 347, 3) := by decide +kernel
theorem dX9_isSet_41 : decode cX9_isSet 41 = .ok (.ifCond .eq 21, 3) := by decide +kernel
theorem dX9_isSet_44 : decode cX9_isSet 44 = .ok (.aload_n 0, 1) := by decide +kernel
theorem dX9_isSet_45 : decode cX9_isSet 45 = .ok (.iload 5, 2) := by decide +kernel
theorem dX9_isSet_47 : decode cX9_isSet 47 = .ok (.iload 4, 2) := by decide +kernel
theorem dX9_isSet_49 : decode cX9_isSet 49 = .ok (.sipush 128, 3) := by decide +kernel
theorem dX9_isSet_52 : decode cX9_isSet 52 = .ok (.invokevirtual 347, 3) := by decide +kernel
theorem dX9_isSet_55 : decode cX9_isSet 55 = .ok (.ifCond .ne 7, 3) := by decide +kernel
theorem dX9_isSet_58 : decode cX9_isSet 58 = .ok (.iconst 1, 1) := by decide +kernel
theorem dX9_isSet_59 : decode cX9_isSet 59 = .ok (.goto 4, 3) := by decide +kernel
theorem dX9_isSet_62 : decode cX9_isSet 62 = .ok (.iconst 0, 1) := by decide +kernel
theorem dX9_isSet_63 : decode cX9_isSet 63 = .ok (.ireturn, 1) := by decide +kernel
theorem dX9_isTaken_0 : decode cX9_isTaken 0 = .ok (.aload_n 0, 1) := by decide +kernel
theorem dX9_isTaken_1 : decode cX9_isTaken 1 = .ok (.iload_n 1, 1) := by decide +kernel
theorem dX9_isTaken_2 : decode cX9_isTaken 2 = .ok (.iload_n 3, 1) := by decide +kernel
theorem dX9_isTaken_3 : decode cX9_isTaken 3 = .ok (.invokevirtual 338, 3) := by decide +kernel
theorem dX9_isTaken_6 : decode cX9_isTaken 6 = .ok (.istore 5, 2) := by decide +kernel
theorem dX9_isTaken_8 : decode cX9_isTaken 8 = .ok (.aload_n 0, 1) := by decide +kernel
theorem dX9_isTaken_9 : decode cX9_isTaken 9 = .ok (.iload 5, 2) := by decide +kernel
theorem dX9_isTaken_11 : decode cX9_isTaken 11 = .ok (.iload 4, 2) := by decide +kernel
theorem dX9_isTaken_13 : decode cX9_isTaken 13 = .ok (.iconst 1, 1) := by decide +kernel
theorem dX9_isTaken_14 : decode cX9_isTaken 14 = .ok (.invokevirtual 347, 3) := by decide +kernel
theorem dX9_isTaken_17 : decode cX9_isTaken 17 = .ok (.ifCond .eq 44, 3) := by decide +kernel
theorem dX9_isTaken_20 : decode cX9_isTaken 20 = .ok (.iload_n 2, 1) := by decide +kernel
theorem dX9_isTaken_21 : decode cX9_isTaken 21 = .ok (.iconst 1, 1) := by decide +kernel
theorem dX9_isTaken_22 : decode cX9_isTaken 22 = .ok (.if_icmp .eq 35, 3) := by decide +kernel
theorem dX9_isTaken_25 : decode cX9_isTaken 25 = .ok (.iload_n 2, 1) := by decide +kernel
theorem dX9_isTaken_26 : decode cX9_isTaken 26 = .ok (.iconst 2, 1) := by decide +kernel
theorem dX9_isTaken_27 : decode cX9_isTaken 27 = .ok (.if_icmp .ne 34, 3) := by decide +kernel
theorem dX9_isTaken_30 : decode cX9_isTaken 30 = .ok (.aload_n 0, 1) := by decide +kernel
theorem dX9_isTaken_31 : decode cX9_isTaken 31 = .ok (.iload 5, 2) := by decide +kernel
theorem dX9_isTaken_33 : decode cX9_isTaken 33 = .ok (.iload 4, 2) := by decide +kernel
theorem dX9_isTaken_35 : decode cX9_isTaken 35 = .ok (.bipush 64, 2) := by decide +kernel
theorem dX9_isTaken_37 : decode cX9_isTaken 37 = .ok (.invokevirtual 347, 3) := by decide +kernel
theorem dX9_isTaken_40 : decode cX9_isTaken 40 = .ok (.ifCond .eq 17, 3) := by decide +kernel
theorem dX9_isTaken_43 : decode cX9_isTaken 43 = .ok (.aload_n 0, 1) := by decide +kernel
theorem dX9_isTaken_44 : decode cX9_isTaken 44 = .ok (.iload 5, 2) := by decide +kernel
theorem dX9_isTaken_46 : decode cX9_isTaken 46 = .ok (.iload 4, 2) := by decide +kernel
theorem dX9_isTaken_48 : decode cX9_isTaken 48 = .ok (.sipush 128, 3) := by decide +kernel
theorem dX9_isTaken_51 : decode cX9_isTaken 51 = .ok (.invokevirtual 347, 3) := by decide +kernel
theorem dX9_isTaken_54 : decode cX9_isTaken 54 = .ok (.ifCond .ne 7, 3) := by decide +kernel
theorem dX9_isTaken_57 : decode cX9_isTaken 57 = .ok (.iconst 1, 1) := by decide +kernel
theorem dX9_isTaken_58 : decode cX9_isTaken 58 = .ok (.goto 4, 3) := by decide +kernel
theorem dX9_isTaken_61 : decode cX9_isTaken 61 = .ok (.iconst 0, 1) := by decide +kernel
theorem dX9_isTaken_62 : decode cX9_isTaken 62 = .ok (.ireturn, 1) := by decide +kernel
theorem dX9_live_0 : decode cX9_live 0 = .ok (.iconst 0, 1) := by decide +kernel
theorem dX9_live_1 : decode cX9_live 1 = .ok (.istore 4, 2) := by decide +kernel
theorem dX9_live_3 : decode cX9_live 3 = .ok (.iload 4, 2) := by decide +kernel
theorem dX9_live_5 : decode cX9_live 5 = .ok (.aload_n 0, 1) := by decide +kernel
theorem dX9_live_6 : decode cX9_live 6 = .ok (.getfield 43, 3) := by decide +kernel
theorem dX9_live_9 : decode cX9_live 9 = .ok (.iload_n 1, 1) := by decide +kernel
theorem dX9_live_10 : decode cX9_live 10 = .ok (.iaload, 1) := by decide +kernel
theorem dX9_live_11 : decode cX9_live 11 = .ok (.if_icmp .ge 17, 3) := by decide +kernel
theorem dX9_live_14 : decode cX9_live 14 = .ok (.aload_n 0, 1) := by decide +kernel
theorem dX9_live_15 : decode cX9_live 15 = .ok (.getfield 147, 3) := by decide +kernel
theorem dX9_live_18 : decode cX9_live 18 = .ok (.iload 4, 2) := by decide +kernel
theorem dX9_live_20 : decode cX9_live 20 = .ok (.iconst 0, 1) := by decide +kernel
theorem dX9_live_21 : decode cX9_live 21 = .ok (.bastore, 1) := by decide +kernel
theorem dX9_live_22 : decode cX9_live 22 = .ok (.iinc 4 1, 3) := by decide +kernel
theorem dX9_live_25 : decode cX9_live 25 = .ok (.goto (-22), 3) := by decide +kernel
theorem dX9_live_28 : decode cX9_live 28 = .ok (.iconst 1, 1) := by decide +kernel
theorem dX9_live_29 : decode cX9_live 29 = .ok (.istore 4, 2) := by decide +kernel
theorem dX9_live_31 : decode cX9_live 31 = .ok (.iload 4, 2) := by decide +kernel
theorem dX9_live_33 : decode cX9_live 33 = .ok (.ifCond .eq 149, 3) := by decide +kernel
theorem dX9_live_36 : decode cX9_live 36 = .ok (.iconst 0, 1) := by decide +kernel
theorem dX9_live_37 : decode cX9_live 37 = .ok (.istore 4, 2) := by decide +kernel
theorem dX9_live_39 : decode cX9_live 39 = .ok (.iconst 0, 1) := by decide +kernel
theorem dX9_live_40 : decode cX9_live 40 = .ok (.istore 5, 2) := by decide +kernel
theorem dX9_live_42 : decode cX9_live 42 = .ok (.iload 5, 2) := by decide +kernel
theorem dX9_live_44 : decode cX9_live 44 = .ok (.aload_n 0, 1) := by decide +kernel
theorem dX9_live_45 : decode cX9_live 45 = .ok (.getfield 43, 3) := by decide +kernel
theorem dX9_live_48 : decode cX9_live 48 = .ok (.iload_n 1, 1) := by decide +kernel
theorem dX9_live_49 : decode cX9_live 49 = .ok (.iaload, 1) := by decide +kernel
theorem dX9_live_50 : decode cX9_live 50 = .ok (.if_icmp .ge 129, 3) := by decide +kernel
theorem dX9_live_53 : decode cX9_live 53 = .ok (.sipush 240, 3) := by decide +kernel
theorem dX9_live_56 : decode cX9_live 56 = .ok (.iload_n 1, 1) := by decide +kernel
theorem dX9_live_57 : decode cX9_live 57 = .ok (.imul, 1) := by decide +kernel
theorem dX9_live_58 : decode cX9_live 58 = .ok (.iload 5, 2) := by decide +kernel
theorem dX9_live_60 : decode cX9_live 60 = .ok (.iadd, 1) := by decide +kernel
theorem dX9_live_61 : decode cX9_live 61 = .ok (.istore 6, 2) := by decide +kernel
theorem dX9_live_63 : decode cX9_live 63 = .ok (.aload_n 0, 1) := by decide +kernel
theorem dX9_live_64 : decode cX9_live 64 = .ok (.getfield 70, 3) := by decide +kernel
theorem dX9_live_67 : decode cX9_live 67 = .ok (.iload 6, 2) := by decide +kernel
theorem dX9_live_69 : decode cX9_live 69 = .ok (.iaload, 1) := by decide +kernel
theorem dX9_live_70 : decode cX9_live 70 = .ok (.ifCond .lt 18, 3) := by decide +kernel
theorem dX9_live_73 : decode cX9_live 73 = .ok (.aload_n 0, 1) := by decide +kernel
theorem dX9_live_74 : decode cX9_live 74 = .ok (.getfield 147, 3) := by decide +kernel
theorem dX9_live_77 : decode cX9_live 77 = .ok (.aload_n 0, 1) := by decide +kernel
theorem dX9_live_78 : decode cX9_live 78 = .ok (.getfield 70, 3) := by decide +kernel
theorem dX9_live_81 : decode cX9_live 81 = .ok (.iload 6, 2) := by decide +kernel
theorem dX9_live_83 : decode cX9_live 83 = .ok (.iaload, 1) := by decide +kernel
theorem dX9_live_84 : decode cX9_live 84 = .ok (.baload, 1) := by decide +kernel
theorem dX9_live_85 : decode cX9_live 85 = .ok (.ifCond .ne 28, 3) := by decide +kernel
theorem dX9_live_88 : decode cX9_live 88 = .ok (.aload_n 0, 1) := by decide +kernel
theorem dX9_live_89 : decode cX9_live 89 = .ok (.getfield 73, 3) := by decide +kernel
theorem dX9_live_92 : decode cX9_live 92 = .ok (.iload 6, 2) := by decide +kernel
theorem dX9_live_94 : decode cX9_live 94 = .ok (.iaload, 1) := by decide +kernel
theorem dX9_live_95 : decode cX9_live 95 = .ok (.ifCond .lt 22, 3) := by decide +kernel
theorem dX9_live_98 : decode cX9_live 98 = .ok (.aload_n 0, 1) := by decide +kernel
theorem dX9_live_99 : decode cX9_live 99 = .ok (.getfield 147, 3) := by decide +kernel
theorem dX9_live_102 : decode cX9_live 102 = .ok (.aload_n 0, 1) := by decide +kernel
theorem dX9_live_103 : decode cX9_live 103 = .ok (.getfield 73, 3) := by decide +kernel
theorem dX9_live_106 : decode cX9_live 106 = .ok (.iload 6, 2) := by decide +kernel
theorem dX9_live_108 : decode cX9_live 108 = .ok (.iaload, 1) := by decide +kernel
theorem dX9_live_109 : decode cX9_live 109 = .ok (.baload, 1) := by decide +kernel
theorem dX9_live_110 : decode cX9_live 110 = .ok (.ifCond .eq 7, 3) := by decide +kernel
theorem dX9_live_113 : decode cX9_live 113 = .ok (.iconst 1, 1) := by decide +kernel
theorem dX9_live_114 : decode cX9_live 114 = .ok (.goto 4, 3) := by decide +kernel
theorem dX9_live_117 : decode cX9_live 117 = .ok (.iconst 0, 1) := by decide +kernel
theorem dX9_live_118 : decode cX9_live 118 = .ok (.istore 7, 2) := by decide +kernel
theorem dX9_live_120 : decode cX9_live 120 = .ok (.aload_n 0, 1) := by decide +kernel
theorem dX9_live_121 : decode cX9_live 121 = .ok (.getfield 147, 3) := by decide +kernel
theorem dX9_live_124 : decode cX9_live 124 = .ok (.iload 5, 2) := by decide +kernel
theorem dX9_live_126 : decode cX9_live 126 = .ok (.baload, 1) := by decide +kernel
theorem dX9_live_127 : decode cX9_live 127 = .ok (.ifCond .ne 46, 3) := by decide +kernel
theorem dX9_live_130 : decode cX9_live 130 = .ok (.aload_n 0, 1) := by decide +kernel
theorem dX9_live_131 : decode cX9_live 131 = .ok (.iload_n 1, 1) := by decide +kernel
theorem dX9_live_132 : decode cX9_live 132 = .ok (.iload_n 2, 1) := by decide +kernel
theorem dX9_live_133 : decode cX9_live 133 = .ok (.iload_n 3, 1) := by decide +kernel
theorem dX9_live_134 : decode cX9_live 134 = .ok (.iload 5, 2) := by decide +kernel
theorem dX9_live_136 : decode cX9_live 136 = .ok (.invokevirtual 382, 3) := by decide +kernel
theorem dX9_live_139 : decode cX9_live 139 = .ok (.ifCond .ne 34, 3) := by decide +kernel
theorem dX9_live_142 : decode cX9_live 142 = .ok (.aload_n 0, 1) := by decide +kernel
theorem dX9_live_143 : decode cX9_live 143 = .ok (.iload_n 1, 1) := by decide +kernel
theorem dX9_live_144 : decode cX9_live 144 = .ok (.iload_n 2, 1) := by decide +kernel
theorem dX9_live_145 : decode cX9_live 145 = .ok (.iload_n 3, 1) := by decide +kernel
theorem dX9_live_146 : decode cX9_live 146 = .ok (.iload 5, 2) := by decide +kernel
theorem dX9_live_148 : decode cX9_live 148 = .ok (.invokevirtual 385, 3) := by decide +kernel
theorem dX9_live_151 : decode cX9_live 151 = .ok (.ifCond .ne 11, 3) := by decide +kernel
theorem dX9_live_154 : decode cX9_live 154 = .ok (.iload 7, 2) := by decide +kernel
theorem dX9_live_156 : decode cX9_live 156 = .ok (.ifCond .ne 6, 3) := by decide +kernel
theorem dX9_live_159 : decode cX9_live 159 = .ok (.goto 14, 3) := by decide +kernel
theorem dX9_live_162 : decode cX9_live 162 = .ok (.aload_n 0, 1) := by decide +kernel
theorem dX9_live_163 : decode cX9_live 163 = .ok (.getfield 147, 3) := by decide +kernel
theorem dX9_live_166 : decode cX9_live 166 = .ok (.iload 5, 2) := by decide +kernel
theorem dX9_live_168 : decode cX9_live 168 = .ok (.iconst 1, 1) := by decide +kernel
theorem dX9_live_169 : decode cX9_live 169 = .ok (.bastore, 1) := by decide +kernel
theorem dX9_live_170 : decode cX9_live 170 = .ok (.iconst 1, 1) := by decide +kernel
theorem dX9_live_171 : decode cX9_live 171 = .ok (.istore 4, 2) := by decide +kernel
theorem dX9_live_173 : decode cX9_live 173 = .ok (.iinc 5 1, 3) := by decide +kernel
theorem dX9_live_176 : decode cX9_live 176 = .ok (.goto (-134), 3) := by decide +kernel
theorem dX9_live_179 : decode cX9_live 179 = .ok (.goto (-148), 3) := by decide +kernel
theorem dX9_live_182 : decode cX9_live 182 = .ok (.return_, 1) := by decide +kernel
theorem dX9_isPlacing_0 : decode cX9_isPlacing 0 = .ok (.iload_n 1, 1) := by decide +kernel
theorem dX9_isPlacing_1 : decode cX9_isPlacing 1 = .ok (.ifCond .lt 12, 3) := by decide +kernel
theorem dX9_isPlacing_4 : decode cX9_isPlacing 4 = .ok (.iload_n 1, 1) := by decide +kernel
theorem dX9_isPlacing_5 : decode cX9_isPlacing 5 = .ok (.iconst 2, 1) := by decide +kernel
theorem dX9_isPlacing_6 : decode cX9_isPlacing 6 = .ok (.if_icmp .gt 7, 3) := by decide +kernel
theorem dX9_isPlacing_9 : decode cX9_isPlacing 9 = .ok (.iconst 1, 1) := by decide +kernel
theorem dX9_isPlacing_10 : decode cX9_isPlacing 10 = .ok (.goto 4, 3) := by decide +kernel
theorem dX9_isPlacing_13 : decode cX9_isPlacing 13 = .ok (.iconst 0, 1) := by decide +kernel
theorem dX9_isPlacing_14 : decode cX9_isPlacing 14 = .ok (.ireturn, 1) := by decide +kernel
theorem dX9_placed_0 : decode cX9_placed 0 = .ok (.aload_n 0, 1) := by decide +kernel
theorem dX9_placed_1 : decode cX9_placed 1 = .ok (.iload_n 1, 1) := by decide +kernel
theorem dX9_placed_2 : decode cX9_placed 2 = .ok (.iload_n 3, 1) := by decide +kernel
theorem dX9_placed_3 : decode cX9_placed 3 = .ok (.invokevirtual 376, 3) := by decide +kernel
theorem dX9_placed_6 : decode cX9_placed 6 = .ok (.ifCond .eq 38, 3) := by decide +kernel
theorem dX9_placed_9 : decode cX9_placed 9 = .ok (.aload_n 0, 1) := by decide +kernel
theorem dX9_placed_10 : decode cX9_placed 10 = .ok (.iload_n 2, 1) := by decide +kernel
theorem dX9_placed_11 : decode cX9_placed 11 = .ok (.invokevirtual 388, 3) := by decide +kernel
theorem dX9_placed_14 : decode cX9_placed 14 = .ok (.ifCond .eq 30, 3) := by decide +kernel
theorem dX9_placed_17 : decode cX9_placed 17 = .ok (.iload 4, 2) := by decide +kernel
theorem dX9_placed_19 : decode cX9_placed 19 = .ok (.ifCond .lt 25, 3) := by decide +kernel
theorem dX9_placed_22 : decode cX9_placed 22 = .ok (.iload 4, 2) := by decide +kernel
theorem dX9_placed_24 : decode cX9_placed 24 = .ok (.aload_n 0, 1) := by decide +kernel
theorem dX9_placed_25 : decode cX9_placed 25 = .ok (.getfield 43, 3) := by decide +kernel
theorem dX9_placed_28 : decode cX9_placed 28 = .ok (.iload_n 1, 1) := by decide +kernel
theorem dX9_placed_29 : decode cX9_placed 29 = .ok (.iaload, 1) := by decide +kernel
theorem dX9_placed_30 : decode cX9_placed 30 = .ok (.if_icmp .ge 14, 3) := by decide +kernel
theorem dX9_placed_33 : decode cX9_placed 33 = .ok (.iload 5, 2) := by decide +kernel
theorem dX9_placed_35 : decode cX9_placed 35 = .ok (.ifCond .lt 9, 3) := by decide +kernel
theorem dX9_placed_38 : decode cX9_placed 38 = .ok (.iload 5, 2) := by decide +kernel
theorem dX9_placed_40 : decode cX9_placed 40 = .ok (.iconst 2, 1) := by decide +kernel
theorem dX9_placed_41 : decode cX9_placed 41 = .ok (.if_icmp .le 5, 3) := by decide +kernel
theorem dX9_placed_44 : decode cX9_placed 44 = .ok (.iconst (-1), 1) := by decide +kernel
theorem dX9_placed_45 : decode cX9_placed 45 = .ok (.ireturn, 1) := by decide +kernel
theorem dX9_placed_46 : decode cX9_placed 46 = .ok (.iload 5, 2) := by decide +kernel
theorem dX9_placed_48 : decode cX9_placed 48 = .ok (.iconst 2, 1) := by decide +kernel
theorem dX9_placed_49 : decode cX9_placed 49 = .ok (.if_icmp .ge 41, 3) := by decide +kernel
theorem dX9_placed_52 : decode cX9_placed 52 = .ok (.iload 5, 2) := by decide +kernel
theorem dX9_placed_54 : decode cX9_placed 54 = .ok (.ifCond .ne 18, 3) := by decide +kernel
theorem dX9_placed_57 : decode cX9_placed 57 = .ok (.aload_n 0, 1) := by decide +kernel
theorem dX9_placed_58 : decode cX9_placed 58 = .ok (.iload_n 1, 1) := by decide +kernel
theorem dX9_placed_59 : decode cX9_placed 59 = .ok (.iload_n 2, 1) := by decide +kernel
theorem dX9_placed_60 : decode cX9_placed 60 = .ok (.iload_n 3, 1) := by decide +kernel
theorem dX9_placed_61 : decode cX9_placed 61 = .ok (.iload 4, 2) := by decide +kernel
theorem dX9_placed_63 : decode cX9_placed 63 = .ok (.invokevirtual 382, 3) := by decide +kernel
theorem dX9_placed_66 : decode cX9_placed 66 = .ok (.ifCond .eq 22, 3) := by decide +kernel
theorem dX9_placed_69 : decode cX9_placed 69 = .ok (.goto 15, 3) := by decide +kernel
theorem dX9_placed_72 : decode cX9_placed 72 = .ok (.aload_n 0, 1) := by decide +kernel
theorem dX9_placed_73 : decode cX9_placed 73 = .ok (.iload_n 1, 1) := by decide +kernel
theorem dX9_placed_74 : decode cX9_placed 74 = .ok (.iload_n 2, 1) := by decide +kernel
theorem dX9_placed_75 : decode cX9_placed 75 = .ok (.iload_n 3, 1) := by decide +kernel
theorem dX9_placed_76 : decode cX9_placed 76 = .ok (.iload 4, 2) := by decide +kernel
theorem dX9_placed_78 : decode cX9_placed 78 = .ok (.invokevirtual 385, 3) := by decide +kernel
theorem dX9_placed_81 : decode cX9_placed 81 = .ok (.ifCond .eq 7, 3) := by decide +kernel
theorem dX9_placed_84 : decode cX9_placed 84 = .ok (.iconst 1, 1) := by decide +kernel
theorem dX9_placed_85 : decode cX9_placed 85 = .ok (.goto 4, 3) := by decide +kernel
theorem dX9_placed_88 : decode cX9_placed 88 = .ok (.iconst 0, 1) := by decide +kernel
theorem dX9_placed_89 : decode cX9_placed 89 = .ok (.ireturn, 1) := by decide +kernel
theorem dX9_placed_90 : decode cX9_placed 90 = .ok (.aload_n 0, 1) := by decide +kernel
theorem dX9_placed_91 : decode cX9_placed 91 = .ok (.iload_n 1, 1) := by decide +kernel
theorem dX9_placed_92 : decode cX9_placed 92 = .ok (.iload_n 2, 1) := by decide +kernel
theorem dX9_placed_93 : decode cX9_placed 93 = .ok (.iload_n 3, 1) := by decide +kernel
theorem dX9_placed_94 : decode cX9_placed 94 = .ok (.invokevirtual 391, 3) := by decide +kernel
theorem dX9_placed_97 : decode cX9_placed 97 = .ok (.aload_n 0, 1) := by decide +kernel
theorem dX9_placed_98 : decode cX9_placed 98 = .ok (.getfield 147, 3) := by decide +kernel
theorem dX9_placed_101 : decode cX9_placed 101 = .ok (.iload 4, 2) := by decide +kernel
theorem dX9_placed_103 : decode cX9_placed 103 = .ok (.baload, 1) := by decide +kernel
theorem dX9_placed_104 : decode cX9_placed 104 = .ok (.ifCond .eq 7, 3) := by decide +kernel
theorem dX9_placed_107 : decode cX9_placed 107 = .ok (.iconst 1, 1) := by decide +kernel
theorem dX9_placed_108 : decode cX9_placed 108 = .ok (.goto 4, 3) := by decide +kernel
theorem dX9_placed_111 : decode cX9_placed 111 = .ok (.iconst 0, 1) := by decide +kernel
theorem dX9_placed_112 : decode cX9_placed 112 = .ok (.ireturn, 1) := by decide +kernel
theorem dX9_life_0 : decode cX9_life 0 = .ok (.aload_n 0, 1) := by decide +kernel
theorem dX9_life_1 : decode cX9_life 1 = .ok (.iload_n 1, 1) := by decide +kernel
theorem dX9_life_2 : decode cX9_life 2 = .ok (.iload_n 3, 1) := by decide +kernel
theorem dX9_life_3 : decode cX9_life 3 = .ok (.invokevirtual 376, 3) := by decide +kernel
theorem dX9_life_6 : decode cX9_life 6 = .ok (.ifCond .eq 11, 3) := by decide +kernel
theorem dX9_life_9 : decode cX9_life 9 = .ok (.aload_n 0, 1) := by decide +kernel
theorem dX9_life_10 : decode cX9_life 10 = .ok (.iload_n 2, 1) := by decide +kernel
theorem dX9_life_11 : decode cX9_life 11 = .ok (.invokevirtual 388, 3) := by decide +kernel
theorem dX9_life_14 : decode cX9_life 14 = .ok (.ifCond .ne 5, 3) := by decide +kernel
theorem dX9_life_17 : decode cX9_life 17 = .ok (.iconst (-1), 1) := by decide +kernel
theorem dX9_life_18 : decode cX9_life 18 = .ok (.ireturn, 1) := by decide +kernel
theorem dX9_life_19 : decode cX9_life 19 = .ok (.aload_n 0, 1) := by decide +kernel
theorem dX9_life_20 : decode cX9_life 20 = .ok (.iload_n 1, 1) := by decide +kernel
theorem dX9_life_21 : decode cX9_life 21 = .ok (.iload_n 2, 1) := by decide +kernel
theorem dX9_life_22 : decode cX9_life 22 = .ok (.iload_n 3, 1) := by decide +kernel
theorem dX9_life_23 : decode cX9_life 23 = .ok (.invokevirtual 391, 3) := by decide +kernel
theorem dX9_life_26 : decode cX9_life 26 = .ok (.iconst 0, 1) := by decide +kernel
theorem dX9_life_27 : decode cX9_life 27 = .ok (.istore 4, 2) := by decide +kernel
theorem dX9_life_29 : decode cX9_life 29 = .ok (.iconst 0, 1) := by decide +kernel
theorem dX9_life_30 : decode cX9_life 30 = .ok (.istore 5, 2) := by decide +kernel
theorem dX9_life_32 : decode cX9_life 32 = .ok (.iload 5, 2) := by decide +kernel
theorem dX9_life_34 : decode cX9_life 34 = .ok (.aload_n 0, 1) := by decide +kernel
theorem dX9_life_35 : decode cX9_life 35 = .ok (.getfield 43, 3) := by decide +kernel
theorem dX9_life_38 : decode cX9_life 38 = .ok (.iload_n 1, 1) := by decide +kernel
theorem dX9_life_39 : decode cX9_life 39 = .ok (.iaload, 1) := by decide +kernel
theorem dX9_life_40 : decode cX9_life 40 = .ok (.if_icmp .ge 29, 3) := by decide +kernel
theorem dX9_life_43 : decode cX9_life 43 = .ok (.iload 4, 2) := by decide +kernel
theorem dX9_life_45 : decode cX9_life 45 = .ok (.aload_n 0, 1) := by decide +kernel
theorem dX9_life_46 : decode cX9_life 46 = .ok (.getfield 147, 3) := by decide +kernel
theorem dX9_life_49 : decode cX9_life 49 = .ok (.iload 5, 2) := by decide +kernel
theorem dX9_life_51 : decode cX9_life 51 = .ok (.baload, 1) := by decide +kernel
theorem dX9_life_52 : decode cX9_life 52 = .ok (.ifCond .eq 7, 3) := by decide +kernel
theorem dX9_life_55 : decode cX9_life 55 = .ok (.iconst 1, 1) := by decide +kernel
theorem dX9_life_56 : decode cX9_life 56 = .ok (.goto 4, 3) := by decide +kernel
theorem dX9_life_59 : decode cX9_life 59 = .ok (.iconst 0, 1) := by decide +kernel
theorem dX9_life_60 : decode cX9_life 60 = .ok (.iadd, 1) := by decide +kernel
theorem dX9_life_61 : decode cX9_life 61 = .ok (.istore 4, 2) := by decide +kernel
theorem dX9_life_63 : decode cX9_life 63 = .ok (.iinc 5 1, 3) := by decide +kernel
theorem dX9_life_66 : decode cX9_life 66 = .ok (.goto (-34), 3) := by decide +kernel
theorem dX9_life_69 : decode cX9_life 69 = .ok (.iload 4, 2) := by decide +kernel
theorem dX9_life_71 : decode cX9_life 71 = .ok (.ireturn, 1) := by decide +kernel
theorem dX9_places_0 : decode cX9_places 0 = .ok (.aload_n 0, 1) := by decide +kernel
theorem dX9_places_1 : decode cX9_places 1 = .ok (.iload_n 1, 1) := by decide +kernel
theorem dX9_places_2 : decode cX9_places 2 = .ok (.iload_n 3, 1) := by decide +kernel
theorem dX9_places_3 : decode cX9_places 3 = .ok (.invokevirtual 376, 3) := by decide +kernel
theorem dX9_places_6 : decode cX9_places 6 = .ok (.ifCond .eq 22, 3) := by decide +kernel
theorem dX9_places_9 : decode cX9_places 9 = .ok (.aload_n 0, 1) := by decide +kernel
theorem dX9_places_10 : decode cX9_places 10 = .ok (.iload_n 2, 1) := by decide +kernel
theorem dX9_places_11 : decode cX9_places 11 = .ok (.invokevirtual 388, 3) := by decide +kernel
theorem dX9_places_14 : decode cX9_places 14 = .ok (.ifCond .eq 14, 3) := by decide +kernel
theorem dX9_places_17 : decode cX9_places 17 = .ok (.iload 4, 2) := by decide +kernel
