theorem dX0_init_0 : decode cX0_init 0 = .ok (.aload_n 0, 1) := by decide +kernel
theorem dX0_init_1 : decode cX0_init 1 = .ok (.invokespecial 3, 3) := by decide +kernel
theorem dX0_init_4 : decode cX0_init 4 = .ok (.aload_n 0, 1) := by decide +kernel
theorem dX0_init_5 : decode cX0_init 5 = .ok (.sipush 240, 3) := by decide +kernel
theorem dX0_init_8 : decode cX0_init 8 = .ok (.newarray .int, 2) := by decide +kernel
theorem dX0_init_10 : decode cX0_init 10 = .ok (.putfield 9, 3) := by decide +kernel
theorem dX0_init_13 : decode cX0_init 13 = .ok (.aload_n 0, 1) := by decide +kernel
theorem dX0_init_14 : decode cX0_init 14 = .ok (.sipush 240, 3) := by decide +kernel
theorem dX0_init_17 : decode cX0_init 17 = .ok (.newarray .int, 2) := by decide +kernel
theorem dX0_init_19 : decode cX0_init 19 = .ok (.putfield 15, 3) := by decide +kernel
theorem dX0_init_22 : decode cX0_init 22 = .ok (.aload_n 0, 1) := by decide +kernel
theorem dX0_init_23 : decode cX0_init 23 = .ok (.sipush 240, 3) := by decide +kernel
theorem dX0_init_26 : decode cX0_init 26 = .ok (.newarray .int, 2) := by decide +kernel
theorem dX0_init_28 : decode cX0_init 28 = .ok (.putfield 18, 3) := by decide +kernel
theorem dX0_init_31 : decode cX0_init 31 = .ok (.aload_n 0, 1) := by decide +kernel
theorem dX0_init_32 : decode cX0_init 32 = .ok (.sipush 240, 3) := by decide +kernel
theorem dX0_init_35 : decode cX0_init 35 = .ok (.newarray .int, 2) := by decide +kernel
theorem dX0_init_37 : decode cX0_init 37 = .ok (.putfield 21, 3) := by decide +kernel
theorem dX0_init_40 : decode cX0_init 40 = .ok (.aload_n 0, 1) := by decide +kernel
theorem dX0_init_41 : decode cX0_init 41 = .ok (.sipush 240, 3) := by decide +kernel
theorem dX0_init_44 : decode cX0_init 44 = .ok (.newarray .int, 2) := by decide +kernel
theorem dX0_init_46 : decode cX0_init 46 = .ok (.putfield 24, 3) := by decide +kernel
theorem dX0_init_49 : decode cX0_init 49 = .ok (.aload_n 0, 1) := by decide +kernel
theorem dX0_init_50 : decode cX0_init 50 = .ok (.sipush 240, 3) := by decide +kernel
theorem dX0_init_53 : decode cX0_init 53 = .ok (.newarray .int, 2) := by decide +kernel
theorem dX0_init_55 : decode cX0_init 55 = .ok (.putfield 27, 3) := by decide +kernel
theorem dX0_init_58 : decode cX0_init 58 = .ok (.aload_n 0, 1) := by decide +kernel
theorem dX0_init_59 : decode cX0_init 59 = .ok (.sipush 240, 3) := by decide +kernel
theorem dX0_init_62 : decode cX0_init 62 = .ok (.newarray .int, 2) := by decide +kernel
theorem dX0_init_64 : decode cX0_init 64 = .ok (.putfield 30, 3) := by decide +kernel
theorem dX0_init_67 : decode cX0_init 67 = .ok (.aload_n 0, 1) := by decide +kernel
theorem dX0_init_68 : decode cX0_init 68 = .ok (.sipush 240, 3) := by decide +kernel
theorem dX0_init_71 : decode cX0_init 71 = .ok (.newarray .int, 2) := by decide +kernel
theorem dX0_init_73 : decode cX0_init 73 = .ok (.putfield 33, 3) := by decide +kernel
theorem dX0_init_76 : decode cX0_init 76 = .ok (.aload_n 0, 1) := by decide +kernel
theorem dX0_init_77 : decode cX0_init 77 = .ok (.sipush 240, 3) := by decide +kernel
theorem dX0_init_80 : decode cX0_init 80 = .ok (.newarray .int, 2) := by decide +kernel
theorem dX0_init_82 : decode cX0_init 82 = .ok (.putfield 36, 3) := by decide +kernel
theorem dX0_init_85 : decode cX0_init 85 = .ok (.aload_n 0, 1) := by decide +kernel
theorem dX0_init_86 : decode cX0_init 86 = .ok (.sipush 240, 3) := by decide +kernel
theorem dX0_init_89 : decode cX0_init 89 = .ok (.newarray .int, 2) := by decide +kernel
theorem dX0_init_91 : decode cX0_init 91 = .ok (.putfield 39, 3) := by decide +kernel
theorem dX0_init_94 : decode cX0_init 94 = .ok (.return_, 1) := by decide +kernel
theorem dX0_find_0 : decode cX0_find 0 = .ok (.aload_n 0, 1) := by decide +kernel
theorem dX0_find_1 : decode cX0_find 1 = .ok (.aload_n 1, 1) := by decide +kernel
theorem dX0_find_2 : decode cX0_find 2 = .ok (.getfield 42, 3) := by decide +kernel
theorem dX0_find_5 : decode cX0_find 5 = .ok (.invokevirtual 48, 3) := by decide +kernel
theorem dX0_find_8 : decode cX0_find 8 = .ok (.putfield 54, 3) := by decide +kernel
theorem dX0_find_11 : decode cX0_find 11 = .ok (.iconst 0, 1) := by decide +kernel
theorem dX0_find_12 : decode cX0_find 12 = .ok (.istore_n 2, 1) := by decide +kernel
theorem dX0_find_13 : decode cX0_find 13 = .ok (.iload_n 2, 1) := by decide +kernel
theorem dX0_find_14 : decode cX0_find 14 = .ok (.aload_n 1, 1) := by decide +kernel
theorem dX0_find_15 : decode cX0_find 15 = .ok (.getfield 58, 3) := by decide +kernel
theorem dX0_find_18 : decode cX0_find 18 = .ok (.if_icmp .ge 15, 3) := by decide +kernel
theorem dX0_find_21 : decode cX0_find 21 = .ok (.aload_n 0, 1) := by decide +kernel
theorem dX0_find_22 : decode cX0_find 22 = .ok (.aload_n 1, 1) := by decide +kernel
theorem dX0_find_23 : decode cX0_find 23 = .ok (.iload_n 2, 1) := by decide +kernel
theorem dX0_find_24 : decode cX0_find 24 = .ok (.invokevirtual 61, 3) := by decide +kernel
theorem dX0_find_27 : decode cX0_find 27 = .ok (.iinc 2 1, 3) := by decide +kernel
theorem dX0_find_30 : decode cX0_find 30 = .ok (.goto (-17), 3) := by decide +kernel
theorem dX0_find_33 : decode cX0_find 33 = .ok (.aload_n 0, 1) := by decide +kernel
theorem dX0_find_34 : decode cX0_find 34 = .ok (.aload_n 1, 1) := by decide +kernel
theorem dX0_find_35 : decode cX0_find 35 = .ok (.invokevirtual 65, 3) := by decide +kernel
theorem dX0_find_38 : decode cX0_find 38 = .ok (.aload_n 0, 1) := by decide +kernel
theorem dX0_find_39 : decode cX0_find 39 = .ok (.aload_n 1, 1) := by decide +kernel
theorem dX0_find_40 : decode cX0_find 40 = .ok (.invokevirtual 69, 3) := by decide +kernel
theorem dX0_find_43 : decode cX0_find 43 = .ok (.aload_n 0, 1) := by decide +kernel
theorem dX0_find_44 : decode cX0_find 44 = .ok (.aload_n 1, 1) := by decide +kernel
theorem dX0_find_45 : decode cX0_find 45 = .ok (.invokevirtual 72, 3) := by decide +kernel
theorem dX0_find_48 : decode cX0_find 48 = .ok (.aload_n 0, 1) := by decide +kernel
theorem dX0_find_49 : decode cX0_find 49 = .ok (.aload_n 1, 1) := by decide +kernel
theorem dX0_find_50 : decode cX0_find 50 = .ok (.invokevirtual 75, 3) := by decide +kernel
theorem dX0_find_53 : decode cX0_find 53 = .ok (.iconst 0, 1) := by decide +kernel
theorem dX0_find_54 : decode cX0_find 54 = .ok (.istore_n 2, 1) := by decide +kernel
theorem dX0_find_55 : decode cX0_find 55 = .ok (.iload_n 2, 1) := by decide +kernel
theorem dX0_find_56 : decode cX0_find 56 = .ok (.aload_n 1, 1) := by decide +kernel
theorem dX0_find_57 : decode cX0_find 57 = .ok (.getfield 58, 3) := by decide +kernel
theorem dX0_find_60 : decode cX0_find 60 = .ok (.if_icmp .ge 41, 3) := by decide +kernel
theorem dX0_find_63 : decode cX0_find 63 = .ok (.aload_n 0, 1) := by decide +kernel
theorem dX0_find_64 : decode cX0_find 64 = .ok (.getfield 30, 3) := by decide +kernel
theorem dX0_find_67 : decode cX0_find 67 = .ok (.iload_n 2, 1) := by decide +kernel
theorem dX0_find_68 : decode cX0_find 68 = .ok (.aload_n 0, 1) := by decide +kernel
theorem dX0_find_69 : decode cX0_find 69 = .ok (.getfield 27, 3) := by decide +kernel
theorem dX0_find_72 : decode cX0_find 72 = .ok (.iload_n 2, 1) := by decide +kernel
theorem dX0_find_73 : decode cX0_find 73 = .ok (.iaload, 1) := by decide +kernel
theorem dX0_find_74 : decode cX0_find 74 = .ok (.aload_n 0, 1) := by decide +kernel
theorem dX0_find_75 : decode cX0_find 75 = .ok (.getfield 9, 3) := by decide +kernel
theorem dX0_find_78 : decode cX0_find 78 = .ok (.iload_n 2, 1) := by decide +kernel
theorem dX0_find_79 : decode cX0_find 79 = .ok (.iaload, 1) := by decide +kernel
theorem dX0_find_80 : decode cX0_find 80 = .ok (.aload_n 0, 1) := by decide +kernel
theorem dX0_find_81 : decode cX0_find 81 = .ok (.aload_n 1, 1) := by decide +kernel
theorem dX0_find_82 : decode cX0_find 82 = .ok (.aload_n 0, 1) := by decide +kernel
theorem dX0_find_83 : decode cX0_find 83 = .ok (.getfield 27, 3) := by decide +kernel
theorem dX0_find_86 : decode cX0_find 86 = .ok (.iload_n 2, 1) := by decide +kernel
theorem dX0_find_87 : decode cX0_find 87 = .ok (.invokevirtual 78, 3) := by decide +kernel
theorem dX0_find_90 : decode cX0_find 90 = .ok (.iconst (-1), 1) := by decide +kernel
theorem dX0_find_91 : decode cX0_find 91 = .ok (.ixor, 1) := by decide +kernel
theorem dX0_find_92 : decode cX0_find 92 = .ok (.ior, 1) := by decide +kernel
theorem dX0_find_93 : decode cX0_find 93 = .ok (.iand, 1) := by decide +kernel
theorem dX0_find_94 : decode cX0_find 94 = .ok (.iastore, 1) := by decide +kernel
theorem dX0_find_95 : decode cX0_find 95 = .ok (.iinc 2 1, 3) := by decide +kernel
theorem dX0_find_98 : decode cX0_find 98 = .ok (.goto (-43), 3) := by decide +kernel
theorem dX0_find_101 : decode cX0_find 101 = .ok (.aload_n 0, 1) := by decide +kernel
theorem dX0_find_102 : decode cX0_find 102 = .ok (.aload_n 1, 1) := by decide +kernel
theorem dX0_find_103 : decode cX0_find 103 = .ok (.invokevirtual 82, 3) := by decide +kernel
theorem dX0_find_106 : decode cX0_find 106 = .ok (.aload_n 0, 1) := by decide +kernel
theorem dX0_find_107 : decode cX0_find 107 = .ok (.aload_n 1, 1) := by decide +kernel
theorem dX0_find_108 : decode cX0_find 108 = .ok (.iconst 1, 1) := by decide +kernel
theorem dX0_find_109 : decode cX0_find 109 = .ok (.aload_n 0, 1) := by decide +kernel
theorem dX0_find_110 : decode cX0_find 110 = .ok (.getfield 36, 3) := by decide +kernel
theorem dX0_find_113 : decode cX0_find 113 = .ok (.invokevirtual 85, 3) := by decide +kernel
theorem dX0_find_116 : decode cX0_find 116 = .ok (.aload_n 0, 1) := by decide +kernel
theorem dX0_find_117 : decode cX0_find 117 = .ok (.aload_n 1, 1) := by decide +kernel
theorem dX0_find_118 : decode cX0_find 118 = .ok (.iconst 2, 1) := by decide +kernel
theorem dX0_find_119 : decode cX0_find 119 = .ok (.aload_n 0, 1) := by decide +kernel
theorem dX0_find_120 : decode cX0_find 120 = .ok (.getfield 39, 3) := by decide +kernel
theorem dX0_find_123 : decode cX0_find 123 = .ok (.invokevirtual 85, 3) := by decide +kernel
theorem dX0_find_126 : decode cX0_find 126 = .ok (.return_, 1) := by decide +kernel
theorem dX0_setAt_0 : decode cX0_setAt 0 = .ok (.iload_n 1, 1) := by decide +kernel
theorem dX0_setAt_1 : decode cX0_setAt 1 = .ok (.tableswitch 92 0 6 #[43, 50, 57, 64, 71, 78, 85], 43) := by decide +kernel
theorem dX0_setAt_44 : decode cX0_setAt 44 = .ok (.aload_n 0, 1) := by decide +kernel
theorem dX0_setAt_45 : decode cX0_setAt 45 = .ok (.getfield 9, 3) := by decide +kernel
theorem dX0_setAt_48 : decode cX0_setAt 48 = .ok (.iload_n 2, 1) := by decide +kernel
theorem dX0_setAt_49 : decode cX0_setAt 49 = .ok (.iaload, 1) := by decide +kernel
theorem dX0_setAt_50 : decode cX0_setAt 50 = .ok (.ireturn, 1) := by decide +kernel
theorem dX0_setAt_51 : decode cX0_setAt 51 = .ok (.aload_n 0, 1) := by decide +kernel
theorem dX0_setAt_52 : decode cX0_setAt 52 = .ok (.getfield 15, 3) := by decide +kernel
theorem dX0_setAt_55 : decode cX0_setAt 55 = .ok (.iload_n 2, 1) := by decide +kernel
theorem dX0_setAt_56 : decode cX0_setAt 56 = .ok (.iaload, 1) := by decide +kernel
theorem dX0_setAt_57 : decode cX0_setAt 57 = .ok (.ireturn, 1) := by decide +kernel
theorem dX0_setAt_58 : decode cX0_setAt 58 = .ok (.aload_n 0, 1) := by decide +kernel
theorem dX0_setAt_59 : decode cX0_setAt 59 = .ok (.getfield 18, 3) := by decide +kernel
theorem dX0_setAt_62 : decode cX0_setAt 62 = .ok (.iload_n 2, 1) := by decide +kernel
theorem dX0_setAt_63 : decode cX0_setAt 63 = .ok (.iaload, 1) := by decide +kernel
theorem dX0_setAt_64 : decode cX0_setAt 64 = .ok (.ireturn, 1) := by decide +kernel
theorem dX0_setAt_65 : decode cX0_setAt 65 = .ok (.aload_n 0, 1) := by decide +kernel
theorem dX0_setAt_66 : decode cX0_setAt 66 = .ok (.getfield 21, 3) := by decide +kernel
theorem dX0_setAt_69 : decode cX0_setAt 69 = .ok (.iload_n 2, 1) := by decide +kernel
theorem dX0_setAt_70 : decode cX0_setAt 70 = .ok (.iaload, 1) := by decide +kernel
theorem dX0_setAt_71 : decode cX0_setAt 71 = .ok (.ireturn, 1) := by decide +kernel
theorem dX0_setAt_72 : decode cX0_setAt 72 = .ok (.aload_n 0, 1) := by decide +kernel
theorem dX0_setAt_73 : decode cX0_setAt 73 = .ok (.getfield 24, 3) := by decide +kernel
theorem dX0_setAt_76 : decode cX0_setAt 76 = .ok (.iload_n 2, 1) := by decide +kernel
theorem dX0_setAt_77 : decode cX0_setAt 77 = .ok (.iaload, 1) := by decide +kernel
theorem dX0_setAt_78 : decode cX0_setAt 78 = .ok (.ireturn, 1) := by decide +kernel
theorem dX0_setAt_79 : decode cX0_setAt 79 = .ok (.aload_n 0, 1) := by decide +kernel
theorem dX0_setAt_80 : decode cX0_setAt 80 = .ok (.getfield 27, 3) := by decide +kernel
theorem dX0_setAt_83 : decode cX0_setAt 83 = .ok (.iload_n 2, 1) := by decide +kernel
theorem dX0_setAt_84 : decode cX0_setAt 84 = .ok (.iaload, 1) := by decide +kernel
theorem dX0_setAt_85 : decode cX0_setAt 85 = .ok (.ireturn, 1) := by decide +kernel
theorem dX0_setAt_86 : decode cX0_setAt 86 = .ok (.aload_n 0, 1) := by decide +kernel
theorem dX0_setAt_87 : decode cX0_setAt 87 = .ok (.getfield 30, 3) := by decide +kernel
theorem dX0_setAt_90 : decode cX0_setAt 90 = .ok (.iload_n 2, 1) := by decide +kernel
theorem dX0_setAt_91 : decode cX0_setAt 91 = .ok (.iaload, 1) := by decide +kernel
theorem dX0_setAt_92 : decode cX0_setAt 92 = .ok (.ireturn, 1) := by decide +kernel
theorem dX0_setAt_93 : decode cX0_setAt 93 = .ok (.aload_n 0, 1) := by decide +kernel
theorem dX0_setAt_94 : decode cX0_setAt 94 = .ok (.getfield 33, 3) := by decide +kernel
theorem dX0_setAt_97 : decode cX0_setAt 97 = .ok (.iload_n 2, 1) := by decide +kernel
theorem dX0_setAt_98 : decode cX0_setAt 98 = .ok (.iaload, 1) := by decide +kernel
theorem dX0_setAt_99 : decode cX0_setAt 99 = .ok (.ireturn, 1) := by decide +kernel
theorem dX0_setAhead_0 : decode cX0_setAhead 0 = .ok (.iload_n 1, 1) := by decide +kernel
theorem dX0_setAhead_1 : decode cX0_setAhead 1 = .ok (.lookupswitch 50 #[(1, 27), (2, 34)], 27) := by decide +kernel
theorem dX0_setAhead_28 : decode cX0_setAhead 28 = .ok (.aload_n 0, 1) := by decide +kernel
theorem dX0_setAhead_29 : decode cX0_setAhead 29 = .ok (.getfield 24, 3) := by decide +kernel
theorem dX0_setAhead_32 : decode cX0_setAhead 32 = .ok (.iload_n 2, 1) := by decide +kernel
theorem dX0_setAhead_33 : decode cX0_setAhead 33 = .ok (.iaload, 1) := by decide +kernel
theorem dX0_setAhead_34 : decode cX0_setAhead 34 = .ok (.ireturn, 1) := by decide +kernel
theorem dX0_setAhead_35 : decode cX0_setAhead 35 = .ok (.aload_n 0, 1) := by decide +kernel
theorem dX0_setAhead_36 : decode cX0_setAhead 36 = .ok (.getfield 30, 3) := by decide +kernel
theorem dX0_setAhead_39 : decode cX0_setAhead 39 = .ok (.iload_n 2, 1) := by decide +kernel
theorem dX0_setAhead_40 : decode cX0_setAhead 40 = .ok (.iaload, 1) := by decide +kernel
theorem dX0_setAhead_41 : decode cX0_setAhead 41 = .ok (.aload_n 0, 1) := by decide +kernel
theorem dX0_setAhead_42 : decode cX0_setAhead 42 = .ok (.getfield 33, 3) := by decide +kernel
theorem dX0_setAhead_45 : decode cX0_setAhead 45 = .ok (.iload_n 2, 1) := by decide +kernel
theorem dX0_setAhead_46 : decode cX0_setAhead 46 = .ok (.iaload, 1) := by decide +kernel
theorem dX0_setAhead_47 : decode cX0_setAhead 47 = .ok (.iconst (-1), 1) := by decide +kernel
theorem dX0_setAhead_48 : decode cX0_setAhead 48 = .ok (.ixor, 1) := by decide +kernel
theorem dX0_setAhead_49 : decode cX0_setAhead 49 = .ok (.iand, 1) := by decide +kernel
theorem dX0_setAhead_50 : decode cX0_setAhead 50 = .ok (.ireturn, 1) := by decide +kernel
theorem dX0_setAhead_51 : decode cX0_setAhead 51 = .ok (.iconst 0, 1) := by decide +kernel
theorem dX0_setAhead_52 : decode cX0_setAhead 52 = .ok (.ireturn, 1) := by decide +kernel
theorem dX0_taken_0 : decode cX0_taken 0 = .ok (.iload_n 1, 1) := by decide +kernel
theorem dX0_taken_1 : decode cX0_taken 1 = .ok (.lookupswitch 57 #[(1, 27), (2, 34)], 27) := by decide +kernel
theorem dX0_taken_28 : decode cX0_taken 28 = .ok (.aload_n 0, 1) := by decide +kernel
theorem dX0_taken_29 : decode cX0_taken 29 = .ok (.getfield 9, 3) := by decide +kernel
theorem dX0_taken_32 : decode cX0_taken 32 = .ok (.iload_n 2, 1) := by decide +kernel
theorem dX0_taken_33 : decode cX0_taken 33 = .ok (.iaload, 1) := by decide +kernel
theorem dX0_taken_34 : decode cX0_taken 34 = .ok (.ireturn, 1) := by decide +kernel
theorem dX0_taken_35 : decode cX0_taken 35 = .ok (.aload_n 0, 1) := by decide +kernel
theorem dX0_taken_36 : decode cX0_taken 36 = .ok (.getfield 9, 3) := by decide +kernel
theorem dX0_taken_39 : decode cX0_taken 39 = .ok (.iload_n 2, 1) := by decide +kernel
theorem dX0_taken_40 : decode cX0_taken 40 = .ok (.iaload, 1) := by decide +kernel
theorem dX0_taken_41 : decode cX0_taken 41 = .ok (.aload_n 0, 1) := by decide +kernel
theorem dX0_taken_42 : decode cX0_taken 42 = .ok (.getfield 30, 3) := by decide +kernel
theorem dX0_taken_45 : decode cX0_taken 45 = .ok (.iload_n 2, 1) := by decide +kernel
theorem dX0_taken_46 : decode cX0_taken 46 = .ok (.iaload, 1) := by decide +kernel
theorem dX0_taken_47 : decode cX0_taken 47 = .ok (.aload_n 0, 1) := by decide +kernel
theorem dX0_taken_48 : decode cX0_taken 48 = .ok (.getfield 33, 3) := by decide +kernel
theorem dX0_taken_51 : decode cX0_taken 51 = .ok (.iload_n 2, 1) := by decide +kernel
theorem dX0_taken_52 : decode cX0_taken 52 = .ok (.iaload, 1) := by decide +kernel
theorem dX0_taken_53 : decode cX0_taken 53 = .ok (.iand, 1) := by decide +kernel
theorem dX0_taken_54 : decode cX0_taken 54 = .ok (.iconst (-1), 1) := by decide +kernel
theorem dX0_taken_55 : decode cX0_taken 55 = .ok (.ixor, 1) := by decide +kernel
theorem dX0_taken_56 : decode cX0_taken 56 = .ok (.iand, 1) := by decide +kernel
theorem dX0_taken_57 : decode cX0_taken 57 = .ok (.ireturn, 1) := by decide +kernel
theorem dX0_taken_58 : decode cX0_taken 58 = .ok (.iconst 0, 1) := by decide +kernel
theorem dX0_taken_59 : decode cX0_taken 59 = .ok (.ireturn, 1) := by decide +kernel
theorem dX0_alive_0 : decode cX0_alive 0 = .ok (.iload_n 1, 1) := by decide +kernel
theorem dX0_alive_1 : decode cX0_alive 1 = .ok (.lookupswitch 41 #[(1, 27), (2, 34)], 27) := by decide +kernel
theorem dX0_alive_28 : decode cX0_alive 28 = .ok (.aload_n 0, 1) := by decide +kernel
theorem dX0_alive_29 : decode cX0_alive 29 = .ok (.getfield 36, 3) := by decide +kernel
theorem dX0_alive_32 : decode cX0_alive 32 = .ok (.iload_n 2, 1) := by decide +kernel
theorem dX0_alive_33 : decode cX0_alive 33 = .ok (.iaload, 1) := by decide +kernel
theorem dX0_alive_34 : decode cX0_alive 34 = .ok (.ireturn, 1) := by decide +kernel
theorem dX0_alive_35 : decode cX0_alive 35 = .ok (.aload_n 0, 1) := by decide +kernel
theorem dX0_alive_36 : decode cX0_alive 36 = .ok (.getfield 39, 3) := by decide +kernel
theorem dX0_alive_39 : decode cX0_alive 39 = .ok (.iload_n 2, 1) := by decide +kernel
theorem dX0_alive_40 : decode cX0_alive 40 = .ok (.iaload, 1) := by decide +kernel
theorem dX0_alive_41 : decode cX0_alive 41 = .ok (.ireturn, 1) := by decide +kernel
theorem dX0_alive_42 : decode cX0_alive 42 = .ok (.iconst 0, 1) := by decide +kernel
theorem dX0_alive_43 : decode cX0_alive 43 = .ok (.ireturn, 1) := by decide +kernel
theorem dX0_countWorked_0 : decode cX0_countWorked 0 = .ok (.aload_n 0, 1) := by decide +kernel
theorem dX0_countWorked_1 : decode cX0_countWorked 1 = .ok (.iload_n 1, 1) := by decide +kernel
theorem dX0_countWorked_2 : decode cX0_countWorked 2 = .ok (.iload_n 3, 1) := by decide +kernel
theorem dX0_countWorked_3 : decode cX0_countWorked 3 = .ok (.invokevirtual 89, 3) := by decide +kernel
theorem dX0_countWorked_6 : decode cX0_countWorked 6 = .ok (.iload_n 2, 1) := by decide +kernel
theorem dX0_countWorked_7 : decode cX0_countWorked 7 = .ok (.iushr, 1) := by decide +kernel
theorem dX0_countWorked_8 : decode cX0_countWorked 8 = .ok (.iconst 1, 1) := by decide +kernel
theorem dX0_countWorked_9 : decode cX0_countWorked 9 = .ok (.iand, 1) := by decide +kernel
theorem dX0_countWorked_10 : decode cX0_countWorked 10 = .ok (.istore 4, 2) := by decide +kernel
theorem dX0_countWorked_12 : decode cX0_countWorked 12 = .ok (.aload_n 0, 1) := by decide +kernel
theorem dX0_countWorked_13 : decode cX0_countWorked 13 = .ok (.getfield 9, 3) := by decide +kernel
theorem dX0_countWorked_16 : decode cX0_countWorked 16 = .ok (.iload_n 3, 1) := by decide +kernel
theorem dX0_countWorked_17 : decode cX0_countWorked 17 = .ok (.iaload, 1) := by decide +kernel
theorem dX0_countWorked_18 : decode cX0_countWorked 18 = .ok (.aload_n 0, 1) := by decide +kernel
theorem dX0_countWorked_19 : decode cX0_countWorked 19 = .ok (.iload_n 1, 1) := by decide +kernel
theorem dX0_countWorked_20 : decode cX0_countWorked 20 = .ok (.iload_n 3, 1) := by decide +kernel
theorem dX0_countWorked_21 : decode cX0_countWorked 21 = .ok (.invokevirtual 93, 3) := by decide +kernel
theorem dX0_countWorked_24 : decode cX0_countWorked 24 = .ok (.iconst (-1), 1) := by decide +kernel
theorem dX0_countWorked_25 : decode cX0_countWorked 25 = .ok (.ixor, 1) := by decide +kernel
theorem dX0_countWorked_26 : decode cX0_countWorked 26 = .ok (.iand, 1) := by decide +kernel
theorem dX0_countWorked_27 : decode cX0_countWorked 27 = .ok (.iload_n 2, 1) := by decide +kernel
theorem dX0_countWorked_28 : decode cX0_countWorked 28 = .ok (.iushr, 1) := by decide +kernel
theorem dX0_countWorked_29 : decode cX0_countWorked 29 = .ok (.iconst 1, 1) := by decide +kernel
theorem dX0_countWorked_30 : decode cX0_countWorked 30 = .ok (.iand, 1) := by decide +kernel
theorem dX0_countWorked_31 : decode cX0_countWorked 31 = .ok (.istore 5, 2) := by decide +kernel
theorem dX0_countWorked_33 : decode cX0_countWorked 33 = .ok (.iload 4, 2) := by decide +kernel
theorem dX0_countWorked_35 : decode cX0_countWorked 35 = .ok (.iload 5, 2) := by decide +kernel
theorem dX0_countWorked_37 : decode cX0_countWorked 37 = .ok (.iadd, 1) := by decide +kernel
theorem dX0_countWorked_38 : decode cX0_countWorked 38 = .ok (.ireturn, 1) := by decide +kernel
theorem dX0_findWorksAndKills_0 : decode cX0_findWorksAndKills 0 = .ok (.aload_n 0, 1) := by decide +kernel
theorem dX0_findWorksAndKills_1 : decode cX0_findWorksAndKills 1 = .ok (.getfield 9, 3) := by decide +kernel
theorem dX0_findWorksAndKills_4 : decode cX0_findWorksAndKills 4 = .ok (.iload_n 2, 1) := by decide +kernel
theorem dX0_findWorksAndKills_5 : decode cX0_findWorksAndKills 5 = .ok (.aload_n 1, 1) := by decide +kernel
theorem dX0_findWorksAndKills_6 : decode cX0_findWorksAndKills 6 = .ok (.getfield 96, 3) := by decide +kernel
theorem dX0_findWorksAndKills_9 : decode cX0_findWorksAndKills 9 = .ok (.iload_n 2, 1) := by decide +kernel
theorem dX0_findWorksAndKills_10 : decode cX0_findWorksAndKills 10 = .ok (.iaload, 1) := by decide +kernel
theorem dX0_findWorksAndKills_11 : decode cX0_findWorksAndKills 11 = .ok (.ifCond .ge 7, 3) := by decide +kernel
theorem dX0_findWorksAndKills_14 : decode cX0_findWorksAndKills 14 = .ok (.iconst 0, 1) := by decide +kernel
theorem dX0_findWorksAndKills_15 : decode cX0_findWorksAndKills 15 = .ok (.goto 11, 3) := by decide +kernel
theorem dX0_findWorksAndKills_18 : decode cX0_findWorksAndKills 18 = .ok (.iconst 1, 1) := by decide +kernel
theorem dX0_findWorksAndKills_19 : decode cX0_findWorksAndKills 19 = .ok (.aload_n 1, 1) := by decide +kernel
theorem dX0_findWorksAndKills_20 : decode cX0_findWorksAndKills 20 = .ok (.getfield 96, 3) := by decide +kernel
theorem dX0_findWorksAndKills_23 : decode cX0_findWorksAndKills 23 = .ok (.iload_n 2, 1) := by decide +kernel
theorem dX0_findWorksAndKills_24 : decode cX0_findWorksAndKills 24 = .ok (.iaload, 1) := by decide +kernel
theorem dX0_findWorksAndKills_25 : decode cX0_findWorksAndKills 25 = .ok (.ishl, 1) := by decide +kernel
theorem dX0_findWorksAndKills_26 : decode cX0_findWorksAndKills 26 = .ok (.iastore, 1) := by decide +kernel
theorem dX0_findWorksAndKills_27 : decode cX0_findWorksAndKills 27 = .ok (.aload_n 1, 1) := by decide +kernel
theorem dX0_findWorksAndKills_28 : decode cX0_findWorksAndKills 28 = .ok (.getfield 99, 3) := by decide +kernel
theorem dX0_findWorksAndKills_31 : decode cX0_findWorksAndKills 31 = .ok (.iload_n 2, 1) := by decide +kernel
theorem dX0_findWorksAndKills_32 : decode cX0_findWorksAndKills 32 = .ok (.iaload, 1) := by decide +kernel
theorem dX0_findWorksAndKills_33 : decode cX0_findWorksAndKills 33 = .ok (.tableswitch 71 0 2 #[27, 27, 49], 27) := by decide +kernel
theorem dX0_findWorksAndKills_60 : decode cX0_findWorksAndKills 60 = .ok (.aload_n 0, 1) := by decide +kernel
theorem dX0_findWorksAndKills_61 : decode cX0_findWorksAndKills 61 = .ok (.getfield 15, 3) := by decide +kernel
theorem dX0_findWorksAndKills_64 : decode cX0_findWorksAndKills 64 = .ok (.iload_n 2, 1) := by decide +kernel
theorem dX0_findWorksAndKills_65 : decode cX0_findWorksAndKills 65 = .ok (.aload_n 1, 1) := by decide +kernel
theorem dX0_findWorksAndKills_66 : decode cX0_findWorksAndKills 66 = .ok (.getfield 42, 3) := by decide +kernel
theorem dX0_findWorksAndKills_69 : decode cX0_findWorksAndKills 69 = .ok (.aload_n 1, 1) := by decide +kernel
theorem dX0_findWorksAndKills_70 : decode cX0_findWorksAndKills 70 = .ok (.getfield 102, 3) := by decide +kernel
theorem dX0_findWorksAndKills_73 : decode cX0_findWorksAndKills 73 = .ok (.iload_n 2, 1) := by decide +kernel
theorem dX0_findWorksAndKills_74 : decode cX0_findWorksAndKills 74 = .ok (.iaload, 1) := by decide +kernel
theorem dX0_findWorksAndKills_75 : decode cX0_findWorksAndKills 75 = .ok (.invokevirtual 105, 3) := by decide +kernel
theorem dX0_findWorksAndKills_78 : decode cX0_findWorksAndKills 78 = .ok (.iastore, 1) := by decide +kernel
theorem dX0_findWorksAndKills_79 : decode cX0_findWorksAndKills 79 = .ok (.goto 32, 3) := by decide +kernel
theorem dX0_findWorksAndKills_82 : decode cX0_findWorksAndKills 82 = .ok (.aload_n 0, 1) := by decide +kernel
theorem dX0_findWorksAndKills_83 : decode cX0_findWorksAndKills 83 = .ok (.getfield 15, 3) := by decide +kernel
theorem dX0_findWorksAndKills_86 : decode cX0_findWorksAndKills 86 = .ok (.iload_n 2, 1) := by decide +kernel
theorem dX0_findWorksAndKills_87 : decode cX0_findWorksAndKills 87 = .ok (.aload_n 1, 1) := by decide +kernel
theorem dX0_findWorksAndKills_88 : decode cX0_findWorksAndKills 88 = .ok (.getfield 42, 3) := by decide +kernel
theorem dX0_findWorksAndKills_91 : decode cX0_findWorksAndKills 91 = .ok (.aload_n 1, 1) := by decide +kernel
theorem dX0_findWorksAndKills_92 : decode cX0_findWorksAndKills 92 = .ok (.getfield 102, 3) := by decide +kernel
theorem dX0_findWorksAndKills_95 : decode cX0_findWorksAndKills 95 = .ok (.iload_n 2, 1) := by decide +kernel
theorem dX0_findWorksAndKills_96 : decode cX0_findWorksAndKills 96 = .ok (.iaload, 1) := by decide +kernel
theorem dX0_findWorksAndKills_97 : decode cX0_findWorksAndKills 97 = .ok (.invokevirtual 109, 3) := by decide +kernel
theorem dX0_findWorksAndKills_100 : decode cX0_findWorksAndKills 100 = .ok (.iastore, 1) := by decide +kernel
theorem dX0_findWorksAndKills_101 : decode cX0_findWorksAndKills 101 = .ok (.goto 10, 3) := by decide +kernel
theorem dX0_findWorksAndKills_104 : decode cX0_findWorksAndKills 104 = .ok (.aload_n 0, 1) := by decide +kernel
theorem dX0_findWorksAndKills_105 : decode cX0_findWorksAndKills 105 = .ok (.getfield 15, 3) := by decide +kernel
theorem dX0_findWorksAndKills_108 : decode cX0_findWorksAndKills 108 = .ok (.iload_n 2, 1) := by decide +kernel
theorem dX0_findWorksAndKills_109 : decode cX0_findWorksAndKills 109 = .ok (.iconst 0, 1) := by decide +kernel
theorem dX0_findWorksAndKills_110 : decode cX0_findWorksAndKills 110 = .ok (.iastore, 1) := by decide +kernel
theorem dX0_findWorksAndKills_111 : decode cX0_findWorksAndKills 111 = .ok (.return_, 1) := by decide +kernel
theorem dX0_findWanted_0 : decode cX0_findWanted 0 = .ok (.aload_n 1, 1) := by decide +kernel
theorem dX0_findWanted_1 : decode cX0_findWanted 1 = .ok (.getfield 42, 3) := by decide +kernel
theorem dX0_findWanted_4 : decode cX0_findWanted 4 = .ok (.invokevirtual 112, 3) := by decide +kernel
theorem dX0_findWanted_7 : decode cX0_findWanted 7 = .ok (.istore_n 2, 1) := by decide +kernel
theorem dX0_findWanted_8 : decode cX0_findWanted 8 = .ok (.aload_n 0, 1) := by decide +kernel
theorem dX0_findWanted_9 : decode cX0_findWanted 9 = .ok (.getfield 18, 3) := by decide +kernel
theorem dX0_findWanted_12 : decode cX0_findWanted 12 = .ok (.aload_n 0, 1) := by decide +kernel
theorem dX0_findWanted_13 : decode cX0_findWanted 13 = .ok (.getfield 54, 3) := by decide +kernel
theorem dX0_findWanted_16 : decode cX0_findWanted 16 = .ok (.invokestatic 115, 3) := by decide +kernel
theorem dX0_findWanted_19 : decode cX0_findWanted 19 = .ok (.iconst 1, 1) := by decide +kernel
theorem dX0_findWanted_20 : decode cX0_findWanted 20 = .ok (.istore_n 3, 1) := by decide +kernel
theorem dX0_findWanted_21 : decode cX0_findWanted 21 = .ok (.iconst 0, 1) := by decide +kernel
theorem dX0_findWanted_22 : decode cX0_findWanted 22 = .ok (.istore 4, 2) := by decide +kernel
theorem dX0_findWanted_24 : decode cX0_findWanted 24 = .ok (.iload_n 3, 1) := by decide +kernel
theorem dX0_findWanted_25 : decode cX0_findWanted 25 = .ok (.ifCond .eq 120, 3) := by decide +kernel
theorem dX0_findWanted_28 : decode cX0_findWanted 28 = .ok (.iload 4, 2) := by decide +kernel
theorem dX0_findWanted_30 : decode cX0_findWanted 30 = .ok (.aload_n 1, 1) := by decide +kernel
theorem dX0_findWanted_31 : decode cX0_findWanted 31 = .ok (.getfield 58, 3) := by decide +kernel
theorem dX0_findWanted_34 : decode cX0_findWanted 34 = .ok (.if_icmp .gt 111, 3) := by decide +kernel
theorem dX0_findWanted_37 : decode cX0_findWanted 37 = .ok (.iconst 0, 1) := by decide +kernel
theorem dX0_findWanted_38 : decode cX0_findWanted 38 = .ok (.istore_n 3, 1) := by decide +kernel
theorem dX0_findWanted_39 : decode cX0_findWanted 39 = .ok (.aload_n 1, 1) := by decide +kernel
theorem dX0_findWanted_40 : decode cX0_findWanted 40 = .ok (.getfield 58, 3) := by decide +kernel
theorem dX0_findWanted_43 : decode cX0_findWanted 43 = .ok (.iconst 1, 1) := by decide +kernel
theorem dX0_findWanted_44 : decode cX0_findWanted 44 = .ok (.isub, 1) := by decide +kernel
theorem dX0_findWanted_45 : decode cX0_findWanted 45 = .ok (.istore 5, 2) := by decide +kernel
theorem dX0_findWanted_47 : decode cX0_findWanted 47 = .ok (.iload 5, 2) := by decide +kernel
theorem dX0_findWanted_49 : decode cX0_findWanted 49 = .ok (.ifCond .lt 90, 3) := by decide +kernel
theorem dX0_findWanted_52 : decode cX0_findWanted 52 = .ok (.aload_n 0, 1) := by decide +kernel
theorem dX0_findWanted_53 : decode cX0_findWanted 53 = .ok (.getfield 15, 3) := by decide +kernel
theorem dX0_findWanted_56 : decode cX0_findWanted 56 = .ok (.iload 5, 2) := by decide +kernel
theorem dX0_findWanted_58 : decode cX0_findWanted 58 = .ok (.iaload, 1) := by decide +kernel
theorem dX0_findWanted_59 : decode cX0_findWanted 59 = .ok (.aload_n 0, 1) := by decide +kernel
theorem dX0_findWanted_60 : decode cX0_findWanted 60 = .ok (.aload_n 1, 1) := by decide +kernel
theorem dX0_findWanted_61 : decode cX0_findWanted 61 = .ok (.iload 5, 2) := by decide +kernel
theorem dX0_findWanted_63 : decode cX0_findWanted 63 = .ok (.iload_n 2, 1) := by decide +kernel
theorem dX0_findWanted_64 : decode cX0_findWanted 64 = .ok (.invokevirtual 121, 3) := by decide +kernel
theorem dX0_findWanted_67 : decode cX0_findWanted 67 = .ok (.ifCond .eq 7, 3) := by decide +kernel
theorem dX0_findWanted_70 : decode cX0_findWanted 70 = .ok (.iload_n 2, 1) := by decide +kernel
theorem dX0_findWanted_71 : decode cX0_findWanted 71 = .ok (.goto 4, 3) := by decide +kernel
theorem dX0_findWanted_74 : decode cX0_findWanted 74 = .ok (.iconst 0, 1) := by decide +kernel
theorem dX0_findWanted_75 : decode cX0_findWanted 75 = .ok (.ior, 1) := by decide +kernel
theorem dX0_findWanted_76 : decode cX0_findWanted 76 = .ok (.istore 6, 2) := by decide +kernel
theorem dX0_findWanted_78 : decode cX0_findWanted 78 = .ok (.aload_n 0, 1) := by decide +kernel
theorem dX0_findWanted_79 : decode cX0_findWanted 79 = .ok (.getfield 9, 3) := by decide +kernel
theorem dX0_findWanted_82 : decode cX0_findWanted 82 = .ok (.iload 5, 2) := by decide +kernel
theorem dX0_findWanted_84 : decode cX0_findWanted 84 = .ok (.iaload, 1) := by decide +kernel
theorem dX0_findWanted_85 : decode cX0_findWanted 85 = .ok (.iload 6, 2) := by decide +kernel
theorem dX0_findWanted_87 : decode cX0_findWanted 87 = .ok (.iconst (-1), 1) := by decide +kernel
theorem dX0_findWanted_88 : decode cX0_findWanted 88 = .ok (.ixor, 1) := by decide +kernel
theorem dX0_findWanted_89 : decode cX0_findWanted 89 = .ok (.aload_n 0, 1) := by decide +kernel
theorem dX0_findWanted_90 : decode cX0_findWanted 90 = .ok (.aload_n 1, 1) := by decide +kernel
theorem dX0_findWanted_91 : decode cX0_findWanted 91 = .ok (.aload_n 0, 1) := by decide +kernel
theorem dX0_findWanted_92 : decode cX0_findWanted 92 = .ok (.getfield 18, 3) := by decide +kernel
theorem dX0_findWanted_95 : decode cX0_findWanted 95 = .ok (.iload 5, 2) := by decide +kernel
theorem dX0_findWanted_97 : decode cX0_findWanted 97 = .ok (.invokevirtual 78, 3) := by decide +kernel
theorem dX0_findWanted_100 : decode cX0_findWanted 100 = .ok (.iand, 1) := by decide +kernel
theorem dX0_findWanted_101 : decode cX0_findWanted 101 = .ok (.ior, 1) := by decide +kernel
theorem dX0_findWanted_102 : decode cX0_findWanted 102 = .ok (.istore 7, 2) := by decide +kernel
theorem dX0_findWanted_104 : decode cX0_findWanted 104 = .ok (.iload_n 3, 1) := by decide +kernel
theorem dX0_findWanted_105 : decode cX0_findWanted 105 = .ok (.iload 7, 2) := by decide +kernel
theorem dX0_findWanted_107 : decode cX0_findWanted 107 = .ok (.aload_n 0, 1) := by decide +kernel
theorem dX0_findWanted_108 : decode cX0_findWanted 108 = .ok (.getfield 18, 3) := by decide +kernel
theorem dX0_findWanted_111 : decode cX0_findWanted 111 = .ok (.iload 5, 2) := by decide +kernel
theorem dX0_findWanted_113 : decode cX0_findWanted 113 = .ok (.iaload, 1) := by decide +kernel
theorem dX0_findWanted_114 : decode cX0_findWanted 114 = .ok (.if_icmp .eq 7, 3) := by decide +kernel
theorem dX0_findWanted_117 : decode cX0_findWanted 117 = .ok (.iconst 1, 1) := by decide +kernel
theorem dX0_findWanted_118 : decode cX0_findWanted 118 = .ok (.goto 4, 3) := by decide +kernel
theorem dX0_findWanted_121 : decode cX0_findWanted 121 = .ok (.iconst 0, 1) := by decide +kernel
theorem dX0_findWanted_122 : decode cX0_findWanted 122 = .ok (.ior, 1) := by decide +kernel
theorem dX0_findWanted_123 : decode cX0_findWanted 123 = .ok (.istore_n 3, 1) := by decide +kernel
theorem dX0_findWanted_124 : decode cX0_findWanted 124 = .ok (.aload_n 0, 1) := by decide +kernel
theorem dX0_findWanted_125 : decode cX0_findWanted 125 = .ok (.getfield 18, 3) := by decide +kernel
theorem dX0_findWanted_128 : decode cX0_findWanted 128 = .ok (.iload 5, 2) := by decide +kernel
theorem dX0_findWanted_130 : decode cX0_findWanted 130 = .ok (.iload 7, 2) := by decide +kernel
theorem dX0_findWanted_132 : decode cX0_findWanted 132 = .ok (.iastore, 1) := by decide +kernel
theorem dX0_findWanted_133 : decode cX0_findWanted 133 = .ok (.iinc 5 (-1), 3) := by decide +kernel
theorem dX0_findWanted_136 : decode cX0_findWanted 136 = .ok (.goto (-89), 3) := by decide +kernel
theorem dX0_findWanted_139 : decode cX0_findWanted 139 = .ok (.iinc 4 1, 3) := by decide +kernel
theorem dX0_findWanted_142 : decode cX0_findWanted 142 = .ok (.goto (-118), 3) := by decide +kernel
theorem dX0_findWanted_145 : decode cX0_findWanted 145 = .ok (.return_, 1) := by decide +kernel
theorem dX0_isSeen_0 : decode cX0_isSeen 0 = .ok (.aload_n 1, 1) := by decide +kernel
theorem dX0_isSeen_1 : decode cX0_isSeen 1 = .ok (.getfield 99, 3) := by decide +kernel
theorem dX0_isSeen_4 : decode cX0_isSeen 4 = .ok (.iload_n 2, 1) := by decide +kernel
theorem dX0_isSeen_5 : decode cX0_isSeen 5 = .ok (.iaload, 1) := by decide +kernel
theorem dX0_isSeen_6 : decode cX0_isSeen 6 = .ok (.iconst 3, 1) := by decide +kernel
theorem dX0_isSeen_7 : decode cX0_isSeen 7 = .ok (.if_icmp .eq 24, 3) := by decide +kernel
theorem dX0_isSeen_10 : decode cX0_isSeen 10 = .ok (.aload_n 1, 1) := by decide +kernel
theorem dX0_isSeen_11 : decode cX0_isSeen 11 = .ok (.getfield 99, 3) := by decide +kernel
theorem dX0_isSeen_14 : decode cX0_isSeen 14 = .ok (.iload_n 2, 1) := by decide +kernel
theorem dX0_isSeen_15 : decode cX0_isSeen 15 = .ok (.iaload, 1) := by decide +kernel
theorem dX0_isSeen_16 : decode cX0_isSeen 16 = .ok (.iconst 2, 1) := by decide +kernel
theorem dX0_isSeen_17 : decode cX0_isSeen 17 = .ok (.if_icmp .eq 14, 3) := by decide +kernel
theorem dX0_isSeen_20 : decode cX0_isSeen 20 = .ok (.aload_n 0, 1) := by decide +kernel
theorem dX0_isSeen_21 : decode cX0_isSeen 21 = .ok (.getfield 9, 3) := by decide +kernel
theorem dX0_isSeen_24 : decode cX0_isSeen 24 = .ok (.iload_n 2, 1) := by decide +kernel
theorem dX0_isSeen_25 : decode cX0_isSeen 25 = .ok (.iaload, 1) := by decide +kernel
theorem dX0_isSeen_26 : decode cX0_isSeen 26 = .ok (.iload_n 3, 1) := by decide +kernel
theorem dX0_isSeen_27 : decode cX0_isSeen 27 = .ok (.iand, 1) := by decide +kernel
theorem dX0_isSeen_28 : decode cX0_isSeen 28 = .ok (.ifCond .eq 7, 3) := by decide +kernel
theorem dX0_isSeen_31 : decode cX0_isSeen 31 = .ok (.iconst 1, 1) := by decide +kernel
theorem dX0_isSeen_32 : decode cX0_isSeen 32 = .ok (.goto 4, 3) := by decide +kernel
theorem dX0_isSeen_35 : decode cX0_isSeen 35 = .ok (.iconst 0, 1) := by decide +kernel
theorem dX0_isSeen_36 : decode cX0_isSeen 36 = .ok (.ireturn, 1) := by decide +kernel
theorem dX0_findThere_0 : decode cX0_findThere 0 = .ok (.aload_n 0, 1) := by decide +kernel
theorem dX0_findThere_1 : decode cX0_findThere 1 = .ok (.getfield 21, 3) := by decide +kernel
theorem dX0_findThere_4 : decode cX0_findThere 4 = .ok (.aload_n 0, 1) := by decide +kernel
theorem dX0_findThere_5 : decode cX0_findThere 5 = .ok (.getfield 54, 3) := by decide +kernel
theorem dX0_findThere_8 : decode cX0_findThere 8 = .ok (.invokestatic 115, 3) := by decide +kernel
theorem dX0_findThere_11 : decode cX0_findThere 11 = .ok (.aload_n 0, 1) := by decide +kernel
theorem dX0_findThere_12 : decode cX0_findThere 12 = .ok (.getfield 21, 3) := by decide +kernel
theorem dX0_findThere_15 : decode cX0_findThere 15 = .ok (.iconst 0, 1) := by decide +kernel
theorem dX0_findThere_16 : decode cX0_findThere 16 = .ok (.iconst 0, 1) := by decide +kernel
theorem dX0_findThere_17 : decode cX0_findThere 17 = .ok (.iastore, 1) := by decide +kernel
theorem dX0_findThere_18 : decode cX0_findThere 18 = .ok (.iconst 1, 1) := by decide +kernel
theorem dX0_findThere_19 : decode cX0_findThere 19 = .ok (.istore_n 2, 1) := by decide +kernel
theorem dX0_findThere_20 : decode cX0_findThere 20 = .ok (.iconst 0, 1) := by decide +kernel
theorem dX0_findThere_21 : decode cX0_findThere 21 = .ok (.istore_n 3, 1) := by decide +kernel
theorem dX0_findThere_22 : decode cX0_findThere 22 = .ok (.iload_n 2, 1) := by decide +kernel
theorem dX0_findThere_23 : decode cX0_findThere 23 = .ok (.ifCond .eq 77, 3) := by decide +kernel
theorem dX0_findThere_26 : decode cX0_findThere 26 = .ok (.iload_n 3, 1) := by decide +kernel
theorem dX0_findThere_27 : decode cX0_findThere 27 = .ok (.aload_n 1, 1) := by decide +kernel
theorem dX0_findThere_28 : decode cX0_findThere 28 = .ok (.getfield 58, 3) := by decide +kernel
theorem dX0_findThere_31 : decode cX0_findThere 31 = .ok (.if_icmp .gt 69, 3) := by decide +kernel
theorem dX0_findThere_34 : decode cX0_findThere 34 = .ok (.iconst 0, 1) := by decide +kernel
theorem dX0_findThere_35 : decode cX0_findThere 35 = .ok (.istore_n 2, 1) := by decide +kernel
theorem dX0_findThere_36 : decode cX0_findThere 36 = .ok (.iconst 0, 1) := by decide +kernel
theorem dX0_findThere_37 : decode cX0_findThere 37 = .ok (.istore 4, 2) := by decide +kernel
theorem dX0_findThere_39 : decode cX0_findThere 39 = .ok (.iload 4, 2) := by decide +kernel
theorem dX0_findThere_41 : decode cX0_findThere 41 = .ok (.aload_n 1, 1) := by decide +kernel
theorem dX0_findThere_42 : decode cX0_findThere 42 = .ok (.getfield 58, 3) := by decide +kernel
theorem dX0_findThere_45 : decode cX0_findThere 45 = .ok (.if_icmp .ge 49, 3) := by decide +kernel
theorem dX0_findThere_48 : decode cX0_findThere 48 = .ok (.iload_n 2, 1) := by decide +kernel
theorem dX0_findThere_49 : decode cX0_findThere 49 = .ok (.aload_n 0, 1) := by decide +kernel
theorem dX0_findThere_50 : decode cX0_findThere 50 = .ok (.aload_n 1, 1) := by decide +kernel
theorem dX0_findThere_51 : decode cX0_findThere 51 = .ok (.iload 4, 2) := by decide +kernel
theorem dX0_findThere_53 : decode cX0_findThere 53 = .ok (.aload_n 0, 1) := by decide +kernel
theorem dX0_findThere_54 : decode cX0_findThere 54 = .ok (.getfield 21, 3) := by decide +kernel
theorem dX0_findThere_57 : decode cX0_findThere 57 = .ok (.iconst 0, 1) := by decide +kernel
theorem dX0_findThere_58 : decode cX0_findThere 58 = .ok (.aload_n 0, 1) := by decide +kernel
theorem dX0_findThere_59 : decode cX0_findThere 59 = .ok (.getfield 15, 3) := by decide +kernel
theorem dX0_findThere_62 : decode cX0_findThere 62 = .ok (.iload 4, 2) := by decide +kernel
theorem dX0_findThere_64 : decode cX0_findThere 64 = .ok (.iaload, 1) := by decide +kernel
theorem dX0_findThere_65 : decode cX0_findThere 65 = .ok (.iconst (-1), 1) := by decide +kernel
theorem dX0_findThere_66 : decode cX0_findThere 66 = .ok (.ixor, 1) := by decide +kernel
theorem dX0_findThere_67 : decode cX0_findThere 67 = .ok (.aload_n 0, 1) := by decide +kernel
theorem dX0_findThere_68 : decode cX0_findThere 68 = .ok (.getfield 9, 3) := by decide +kernel
theorem dX0_findThere_71 : decode cX0_findThere 71 = .ok (.iload 4, 2) := by decide +kernel
theorem dX0_findThere_73 : decode cX0_findThere 73 = .ok (.iaload, 1) := by decide +kernel
theorem dX0_findThere_74 : decode cX0_findThere 74 = .ok (.aload_n 0, 1) := by decide +kernel
theorem dX0_findThere_75 : decode cX0_findThere 75 = .ok (.getfield 21, 3) := by decide +kernel
theorem dX0_findThere_78 : decode cX0_findThere 78 = .ok (.iload 4, 2) := by decide +kernel
theorem dX0_findThere_80 : decode cX0_findThere 80 = .ok (.iaload, 1) := by decide +kernel
theorem dX0_findThere_81 : decode cX0_findThere 81 = .ok (.ior, 1) := by decide +kernel
theorem dX0_findThere_82 : decode cX0_findThere 82 = .ok (.iand, 1) := by decide +kernel
theorem dX0_findThere_83 : decode cX0_findThere 83 = .ok (.invokevirtual 125, 3) := by decide +kernel
theorem dX0_findThere_86 : decode cX0_findThere 86 = .ok (.ior, 1) := by decide +kernel
theorem dX0_findThere_87 : decode cX0_findThere 87 = .ok (.istore_n 2, 1) := by decide +kernel
theorem dX0_findThere_88 : decode cX0_findThere 88 = .ok (.iinc 4 1, 3) := by decide +kernel
theorem dX0_findThere_91 : decode cX0_findThere 91 = .ok (.goto (-52), 3) := by decide +kernel
theorem dX0_findThere_94 : decode cX0_findThere 94 = .ok (.iinc 3 1, 3) := by decide +kernel
theorem dX0_findThere_97 : decode cX0_findThere 97 = .ok (.goto (-75), 3) := by decide +kernel
theorem dX0_findThere_100 : decode cX0_findThere 100 = .ok (.return_, 1) := by decide +kernel
theorem dX0_findEarly_0 : decode cX0_findEarly 0 = .ok (.aload_n 0, 1) := by decide +kernel
theorem dX0_findEarly_1 : decode cX0_findEarly 1 = .ok (.getfield 24, 3) := by decide +kernel
theorem dX0_findEarly_4 : decode cX0_findEarly 4 = .ok (.iconst 0, 1) := by decide +kernel
theorem dX0_findEarly_5 : decode cX0_findEarly 5 = .ok (.invokestatic 115, 3) := by decide +kernel
theorem dX0_findEarly_8 : decode cX0_findEarly 8 = .ok (.aload_n 0, 1) := by decide +kernel
theorem dX0_findEarly_9 : decode cX0_findEarly 9 = .ok (.getfield 24, 3) := by decide +kernel
theorem dX0_findEarly_12 : decode cX0_findEarly 12 = .ok (.iconst 0, 1) := by decide +kernel
theorem dX0_findEarly_13 : decode cX0_findEarly 13 = .ok (.aload_n 0, 1) := by decide +kernel
theorem dX0_findEarly_14 : decode cX0_findEarly 14 = .ok (.getfield 18, 3) := by decide +kernel
theorem dX0_findEarly_17 : decode cX0_findEarly 17 = .ok (.iconst 0, 1) := by decide +kernel
theorem dX0_findEarly_18 : decode cX0_findEarly 18 = .ok (.iaload, 1) := by decide +kernel
theorem dX0_findEarly_19 : decode cX0_findEarly 19 = .ok (.iastore, 1) := by decide +kernel
theorem dX0_findEarly_20 : decode cX0_findEarly 20 = .ok (.iconst 0, 1) := by decide +kernel
theorem dX0_findEarly_21 : decode cX0_findEarly 21 = .ok (.istore_n 2, 1) := by decide +kernel
theorem dX0_findEarly_22 : decode cX0_findEarly 22 = .ok (.iload_n 2, 1) := by decide +kernel
theorem dX0_findEarly_23 : decode cX0_findEarly 23 = .ok (.aload_n 1, 1) := by decide +kernel
theorem dX0_findEarly_24 : decode cX0_findEarly 24 = .ok (.getfield 58, 3) := by decide +kernel
theorem dX0_findEarly_27 : decode cX0_findEarly 27 = .ok (.if_icmp .ge 82, 3) := by decide +kernel
theorem dX0_findEarly_30 : decode cX0_findEarly 30 = .ok (.aload_n 0, 1) := by decide +kernel
theorem dX0_findEarly_31 : decode cX0_findEarly 31 = .ok (.getfield 15, 3) := by decide +kernel
theorem dX0_findEarly_34 : decode cX0_findEarly 34 = .ok (.iload_n 2, 1) := by decide +kernel
theorem dX0_findEarly_35 : decode cX0_findEarly 35 = .ok (.iaload, 1) := by decide +kernel
theorem dX0_findEarly_36 : decode cX0_findEarly 36 = .ok (.aload_n 0, 1) := by decide +kernel
theorem dX0_findEarly_37 : decode cX0_findEarly 37 = .ok (.getfield 21, 3) := by decide +kernel
theorem dX0_findEarly_40 : decode cX0_findEarly 40 = .ok (.iload_n 2, 1) := by decide +kernel
theorem dX0_findEarly_41 : decode cX0_findEarly 41 = .ok (.iaload, 1) := by decide +kernel
theorem dX0_findEarly_42 : decode cX0_findEarly 42 = .ok (.aload_n 0, 1) := by decide +kernel
theorem dX0_findEarly_43 : decode cX0_findEarly 43 = .ok (.getfield 18, 3) := by decide +kernel
theorem dX0_findEarly_46 : decode cX0_findEarly 46 = .ok (.iload_n 2, 1) := by decide +kernel
theorem dX0_findEarly_47 : decode cX0_findEarly 47 = .ok (.iaload, 1) := by decide +kernel
theorem dX0_findEarly_48 : decode cX0_findEarly 48 = .ok (.ior, 1) := by decide +kernel
theorem dX0_findEarly_49 : decode cX0_findEarly 49 = .ok (.iconst (-1), 1) := by decide +kernel
theorem dX0_findEarly_50 : decode cX0_findEarly 50 = .ok (.ixor, 1) := by decide +kernel
theorem dX0_findEarly_51 : decode cX0_findEarly 51 = .ok (.ior, 1) := by decide +kernel
theorem dX0_findEarly_52 : decode cX0_findEarly 52 = .ok (.istore_n 3, 1) := by decide +kernel
theorem dX0_findEarly_53 : decode cX0_findEarly 53 = .ok (.iconst 0, 1) := by decide +kernel
theorem dX0_findEarly_54 : decode cX0_findEarly 54 = .ok (.istore 4, 2) := by decide +kernel
theorem dX0_findEarly_56 : decode cX0_findEarly 56 = .ok (.iload 4, 2) := by decide +kernel
theorem dX0_findEarly_58 : decode cX0_findEarly 58 = .ok (.iconst 2, 1) := by decide +kernel
theorem dX0_findEarly_59 : decode cX0_findEarly 59 = .ok (.if_icmp .ge 44, 3) := by decide +kernel
theorem dX0_findEarly_62 : decode cX0_findEarly 62 = .ok (.aload_n 1, 1) := by decide +kernel
theorem dX0_findEarly_63 : decode cX0_findEarly 63 = .ok (.getfield 129, 3) := by decide +kernel
theorem dX0_findEarly_66 : decode cX0_findEarly 66 = .ok (.iload 4, 2) := by decide +kernel
theorem dX0_findEarly_68 : decode cX0_findEarly 68 = .ok (.aaload, 1) := by decide +kernel
theorem dX0_findEarly_69 : decode cX0_findEarly 69 = .ok (.iload_n 2, 1) := by decide +kernel
theorem dX0_findEarly_70 : decode cX0_findEarly 70 = .ok (.iaload, 1) := by decide +kernel
theorem dX0_findEarly_71 : decode cX0_findEarly 71 = .ok (.istore 5, 2) := by decide +kernel
theorem dX0_findEarly_73 : decode cX0_findEarly 73 = .ok (.iload 5, 2) := by decide +kernel
theorem dX0_findEarly_75 : decode cX0_findEarly 75 = .ok (.ifCond .lt 22, 3) := by decide +kernel
theorem dX0_findEarly_78 : decode cX0_findEarly 78 = .ok (.aload_n 0, 1) := by decide +kernel
theorem dX0_findEarly_79 : decode cX0_findEarly 79 = .ok (.getfield 24, 3) := by decide +kernel
theorem dX0_findEarly_82 : decode cX0_findEarly 82 = .ok (.iload 5, 2) := by decide +kernel
theorem dX0_findEarly_84 : decode cX0_findEarly 84 = .ok (.dup2, 1) := by decide +kernel
theorem dX0_findEarly_85 : decode cX0_findEarly 85 = .ok (.iaload, 1) := by decide +kernel
theorem dX0_findEarly_86 : decode cX0_findEarly 86 = .ok (.iload_n 3, 1) := by decide +kernel
theorem dX0_findEarly_87 : decode cX0_findEarly 87 = .ok (.aload_n 0, 1) := by decide +kernel
theorem dX0_findEarly_88 : decode cX0_findEarly 88 = .ok (.getfield 18, 3) := by decide +kernel
theorem dX0_findEarly_91 : decode cX0_findEarly 91 = .ok (.iload 5, 2) := by decide +kernel
theorem dX0_findEarly_93 : decode cX0_findEarly 93 = .ok (.iaload, 1) := by decide +kernel
theorem dX0_findEarly_94 : decode cX0_findEarly 94 = .ok (.iand, 1) := by decide +kernel
theorem dX0_findEarly_95 : decode cX0_findEarly 95 = .ok (.ior, 1) := by decide +kernel
theorem dX0_findEarly_96 : decode cX0_findEarly 96 = .ok (.iastore, 1) := by decide +kernel
theorem dX0_findEarly_97 : decode cX0_findEarly 97 = .ok (.iinc 4 1, 3) := by decide +kernel
theorem dX0_findEarly_100 : decode cX0_findEarly 100 = .ok (.goto (-44), 3) := by decide +kernel
theorem dX0_findEarly_103 : decode cX0_findEarly 103 = .ok (.iinc 2 1, 3) := by decide +kernel
theorem dX0_findEarly_106 : decode cX0_findEarly 106 = .ok (.goto (-84), 3) := by decide +kernel
theorem dX0_findEarly_109 : decode cX0_findEarly 109 = .ok (.return_, 1) := by decide +kernel
theorem dX0_findDelayed_0 : decode cX0_findDelayed 0 = .ok (.aload_n 0, 1) := by decide +kernel
theorem dX0_findDelayed_1 : decode cX0_findDelayed 1 = .ok (.getfield 27, 3) := by decide +kernel
theorem dX0_findDelayed_4 : decode cX0_findDelayed 4 = .ok (.aload_n 0, 1) := by decide +kernel
theorem dX0_findDelayed_5 : decode cX0_findDelayed 5 = .ok (.getfield 54, 3) := by decide +kernel
theorem dX0_findDelayed_8 : decode cX0_findDelayed 8 = .ok (.invokestatic 115, 3) := by decide +kernel
theorem dX0_findDelayed_11 : decode cX0_findDelayed 11 = .ok (.aload_n 0, 1) := by decide +kernel
theorem dX0_findDelayed_12 : decode cX0_findDelayed 12 = .ok (.getfield 27, 3) := by decide +kernel
theorem dX0_findDelayed_15 : decode cX0_findDelayed 15 = .ok (.iconst 0, 1) := by decide +kernel
theorem dX0_findDelayed_16 : decode cX0_findDelayed 16 = .ok (.aload_n 0, 1) := by decide +kernel
theorem dX0_findDelayed_17 : decode cX0_findDelayed 17 = .ok (.getfield 24, 3) := by decide +kernel
theorem dX0_findDelayed_20 : decode cX0_findDelayed 20 = .ok (.iconst 0, 1) := by decide +kernel
theorem dX0_findDelayed_21 : decode cX0_findDelayed 21 = .ok (.iaload, 1) := by decide +kernel
theorem dX0_findDelayed_22 : decode cX0_findDelayed 22 = .ok (.iastore, 1) := by decide +kernel
theorem dX0_findDelayed_23 : decode cX0_findDelayed 23 = .ok (.iconst 1, 1) := by decide +kernel
theorem dX0_findDelayed_24 : decode cX0_findDelayed 24 = .ok (.istore_n 2, 1) := by decide +kernel
theorem dX0_findDelayed_25 : decode cX0_findDelayed 25 = .ok (.iconst 0, 1) := by decide +kernel
theorem dX0_findDelayed_26 : decode cX0_findDelayed 26 = .ok (.istore_n 3, 1) := by decide +kernel
theorem dX0_findDelayed_27 : decode cX0_findDelayed 27 = .ok (.iload_n 2, 1) := by decide +kernel
theorem dX0_findDelayed_28 : decode cX0_findDelayed 28 = .ok (.ifCond .eq 72, 3) := by decide +kernel
theorem dX0_findDelayed_31 : decode cX0_findDelayed 31 = .ok (.iload_n 3, 1) := by decide +kernel
theorem dX0_findDelayed_32 : decode cX0_findDelayed 32 = .ok (.aload_n 1, 1) := by decide +kernel
theorem dX0_findDelayed_33 : decode cX0_findDelayed 33 = .ok (.getfield 58, 3) := by decide +kernel
theorem dX0_findDelayed_36 : decode cX0_findDelayed 36 = .ok (.if_icmp .gt 64, 3) := by decide +kernel
theorem dX0_findDelayed_39 : decode cX0_findDelayed 39 = .ok (.iconst 0, 1) := by decide +kernel
theorem dX0_findDelayed_40 : decode cX0_findDelayed 40 = .ok (.istore_n 2, 1) := by decide +kernel
theorem dX0_findDelayed_41 : decode cX0_findDelayed 41 = .ok (.iconst 0, 1) := by decide +kernel
theorem dX0_findDelayed_42 : decode cX0_findDelayed 42 = .ok (.istore 4, 2) := by decide +kernel
theorem dX0_findDelayed_44 : decode cX0_findDelayed 44 = .ok (.iload 4, 2) := by decide +kernel
theorem dX0_findDelayed_46 : decode cX0_findDelayed 46 = .ok (.aload_n 1, 1) := by decide +kernel
theorem dX0_findDelayed_47 : decode cX0_findDelayed 47 = .ok (.getfield 58, 3) := by decide +kernel
theorem dX0_findDelayed_50 : decode cX0_findDelayed 50 = .ok (.if_icmp .ge 44, 3) := by decide +kernel
theorem dX0_findDelayed_53 : decode cX0_findDelayed 53 = .ok (.iload_n 2, 1) := by decide +kernel
theorem dX0_findDelayed_54 : decode cX0_findDelayed 54 = .ok (.aload_n 0, 1) := by decide +kernel
theorem dX0_findDelayed_55 : decode cX0_findDelayed 55 = .ok (.aload_n 1, 1) := by decide +kernel
theorem dX0_findDelayed_56 : decode cX0_findDelayed 56 = .ok (.iload 4, 2) := by decide +kernel
theorem dX0_findDelayed_58 : decode cX0_findDelayed 58 = .ok (.aload_n 0, 1) := by decide +kernel
theorem dX0_findDelayed_59 : decode cX0_findDelayed 59 = .ok (.getfield 27, 3) := by decide +kernel
theorem dX0_findDelayed_62 : decode cX0_findDelayed 62 = .ok (.aload_n 0, 1) := by decide +kernel
theorem dX0_findDelayed_63 : decode cX0_findDelayed 63 = .ok (.getfield 54, 3) := by decide +kernel
theorem dX0_findDelayed_66 : decode cX0_findDelayed 66 = .ok (.aload_n 0, 1) := by decide +kernel
theorem dX0_findDelayed_67 : decode cX0_findDelayed 67 = .ok (.getfield 27, 3) := by decide +kernel
theorem dX0_findDelayed_70 : decode cX0_findDelayed 70 = .ok (.iload 4, 2) := by decide +kernel
theorem dX0_findDelayed_72 : decode cX0_findDelayed 72 = .ok (.iaload, 1) := by decide +kernel
theorem dX0_findDelayed_73 : decode cX0_findDelayed 73 = .ok (.aload_n 0, 1) := by decide +kernel
theorem dX0_findDelayed_74 : decode cX0_findDelayed 74 = .ok (.getfield 9, 3) := by decide +kernel
theorem dX0_findDelayed_77 : decode cX0_findDelayed 77 = .ok (.iload 4, 2) := by decide +kernel
theorem dX0_findDelayed_79 : decode cX0_findDelayed 79 = .ok (.iaload, 1) := by decide +kernel
theorem dX0_findDelayed_80 : decode cX0_findDelayed 80 = .ok (.iconst (-1), 1) := by decide +kernel
theorem dX0_findDelayed_81 : decode cX0_findDelayed 81 = .ok (.ixor, 1) := by decide +kernel
theorem dX0_findDelayed_82 : decode cX0_findDelayed 82 = .ok (.iand, 1) := by decide +kernel
theorem dX0_findDelayed_83 : decode cX0_findDelayed 83 = .ok (.invokevirtual 125, 3) := by decide +kernel
theorem dX0_findDelayed_86 : decode cX0_findDelayed 86 = .ok (.ior, 1) := by decide +kernel
theorem dX0_findDelayed_87 : decode cX0_findDelayed 87 = .ok (.istore_n 2, 1) := by decide +kernel
theorem dX0_findDelayed_88 : decode cX0_findDelayed 88 = .ok (.iinc 4 1, 3) := by decide +kernel
theorem dX0_findDelayed_91 : decode cX0_findDelayed 91 = .ok (.goto (-47), 3) := by decide +kernel
theorem dX0_findDelayed_94 : decode cX0_findDelayed 94 = .ok (.iinc 3 1, 3) := by decide +kernel
theorem dX0_findDelayed_97 : decode cX0_findDelayed 97 = .ok (.goto (-70), 3) := by decide +kernel
theorem dX0_findDelayed_100 : decode cX0_findDelayed 100 = .ok (.return_, 1) := by decide +kernel
theorem dX0_keepInNext_0 : decode cX0_keepInNext 0 = .ok (.iconst 0, 1) := by decide +kernel
theorem dX0_keepInNext_1 : decode cX0_keepInNext 1 = .ok (.istore 6, 2) := by decide +kernel
theorem dX0_keepInNext_3 : decode cX0_keepInNext 3 = .ok (.iconst 0, 1) := by decide +kernel
theorem dX0_keepInNext_4 : decode cX0_keepInNext 4 = .ok (.istore 7, 2) := by decide +kernel
theorem dX0_keepInNext_6 : decode cX0_keepInNext 6 = .ok (.iload 7, 2) := by decide +kernel
theorem dX0_keepInNext_8 : decode cX0_keepInNext 8 = .ok (.iconst 2, 1) := by decide +kernel
theorem dX0_keepInNext_9 : decode cX0_keepInNext 9 = .ok (.if_icmp .ge 70, 3) := by decide +kernel
theorem dX0_keepInNext_12 : decode cX0_keepInNext 12 = .ok (.aload_n 1, 1) := by decide +kernel
theorem dX0_keepInNext_13 : decode cX0_keepInNext 13 = .ok (.getfield 129, 3) := by decide +kernel
theorem dX0_keepInNext_16 : decode cX0_keepInNext 16 = .ok (.iload 7, 2) := by decide +kernel
theorem dX0_keepInNext_18 : decode cX0_keepInNext 18 = .ok (.aaload, 1) := by decide +kernel
theorem dX0_keepInNext_19 : decode cX0_keepInNext 19 = .ok (.iload_n 2, 1) := by decide +kernel
theorem dX0_keepInNext_20 : decode cX0_keepInNext 20 = .ok (.iaload, 1) := by decide +kernel
theorem dX0_keepInNext_21 : decode cX0_keepInNext 21 = .ok (.istore 8, 2) := by decide +kernel
theorem dX0_keepInNext_23 : decode cX0_keepInNext 23 = .ok (.iload 8, 2) := by decide +kernel
theorem dX0_keepInNext_25 : decode cX0_keepInNext 25 = .ok (.ifCond .lt 48, 3) := by decide +kernel
theorem dX0_keepInNext_28 : decode cX0_keepInNext 28 = .ok (.aload_n 3, 1) := by decide +kernel
theorem dX0_keepInNext_29 : decode cX0_keepInNext 29 = .ok (.iload 8, 2) := by decide +kernel
theorem dX0_keepInNext_31 : decode cX0_keepInNext 31 = .ok (.iaload, 1) := by decide +kernel
theorem dX0_keepInNext_32 : decode cX0_keepInNext 32 = .ok (.iload 5, 2) := by decide +kernel
theorem dX0_keepInNext_34 : decode cX0_keepInNext 34 = .ok (.iload 4, 2) := by decide +kernel
theorem dX0_keepInNext_36 : decode cX0_keepInNext 36 = .ok (.aload_n 0, 1) := by decide +kernel
theorem dX0_keepInNext_37 : decode cX0_keepInNext 37 = .ok (.getfield 24, 3) := by decide +kernel
theorem dX0_keepInNext_40 : decode cX0_keepInNext 40 = .ok (.iload 8, 2) := by decide +kernel
theorem dX0_keepInNext_42 : decode cX0_keepInNext 42 = .ok (.iaload, 1) := by decide +kernel
theorem dX0_keepInNext_43 : decode cX0_keepInNext 43 = .ok (.iand, 1) := by decide +kernel
theorem dX0_keepInNext_44 : decode cX0_keepInNext 44 = .ok (.ior, 1) := by decide +kernel
theorem dX0_keepInNext_45 : decode cX0_keepInNext 45 = .ok (.iand, 1) := by decide +kernel
theorem dX0_keepInNext_46 : decode cX0_keepInNext 46 = .ok (.istore 9, 2) := by decide +kernel
theorem dX0_keepInNext_48 : decode cX0_keepInNext 48 = .ok (.iload 6, 2) := by decide +kernel
theorem dX0_keepInNext_50 : decode cX0_keepInNext 50 = .ok (.iload 9, 2) := by decide +kernel
theorem dX0_keepInNext_52 : decode cX0_keepInNext 52 = .ok (.aload_n 3, 1) := by decide +kernel
theorem dX0_keepInNext_53 : decode cX0_keepInNext 53 = .ok (.iload 8, 2) := by decide +kernel
theorem dX0_keepInNext_55 : decode cX0_keepInNext 55 = .ok (.iaload, 1) := by decide +kernel
theorem dX0_keepInNext_56 : decode cX0_keepInNext 56 = .ok (.if_icmp .eq 7, 3) := by decide +kernel
theorem dX0_keepInNext_59 : decode cX0_keepInNext 59 = .ok (.iconst 1, 1) := by decide +kernel
theorem dX0_keepInNext_60 : decode cX0_keepInNext 60 = .ok (.goto 4, 3) := by decide +kernel
theorem dX0_keepInNext_63 : decode cX0_keepInNext 63 = .ok (.iconst 0, 1) := by decide +kernel
theorem dX0_keepInNext_64 : decode cX0_keepInNext 64 = .ok (.ior, 1) := by decide +kernel
theorem dX0_keepInNext_65 : decode cX0_keepInNext 65 = .ok (.istore 6, 2) := by decide +kernel
theorem dX0_keepInNext_67 : decode cX0_keepInNext 67 = .ok (.aload_n 3, 1) := by decide +kernel
theorem dX0_keepInNext_68 : decode cX0_keepInNext 68 = .ok (.iload 8, 2) := by decide +kernel
theorem dX0_keepInNext_70 : decode cX0_keepInNext 70 = .ok (.iload 9, 2) := by decide +kernel
theorem dX0_keepInNext_72 : decode cX0_keepInNext 72 = .ok (.iastore, 1) := by decide +kernel
theorem dX0_keepInNext_73 : decode cX0_keepInNext 73 = .ok (.iinc 7 1, 3) := by decide +kernel
theorem dX0_keepInNext_76 : decode cX0_keepInNext 76 = .ok (.goto (-70), 3) := by decide +kernel
theorem dX0_keepInNext_79 : decode cX0_keepInNext 79 = .ok (.iload 6, 2) := by decide +kernel
theorem dX0_keepInNext_81 : decode cX0_keepInNext 81 = .ok (.ireturn, 1) := by decide +kernel
theorem dX0_findAlone_0 : decode cX0_findAlone 0 = .ok (.aload_n 0, 1) := by decide +kernel
theorem dX0_findAlone_1 : decode cX0_findAlone 1 = .ok (.getfield 33, 3) := by decide +kernel
theorem dX0_findAlone_4 : decode cX0_findAlone 4 = .ok (.aload_n 0, 1) := by decide +kernel
theorem dX0_findAlone_5 : decode cX0_findAlone 5 = .ok (.getfield 54, 3) := by decide +kernel
theorem dX0_findAlone_8 : decode cX0_findAlone 8 = .ok (.invokestatic 115, 3) := by decide +kernel
theorem dX0_findAlone_11 : decode cX0_findAlone 11 = .ok (.iconst 1, 1) := by decide +kernel
theorem dX0_findAlone_12 : decode cX0_findAlone 12 = .ok (.istore_n 2, 1) := by decide +kernel
theorem dX0_findAlone_13 : decode cX0_findAlone 13 = .ok (.iconst 0, 1) := by decide +kernel
theorem dX0_findAlone_14 : decode cX0_findAlone 14 = .ok (.istore_n 3, 1) := by decide +kernel
theorem dX0_findAlone_15 : decode cX0_findAlone 15 = .ok (.iload_n 2, 1) := by decide +kernel
theorem dX0_findAlone_16 : decode cX0_findAlone 16 = .ok (.ifCond .eq 135, 3) := by decide +kernel
theorem dX0_findAlone_19 : decode cX0_findAlone 19 = .ok (.iload_n 3, 1) := by decide +kernel
theorem dX0_findAlone_20 : decode cX0_findAlone 20 = .ok (.aload_n 1, 1) := by decide +kernel
theorem dX0_findAlone_21 : decode cX0_findAlone 21 = .ok (.getfield 58, 3) := by decide +kernel
theorem dX0_findAlone_24 : decode cX0_findAlone 24 = .ok (.if_icmp .gt 127, 3) := by decide +kernel
theorem dX0_findAlone_27 : decode cX0_findAlone 27 = .ok (.iconst 0, 1) := by decide +kernel
theorem dX0_findAlone_28 : decode cX0_findAlone 28 = .ok (.istore_n 2, 1) := by decide +kernel
theorem dX0_findAlone_29 : decode cX0_findAlone 29 = .ok (.aload_n 1, 1) := by decide +kernel
theorem dX0_findAlone_30 : decode cX0_findAlone 30 = .ok (.getfield 58, 3) := by decide +kernel
theorem dX0_findAlone_33 : decode cX0_findAlone 33 = .ok (.iconst 1, 1) := by decide +kernel
theorem dX0_findAlone_34 : decode cX0_findAlone 34 = .ok (.isub, 1) := by decide +kernel
theorem dX0_findAlone_35 : decode cX0_findAlone 35 = .ok (.istore 4, 2) := by decide +kernel
theorem dX0_findAlone_37 : decode cX0_findAlone 37 = .ok (.iload 4, 2) := by decide +kernel
theorem dX0_findAlone_39 : decode cX0_findAlone 39 = .ok (.ifCond .lt 106, 3) := by decide +kernel
theorem dX0_findAlone_42 : decode cX0_findAlone 42 = .ok (.aload_n 0, 1) := by decide +kernel
theorem dX0_findAlone_43 : decode cX0_findAlone 43 = .ok (.getfield 54, 3) := by decide +kernel
theorem dX0_findAlone_46 : decode cX0_findAlone 46 = .ok (.istore 5, 2) := by decide +kernel
theorem dX0_findAlone_48 : decode cX0_findAlone 48 = .ok (.iconst 0, 1) := by decide +kernel
theorem dX0_findAlone_49 : decode cX0_findAlone 49 = .ok (.istore 6, 2) := by decide +kernel
theorem dX0_findAlone_51 : decode cX0_findAlone 51 = .ok (.iload 6, 2) := by decide +kernel
theorem dX0_findAlone_53 : decode cX0_findAlone 53 = .ok (.iconst 2, 1) := by decide +kernel
theorem dX0_findAlone_54 : decode cX0_findAlone 54 = .ok (.if_icmp .ge 56, 3) := by decide +kernel
theorem dX0_findAlone_57 : decode cX0_findAlone 57 = .ok (.aload_n 1, 1) := by decide +kernel
theorem dX0_findAlone_58 : decode cX0_findAlone 58 = .ok (.getfield 129, 3) := by decide +kernel
theorem dX0_findAlone_61 : decode cX0_findAlone 61 = .ok (.iload 6, 2) := by decide +kernel
theorem dX0_findAlone_63 : decode cX0_findAlone 63 = .ok (.aaload, 1) := by decide +kernel
theorem dX0_findAlone_64 : decode cX0_findAlone 64 = .ok (.iload 4, 2) := by decide +kernel
theorem dX0_findAlone_66 : decode cX0_findAlone 66 = .ok (.iaload, 1) := by decide +kernel
theorem dX0_findAlone_67 : decode cX0_findAlone 67 = .ok (.istore 7, 2) := by decide +kernel
theorem dX0_findAlone_69 : decode cX0_findAlone 69 = .ok (.iload 7, 2) := by decide +kernel
theorem dX0_findAlone_71 : decode cX0_findAlone 71 = .ok (.ifCond .lt 33, 3) := by decide +kernel
theorem dX0_findAlone_74 : decode cX0_findAlone 74 = .ok (.iload 5, 2) := by decide +kernel
theorem dX0_findAlone_76 : decode cX0_findAlone 76 = .ok (.aload_n 0, 1) := by decide +kernel
theorem dX0_findAlone_77 : decode cX0_findAlone 77 = .ok (.getfield 30, 3) := by decide +kernel
theorem dX0_findAlone_80 : decode cX0_findAlone 80 = .ok (.iload 7, 2) := by decide +kernel
theorem dX0_findAlone_82 : decode cX0_findAlone 82 = .ok (.iaload, 1) := by decide +kernel
theorem dX0_findAlone_83 : decode cX0_findAlone 83 = .ok (.aload_n 0, 1) := by decide +kernel
theorem dX0_findAlone_84 : decode cX0_findAlone 84 = .ok (.getfield 9, 3) := by decide +kernel
theorem dX0_findAlone_87 : decode cX0_findAlone 87 = .ok (.iload 7, 2) := by decide +kernel
theorem dX0_findAlone_89 : decode cX0_findAlone 89 = .ok (.iaload, 1) := by decide +kernel
theorem dX0_findAlone_90 : decode cX0_findAlone 90 = .ok (.iconst (-1), 1) := by decide +kernel
theorem dX0_findAlone_91 : decode cX0_findAlone 91 = .ok (.ixor, 1) := by decide +kernel
theorem dX0_findAlone_92 : decode cX0_findAlone 92 = .ok (.aload_n 0, 1) := by decide +kernel
theorem dX0_findAlone_93 : decode cX0_findAlone 93 = .ok (.getfield 33, 3) := by decide +kernel
theorem dX0_findAlone_96 : decode cX0_findAlone 96 = .ok (.iload 7, 2) := by decide +kernel
theorem dX0_findAlone_98 : decode cX0_findAlone 98 = .ok (.iaload, 1) := by decide +kernel
theorem dX0_findAlone_99 : decode cX0_findAlone 99 = .ok (.iand, 1) := by decide +kernel
theorem dX0_findAlone_100 : decode cX0_findAlone 100 = .ok (.ior, 1) := by decide +kernel
theorem dX0_findAlone_101 : decode cX0_findAlone 101 = .ok (.iand, 1) := by decide +kernel
theorem dX0_findAlone_102 : decode cX0_findAlone 102 = .ok (.istore 5, 2) := by decide +kernel
theorem dX0_findAlone_104 : decode cX0_findAlone 104 = .ok (.iinc 6 1, 3) := by decide +kernel
theorem dX0_findAlone_107 : decode cX0_findAlone 107 = .ok (.goto (-56), 3) := by decide +kernel
theorem dX0_findAlone_110 : decode cX0_findAlone 110 = .ok (.iload_n 2, 1) := by decide +kernel
theorem dX0_findAlone_111 : decode cX0_findAlone 111 = .ok (.iload 5, 2) := by decide +kernel
theorem dX0_findAlone_113 : decode cX0_findAlone 113 = .ok (.aload_n 0, 1) := by decide +kernel
theorem dX0_findAlone_114 : decode cX0_findAlone 114 = .ok (.getfield 33, 3) := by decide +kernel
theorem dX0_findAlone_117 : decode cX0_findAlone 117 = .ok (.iload 4, 2) := by decide +kernel
theorem dX0_findAlone_119 : decode cX0_findAlone 119 = .ok (.iaload, 1) := by decide +kernel
theorem dX0_findAlone_120 : decode cX0_findAlone 120 = .ok (.if_icmp .eq 7, 3) := by decide +kernel
theorem dX0_findAlone_123 : decode cX0_findAlone 123 = .ok (.iconst 1, 1) := by decide +kernel
theorem dX0_findAlone_124 : decode cX0_findAlone 124 = .ok (.goto 4, 3) := by decide +kernel
theorem dX0_findAlone_127 : decode cX0_findAlone 127 = .ok (.iconst 0, 1) := by decide +kernel
theorem dX0_findAlone_128 : decode cX0_findAlone 128 = .ok (.ior, 1) := by decide +kernel
theorem dX0_findAlone_129 : decode cX0_findAlone 129 = .ok (.istore_n 2, 1) := by decide +kernel
theorem dX0_findAlone_130 : decode cX0_findAlone 130 = .ok (.aload_n 0, 1) := by decide +kernel
theorem dX0_findAlone_131 : decode cX0_findAlone 131 = .ok (.getfield 33, 3) := by decide +kernel
theorem dX0_findAlone_134 : decode cX0_findAlone 134 = .ok (.iload 4, 2) := by decide +kernel
theorem dX0_findAlone_136 : decode cX0_findAlone 136 = .ok (.iload 5, 2) := by decide +kernel
theorem dX0_findAlone_138 : decode cX0_findAlone 138 = .ok (.iastore, 1) := by decide +kernel
theorem dX0_findAlone_139 : decode cX0_findAlone 139 = .ok (.iinc 4 (-1), 3) := by decide +kernel
theorem dX0_findAlone_142 : decode cX0_findAlone 142 = .ok (.goto (-105), 3) := by decide +kernel
theorem dX0_findAlone_145 : decode cX0_findAlone 145 = .ok (.iinc 3 1, 3) := by decide +kernel
theorem dX0_findAlone_148 : decode cX0_findAlone 148 = .ok (.goto (-133), 3) := by decide +kernel
theorem dX0_findAlone_151 : decode cX0_findAlone 151 = .ok (.return_, 1) := by decide +kernel
theorem dX0_findAlive_0 : decode cX0_findAlive 0 = .ok (.aload_n 3, 1) := by decide +kernel
theorem dX0_findAlive_1 : decode cX0_findAlive 1 = .ok (.iconst 0, 1) := by decide +kernel
theorem dX0_findAlive_2 : decode cX0_findAlive 2 = .ok (.invokestatic 115, 3) := by decide +kernel
theorem dX0_findAlive_5 : decode cX0_findAlive 5 = .ok (.iconst 1, 1) := by decide +kernel
theorem dX0_findAlive_6 : decode cX0_findAlive 6 = .ok (.istore 4, 2) := by decide +kernel
theorem dX0_findAlive_8 : decode cX0_findAlive 8 = .ok (.iconst 0, 1) := by decide +kernel
theorem dX0_findAlive_9 : decode cX0_findAlive 9 = .ok (.istore 5, 2) := by decide +kernel
theorem dX0_findAlive_11 : decode cX0_findAlive 11 = .ok (.iload 4, 2) := by decide +kernel
theorem dX0_findAlive_13 : decode cX0_findAlive 13 = .ok (.ifCond .eq 93, 3) := by decide +kernel
theorem dX0_findAlive_16 : decode cX0_findAlive 16 = .ok (.iload 5, 2) := by decide +kernel
theorem dX0_findAlive_18 : decode cX0_findAlive 18 = .ok (.aload_n 1, 1) := by decide +kernel
theorem dX0_findAlive_19 : decode cX0_findAlive 19 = .ok (.getfield 58, 3) := by decide +kernel
theorem dX0_findAlive_22 : decode cX0_findAlive 22 = .ok (.if_icmp .gt 84, 3) := by decide +kernel
theorem dX0_findAlive_25 : decode cX0_findAlive 25 = .ok (.iconst 0, 1) := by decide +kernel
theorem dX0_findAlive_26 : decode cX0_findAlive 26 = .ok (.istore 4, 2) := by decide +kernel
theorem dX0_findAlive_28 : decode cX0_findAlive 28 = .ok (.aload_n 1, 1) := by decide +kernel
theorem dX0_findAlive_29 : decode cX0_findAlive 29 = .ok (.getfield 58, 3) := by decide +kernel
theorem dX0_findAlive_32 : decode cX0_findAlive 32 = .ok (.iconst 1, 1) := by decide +kernel
theorem dX0_findAlive_33 : decode cX0_findAlive 33 = .ok (.isub, 1) := by decide +kernel
theorem dX0_findAlive_34 : decode cX0_findAlive 34 = .ok (.istore 6, 2) := by decide +kernel
theorem dX0_findAlive_36 : decode cX0_findAlive 36 = .ok (.iload 6, 2) := by decide +kernel
theorem dX0_findAlive_38 : decode cX0_findAlive 38 = .ok (.ifCond .lt 62, 3) := by decide +kernel
theorem dX0_findAlive_41 : decode cX0_findAlive 41 = .ok (.aload_n 0, 1) := by decide +kernel
theorem dX0_findAlive_42 : decode cX0_findAlive 42 = .ok (.iload_n 2, 1) := by decide +kernel
theorem dX0_findAlive_43 : decode cX0_findAlive 43 = .ok (.iload 6, 2) := by decide +kernel
theorem dX0_findAlive_45 : decode cX0_findAlive 45 = .ok (.invokevirtual 89, 3) := by decide +kernel
theorem dX0_findAlive_48 : decode cX0_findAlive 48 = .ok (.iconst (-1), 1) := by decide +kernel
theorem dX0_findAlive_49 : decode cX0_findAlive 49 = .ok (.ixor, 1) := by decide +kernel
theorem dX0_findAlive_50 : decode cX0_findAlive 50 = .ok (.aload_n 0, 1) := by decide +kernel
theorem dX0_findAlive_51 : decode cX0_findAlive 51 = .ok (.iload_n 2, 1) := by decide +kernel
theorem dX0_findAlive_52 : decode cX0_findAlive 52 = .ok (.iload 6, 2) := by decide +kernel
theorem dX0_findAlive_54 : decode cX0_findAlive 54 = .ok (.invokevirtual 93, 3) := by decide +kernel
theorem dX0_findAlive_57 : decode cX0_findAlive 57 = .ok (.aload_n 0, 1) := by decide +kernel
theorem dX0_findAlive_58 : decode cX0_findAlive 58 = .ok (.aload_n 1, 1) := by decide +kernel
theorem dX0_findAlive_59 : decode cX0_findAlive 59 = .ok (.aload_n 3, 1) := by decide +kernel
theorem dX0_findAlive_60 : decode cX0_findAlive 60 = .ok (.iload 6, 2) := by decide +kernel
theorem dX0_findAlive_62 : decode cX0_findAlive 62 = .ok (.invokevirtual 133, 3) := by decide +kernel
theorem dX0_findAlive_65 : decode cX0_findAlive 65 = .ok (.ior, 1) := by decide +kernel
theorem dX0_findAlive_66 : decode cX0_findAlive 66 = .ok (.iand, 1) := by decide +kernel
theorem dX0_findAlive_67 : decode cX0_findAlive 67 = .ok (.istore 7, 2) := by decide +kernel
theorem dX0_findAlive_69 : decode cX0_findAlive 69 = .ok (.iload 4, 2) := by decide +kernel
theorem dX0_findAlive_71 : decode cX0_findAlive 71 = .ok (.iload 7, 2) := by decide +kernel
theorem dX0_findAlive_73 : decode cX0_findAlive 73 = .ok (.aload_n 3, 1) := by decide +kernel
theorem dX0_findAlive_74 : decode cX0_findAlive 74 = .ok (.iload 6, 2) := by decide +kernel
theorem dX0_findAlive_76 : decode cX0_findAlive 76 = .ok (.iaload, 1) := by decide +kernel
theorem dX0_findAlive_77 : decode cX0_findAlive 77 = .ok (.if_icmp .eq 7, 3) := by decide +kernel
theorem dX0_findAlive_80 : decode cX0_findAlive 80 = .ok (.iconst 1, 1) := by decide +kernel
theorem dX0_findAlive_81 : decode cX0_findAlive 81 = .ok (.goto 4, 3) := by decide +kernel
theorem dX0_findAlive_84 : decode cX0_findAlive 84 = .ok (.iconst 0, 1) := by decide +kernel
theorem dX0_findAlive_85 : decode cX0_findAlive 85 = .ok (.ior, 1) := by decide +kernel
theorem dX0_findAlive_86 : decode cX0_findAlive 86 = .ok (.istore 4, 2) := by decide +kernel
theorem dX0_findAlive_88 : decode cX0_findAlive 88 = .ok (.aload_n 3, 1) := by decide +kernel
theorem dX0_findAlive_89 : decode cX0_findAlive 89 = .ok (.iload 6, 2) := by decide +kernel
theorem dX0_findAlive_91 : decode cX0_findAlive 91 = .ok (.iload 7, 2) := by decide +kernel
theorem dX0_findAlive_93 : decode cX0_findAlive 93 = .ok (.iastore, 1) := by decide +kernel
theorem dX0_findAlive_94 : decode cX0_findAlive 94 = .ok (.iinc 6 (-1), 3) := by decide +kernel
theorem dX0_findAlive_97 : decode cX0_findAlive 97 = .ok (.goto (-61), 3) := by decide +kernel
theorem dX0_findAlive_100 : decode cX0_findAlive 100 = .ok (.iinc 5 1, 3) := by decide +kernel
theorem dX0_findAlive_103 : decode cX0_findAlive 103 = .ok (.goto (-92), 3) := by decide +kernel
theorem dX0_findAlive_106 : decode cX0_findAlive 106 = .ok (.return_, 1) := by decide +kernel
theorem dX0_allNext_0 : decode cX0_allNext 0 = .ok (.aload_n 1, 1) := by decide +kernel
theorem dX0_allNext_1 : decode cX0_allNext 1 = .ok (.getfield 129, 3) := by decide +kernel
theorem dX0_allNext_4 : decode cX0_allNext 4 = .ok (.iconst 0, 1) := by decide +kernel
theorem dX0_allNext_5 : decode cX0_allNext 5 = .ok (.aaload, 1) := by decide +kernel
theorem dX0_allNext_6 : decode cX0_allNext 6 = .ok (.iload_n 3, 1) := by decide +kernel
theorem dX0_allNext_7 : decode cX0_allNext 7 = .ok (.iaload, 1) := by decide +kernel
theorem dX0_allNext_8 : decode cX0_allNext 8 = .ok (.ifCond .ge 7, 3) := by decide +kernel
theorem dX0_allNext_11 : decode cX0_allNext 11 = .ok (.iconst 0, 1) := by decide +kernel
theorem dX0_allNext_12 : decode cX0_allNext 12 = .ok (.goto 7, 3) := by decide +kernel
theorem dX0_allNext_15 : decode cX0_allNext 15 = .ok (.aload_n 0, 1) := by decide +kernel
theorem dX0_allNext_16 : decode cX0_allNext 16 = .ok (.getfield 54, 3) := by decide +kernel
theorem dX0_allNext_19 : decode cX0_allNext 19 = .ok (.istore 4, 2) := by decide +kernel
theorem dX0_allNext_21 : decode cX0_allNext 21 = .ok (.iconst 0, 1) := by decide +kernel
theorem dX0_allNext_22 : decode cX0_allNext 22 = .ok (.istore 5, 2) := by decide +kernel
theorem dX0_allNext_24 : decode cX0_allNext 24 = .ok (.iload 5, 2) := by decide +kernel
theorem dX0_allNext_26 : decode cX0_allNext 26 = .ok (.iconst 2, 1) := by decide +kernel
theorem dX0_allNext_27 : decode cX0_allNext 27 = .ok (.if_icmp .ge 37, 3) := by decide +kernel
theorem dX0_allNext_30 : decode cX0_allNext 30 = .ok (.aload_n 1, 1) := by decide +kernel
theorem dX0_allNext_31 : decode cX0_allNext 31 = .ok (.getfield 129, 3) := by decide +kernel
theorem dX0_allNext_34 : decode cX0_allNext 34 = .ok (.iload 5, 2) := by decide +kernel
theorem dX0_allNext_36 : decode cX0_allNext 36 = .ok (.aaload, 1) := by decide +kernel
theorem dX0_allNext_37 : decode cX0_allNext 37 = .ok (.iload_n 3, 1) := by decide +kernel
theorem dX0_allNext_38 : decode cX0_allNext 38 = .ok (.iaload, 1) := by decide +kernel
theorem dX0_allNext_39 : decode cX0_allNext 39 = .ok (.ifCond .lt 19, 3) := by decide +kernel
theorem dX0_allNext_42 : decode cX0_allNext 42 = .ok (.iload 4, 2) := by decide +kernel
theorem dX0_allNext_44 : decode cX0_allNext 44 = .ok (.aload_n 2, 1) := by decide +kernel
theorem dX0_allNext_45 : decode cX0_allNext 45 = .ok (.aload_n 1, 1) := by decide +kernel
theorem dX0_allNext_46 : decode cX0_allNext 46 = .ok (.getfield 129, 3) := by decide +kernel
theorem dX0_allNext_49 : decode cX0_allNext 49 = .ok (.iload 5, 2) := by decide +kernel
theorem dX0_allNext_51 : decode cX0_allNext 51 = .ok (.aaload, 1) := by decide +kernel
theorem dX0_allNext_52 : decode cX0_allNext 52 = .ok (.iload_n 3, 1) := by decide +kernel
theorem dX0_allNext_53 : decode cX0_allNext 53 = .ok (.iaload, 1) := by decide +kernel
theorem dX0_allNext_54 : decode cX0_allNext 54 = .ok (.iaload, 1) := by decide +kernel
theorem dX0_allNext_55 : decode cX0_allNext 55 = .ok (.iand, 1) := by decide +kernel
theorem dX0_allNext_56 : decode cX0_allNext 56 = .ok (.istore 4, 2) := by decide +kernel
theorem dX0_allNext_58 : decode cX0_allNext 58 = .ok (.iinc 5 1, 3) := by decide +kernel
theorem dX0_allNext_61 : decode cX0_allNext 61 = .ok (.goto (-37), 3) := by decide +kernel
theorem dX0_allNext_64 : decode cX0_allNext 64 = .ok (.iload 4, 2) := by decide +kernel
theorem dX0_allNext_66 : decode cX0_allNext 66 = .ok (.ireturn, 1) := by decide +kernel
theorem dX0_anyNext_0 : decode cX0_anyNext 0 = .ok (.iconst 0, 1) := by decide +kernel
theorem dX0_anyNext_1 : decode cX0_anyNext 1 = .ok (.istore 4, 2) := by decide +kernel
theorem dX0_anyNext_3 : decode cX0_anyNext 3 = .ok (.iconst 0, 1) := by decide +kernel
theorem dX0_anyNext_4 : decode cX0_anyNext 4 = .ok (.istore 5, 2) := by decide +kernel
theorem dX0_anyNext_6 : decode cX0_anyNext 6 = .ok (.iload 5, 2) := by decide +kernel
theorem dX0_anyNext_8 : decode cX0_anyNext 8 = .ok (.iconst 2, 1) := by decide +kernel
theorem dX0_anyNext_9 : decode cX0_anyNext 9 = .ok (.if_icmp .ge 37, 3) := by decide +kernel
theorem dX0_anyNext_12 : decode cX0_anyNext 12 = .ok (.aload_n 1, 1) := by decide +kernel
theorem dX0_anyNext_13 : decode cX0_anyNext 13 = .ok (.getfield 129, 3) := by decide +kernel
theorem dX0_anyNext_16 : decode cX0_anyNext 16 = .ok (.iload 5, 2) := by decide +kernel
theorem dX0_anyNext_18 : decode cX0_anyNext 18 = .ok (.aaload, 1) := by decide +kernel
theorem dX0_anyNext_19 : decode cX0_anyNext 19 = .ok (.iload_n 3, 1) := by decide +kernel
theorem dX0_anyNext_20 : decode cX0_anyNext 20 = .ok (.iaload, 1) := by decide +kernel
theorem dX0_anyNext_21 : decode cX0_anyNext 21 = .ok (.ifCond .lt 19, 3) := by decide +kernel
theorem dX0_anyNext_24 : decode cX0_anyNext 24 = .ok (.iload 4, 2) := by decide +kernel
theorem dX0_anyNext_26 : decode cX0_anyNext 26 = .ok (.aload_n 2, 1) := by decide +kernel
theorem dX0_anyNext_27 : decode cX0_anyNext 27 = .ok (.aload_n 1, 1) := by decide +kernel
theorem dX0_anyNext_28 : decode cX0_anyNext 28 = .ok (.getfield 129, 3) := by decide +kernel
theorem dX0_anyNext_31 : decode cX0_anyNext 31 = .ok (.iload 5, 2) := by decide +kernel
theorem dX0_anyNext_33 : decode cX0_anyNext 33 = .ok (.aaload, 1) := by decide +kernel
theorem dX0_anyNext_34 : decode cX0_anyNext 34 = .ok (.iload_n 3, 1) := by decide +kernel
theorem dX0_anyNext_35 : decode cX0_anyNext 35 = .ok (.iaload, 1) := by decide +kernel
theorem dX0_anyNext_36 : decode cX0_anyNext 36 = .ok (.iaload, 1) := by decide +kernel
theorem dX0_anyNext_37 : decode cX0_anyNext 37 = .ok (.ior, 1) := by decide +kernel
theorem dX0_anyNext_38 : decode cX0_anyNext 38 = .ok (.istore 4, 2) := by decide +kernel
theorem dX0_anyNext_40 : decode cX0_anyNext 40 = .ok (.iinc 5 1, 3) := by decide +kernel
theorem dX0_anyNext_43 : decode cX0_anyNext 43 = .ok (.goto (-37), 3) := by decide +kernel
theorem dX0_anyNext_46 : decode cX0_anyNext 46 = .ok (.iload 4, 2) := by decide +kernel
theorem dX0_anyNext_48 : decode cX0_anyNext 48 = .ok (.ireturn, 1) := by decide +kernel
theorem dX1_init_0 : decode cX1_init 0 = .ok (.aload_n 0, 1) := by decide +kernel
theorem dX1_init_1 : decode cX1_init 1 = .ok (.invokespecial 3, 3) := by decide +kernel
theorem dX1_init_4 : decode cX1_init 4 = .ok (.aload_n 0, 1) := by decide +kernel
theorem dX1_init_5 : decode cX1_init 5 = .ok (.new 9, 3) := by decide +kernel
theorem dX1_init_8 : decode cX1_init 8 = .ok (.dup, 1) := by decide +kernel
theorem dX1_init_9 : decode cX1_init 9 = .ok (.invokespecial 11, 3) := by decide +kernel
theorem dX1_init_12 : decode cX1_init 12 = .ok (.putfield 12, 3) := by decide +kernel
theorem dX1_init_15 : decode cX1_init 15 = .ok (.aload_n 0, 1) := by decide +kernel
theorem dX1_init_16 : decode cX1_init 16 = .ok (.bipush 40, 2) := by decide +kernel
theorem dX1_init_18 : decode cX1_init 18 = .ok (.newarray .int, 2) := by decide +kernel
theorem dX1_init_20 : decode cX1_init 20 = .ok (.putfield 18, 3) := by decide +kernel
theorem dX1_init_23 : decode cX1_init 23 = .ok (.aload_n 0, 1) := by decide +kernel
theorem dX1_init_24 : decode cX1_init 24 = .ok (.iconst 2, 1) := by decide +kernel
theorem dX1_init_25 : decode cX1_init 25 = .ok (.bipush 40, 2) := by decide +kernel
theorem dX1_init_27 : decode cX1_init 27 = .ok (.multianewarray 22 2, 4) := by decide +kernel
theorem dX1_init_31 : decode cX1_init 31 = .ok (.putfield 24, 3) := by decide +kernel
theorem dX1_init_34 : decode cX1_init 34 = .ok (.aload_n 0, 1) := by decide +kernel
theorem dX1_init_35 : decode cX1_init 35 = .ok (.new 27, 3) := by decide +kernel
theorem dX1_init_38 : decode cX1_init 38 = .ok (.dup, 1) := by decide +kernel
theorem dX1_init_39 : decode cX1_init 39 = .ok (.invokespecial 29, 3) := by decide +kernel
theorem dX1_init_42 : decode cX1_init 42 = .ok (.putfield 30, 3) := by decide +kernel
theorem dX1_init_45 : decode cX1_init 45 = .ok (.return_, 1) := by decide +kernel
theorem dX1_readText_0 : decode cX1_readText 0 = .ok (.aload_n 0, 1) := by decide +kernel
theorem dX1_readText_1 : decode cX1_readText 1 = .ok (.getfield 12, 3) := by decide +kernel
theorem dX1_readText_4 : decode cX1_readText 4 = .ok (.aload_n 1, 1) := by decide +kernel
theorem dX1_readText_5 : decode cX1_readText 5 = .ok (.invokevirtual 34, 3) := by decide +kernel
theorem dX1_readText_8 : decode cX1_readText 8 = .ok (.aload_n 0, 1) := by decide +kernel
theorem dX1_readText_9 : decode cX1_readText 9 = .ok (.iconst 0, 1) := by decide +kernel
theorem dX1_readText_10 : decode cX1_readText 10 = .ok (.putfield 38, 3) := by decide +kernel
theorem dX1_readText_13 : decode cX1_readText 13 = .ok (.aload_n 0, 1) := by decide +kernel
theorem dX1_readText_14 : decode cX1_readText 14 = .ok (.iconst 0, 1) := by decide +kernel
theorem dX1_readText_15 : decode cX1_readText 15 = .ok (.putfield 42, 3) := by decide +kernel
theorem dX1_readText_18 : decode cX1_readText 18 = .ok (.aload_n 0, 1) := by decide +kernel
theorem dX1_readText_19 : decode cX1_readText 19 = .ok (.getfield 30, 3) := by decide +kernel
theorem dX1_readText_22 : decode cX1_readText 22 = .ok (.invokevirtual 45, 3) := by decide +kernel
theorem dX1_readText_25 : decode cX1_readText 25 = .ok (.iconst 0, 1) := by decide +kernel
theorem dX1_readText_26 : decode cX1_readText 26 = .ok (.istore_n 2, 1) := by decide +kernel
theorem dX1_readText_27 : decode cX1_readText 27 = .ok (.iload_n 2, 1) := by decide +kernel
theorem dX1_readText_28 : decode cX1_readText 28 = .ok (.bipush 40, 2) := by decide +kernel
theorem dX1_readText_30 : decode cX1_readText 30 = .ok (.if_icmp .ge 31, 3) := by decide +kernel
theorem dX1_readText_33 : decode cX1_readText 33 = .ok (.iload_n 2, 1) := by decide +kernel
theorem dX1_readText_34 : decode cX1_readText 34 = .ok (.ifCond .eq 11, 3) := by decide +kernel
theorem dX1_readText_37 : decode cX1_readText 37 = .ok (.aload_n 0, 1) := by decide +kernel
theorem dX1_readText_38 : decode cX1_readText 38 = .ok (.iconst 0, 1) := by decide +kernel
theorem dX1_readText_39 : decode cX1_readText 39 = .ok (.invokevirtual 48, 3) := by decide +kernel
theorem dX1_readText_42 : decode cX1_readText 42 = .ok (.ifCond .ne 19, 3) := by decide +kernel
theorem dX1_readText_45 : decode cX1_readText 45 = .ok (.aload_n 0, 1) := by decide +kernel
theorem dX1_readText_46 : decode cX1_readText 46 = .ok (.iload_n 2, 1) := by decide +kernel
theorem dX1_readText_47 : decode cX1_readText 47 = .ok (.invokevirtual 52, 3) := by decide +kernel
theorem dX1_readText_50 : decode cX1_readText 50 = .ok (.ifCond .ne 5, 3) := by decide +kernel
theorem dX1_readText_53 : decode cX1_readText 53 = .ok (.iconst 0, 1) := by decide +kernel
theorem dX1_readText_54 : decode cX1_readText 54 = .ok (.ireturn, 1) := by decide +kernel
theorem dX1_readText_55 : decode cX1_readText 55 = .ok (.iinc 2 1, 3) := by decide +kernel
theorem dX1_readText_58 : decode cX1_readText 58 = .ok (.goto (-31), 3) := by decide +kernel
theorem dX1_readText_61 : decode cX1_readText 61 = .ok (.aload_n 0, 1) := by decide +kernel
theorem dX1_readText_62 : decode cX1_readText 62 = .ok (.iconst 0, 1) := by decide +kernel
theorem dX1_readText_63 : decode cX1_readText 63 = .ok (.invokevirtual 48, 3) := by decide +kernel
theorem dX1_readText_66 : decode cX1_readText 66 = .ok (.ifCond .ne 9, 3) := by decide +kernel
theorem dX1_readText_69 : decode cX1_readText 69 = .ok (.aload_n 0, 1) := by decide +kernel
theorem dX1_readText_70 : decode cX1_readText 70 = .ok (.iconst 3, 1) := by decide +kernel
theorem dX1_readText_71 : decode cX1_readText 71 = .ok (.invokevirtual 55, 3) := by decide +kernel
theorem dX1_readText_74 : decode cX1_readText 74 = .ok (.ireturn, 1) := by decide +kernel
theorem dX1_readText_75 : decode cX1_readText 75 = .ok (.aload_n 0, 1) := by decide +kernel
theorem dX1_readText_76 : decode cX1_readText 76 = .ok (.invokevirtual 58, 3) := by decide +kernel
theorem dX1_readText_79 : decode cX1_readText 79 = .ok (.ifCond .eq 38, 3) := by decide +kernel
theorem dX1_readText_82 : decode cX1_readText 82 = .ok (.aload_n 0, 1) := by decide +kernel
theorem dX1_readText_83 : decode cX1_readText 83 = .ok (.aload_n 0, 1) := by decide +kernel
theorem dX1_readText_84 : decode cX1_readText 84 = .ok (.getfield 30, 3) := by decide +kernel
theorem dX1_readText_87 : decode cX1_readText 87 = .ok (.invokevirtual 62, 3) := by decide +kernel
theorem dX1_readText_90 : decode cX1_readText 90 = .ok (.iconst 5, 1) := by decide +kernel
theorem dX1_readText_91 : decode cX1_readText 91 = .ok (.invokevirtual 66, 3) := by decide +kernel
theorem dX1_readText_94 : decode cX1_readText 94 = .ok (.ifCond .eq 23, 3) := by decide +kernel
theorem dX1_readText_97 : decode cX1_readText 97 = .ok (.aload_n 0, 1) := by decide +kernel
theorem dX1_readText_98 : decode cX1_readText 98 = .ok (.aload_n 0, 1) := by decide +kernel
theorem dX1_readText_99 : decode cX1_readText 99 = .ok (.getfield 30, 3) := by decide +kernel
theorem dX1_readText_102 : decode cX1_readText 102 = .ok (.invokevirtual 70, 3) := by decide +kernel
theorem dX1_readText_105 : decode cX1_readText 105 = .ok (.bipush 6, 2) := by decide +kernel
theorem dX1_readText_107 : decode cX1_readText 107 = .ok (.invokevirtual 66, 3) := by decide +kernel
theorem dX1_readText_110 : decode cX1_readText 110 = .ok (.ifCond .eq 7, 3) := by decide +kernel
theorem dX1_readText_113 : decode cX1_readText 113 = .ok (.iconst 1, 1) := by decide +kernel
theorem dX1_readText_114 : decode cX1_readText 114 = .ok (.goto 4, 3) := by decide +kernel
theorem dX1_readText_117 : decode cX1_readText 117 = .ok (.iconst 0, 1) := by decide +kernel
theorem dX1_readText_118 : decode cX1_readText 118 = .ok (.ireturn, 1) := by decide +kernel
theorem dX1_readBlock_0 : decode cX1_readBlock 0 = .ok (.aload_n 0, 1) := by decide +kernel
theorem dX1_readBlock_1 : decode cX1_readBlock 1 = .ok (.iconst 5, 1) := by decide +kernel
theorem dX1_readBlock_2 : decode cX1_readBlock 2 = .ok (.invokevirtual 48, 3) := by decide +kernel
theorem dX1_readBlock_5 : decode cX1_readBlock 5 = .ok (.ifCond .eq 19, 3) := by decide +kernel
theorem dX1_readBlock_8 : decode cX1_readBlock 8 = .ok (.aload_n 0, 1) := by decide +kernel
theorem dX1_readBlock_9 : decode cX1_readBlock 9 = .ok (.getfield 12, 3) := by decide +kernel
theorem dX1_readBlock_12 : decode cX1_readBlock 12 = .ok (.getfield 73, 3) := by decide +kernel
theorem dX1_readBlock_15 : decode cX1_readBlock 15 = .ok (.aload_n 0, 1) := by decide +kernel
theorem dX1_readBlock_16 : decode cX1_readBlock 16 = .ok (.getfield 38, 3) := by decide +kernel
theorem dX1_readBlock_19 : decode cX1_readBlock 19 = .ok (.iaload, 1) := by decide +kernel
theorem dX1_readBlock_20 : decode cX1_readBlock 20 = .ok (.iload_n 1, 1) := by decide +kernel
theorem dX1_readBlock_21 : decode cX1_readBlock 21 = .ok (.if_icmp .eq 9, 3) := by decide +kernel
theorem dX1_readBlock_24 : decode cX1_readBlock 24 = .ok (.aload_n 0, 1) := by decide +kernel
theorem dX1_readBlock_25 : decode cX1_readBlock 25 = .ok (.iconst 2, 1) := by decide +kernel
theorem dX1_readBlock_26 : decode cX1_readBlock 26 = .ok (.invokevirtual 55, 3) := by decide +kernel
theorem dX1_readBlock_29 : decode cX1_readBlock 29 = .ok (.ireturn, 1) := by decide +kernel
theorem dX1_readBlock_30 : decode cX1_readBlock 30 = .ok (.aload_n 0, 1) := by decide +kernel
theorem dX1_readBlock_31 : decode cX1_readBlock 31 = .ok (.getfield 18, 3) := by decide +kernel
theorem dX1_readBlock_34 : decode cX1_readBlock 34 = .ok (.iload_n 1, 1) := by decide +kernel
theorem dX1_readBlock_35 : decode cX1_readBlock 35 = .ok (.aload_n 0, 1) := by decide +kernel
theorem dX1_readBlock_36 : decode cX1_readBlock 36 = .ok (.getfield 12, 3) := by decide +kernel
theorem dX1_readBlock_39 : decode cX1_readBlock 39 = .ok (.getfield 76, 3) := by decide +kernel
theorem dX1_readBlock_42 : decode cX1_readBlock 42 = .ok (.aload_n 0, 1) := by decide +kernel
theorem dX1_readBlock_43 : decode cX1_readBlock 43 = .ok (.getfield 38, 3) := by decide +kernel
theorem dX1_readBlock_46 : decode cX1_readBlock 46 = .ok (.iaload, 1) := by decide +kernel
theorem dX1_readBlock_47 : decode cX1_readBlock 47 = .ok (.iastore, 1) := by decide +kernel
theorem dX1_readBlock_48 : decode cX1_readBlock 48 = .ok (.aload_n 0, 1) := by decide +kernel
theorem dX1_readBlock_49 : decode cX1_readBlock 49 = .ok (.dup, 1) := by decide +kernel
theorem dX1_readBlock_50 : decode cX1_readBlock 50 = .ok (.getfield 38, 3) := by decide +kernel
theorem dX1_readBlock_53 : decode cX1_readBlock 53 = .ok (.iconst 1, 1) := by decide +kernel
theorem dX1_readBlock_54 : decode cX1_readBlock 54 = .ok (.iadd, 1) := by decide +kernel
theorem dX1_readBlock_55 : decode cX1_readBlock 55 = .ok (.putfield 38, 3) := by decide +kernel
theorem dX1_readBlock_58 : decode cX1_readBlock 58 = .ok (.aload_n 0, 1) := by decide +kernel
theorem dX1_readBlock_59 : decode cX1_readBlock 59 = .ok (.getfield 30, 3) := by decide +kernel
theorem dX1_readBlock_62 : decode cX1_readBlock 62 = .ok (.invokevirtual 79, 3) := by decide +kernel
theorem dX1_readBlock_65 : decode cX1_readBlock 65 = .ok (.aload_n 0, 1) := by decide +kernel
theorem dX1_readBlock_66 : decode cX1_readBlock 66 = .ok (.bipush 58, 2) := by decide +kernel
theorem dX1_readBlock_68 : decode cX1_readBlock 68 = .ok (.invokevirtual 82, 3) := by decide +kernel
theorem dX1_readBlock_71 : decode cX1_readBlock 71 = .ok (.ifCond .ne 5, 3) := by decide +kernel
theorem dX1_readBlock_74 : decode cX1_readBlock 74 = .ok (.iconst 0, 1) := by decide +kernel
theorem dX1_readBlock_75 : decode cX1_readBlock 75 = .ok (.ireturn, 1) := by decide +kernel
theorem dX1_readBlock_76 : decode cX1_readBlock 76 = .ok (.iconst 0, 1) := by decide +kernel
theorem dX1_readBlock_77 : decode cX1_readBlock 77 = .ok (.istore_n 2, 1) := by decide +kernel
theorem dX1_readBlock_78 : decode cX1_readBlock 78 = .ok (.iload_n 2, 1) := by decide +kernel
theorem dX1_readBlock_79 : decode cX1_readBlock 79 = .ok (.sipush 160, 3) := by decide +kernel
theorem dX1_readBlock_82 : decode cX1_readBlock 82 = .ok (.if_icmp .gt 80, 3) := by decide +kernel
theorem dX1_readBlock_85 : decode cX1_readBlock 85 = .ok (.aload_n 0, 1) := by decide +kernel
theorem dX1_readBlock_86 : decode cX1_readBlock 86 = .ok (.invokevirtual 85, 3) := by decide +kernel
theorem dX1_readBlock_89 : decode cX1_readBlock 89 = .ok (.istore_n 3, 1) := by decide +kernel
theorem dX1_readBlock_90 : decode cX1_readBlock 90 = .ok (.iload_n 3, 1) := by decide +kernel
theorem dX1_readBlock_91 : decode cX1_readBlock 91 = .ok (.ifCond .ge 9, 3) := by decide +kernel
theorem dX1_readBlock_94 : decode cX1_readBlock 94 = .ok (.aload_n 0, 1) := by decide +kernel
theorem dX1_readBlock_95 : decode cX1_readBlock 95 = .ok (.iconst 2, 1) := by decide +kernel
theorem dX1_readBlock_96 : decode cX1_readBlock 96 = .ok (.invokevirtual 55, 3) := by decide +kernel
theorem dX1_readBlock_99 : decode cX1_readBlock 99 = .ok (.ireturn, 1) := by decide +kernel
theorem dX1_readBlock_100 : decode cX1_readBlock 100 = .ok (.aload_n 0, 1) := by decide +kernel
theorem dX1_readBlock_101 : decode cX1_readBlock 101 = .ok (.getfield 30, 3) := by decide +kernel
theorem dX1_readBlock_104 : decode cX1_readBlock 104 = .ok (.getfield 89, 3) := by decide +kernel
theorem dX1_readBlock_107 : decode cX1_readBlock 107 = .ok (.sipush 160, 3) := by decide +kernel
theorem dX1_readBlock_110 : decode cX1_readBlock 110 = .ok (.if_icmp .lt 9, 3) := by decide +kernel
theorem dX1_readBlock_113 : decode cX1_readBlock 113 = .ok (.aload_n 0, 1) := by decide +kernel
theorem dX1_readBlock_114 : decode cX1_readBlock 114 = .ok (.iconst 3, 1) := by decide +kernel
theorem dX1_readBlock_115 : decode cX1_readBlock 115 = .ok (.invokevirtual 55, 3) := by decide +kernel
theorem dX1_readBlock_118 : decode cX1_readBlock 118 = .ok (.ireturn, 1) := by decide +kernel
theorem dX1_readBlock_119 : decode cX1_readBlock 119 = .ok (.aload_n 0, 1) := by decide +kernel
theorem dX1_readBlock_120 : decode cX1_readBlock 120 = .ok (.iload_n 3, 1) := by decide +kernel
theorem dX1_readBlock_121 : decode cX1_readBlock 121 = .ok (.invokevirtual 92, 3) := by decide +kernel
theorem dX1_readBlock_124 : decode cX1_readBlock 124 = .ok (.ifCond .eq 12, 3) := by decide +kernel
theorem dX1_readBlock_127 : decode cX1_readBlock 127 = .ok (.aload_n 0, 1) := by decide +kernel
theorem dX1_readBlock_128 : decode cX1_readBlock 128 = .ok (.bipush 59, 2) := by decide +kernel
theorem dX1_readBlock_130 : decode cX1_readBlock 130 = .ok (.invokevirtual 82, 3) := by decide +kernel
theorem dX1_readBlock_133 : decode cX1_readBlock 133 = .ok (.ifCond .ne 5, 3) := by decide +kernel
theorem dX1_readBlock_136 : decode cX1_readBlock 136 = .ok (.iconst 0, 1) := by decide +kernel
theorem dX1_readBlock_137 : decode cX1_readBlock 137 = .ok (.ireturn, 1) := by decide +kernel
theorem dX1_readBlock_138 : decode cX1_readBlock 138 = .ok (.iload_n 3, 1) := by decide +kernel
theorem dX1_readBlock_139 : decode cX1_readBlock 139 = .ok (.iconst 4, 1) := by decide +kernel
theorem dX1_readBlock_140 : decode cX1_readBlock 140 = .ok (.if_icmp .eq 14, 3) := by decide +kernel
theorem dX1_readBlock_143 : decode cX1_readBlock 143 = .ok (.iload_n 3, 1) := by decide +kernel
theorem dX1_readBlock_144 : decode cX1_readBlock 144 = .ok (.iconst 5, 1) := by decide +kernel
theorem dX1_readBlock_145 : decode cX1_readBlock 145 = .ok (.if_icmp .eq 9, 3) := by decide +kernel
theorem dX1_readBlock_148 : decode cX1_readBlock 148 = .ok (.iload_n 3, 1) := by decide +kernel
theorem dX1_readBlock_149 : decode cX1_readBlock 149 = .ok (.bipush 6, 2) := by decide +kernel
theorem dX1_readBlock_151 : decode cX1_readBlock 151 = .ok (.if_icmp .ne 5, 3) := by decide +kernel
theorem dX1_readBlock_154 : decode cX1_readBlock 154 = .ok (.iconst 1, 1) := by decide +kernel
theorem dX1_readBlock_155 : decode cX1_readBlock 155 = .ok (.ireturn, 1) := by decide +kernel
theorem dX1_readBlock_156 : decode cX1_readBlock 156 = .ok (.iinc 2 1, 3) := by decide +kernel
theorem dX1_readBlock_159 : decode cX1_readBlock 159 = .ok (.goto (-81), 3) := by decide +kernel
theorem dX1_readBlock_162 : decode cX1_readBlock 162 = .ok (.aload_n 0, 1) := by decide +kernel
theorem dX1_readBlock_163 : decode cX1_readBlock 163 = .ok (.iconst 3, 1) := by decide +kernel
theorem dX1_readBlock_164 : decode cX1_readBlock 164 = .ok (.invokevirtual 55, 3) := by decide +kernel
theorem dX1_readBlock_167 : decode cX1_readBlock 167 = .ok (.ireturn, 1) := by decide +kernel
theorem dX1_kindThatBegins_0 : decode cX1_kindThatBegins 0 = .ok (.aload_n 0, 1) := by decide +kernel
theorem dX1_kindThatBegins_1 : decode cX1_kindThatBegins 1 = .ok (.iconst 3, 1) := by decide +kernel
theorem dX1_kindThatBegins_2 : decode cX1_kindThatBegins 2 = .ok (.invokevirtual 48, 3) := by decide +kernel
theorem dX1_kindThatBegins_5 : decode cX1_kindThatBegins 5 = .ok (.ifCond .eq 5, 3) := by decide +kernel
theorem dX1_kindThatBegins_8 : decode cX1_kindThatBegins 8 = .ok (.iconst 1, 1) := by decide +kernel
theorem dX1_kindThatBegins_9 : decode cX1_kindThatBegins 9 = .ok (.ireturn, 1) := by decide +kernel
theorem dX1_kindThatBegins_10 : decode cX1_kindThatBegins 10 = .ok (.aload_n 0, 1) := by decide +kernel
theorem dX1_kindThatBegins_11 : decode cX1_kindThatBegins 11 = .ok (.iconst 4, 1) := by decide +kernel
theorem dX1_kindThatBegins_12 : decode cX1_kindThatBegins 12 = .ok (.invokevirtual 48, 3) := by decide +kernel
theorem dX1_kindThatBegins_15 : decode cX1_kindThatBegins 15 = .ok (.ifCond .eq 5, 3) := by decide +kernel
theorem dX1_kindThatBegins_18 : decode cX1_kindThatBegins 18 = .ok (.iconst 2, 1) := by decide +kernel
theorem dX1_kindThatBegins_19 : decode cX1_kindThatBegins 19 = .ok (.ireturn, 1) := by decide +kernel
theorem dX1_kindThatBegins_20 : decode cX1_kindThatBegins 20 = .ok (.aload_n 0, 1) := by decide +kernel
theorem dX1_kindThatBegins_21 : decode cX1_kindThatBegins 21 = .ok (.bipush 8, 2) := by decide +kernel
theorem dX1_kindThatBegins_23 : decode cX1_kindThatBegins 23 = .ok (.invokevirtual 48, 3) := by decide +kernel
theorem dX1_kindThatBegins_26 : decode cX1_kindThatBegins 26 = .ok (.ifCond .eq 18, 3) := by decide +kernel
theorem dX1_kindThatBegins_29 : decode cX1_kindThatBegins 29 = .ok (.aload_n 0, 1) := by decide +kernel
theorem dX1_kindThatBegins_30 : decode cX1_kindThatBegins 30 = .ok (.getfield 12, 3) := by decide +kernel
theorem dX1_kindThatBegins_33 : decode cX1_kindThatBegins 33 = .ok (.getfield 73, 3) := by decide +kernel
theorem dX1_kindThatBegins_36 : decode cX1_kindThatBegins 36 = .ok (.aload_n 0, 1) := by decide +kernel
theorem dX1_kindThatBegins_37 : decode cX1_kindThatBegins 37 = .ok (.getfield 38, 3) := by decide +kernel
theorem dX1_kindThatBegins_40 : decode cX1_kindThatBegins 40 = .ok (.iaload, 1) := by decide +kernel
theorem dX1_kindThatBegins_41 : decode cX1_kindThatBegins 41 = .ok (.goto 4, 3) := by decide +kernel
theorem dX1_kindThatBegins_44 : decode cX1_kindThatBegins 44 = .ok (.iconst (-1), 1) := by decide +kernel
theorem dX1_kindThatBegins_45 : decode cX1_kindThatBegins 45 = .ok (.ireturn, 1) := by decide +kernel
theorem dX1_readStatement_0 : decode cX1_readStatement 0 = .ok (.aload_n 0, 1) := by decide +kernel
theorem dX1_readStatement_1 : decode cX1_readStatement 1 = .ok (.getfield 30, 3) := by decide +kernel
theorem dX1_readStatement_4 : decode cX1_readStatement 4 = .ok (.iload_n 1, 1) := by decide +kernel
theorem dX1_readStatement_5 : decode cX1_readStatement 5 = .ok (.aload_n 0, 1) := by decide +kernel
theorem dX1_readStatement_6 : decode cX1_readStatement 6 = .ok (.getfield 30, 3) := by decide +kernel
theorem dX1_readStatement_9 : decode cX1_readStatement 9 = .ok (.getfield 95, 3) := by decide +kernel
theorem dX1_readStatement_12 : decode cX1_readStatement 12 = .ok (.iconst 1, 1) := by decide +kernel
theorem dX1_readStatement_13 : decode cX1_readStatement 13 = .ok (.isub, 1) := by decide +kernel
theorem dX1_readStatement_14 : decode cX1_readStatement 14 = .ok (.invokevirtual 98, 3) := by decide +kernel
theorem dX1_readStatement_17 : decode cX1_readStatement 17 = .ok (.istore_n 2, 1) := by decide +kernel
theorem dX1_readStatement_18 : decode cX1_readStatement 18 = .ok (.aload_n 0, 1) := by decide +kernel
theorem dX1_readStatement_19 : decode cX1_readStatement 19 = .ok (.getfield 12, 3) := by decide +kernel
theorem dX1_readStatement_22 : decode cX1_readStatement 22 = .ok (.getfield 73, 3) := by decide +kernel
theorem dX1_readStatement_25 : decode cX1_readStatement 25 = .ok (.aload_n 0, 1) := by decide +kernel
theorem dX1_readStatement_26 : decode cX1_readStatement 26 = .ok (.getfield 38, 3) := by decide +kernel
theorem dX1_readStatement_29 : decode cX1_readStatement 29 = .ok (.iaload, 1) := by decide +kernel
theorem dX1_readStatement_30 : decode cX1_readStatement 30 = .ok (.istore_n 3, 1) := by decide +kernel
theorem dX1_readStatement_31 : decode cX1_readStatement 31 = .ok (.aload_n 0, 1) := by decide +kernel
theorem dX1_readStatement_32 : decode cX1_readStatement 32 = .ok (.dup, 1) := by decide +kernel
theorem dX1_readStatement_33 : decode cX1_readStatement 33 = .ok (.getfield 38, 3) := by decide +kernel
theorem dX1_readStatement_36 : decode cX1_readStatement 36 = .ok (.iconst 1, 1) := by decide +kernel
theorem dX1_readStatement_37 : decode cX1_readStatement 37 = .ok (.iadd, 1) := by decide +kernel
theorem dX1_readStatement_38 : decode cX1_readStatement 38 = .ok (.putfield 38, 3) := by decide +kernel
theorem dX1_readStatement_41 : decode cX1_readStatement 41 = .ok (.iload_n 1, 1) := by decide +kernel
theorem dX1_readStatement_42 : decode cX1_readStatement 42 = .ok (.tableswitch 216 1 5 #[34, 90, 151, 158, 165], 34) := by decide +kernel
theorem dX1_readStatement_76 : decode cX1_readStatement 76 = .ok (.aload_n 0, 1) := by decide +kernel
theorem dX1_readStatement_77 : decode cX1_readStatement 77 = .ok (.getfield 30, 3) := by decide +kernel
theorem dX1_readStatement_80 : decode cX1_readStatement 80 = .ok (.getfield 102, 3) := by decide +kernel
theorem dX1_readStatement_83 : decode cX1_readStatement 83 = .ok (.iload_n 2, 1) := by decide +kernel
theorem dX1_readStatement_84 : decode cX1_readStatement 84 = .ok (.iload_n 3, 1) := by decide +kernel
theorem dX1_readStatement_85 : decode cX1_readStatement 85 = .ok (.iastore, 1) := by decide +kernel
theorem dX1_readStatement_86 : decode cX1_readStatement 86 = .ok (.aload_n 0, 1) := by decide +kernel
theorem dX1_readStatement_87 : decode cX1_readStatement 87 = .ok (.getfield 30, 3) := by decide +kernel
theorem dX1_readStatement_90 : decode cX1_readStatement 90 = .ok (.dup, 1) := by decide +kernel
theorem dX1_readStatement_91 : decode cX1_readStatement 91 = .ok (.getfield 105, 3) := by decide +kernel
theorem dX1_readStatement_94 : decode cX1_readStatement 94 = .ok (.iload_n 3, 1) := by decide +kernel
theorem dX1_readStatement_95 : decode cX1_readStatement 95 = .ok (.bipush 16, 2) := by decide +kernel
theorem dX1_readStatement_97 : decode cX1_readStatement 97 = .ok (.if_icmp .lt 7, 3) := by decide +kernel
theorem dX1_readStatement_100 : decode cX1_readStatement 100 = .ok (.iconst 1, 1) := by decide +kernel
theorem dX1_readStatement_101 : decode cX1_readStatement 101 = .ok (.goto 4, 3) := by decide +kernel
theorem dX1_readStatement_104 : decode cX1_readStatement 104 = .ok (.iconst 0, 1) := by decide +kernel
theorem dX1_readStatement_105 : decode cX1_readStatement 105 = .ok (.ior, 1) := by decide +kernel
theorem dX1_readStatement_106 : decode cX1_readStatement 106 = .ok (.putfield 105, 3) := by decide +kernel
theorem dX1_readStatement_109 : decode cX1_readStatement 109 = .ok (.aload_n 0, 1) := by decide +kernel
theorem dX1_readStatement_110 : decode cX1_readStatement 110 = .ok (.bipush 61, 2) := by decide +kernel
theorem dX1_readStatement_112 : decode cX1_readStatement 112 = .ok (.invokevirtual 82, 3) := by decide +kernel
theorem dX1_readStatement_115 : decode cX1_readStatement 115 = .ok (.ifCond .eq 15, 3) := by decide +kernel
theorem dX1_readStatement_118 : decode cX1_readStatement 118 = .ok (.aload_n 0, 1) := by decide +kernel
theorem dX1_readStatement_119 : decode cX1_readStatement 119 = .ok (.iload_n 2, 1) := by decide +kernel
theorem dX1_readStatement_120 : decode cX1_readStatement 120 = .ok (.invokevirtual 109, 3) := by decide +kernel
theorem dX1_readStatement_123 : decode cX1_readStatement 123 = .ok (.ifCond .eq 7, 3) := by decide +kernel
theorem dX1_readStatement_126 : decode cX1_readStatement 126 = .ok (.iconst 1, 1) := by decide +kernel
theorem dX1_readStatement_127 : decode cX1_readStatement 127 = .ok (.goto 4, 3) := by decide +kernel
theorem dX1_readStatement_130 : decode cX1_readStatement 130 = .ok (.iconst 0, 1) := by decide +kernel
theorem dX1_readStatement_131 : decode cX1_readStatement 131 = .ok (.ireturn, 1) := by decide +kernel
theorem dX1_readStatement_132 : decode cX1_readStatement 132 = .ok (.aload_n 0, 1) := by decide +kernel
theorem dX1_readStatement_133 : decode cX1_readStatement 133 = .ok (.getfield 30, 3) := by decide +kernel
theorem dX1_readStatement_136 : decode cX1_readStatement 136 = .ok (.getfield 102, 3) := by decide +kernel
theorem dX1_readStatement_139 : decode cX1_readStatement 139 = .ok (.iload_n 2, 1) := by decide +kernel
theorem dX1_readStatement_140 : decode cX1_readStatement 140 = .ok (.iload_n 3, 1) := by decide +kernel
theorem dX1_readStatement_141 : decode cX1_readStatement 141 = .ok (.iastore, 1) := by decide +kernel
theorem dX1_readStatement_142 : decode cX1_readStatement 142 = .ok (.aload_n 0, 1) := by decide +kernel
theorem dX1_readStatement_143 : decode cX1_readStatement 143 = .ok (.bipush 91, 2) := by decide +kernel
theorem dX1_readStatement_145 : decode cX1_readStatement 145 = .ok (.invokevirtual 82, 3) := by decide +kernel
theorem dX1_readStatement_148 : decode cX1_readStatement 148 = .ok (.ifCond .eq 43, 3) := by decide +kernel
theorem dX1_readStatement_151 : decode cX1_readStatement 151 = .ok (.aload_n 0, 1) := by decide +kernel
theorem dX1_readStatement_152 : decode cX1_readStatement 152 = .ok (.iload_n 2, 1) := by decide +kernel
theorem dX1_readStatement_153 : decode cX1_readStatement 153 = .ok (.iconst 0, 1) := by decide +kernel
theorem dX1_readStatement_154 : decode cX1_readStatement 154 = .ok (.invokevirtual 112, 3) := by decide +kernel
theorem dX1_readStatement_157 : decode cX1_readStatement 157 = .ok (.ifCond .eq 34, 3) := by decide +kernel
theorem dX1_readStatement_160 : decode cX1_readStatement 160 = .ok (.aload_n 0, 1) := by decide +kernel
theorem dX1_readStatement_161 : decode cX1_readStatement 161 = .ok (.bipush 93, 2) := by decide +kernel
theorem dX1_readStatement_163 : decode cX1_readStatement 163 = .ok (.invokevirtual 82, 3) := by decide +kernel
theorem dX1_readStatement_166 : decode cX1_readStatement 166 = .ok (.ifCond .eq 25, 3) := by decide +kernel
theorem dX1_readStatement_169 : decode cX1_readStatement 169 = .ok (.aload_n 0, 1) := by decide +kernel
theorem dX1_readStatement_170 : decode cX1_readStatement 170 = .ok (.bipush 61, 2) := by decide +kernel
theorem dX1_readStatement_172 : decode cX1_readStatement 172 = .ok (.invokevirtual 82, 3) := by decide +kernel
theorem dX1_readStatement_175 : decode cX1_readStatement 175 = .ok (.ifCond .eq 16, 3) := by decide +kernel
theorem dX1_readStatement_178 : decode cX1_readStatement 178 = .ok (.aload_n 0, 1) := by decide +kernel
theorem dX1_readStatement_179 : decode cX1_readStatement 179 = .ok (.iload_n 2, 1) := by decide +kernel
theorem dX1_readStatement_180 : decode cX1_readStatement 180 = .ok (.iconst 1, 1) := by decide +kernel
theorem dX1_readStatement_181 : decode cX1_readStatement 181 = .ok (.invokevirtual 112, 3) := by decide +kernel
theorem dX1_readStatement_184 : decode cX1_readStatement 184 = .ok (.ifCond .eq 7, 3) := by decide +kernel
theorem dX1_readStatement_187 : decode cX1_readStatement 187 = .ok (.iconst 1, 1) := by decide +kernel
theorem dX1_readStatement_188 : decode cX1_readStatement 188 = .ok (.goto 4, 3) := by decide +kernel
theorem dX1_readStatement_191 : decode cX1_readStatement 191 = .ok (.iconst 0, 1) := by decide +kernel
theorem dX1_readStatement_192 : decode cX1_readStatement 192 = .ok (.ireturn, 1) := by decide +kernel
theorem dX1_readStatement_193 : decode cX1_readStatement 193 = .ok (.aload_n 0, 1) := by decide +kernel
theorem dX1_readStatement_194 : decode cX1_readStatement 194 = .ok (.iload_n 2, 1) := by decide +kernel
theorem dX1_readStatement_195 : decode cX1_readStatement 195 = .ok (.iconst 0, 1) := by decide +kernel
theorem dX1_readStatement_196 : decode cX1_readStatement 196 = .ok (.invokevirtual 112, 3) := by decide +kernel
theorem dX1_readStatement_199 : decode cX1_readStatement 199 = .ok (.ireturn, 1) := by decide +kernel
theorem dX1_readStatement_200 : decode cX1_readStatement 200 = .ok (.aload_n 0, 1) := by decide +kernel
theorem dX1_readStatement_201 : decode cX1_readStatement 201 = .ok (.iload_n 2, 1) := by decide +kernel
theorem dX1_readStatement_202 : decode cX1_readStatement 202 = .ok (.iconst 0, 1) := by decide +kernel
theorem dX1_readStatement_203 : decode cX1_readStatement 203 = .ok (.invokevirtual 116, 3) := by decide +kernel
theorem dX1_readStatement_206 : decode cX1_readStatement 206 = .ok (.ireturn, 1) := by decide +kernel
theorem dX1_readStatement_207 : decode cX1_readStatement 207 = .ok (.aload_n 0, 1) := by decide +kernel
theorem dX1_readStatement_208 : decode cX1_readStatement 208 = .ok (.iload_n 2, 1) := by decide +kernel
theorem dX1_readStatement_209 : decode cX1_readStatement 209 = .ok (.iconst 0, 1) := by decide +kernel
theorem dX1_readStatement_210 : decode cX1_readStatement 210 = .ok (.invokevirtual 112, 3) := by decide +kernel
theorem dX1_readStatement_213 : decode cX1_readStatement 213 = .ok (.ifCond .eq 43, 3) := by decide +kernel
theorem dX1_readStatement_216 : decode cX1_readStatement 216 = .ok (.aload_n 0, 1) := by decide +kernel
theorem dX1_readStatement_217 : decode cX1_readStatement 217 = .ok (.bipush 60, 2) := by decide +kernel
theorem dX1_readStatement_219 : decode cX1_readStatement 219 = .ok (.invokevirtual 82, 3) := by decide +kernel
theorem dX1_readStatement_222 : decode cX1_readStatement 222 = .ok (.ifCond .eq 34, 3) := by decide +kernel
theorem dX1_readStatement_225 : decode cX1_readStatement 225 = .ok (.aload_n 0, 1) := by decide +kernel
theorem dX1_readStatement_226 : decode cX1_readStatement 226 = .ok (.iload_n 2, 1) := by decide +kernel
theorem dX1_readStatement_227 : decode cX1_readStatement 227 = .ok (.iconst 1, 1) := by decide +kernel
theorem dX1_readStatement_228 : decode cX1_readStatement 228 = .ok (.invokevirtual 112, 3) := by decide +kernel
theorem dX1_readStatement_231 : decode cX1_readStatement 231 = .ok (.ifCond .eq 25, 3) := by decide +kernel
theorem dX1_readStatement_234 : decode cX1_readStatement 234 = .ok (.aload_n 0, 1) := by decide +kernel
theorem dX1_readStatement_235 : decode cX1_readStatement 235 = .ok (.iload_n 2, 1) := by decide +kernel
theorem dX1_readStatement_236 : decode cX1_readStatement 236 = .ok (.iconst 0, 1) := by decide +kernel
theorem dX1_readStatement_237 : decode cX1_readStatement 237 = .ok (.invokevirtual 116, 3) := by decide +kernel
theorem dX1_readStatement_240 : decode cX1_readStatement 240 = .ok (.ifCond .eq 16, 3) := by decide +kernel
theorem dX1_readStatement_243 : decode cX1_readStatement 243 = .ok (.aload_n 0, 1) := by decide +kernel
theorem dX1_readStatement_244 : decode cX1_readStatement 244 = .ok (.iload_n 2, 1) := by decide +kernel
theorem dX1_readStatement_245 : decode cX1_readStatement 245 = .ok (.iconst 1, 1) := by decide +kernel
theorem dX1_readStatement_246 : decode cX1_readStatement 246 = .ok (.invokevirtual 116, 3) := by decide +kernel
theorem dX1_readStatement_249 : decode cX1_readStatement 249 = .ok (.ifCond .eq 7, 3) := by decide +kernel
theorem dX1_readStatement_252 : decode cX1_readStatement 252 = .ok (.iconst 1, 1) := by decide +kernel
theorem dX1_readStatement_253 : decode cX1_readStatement 253 = .ok (.goto 4, 3) := by decide +kernel
theorem dX1_readStatement_256 : decode cX1_readStatement 256 = .ok (.iconst 0, 1) := by decide +kernel
theorem dX1_readStatement_257 : decode cX1_readStatement 257 = .ok (.ireturn, 1) := by decide +kernel
theorem dX1_readStatement_258 : decode cX1_readStatement 258 = .ok (.iconst 1, 1) := by decide +kernel
theorem dX1_readStatement_259 : decode cX1_readStatement 259 = .ok (.ireturn, 1) := by decide +kernel
theorem dX1_readValue_0 : decode cX1_readValue 0 = .ok (.aload_n 0, 1) := by decide +kernel
theorem dX1_readValue_1 : decode cX1_readValue 1 = .ok (.iconst 4, 1) := by decide +kernel
theorem dX1_readValue_2 : decode cX1_readValue 2 = .ok (.invokevirtual 48, 3) := by decide +kernel
theorem dX1_readValue_5 : decode cX1_readValue 5 = .ok (.ifCond .eq 72, 3) := by decide +kernel
theorem dX1_readValue_8 : decode cX1_readValue 8 = .ok (.aload_n 0, 1) := by decide +kernel
theorem dX1_readValue_9 : decode cX1_readValue 9 = .ok (.getfield 12, 3) := by decide +kernel
theorem dX1_readValue_12 : decode cX1_readValue 12 = .ok (.getfield 73, 3) := by decide +kernel
theorem dX1_readValue_15 : decode cX1_readValue 15 = .ok (.aload_n 0, 1) := by decide +kernel
theorem dX1_readValue_16 : decode cX1_readValue 16 = .ok (.getfield 38, 3) := by decide +kernel
theorem dX1_readValue_19 : decode cX1_readValue 19 = .ok (.iaload, 1) := by decide +kernel
theorem dX1_readValue_20 : decode cX1_readValue 20 = .ok (.istore_n 2, 1) := by decide +kernel
theorem dX1_readValue_21 : decode cX1_readValue 21 = .ok (.aload_n 0, 1) := by decide +kernel
theorem dX1_readValue_22 : decode cX1_readValue 22 = .ok (.dup, 1) := by decide +kernel
theorem dX1_readValue_23 : decode cX1_readValue 23 = .ok (.getfield 38, 3) := by decide +kernel
theorem dX1_readValue_26 : decode cX1_readValue 26 = .ok (.iconst 1, 1) := by decide +kernel
theorem dX1_readValue_27 : decode cX1_readValue 27 = .ok (.iadd, 1) := by decide +kernel
theorem dX1_readValue_28 : decode cX1_readValue 28 = .ok (.putfield 38, 3) := by decide +kernel
theorem dX1_readValue_31 : decode cX1_readValue 31 = .ok (.aload_n 0, 1) := by decide +kernel
theorem dX1_readValue_32 : decode cX1_readValue 32 = .ok (.bipush 91, 2) := by decide +kernel
theorem dX1_readValue_34 : decode cX1_readValue 34 = .ok (.invokevirtual 82, 3) := by decide +kernel
theorem dX1_readValue_37 : decode cX1_readValue 37 = .ok (.ifCond .eq 21, 3) := by decide +kernel
theorem dX1_readValue_40 : decode cX1_readValue 40 = .ok (.aload_n 0, 1) := by decide +kernel
theorem dX1_readValue_41 : decode cX1_readValue 41 = .ok (.iload_n 1, 1) := by decide +kernel
theorem dX1_readValue_42 : decode cX1_readValue 42 = .ok (.iconst 1, 1) := by decide +kernel
theorem dX1_readValue_43 : decode cX1_readValue 43 = .ok (.invokevirtual 112, 3) := by decide +kernel
theorem dX1_readValue_46 : decode cX1_readValue 46 = .ok (.ifCond .eq 12, 3) := by decide +kernel
theorem dX1_readValue_49 : decode cX1_readValue 49 = .ok (.aload_n 0, 1) := by decide +kernel
theorem dX1_readValue_50 : decode cX1_readValue 50 = .ok (.bipush 93, 2) := by decide +kernel
theorem dX1_readValue_52 : decode cX1_readValue 52 = .ok (.invokevirtual 82, 3) := by decide +kernel
theorem dX1_readValue_55 : decode cX1_readValue 55 = .ok (.ifCond .ne 5, 3) := by decide +kernel
theorem dX1_readValue_58 : decode cX1_readValue 58 = .ok (.iconst 0, 1) := by decide +kernel
theorem dX1_readValue_59 : decode cX1_readValue 59 = .ok (.ireturn, 1) := by decide +kernel
theorem dX1_readValue_60 : decode cX1_readValue 60 = .ok (.aload_n 0, 1) := by decide +kernel
theorem dX1_readValue_61 : decode cX1_readValue 61 = .ok (.getfield 30, 3) := by decide +kernel
theorem dX1_readValue_64 : decode cX1_readValue 64 = .ok (.iload_n 1, 1) := by decide +kernel
theorem dX1_readValue_65 : decode cX1_readValue 65 = .ok (.bipush 114, 2) := by decide +kernel
theorem dX1_readValue_67 : decode cX1_readValue 67 = .ok (.iload_n 2, 1) := by decide +kernel
theorem dX1_readValue_68 : decode cX1_readValue 68 = .ok (.aload_n 0, 1) := by decide +kernel
theorem dX1_readValue_69 : decode cX1_readValue 69 = .ok (.getfield 119, 3) := by decide +kernel
theorem dX1_readValue_72 : decode cX1_readValue 72 = .ok (.invokevirtual 122, 3) := by decide +kernel
theorem dX1_readValue_75 : decode cX1_readValue 75 = .ok (.iconst 1, 1) := by decide +kernel
theorem dX1_readValue_76 : decode cX1_readValue 76 = .ok (.ireturn, 1) := by decide +kernel
theorem dX1_readValue_77 : decode cX1_readValue 77 = .ok (.aload_n 0, 1) := by decide +kernel
theorem dX1_readValue_78 : decode cX1_readValue 78 = .ok (.iload_n 1, 1) := by decide +kernel
theorem dX1_readValue_79 : decode cX1_readValue 79 = .ok (.iconst 0, 1) := by decide +kernel
theorem dX1_readValue_80 : decode cX1_readValue 80 = .ok (.invokevirtual 112, 3) := by decide +kernel
theorem dX1_readValue_83 : decode cX1_readValue 83 = .ok (.ifCond .ne 5, 3) := by decide +kernel
theorem dX1_readValue_86 : decode cX1_readValue 86 = .ok (.iconst 0, 1) := by decide +kernel
theorem dX1_readValue_87 : decode cX1_readValue 87 = .ok (.ireturn, 1) := by decide +kernel
theorem dX1_readValue_88 : decode cX1_readValue 88 = .ok (.aload_n 0, 1) := by decide +kernel
theorem dX1_readValue_89 : decode cX1_readValue 89 = .ok (.bipush 7, 2) := by decide +kernel
theorem dX1_readValue_91 : decode cX1_readValue 91 = .ok (.invokevirtual 48, 3) := by decide +kernel
theorem dX1_readValue_94 : decode cX1_readValue 94 = .ok (.ifCond .eq 21, 3) := by decide +kernel
theorem dX1_readValue_97 : decode cX1_readValue 97 = .ok (.aload_n 0, 1) := by decide +kernel
theorem dX1_readValue_98 : decode cX1_readValue 98 = .ok (.getfield 12, 3) := by decide +kernel
theorem dX1_readValue_101 : decode cX1_readValue 101 = .ok (.getfield 73, 3) := by decide +kernel
theorem dX1_readValue_104 : decode cX1_readValue 104 = .ok (.aload_n 0, 1) := by decide +kernel
theorem dX1_readValue_105 : decode cX1_readValue 105 = .ok (.getfield 38, 3) := by decide +kernel
theorem dX1_readValue_108 : decode cX1_readValue 108 = .ok (.iaload, 1) := by decide +kernel
theorem dX1_readValue_109 : decode cX1_readValue 109 = .ok (.invokestatic 126, 3) := by decide +kernel
theorem dX1_readValue_112 : decode cX1_readValue 112 = .ok (.ifCond .ne 5, 3) := by decide +kernel
theorem dX1_readValue_115 : decode cX1_readValue 115 = .ok (.iconst 1, 1) := by decide +kernel
theorem dX1_readValue_116 : decode cX1_readValue 116 = .ok (.ireturn, 1) := by decide +kernel
theorem dX1_readValue_117 : decode cX1_readValue 117 = .ok (.aload_n 0, 1) := by decide +kernel
theorem dX1_readValue_118 : decode cX1_readValue 118 = .ok (.getfield 12, 3) := by decide +kernel
theorem dX1_readValue_121 : decode cX1_readValue 121 = .ok (.getfield 73, 3) := by decide +kernel
theorem dX1_readValue_124 : decode cX1_readValue 124 = .ok (.aload_n 0, 1) := by decide +kernel
theorem dX1_readValue_125 : decode cX1_readValue 125 = .ok (.getfield 38, 3) := by decide +kernel
theorem dX1_readValue_128 : decode cX1_readValue 128 = .ok (.iaload, 1) := by decide +kernel
theorem dX1_readValue_129 : decode cX1_readValue 129 = .ok (.istore_n 2, 1) := by decide +kernel
theorem dX1_readValue_130 : decode cX1_readValue 130 = .ok (.aload_n 0, 1) := by decide +kernel
theorem dX1_readValue_131 : decode cX1_readValue 131 = .ok (.getfield 119, 3) := by decide +kernel
theorem dX1_readValue_134 : decode cX1_readValue 134 = .ok (.istore_n 3, 1) := by decide +kernel
theorem dX1_readValue_135 : decode cX1_readValue 135 = .ok (.aload_n 0, 1) := by decide +kernel
theorem dX1_readValue_136 : decode cX1_readValue 136 = .ok (.dup, 1) := by decide +kernel
theorem dX1_readValue_137 : decode cX1_readValue 137 = .ok (.getfield 38, 3) := by decide +kernel
theorem dX1_readValue_140 : decode cX1_readValue 140 = .ok (.iconst 1, 1) := by decide +kernel
theorem dX1_readValue_141 : decode cX1_readValue 141 = .ok (.iadd, 1) := by decide +kernel
theorem dX1_readValue_142 : decode cX1_readValue 142 = .ok (.putfield 38, 3) := by decide +kernel
theorem dX1_readValue_145 : decode cX1_readValue 145 = .ok (.aload_n 0, 1) := by decide +kernel
theorem dX1_readValue_146 : decode cX1_readValue 146 = .ok (.iload_n 1, 1) := by decide +kernel
theorem dX1_readValue_147 : decode cX1_readValue 147 = .ok (.iconst 1, 1) := by decide +kernel
theorem dX1_readValue_148 : decode cX1_readValue 148 = .ok (.invokevirtual 112, 3) := by decide +kernel
theorem dX1_readValue_151 : decode cX1_readValue 151 = .ok (.ifCond .ne 5, 3) := by decide +kernel
theorem dX1_readValue_154 : decode cX1_readValue 154 = .ok (.iconst 0, 1) := by decide +kernel
theorem dX1_readValue_155 : decode cX1_readValue 155 = .ok (.ireturn, 1) := by decide +kernel
theorem dX1_readValue_156 : decode cX1_readValue 156 = .ok (.aload_n 0, 1) := by decide +kernel
theorem dX1_readValue_157 : decode cX1_readValue 157 = .ok (.getfield 30, 3) := by decide +kernel
theorem dX1_readValue_160 : decode cX1_readValue 160 = .ok (.iload_n 1, 1) := by decide +kernel
theorem dX1_readValue_161 : decode cX1_readValue 161 = .ok (.iload_n 2, 1) := by decide +kernel
theorem dX1_readValue_162 : decode cX1_readValue 162 = .ok (.iload_n 3, 1) := by decide +kernel
theorem dX1_readValue_163 : decode cX1_readValue 163 = .ok (.aload_n 0, 1) := by decide +kernel
theorem dX1_readValue_164 : decode cX1_readValue 164 = .ok (.getfield 119, 3) := by decide +kernel
theorem dX1_readValue_167 : decode cX1_readValue 167 = .ok (.invokevirtual 122, 3) := by decide +kernel
theorem dX1_readValue_170 : decode cX1_readValue 170 = .ok (.iconst 1, 1) := by decide +kernel
theorem dX1_readValue_171 : decode cX1_readValue 171 = .ok (.ireturn, 1) := by decide +kernel
theorem dX1_readOperand_0 : decode cX1_readOperand 0 = .ok (.aload_n 0, 1) := by decide +kernel
theorem dX1_readOperand_1 : decode cX1_readOperand 1 = .ok (.bipush 7, 2) := by decide +kernel
theorem dX1_readOperand_3 : decode cX1_readOperand 3 = .ok (.invokevirtual 48, 3) := by decide +kernel
theorem dX1_readOperand_6 : decode cX1_readOperand 6 = .ok (.ifCond .eq 24, 3) := by decide +kernel
theorem dX1_readOperand_9 : decode cX1_readOperand 9 = .ok (.aload_n 0, 1) := by decide +kernel
theorem dX1_readOperand_10 : decode cX1_readOperand 10 = .ok (.getfield 12, 3) := by decide +kernel
theorem dX1_readOperand_13 : decode cX1_readOperand 13 = .ok (.getfield 73, 3) := by decide +kernel
theorem dX1_readOperand_16 : decode cX1_readOperand 16 = .ok (.aload_n 0, 1) := by decide +kernel
theorem dX1_readOperand_17 : decode cX1_readOperand 17 = .ok (.getfield 38, 3) := by decide +kernel
theorem dX1_readOperand_20 : decode cX1_readOperand 20 = .ok (.iaload, 1) := by decide +kernel
theorem dX1_readOperand_21 : decode cX1_readOperand 21 = .ok (.bipush 45, 2) := by decide +kernel
theorem dX1_readOperand_23 : decode cX1_readOperand 23 = .ok (.if_icmp .ne 7, 3) := by decide +kernel
theorem dX1_readOperand_26 : decode cX1_readOperand 26 = .ok (.iconst 1, 1) := by decide +kernel
theorem dX1_readOperand_27 : decode cX1_readOperand 27 = .ok (.goto 4, 3) := by decide +kernel
theorem dX1_readOperand_30 : decode cX1_readOperand 30 = .ok (.iconst 0, 1) := by decide +kernel
theorem dX1_readOperand_31 : decode cX1_readOperand 31 = .ok (.istore_n 3, 1) := by decide +kernel
theorem dX1_readOperand_32 : decode cX1_readOperand 32 = .ok (.iload_n 3, 1) := by decide +kernel
theorem dX1_readOperand_33 : decode cX1_readOperand 33 = .ok (.ifCond .eq 13, 3) := by decide +kernel
theorem dX1_readOperand_36 : decode cX1_readOperand 36 = .ok (.aload_n 0, 1) := by decide +kernel
theorem dX1_readOperand_37 : decode cX1_readOperand 37 = .ok (.dup, 1) := by decide +kernel
theorem dX1_readOperand_38 : decode cX1_readOperand 38 = .ok (.getfield 38, 3) := by decide +kernel
theorem dX1_readOperand_41 : decode cX1_readOperand 41 = .ok (.iconst 1, 1) := by decide +kernel
theorem dX1_readOperand_42 : decode cX1_readOperand 42 = .ok (.iadd, 1) := by decide +kernel
theorem dX1_readOperand_43 : decode cX1_readOperand 43 = .ok (.putfield 38, 3) := by decide +kernel
theorem dX1_readOperand_46 : decode cX1_readOperand 46 = .ok (.aload_n 0, 1) := by decide +kernel
theorem dX1_readOperand_47 : decode cX1_readOperand 47 = .ok (.bipush 6, 2) := by decide +kernel
theorem dX1_readOperand_49 : decode cX1_readOperand 49 = .ok (.invokevirtual 48, 3) := by decide +kernel
theorem dX1_readOperand_52 : decode cX1_readOperand 52 = .ok (.ifCond .eq 42, 3) := by decide +kernel
theorem dX1_readOperand_55 : decode cX1_readOperand 55 = .ok (.aload_n 0, 1) := by decide +kernel
theorem dX1_readOperand_56 : decode cX1_readOperand 56 = .ok (.iload_n 3, 1) := by decide +kernel
theorem dX1_readOperand_57 : decode cX1_readOperand 57 = .ok (.ifCond .eq 19, 3) := by decide +kernel
theorem dX1_readOperand_60 : decode cX1_readOperand 60 = .ok (.aload_n 0, 1) := by decide +kernel
theorem dX1_readOperand_61 : decode cX1_readOperand 61 = .ok (.getfield 12, 3) := by decide +kernel
theorem dX1_readOperand_64 : decode cX1_readOperand 64 = .ok (.getfield 73, 3) := by decide +kernel
theorem dX1_readOperand_67 : decode cX1_readOperand 67 = .ok (.aload_n 0, 1) := by decide +kernel
theorem dX1_readOperand_68 : decode cX1_readOperand 68 = .ok (.getfield 38, 3) := by decide +kernel
theorem dX1_readOperand_71 : decode cX1_readOperand 71 = .ok (.iaload, 1) := by decide +kernel
theorem dX1_readOperand_72 : decode cX1_readOperand 72 = .ok (.ineg, 1) := by decide +kernel
theorem dX1_readOperand_73 : decode cX1_readOperand 73 = .ok (.goto 15, 3) := by decide +kernel
theorem dX1_readOperand_76 : decode cX1_readOperand 76 = .ok (.aload_n 0, 1) := by decide +kernel
theorem dX1_readOperand_77 : decode cX1_readOperand 77 = .ok (.getfield 12, 3) := by decide +kernel
theorem dX1_readOperand_80 : decode cX1_readOperand 80 = .ok (.getfield 73, 3) := by decide +kernel
theorem dX1_readOperand_83 : decode cX1_readOperand 83 = .ok (.aload_n 0, 1) := by decide +kernel
theorem dX1_readOperand_84 : decode cX1_readOperand 84 = .ok (.getfield 38, 3) := by decide +kernel
theorem dX1_readOperand_87 : decode cX1_readOperand 87 = .ok (.iaload, 1) := by decide +kernel
theorem dX1_readOperand_88 : decode cX1_readOperand 88 = .ok (.putfield 119, 3) := by decide +kernel
theorem dX1_readOperand_91 : decode cX1_readOperand 91 = .ok (.goto 77, 3) := by decide +kernel
theorem dX1_readOperand_94 : decode cX1_readOperand 94 = .ok (.aload_n 0, 1) := by decide +kernel
theorem dX1_readOperand_95 : decode cX1_readOperand 95 = .ok (.iconst 3, 1) := by decide +kernel
theorem dX1_readOperand_96 : decode cX1_readOperand 96 = .ok (.invokevirtual 48, 3) := by decide +kernel
theorem dX1_readOperand_99 : decode cX1_readOperand 99 = .ok (.ifCond .eq 63, 3) := by decide +kernel
theorem dX1_readOperand_102 : decode cX1_readOperand 102 = .ok (.iload_n 3, 1) := by decide +kernel
theorem dX1_readOperand_103 : decode cX1_readOperand 103 = .ok (.ifCond .ne 59, 3) := by decide +kernel
theorem dX1_readOperand_106 : decode cX1_readOperand 106 = .ok (.aload_n 0, 1) := by decide +kernel
theorem dX1_readOperand_107 : decode cX1_readOperand 107 = .ok (.ldc 129, 2) := by decide +kernel
theorem dX1_readOperand_109 : decode cX1_readOperand 109 = .ok (.aload_n 0, 1) := by decide +kernel
theorem dX1_readOperand_110 : decode cX1_readOperand 110 = .ok (.getfield 12, 3) := by decide +kernel
theorem dX1_readOperand_113 : decode cX1_readOperand 113 = .ok (.getfield 73, 3) := by decide +kernel
theorem dX1_readOperand_116 : decode cX1_readOperand 116 = .ok (.aload_n 0, 1) := by decide +kernel
theorem dX1_readOperand_117 : decode cX1_readOperand 117 = .ok (.getfield 38, 3) := by decide +kernel
theorem dX1_readOperand_120 : decode cX1_readOperand 120 = .ok (.iaload, 1) := by decide +kernel
theorem dX1_readOperand_121 : decode cX1_readOperand 121 = .ok (.iadd, 1) := by decide +kernel
theorem dX1_readOperand_122 : decode cX1_readOperand 122 = .ok (.putfield 119, 3) := by decide +kernel
theorem dX1_readOperand_125 : decode cX1_readOperand 125 = .ok (.aload_n 0, 1) := by decide +kernel
theorem dX1_readOperand_126 : decode cX1_readOperand 126 = .ok (.getfield 30, 3) := by decide +kernel
theorem dX1_readOperand_129 : decode cX1_readOperand 129 = .ok (.dup, 1) := by decide +kernel
theorem dX1_readOperand_130 : decode cX1_readOperand 130 = .ok (.getfield 105, 3) := by decide +kernel
theorem dX1_readOperand_133 : decode cX1_readOperand 133 = .ok (.aload_n 0, 1) := by decide +kernel
theorem dX1_readOperand_134 : decode cX1_readOperand 134 = .ok (.getfield 12, 3) := by decide +kernel
theorem dX1_readOperand_137 : decode cX1_readOperand 137 = .ok (.getfield 73, 3) := by decide +kernel
theorem dX1_readOperand_140 : decode cX1_readOperand 140 = .ok (.aload_n 0, 1) := by decide +kernel
theorem dX1_readOperand_141 : decode cX1_readOperand 141 = .ok (.getfield 38, 3) := by decide +kernel
theorem dX1_readOperand_144 : decode cX1_readOperand 144 = .ok (.iaload, 1) := by decide +kernel
theorem dX1_readOperand_145 : decode cX1_readOperand 145 = .ok (.bipush 16, 2) := by decide +kernel
theorem dX1_readOperand_147 : decode cX1_readOperand 147 = .ok (.if_icmp .lt 7, 3) := by decide +kernel
theorem dX1_readOperand_150 : decode cX1_readOperand 150 = .ok (.iconst 1, 1) := by decide +kernel
theorem dX1_readOperand_151 : decode cX1_readOperand 151 = .ok (.goto 4, 3) := by decide +kernel
theorem dX1_readOperand_154 : decode cX1_readOperand 154 = .ok (.iconst 0, 1) := by decide +kernel
theorem dX1_readOperand_155 : decode cX1_readOperand 155 = .ok (.ior, 1) := by decide +kernel
theorem dX1_readOperand_156 : decode cX1_readOperand 156 = .ok (.putfield 105, 3) := by decide +kernel
theorem dX1_readOperand_159 : decode cX1_readOperand 159 = .ok (.goto 9, 3) := by decide +kernel
theorem dX1_readOperand_162 : decode cX1_readOperand 162 = .ok (.aload_n 0, 1) := by decide +kernel
theorem dX1_readOperand_163 : decode cX1_readOperand 163 = .ok (.iconst 2, 1) := by decide +kernel
theorem dX1_readOperand_164 : decode cX1_readOperand 164 = .ok (.invokevirtual 55, 3) := by decide +kernel
theorem dX1_readOperand_167 : decode cX1_readOperand 167 = .ok (.ireturn, 1) := by decide +kernel
theorem dX1_readOperand_168 : decode cX1_readOperand 168 = .ok (.aload_n 0, 1) := by decide +kernel
theorem dX1_readOperand_169 : decode cX1_readOperand 169 = .ok (.dup, 1) := by decide +kernel
theorem dX1_readOperand_170 : decode cX1_readOperand 170 = .ok (.getfield 38, 3) := by decide +kernel
theorem dX1_readOperand_173 : decode cX1_readOperand 173 = .ok (.iconst 1, 1) := by decide +kernel
theorem dX1_readOperand_174 : decode cX1_readOperand 174 = .ok (.iadd, 1) := by decide +kernel
theorem dX1_readOperand_175 : decode cX1_readOperand 175 = .ok (.putfield 38, 3) := by decide +kernel
theorem dX1_readOperand_178 : decode cX1_readOperand 178 = .ok (.aload_n 0, 1) := by decide +kernel
theorem dX1_readOperand_179 : decode cX1_readOperand 179 = .ok (.getfield 30, 3) := by decide +kernel
theorem dX1_readOperand_182 : decode cX1_readOperand 182 = .ok (.getfield 130, 3) := by decide +kernel
theorem dX1_readOperand_185 : decode cX1_readOperand 185 = .ok (.iload_n 2, 1) := by decide +kernel
theorem dX1_readOperand_186 : decode cX1_readOperand 186 = .ok (.aaload, 1) := by decide +kernel
theorem dX1_readOperand_187 : decode cX1_readOperand 187 = .ok (.iload_n 1, 1) := by decide +kernel
theorem dX1_readOperand_188 : decode cX1_readOperand 188 = .ok (.aload_n 0, 1) := by decide +kernel
theorem dX1_readOperand_189 : decode cX1_readOperand 189 = .ok (.getfield 119, 3) := by decide +kernel
theorem dX1_readOperand_192 : decode cX1_readOperand 192 = .ok (.iastore, 1) := by decide +kernel
theorem dX1_readOperand_193 : decode cX1_readOperand 193 = .ok (.iconst 1, 1) := by decide +kernel
theorem dX1_readOperand_194 : decode cX1_readOperand 194 = .ok (.ireturn, 1) := by decide +kernel
theorem dX1_readWay_0 : decode cX1_readWay 0 = .ok (.aload_n 0, 1) := by decide +kernel
theorem dX1_readWay_1 : decode cX1_readWay 1 = .ok (.iconst 5, 1) := by decide +kernel
theorem dX1_readWay_2 : decode cX1_readWay 2 = .ok (.invokevirtual 48, 3) := by decide +kernel
theorem dX1_readWay_5 : decode cX1_readWay 5 = .ok (.ifCond .ne 9, 3) := by decide +kernel
theorem dX1_readWay_8 : decode cX1_readWay 8 = .ok (.aload_n 0, 1) := by decide +kernel
theorem dX1_readWay_9 : decode cX1_readWay 9 = .ok (.iconst 2, 1) := by decide +kernel
theorem dX1_readWay_10 : decode cX1_readWay 10 = .ok (.invokevirtual 55, 3) := by decide +kernel
theorem dX1_readWay_13 : decode cX1_readWay 13 = .ok (.ireturn, 1) := by decide +kernel
theorem dX1_readWay_14 : decode cX1_readWay 14 = .ok (.aload_n 0, 1) := by decide +kernel
theorem dX1_readWay_15 : decode cX1_readWay 15 = .ok (.getfield 30, 3) := by decide +kernel
theorem dX1_readWay_18 : decode cX1_readWay 18 = .ok (.getfield 133, 3) := by decide +kernel
theorem dX1_readWay_21 : decode cX1_readWay 21 = .ok (.iload_n 2, 1) := by decide +kernel
theorem dX1_readWay_22 : decode cX1_readWay 22 = .ok (.aaload, 1) := by decide +kernel
theorem dX1_readWay_23 : decode cX1_readWay 23 = .ok (.iload_n 1, 1) := by decide +kernel
theorem dX1_readWay_24 : decode cX1_readWay 24 = .ok (.aload_n 0, 1) := by decide +kernel
theorem dX1_readWay_25 : decode cX1_readWay 25 = .ok (.getfield 12, 3) := by decide +kernel
theorem dX1_readWay_28 : decode cX1_readWay 28 = .ok (.getfield 73, 3) := by decide +kernel
theorem dX1_readWay_31 : decode cX1_readWay 31 = .ok (.aload_n 0, 1) := by decide +kernel
theorem dX1_readWay_32 : decode cX1_readWay 32 = .ok (.getfield 38, 3) := by decide +kernel
theorem dX1_readWay_35 : decode cX1_readWay 35 = .ok (.iaload, 1) := by decide +kernel
theorem dX1_readWay_36 : decode cX1_readWay 36 = .ok (.iastore, 1) := by decide +kernel
theorem dX1_readWay_37 : decode cX1_readWay 37 = .ok (.aload_n 0, 1) := by decide +kernel
theorem dX1_readWay_38 : decode cX1_readWay 38 = .ok (.getfield 24, 3) := by decide +kernel
theorem dX1_readWay_41 : decode cX1_readWay 41 = .ok (.iload_n 2, 1) := by decide +kernel
theorem dX1_readWay_42 : decode cX1_readWay 42 = .ok (.aaload, 1) := by decide +kernel
theorem dX1_readWay_43 : decode cX1_readWay 43 = .ok (.aload_n 0, 1) := by decide +kernel
theorem dX1_readWay_44 : decode cX1_readWay 44 = .ok (.getfield 30, 3) := by decide +kernel
theorem dX1_readWay_47 : decode cX1_readWay 47 = .ok (.getfield 95, 3) := by decide +kernel
theorem dX1_readWay_50 : decode cX1_readWay 50 = .ok (.iconst 1, 1) := by decide +kernel
theorem dX1_readWay_51 : decode cX1_readWay 51 = .ok (.isub, 1) := by decide +kernel
theorem dX1_readWay_52 : decode cX1_readWay 52 = .ok (.aload_n 0, 1) := by decide +kernel
theorem dX1_readWay_53 : decode cX1_readWay 53 = .ok (.getfield 12, 3) := by decide +kernel
theorem dX1_readWay_56 : decode cX1_readWay 56 = .ok (.getfield 76, 3) := by decide +kernel
theorem dX1_readWay_59 : decode cX1_readWay 59 = .ok (.aload_n 0, 1) := by decide +kernel
theorem dX1_readWay_60 : decode cX1_readWay 60 = .ok (.getfield 38, 3) := by decide +kernel
theorem dX1_readWay_63 : decode cX1_readWay 63 = .ok (.iaload, 1) := by decide +kernel
theorem dX1_readWay_64 : decode cX1_readWay 64 = .ok (.iastore, 1) := by decide +kernel
theorem dX1_readWay_65 : decode cX1_readWay 65 = .ok (.aload_n 0, 1) := by decide +kernel
theorem dX1_readWay_66 : decode cX1_readWay 66 = .ok (.dup, 1) := by decide +kernel
theorem dX1_readWay_67 : decode cX1_readWay 67 = .ok (.getfield 38, 3) := by decide +kernel
theorem dX1_readWay_70 : decode cX1_readWay 70 = .ok (.iconst 1, 1) := by decide +kernel
theorem dX1_readWay_71 : decode cX1_readWay 71 = .ok (.iadd, 1) := by decide +kernel
theorem dX1_readWay_72 : decode cX1_readWay 72 = .ok (.putfield 38, 3) := by decide +kernel
theorem dX1_readWay_75 : decode cX1_readWay 75 = .ok (.iconst 1, 1) := by decide +kernel
theorem dX1_readWay_76 : decode cX1_readWay 76 = .ok (.ireturn, 1) := by decide +kernel
theorem dX1_takeSign_0 : decode cX1_takeSign 0 = .ok (.aload_n 0, 1) := by decide +kernel
theorem dX1_takeSign_1 : decode cX1_takeSign 1 = .ok (.bipush 7, 2) := by decide +kernel
theorem dX1_takeSign_3 : decode cX1_takeSign 3 = .ok (.invokevirtual 48, 3) := by decide +kernel
theorem dX1_takeSign_6 : decode cX1_takeSign 6 = .ok (.ifCond .eq 19, 3) := by decide +kernel
theorem dX1_takeSign_9 : decode cX1_takeSign 9 = .ok (.aload_n 0, 1) := by decide +kernel
theorem dX1_takeSign_10 : decode cX1_takeSign 10 = .ok (.getfield 12, 3) := by decide +kernel
theorem dX1_takeSign_13 : decode cX1_takeSign 13 = .ok (.getfield 73, 3) := by decide +kernel
theorem dX1_takeSign_16 : decode cX1_takeSign 16 = .ok (.aload_n 0, 1) := by decide +kernel
theorem dX1_takeSign_17 : decode cX1_takeSign 17 = .ok (.getfield 38, 3) := by decide +kernel
theorem dX1_takeSign_20 : decode cX1_takeSign 20 = .ok (.iaload, 1) := by decide +kernel
theorem dX1_takeSign_21 : decode cX1_takeSign 21 = .ok (.iload_n 1, 1) := by decide +kernel
theorem dX1_takeSign_22 : decode cX1_takeSign 22 = .ok (.if_icmp .eq 9, 3) := by decide +kernel
theorem dX1_takeSign_25 : decode cX1_takeSign 25 = .ok (.aload_n 0, 1) := by decide +kernel
theorem dX1_takeSign_26 : decode cX1_takeSign 26 = .ok (.iconst 2, 1) := by decide +kernel
theorem dX1_takeSign_27 : decode cX1_takeSign 27 = .ok (.invokevirtual 55, 3) := by decide +kernel
theorem dX1_takeSign_30 : decode cX1_takeSign 30 = .ok (.ireturn, 1) := by decide +kernel
theorem dX1_takeSign_31 : decode cX1_takeSign 31 = .ok (.aload_n 0, 1) := by decide +kernel
theorem dX1_takeSign_32 : decode cX1_takeSign 32 = .ok (.dup, 1) := by decide +kernel
theorem dX1_takeSign_33 : decode cX1_takeSign 33 = .ok (.getfield 38, 3) := by decide +kernel
theorem dX1_takeSign_36 : decode cX1_takeSign 36 = .ok (.iconst 1, 1) := by decide +kernel
theorem dX1_takeSign_37 : decode cX1_takeSign 37 = .ok (.iadd, 1) := by decide +kernel
theorem dX1_takeSign_38 : decode cX1_takeSign 38 = .ok (.putfield 38, 3) := by decide +kernel
theorem dX1_takeSign_41 : decode cX1_takeSign 41 = .ok (.iconst 1, 1) := by decide +kernel
theorem dX1_takeSign_42 : decode cX1_takeSign 42 = .ok (.ireturn, 1) := by decide +kernel
theorem dX1_isNow_0 : decode cX1_isNow 0 = .ok (.aload_n 0, 1) := by decide +kernel
theorem dX1_isNow_1 : decode cX1_isNow 1 = .ok (.getfield 38, 3) := by decide +kernel
theorem dX1_isNow_4 : decode cX1_isNow 4 = .ok (.aload_n 0, 1) := by decide +kernel
theorem dX1_isNow_5 : decode cX1_isNow 5 = .ok (.getfield 12, 3) := by decide +kernel
theorem dX1_isNow_8 : decode cX1_isNow 8 = .ok (.getfield 136, 3) := by decide +kernel
theorem dX1_isNow_11 : decode cX1_isNow 11 = .ok (.if_icmp .ge 23, 3) := by decide +kernel
theorem dX1_isNow_14 : decode cX1_isNow 14 = .ok (.aload_n 0, 1) := by decide +kernel
theorem dX1_isNow_15 : decode cX1_isNow 15 = .ok (.getfield 12, 3) := by decide +kernel
theorem dX1_isNow_18 : decode cX1_isNow 18 = .ok (.getfield 139, 3) := by decide +kernel
theorem dX1_isNow_21 : decode cX1_isNow 21 = .ok (.aload_n 0, 1) := by decide +kernel
theorem dX1_isNow_22 : decode cX1_isNow 22 = .ok (.getfield 38, 3) := by decide +kernel
theorem dX1_isNow_25 : decode cX1_isNow 25 = .ok (.iaload, 1) := by decide +kernel
theorem dX1_isNow_26 : decode cX1_isNow 26 = .ok (.iload_n 1, 1) := by decide +kernel
theorem dX1_isNow_27 : decode cX1_isNow 27 = .ok (.if_icmp .ne 7, 3) := by decide +kernel
theorem dX1_isNow_30 : decode cX1_isNow 30 = .ok (.iconst 1, 1) := by decide +kernel
theorem dX1_isNow_31 : decode cX1_isNow 31 = .ok (.goto 4, 3) := by decide +kernel
theorem dX1_isNow_34 : decode cX1_isNow 34 = .ok (.iconst 0, 1) := by decide +kernel
theorem dX1_isNow_35 : decode cX1_isNow 35 = .ok (.ireturn, 1) := by decide +kernel
theorem dX1_refuse_0 : decode cX1_refuse 0 = .ok (.aload_n 0, 1) := by decide +kernel
theorem dX1_refuse_1 : decode cX1_refuse 1 = .ok (.aload_n 0, 1) := by decide +kernel
theorem dX1_refuse_2 : decode cX1_refuse 2 = .ok (.iconst 1, 1) := by decide +kernel
theorem dX1_refuse_3 : decode cX1_refuse 3 = .ok (.invokevirtual 48, 3) := by decide +kernel
theorem dX1_refuse_6 : decode cX1_refuse 6 = .ok (.ifCond .eq 7, 3) := by decide +kernel
theorem dX1_refuse_9 : decode cX1_refuse 9 = .ok (.iconst 1, 1) := by decide +kernel
theorem dX1_refuse_10 : decode cX1_refuse 10 = .ok (.goto 4, 3) := by decide +kernel
theorem dX1_refuse_13 : decode cX1_refuse 13 = .ok (.iload_n 1, 1) := by decide +kernel
theorem dX1_refuse_14 : decode cX1_refuse 14 = .ok (.putfield 42, 3) := by decide +kernel
theorem dX1_refuse_17 : decode cX1_refuse 17 = .ok (.aload_n 0, 1) := by decide +kernel
theorem dX1_refuse_18 : decode cX1_refuse 18 = .ok (.aload_n 0, 1) := by decide +kernel
theorem dX1_refuse_19 : decode cX1_refuse 19 = .ok (.getfield 38, 3) := by decide +kernel
theorem dX1_refuse_22 : decode cX1_refuse 22 = .ok (.aload_n 0, 1) := by decide +kernel
theorem dX1_refuse_23 : decode cX1_refuse 23 = .ok (.getfield 12, 3) := by decide +kernel
theorem dX1_refuse_26 : decode cX1_refuse 26 = .ok (.getfield 136, 3) := by decide +kernel
theorem dX1_refuse_29 : decode cX1_refuse 29 = .ok (.if_icmp .ge 18, 3) := by decide +kernel
theorem dX1_refuse_32 : decode cX1_refuse 32 = .ok (.aload_n 0, 1) := by decide +kernel
theorem dX1_refuse_33 : decode cX1_refuse 33 = .ok (.getfield 12, 3) := by decide +kernel
theorem dX1_refuse_36 : decode cX1_refuse 36 = .ok (.getfield 76, 3) := by decide +kernel
theorem dX1_refuse_39 : decode cX1_refuse 39 = .ok (.aload_n 0, 1) := by decide +kernel
theorem dX1_refuse_40 : decode cX1_refuse 40 = .ok (.getfield 38, 3) := by decide +kernel
theorem dX1_refuse_43 : decode cX1_refuse 43 = .ok (.iaload, 1) := by decide +kernel
theorem dX1_refuse_44 : decode cX1_refuse 44 = .ok (.goto 4, 3) := by decide +kernel
theorem dX1_refuse_47 : decode cX1_refuse 47 = .ok (.iconst 0, 1) := by decide +kernel
theorem dX1_refuse_48 : decode cX1_refuse 48 = .ok (.putfield 142, 3) := by decide +kernel
theorem dX1_refuse_51 : decode cX1_refuse 51 = .ok (.iconst 0, 1) := by decide +kernel
theorem dX1_refuse_52 : decode cX1_refuse 52 = .ok (.ireturn, 1) := by decide +kernel
theorem dX1_refuseAt_0 : decode cX1_refuseAt 0 = .ok (.aload_n 0, 1) := by decide +kernel
theorem dX1_refuseAt_1 : decode cX1_refuseAt 1 = .ok (.iload_n 1, 1) := by decide +kernel
theorem dX1_refuseAt_2 : decode cX1_refuseAt 2 = .ok (.putfield 42, 3) := by decide +kernel
theorem dX1_refuseAt_5 : decode cX1_refuseAt 5 = .ok (.aload_n 0, 1) := by decide +kernel
theorem dX1_refuseAt_6 : decode cX1_refuseAt 6 = .ok (.iload_n 2, 1) := by decide +kernel
theorem dX1_refuseAt_7 : decode cX1_refuseAt 7 = .ok (.putfield 142, 3) := by decide +kernel
theorem dX1_refuseAt_10 : decode cX1_refuseAt 10 = .ok (.iconst 0, 1) := by decide +kernel
theorem dX1_refuseAt_11 : decode cX1_refuseAt 11 = .ok (.ireturn, 1) := by decide +kernel
theorem dX1_areNamedBlocksThere_0 : decode cX1_areNamedBlocksThere 0 = .ok (.iconst 0, 1) := by decide +kernel
theorem dX1_areNamedBlocksThere_1 : decode cX1_areNamedBlocksThere 1 = .ok (.istore_n 1, 1) := by decide +kernel
theorem dX1_areNamedBlocksThere_2 : decode cX1_areNamedBlocksThere 2 = .ok (.iload_n 1, 1) := by decide +kernel
theorem dX1_areNamedBlocksThere_3 : decode cX1_areNamedBlocksThere 3 = .ok (.aload_n 0, 1) := by decide +kernel
theorem dX1_areNamedBlocksThere_4 : decode cX1_areNamedBlocksThere 4 = .ok (.getfield 30, 3) := by decide +kernel
theorem dX1_areNamedBlocksThere_7 : decode cX1_areNamedBlocksThere 7 = .ok (.getfield 95, 3) := by decide +kernel
theorem dX1_areNamedBlocksThere_10 : decode cX1_areNamedBlocksThere 10 = .ok (.if_icmp .ge 75, 3) := by decide +kernel
theorem dX1_areNamedBlocksThere_13 : decode cX1_areNamedBlocksThere 13 = .ok (.aload_n 0, 1) := by decide +kernel
theorem dX1_areNamedBlocksThere_14 : decode cX1_areNamedBlocksThere 14 = .ok (.getfield 30, 3) := by decide +kernel
theorem dX1_areNamedBlocksThere_17 : decode cX1_areNamedBlocksThere 17 = .ok (.iload_n 1, 1) := by decide +kernel
theorem dX1_areNamedBlocksThere_18 : decode cX1_areNamedBlocksThere 18 = .ok (.invokevirtual 144, 3) := by decide +kernel
theorem dX1_areNamedBlocksThere_21 : decode cX1_areNamedBlocksThere 21 = .ok (.istore_n 2, 1) := by decide +kernel
theorem dX1_areNamedBlocksThere_22 : decode cX1_areNamedBlocksThere 22 = .ok (.iconst 0, 1) := by decide +kernel
theorem dX1_areNamedBlocksThere_23 : decode cX1_areNamedBlocksThere 23 = .ok (.istore_n 3, 1) := by decide +kernel
theorem dX1_areNamedBlocksThere_24 : decode cX1_areNamedBlocksThere 24 = .ok (.iload_n 3, 1) := by decide +kernel
theorem dX1_areNamedBlocksThere_25 : decode cX1_areNamedBlocksThere 25 = .ok (.iconst 2, 1) := by decide +kernel
theorem dX1_areNamedBlocksThere_26 : decode cX1_areNamedBlocksThere 26 = .ok (.if_icmp .ge 53, 3) := by decide +kernel
theorem dX1_areNamedBlocksThere_29 : decode cX1_areNamedBlocksThere 29 = .ok (.aload_n 0, 1) := by decide +kernel
theorem dX1_areNamedBlocksThere_30 : decode cX1_areNamedBlocksThere 30 = .ok (.getfield 30, 3) := by decide +kernel
theorem dX1_areNamedBlocksThere_33 : decode cX1_areNamedBlocksThere 33 = .ok (.getfield 133, 3) := by decide +kernel
theorem dX1_areNamedBlocksThere_36 : decode cX1_areNamedBlocksThere 36 = .ok (.iload_n 3, 1) := by decide +kernel
theorem dX1_areNamedBlocksThere_37 : decode cX1_areNamedBlocksThere 37 = .ok (.aaload, 1) := by decide +kernel
theorem dX1_areNamedBlocksThere_38 : decode cX1_areNamedBlocksThere 38 = .ok (.iload_n 2, 1) := by decide +kernel
theorem dX1_areNamedBlocksThere_39 : decode cX1_areNamedBlocksThere 39 = .ok (.iaload, 1) := by decide +kernel
theorem dX1_areNamedBlocksThere_40 : decode cX1_areNamedBlocksThere 40 = .ok (.istore 4, 2) := by decide +kernel
theorem dX1_areNamedBlocksThere_42 : decode cX1_areNamedBlocksThere 42 = .ok (.iload 4, 2) := by decide +kernel
theorem dX1_areNamedBlocksThere_44 : decode cX1_areNamedBlocksThere 44 = .ok (.ifCond .eq 15, 3) := by decide +kernel
theorem dX1_areNamedBlocksThere_47 : decode cX1_areNamedBlocksThere 47 = .ok (.iload 4, 2) := by decide +kernel
theorem dX1_areNamedBlocksThere_49 : decode cX1_areNamedBlocksThere 49 = .ok (.aload_n 0, 1) := by decide +kernel
theorem dX1_areNamedBlocksThere_50 : decode cX1_areNamedBlocksThere 50 = .ok (.getfield 30, 3) := by decide +kernel
theorem dX1_areNamedBlocksThere_53 : decode cX1_areNamedBlocksThere 53 = .ok (.getfield 95, 3) := by decide +kernel
theorem dX1_areNamedBlocksThere_56 : decode cX1_areNamedBlocksThere 56 = .ok (.if_icmp .lt 17, 3) := by decide +kernel
theorem dX1_areNamedBlocksThere_59 : decode cX1_areNamedBlocksThere 59 = .ok (.aload_n 0, 1) := by decide +kernel
theorem dX1_areNamedBlocksThere_60 : decode cX1_areNamedBlocksThere 60 = .ok (.iconst 4, 1) := by decide +kernel
theorem dX1_areNamedBlocksThere_61 : decode cX1_areNamedBlocksThere 61 = .ok (.aload_n 0, 1) := by decide +kernel
theorem dX1_areNamedBlocksThere_62 : decode cX1_areNamedBlocksThere 62 = .ok (.getfield 24, 3) := by decide +kernel
theorem dX1_areNamedBlocksThere_65 : decode cX1_areNamedBlocksThere 65 = .ok (.iload_n 3, 1) := by decide +kernel
theorem dX1_areNamedBlocksThere_66 : decode cX1_areNamedBlocksThere 66 = .ok (.aaload, 1) := by decide +kernel
theorem dX1_areNamedBlocksThere_67 : decode cX1_areNamedBlocksThere 67 = .ok (.iload_n 1, 1) := by decide +kernel
theorem dX1_areNamedBlocksThere_68 : decode cX1_areNamedBlocksThere 68 = .ok (.iaload, 1) := by decide +kernel
theorem dX1_areNamedBlocksThere_69 : decode cX1_areNamedBlocksThere 69 = .ok (.invokevirtual 148, 3) := by decide +kernel
theorem dX1_areNamedBlocksThere_72 : decode cX1_areNamedBlocksThere 72 = .ok (.ireturn, 1) := by decide +kernel
theorem dX1_areNamedBlocksThere_73 : decode cX1_areNamedBlocksThere 73 = .ok (.iinc 3 1, 3) := by decide +kernel
theorem dX1_areNamedBlocksThere_76 : decode cX1_areNamedBlocksThere 76 = .ok (.goto (-52), 3) := by decide +kernel
theorem dX1_areNamedBlocksThere_79 : decode cX1_areNamedBlocksThere 79 = .ok (.iinc 1 1, 3) := by decide +kernel
theorem dX1_areNamedBlocksThere_82 : decode cX1_areNamedBlocksThere 82 = .ok (.goto (-80), 3) := by decide +kernel
theorem dX1_areNamedBlocksThere_85 : decode cX1_areNamedBlocksThere 85 = .ok (.iconst 1, 1) := by decide +kernel
theorem dX1_areNamedBlocksThere_86 : decode cX1_areNamedBlocksThere 86 = .ok (.ireturn, 1) := by decide +kernel
theorem dX1_areAllIn_0 : decode cX1_areAllIn 0 = .ok (.iconst 0, 1) := by decide +kernel
theorem dX1_areAllIn_1 : decode cX1_areAllIn 1 = .ok (.istore 4, 2) := by decide +kernel
theorem dX1_areAllIn_3 : decode cX1_areAllIn 3 = .ok (.iload 4, 2) := by decide +kernel
theorem dX1_areAllIn_5 : decode cX1_areAllIn 5 = .ok (.aload_n 0, 1) := by decide +kernel
theorem dX1_areAllIn_6 : decode cX1_areAllIn 6 = .ok (.getfield 30, 3) := by decide +kernel
theorem dX1_areAllIn_9 : decode cX1_areAllIn 9 = .ok (.getfield 95, 3) := by decide +kernel
theorem dX1_areAllIn_12 : decode cX1_areAllIn 12 = .ok (.if_icmp .ge 33, 3) := by decide +kernel
theorem dX1_areAllIn_15 : decode cX1_areAllIn 15 = .ok (.lload_n 1, 1) := by decide +kernel
theorem dX1_areAllIn_16 : decode cX1_areAllIn 16 = .ok (.iload 4, 2) := by decide +kernel
theorem dX1_areAllIn_18 : decode cX1_areAllIn 18 = .ok (.lushr, 1) := by decide +kernel
theorem dX1_areAllIn_19 : decode cX1_areAllIn 19 = .ok (.lconst 1, 1) := by decide +kernel
theorem dX1_areAllIn_20 : decode cX1_areAllIn 20 = .ok (.land, 1) := by decide +kernel
theorem dX1_areAllIn_21 : decode cX1_areAllIn 21 = .ok (.lconst 0, 1) := by decide +kernel
theorem dX1_areAllIn_22 : decode cX1_areAllIn 22 = .ok (.lcmp, 1) := by decide +kernel
theorem dX1_areAllIn_23 : decode cX1_areAllIn 23 = .ok (.ifCond .ne 16, 3) := by decide +kernel
theorem dX1_areAllIn_26 : decode cX1_areAllIn 26 = .ok (.aload_n 0, 1) := by decide +kernel
theorem dX1_areAllIn_27 : decode cX1_areAllIn 27 = .ok (.iload_n 3, 1) := by decide +kernel
theorem dX1_areAllIn_28 : decode cX1_areAllIn 28 = .ok (.aload_n 0, 1) := by decide +kernel
theorem dX1_areAllIn_29 : decode cX1_areAllIn 29 = .ok (.getfield 18, 3) := by decide +kernel
theorem dX1_areAllIn_32 : decode cX1_areAllIn 32 = .ok (.iload 4, 2) := by decide +kernel
theorem dX1_areAllIn_34 : decode cX1_areAllIn 34 = .ok (.iaload, 1) := by decide +kernel
theorem dX1_areAllIn_35 : decode cX1_areAllIn 35 = .ok (.invokevirtual 148, 3) := by decide +kernel
theorem dX1_areAllIn_38 : decode cX1_areAllIn 38 = .ok (.ireturn, 1) := by decide +kernel
theorem dX1_areAllIn_39 : decode cX1_areAllIn 39 = .ok (.iinc 4 1, 3) := by decide +kernel
theorem dX1_areAllIn_42 : decode cX1_areAllIn 42 = .ok (.goto (-39), 3) := by decide +kernel
theorem dX1_areAllIn_45 : decode cX1_areAllIn 45 = .ok (.iconst 1, 1) := by decide +kernel
theorem dX1_areAllIn_46 : decode cX1_areAllIn 46 = .ok (.ireturn, 1) := by decide +kernel
theorem dX2_init_0 : decode cX2_init 0 = .ok (.aload_n 0, 1) := by decide +kernel
theorem dX2_init_1 : decode cX2_init 1 = .ok (.invokespecial 3, 3) := by decide +kernel
theorem dX2_init_4 : decode cX2_init 4 = .ok (.aload_n 0, 1) := by decide +kernel
theorem dX2_init_5 : decode cX2_init 5 = .ok (.sipush 240, 3) := by decide +kernel
theorem dX2_init_8 : decode cX2_init 8 = .ok (.newarray .int, 2) := by decide +kernel
theorem dX2_init_10 : decode cX2_init 10 = .ok (.putfield 9, 3) := by decide +kernel
theorem dX2_init_13 : decode cX2_init 13 = .ok (.aload_n 0, 1) := by decide +kernel
theorem dX2_init_14 : decode cX2_init 14 = .ok (.sipush 240, 3) := by decide +kernel
theorem dX2_init_17 : decode cX2_init 17 = .ok (.newarray .int, 2) := by decide +kernel
theorem dX2_init_19 : decode cX2_init 19 = .ok (.putfield 15, 3) := by decide +kernel
theorem dX2_init_22 : decode cX2_init 22 = .ok (.aload_n 0, 1) := by decide +kernel
theorem dX2_init_23 : decode cX2_init 23 = .ok (.sipush 240, 3) := by decide +kernel
theorem dX2_init_26 : decode cX2_init 26 = .ok (.newarray .int, 2) := by decide +kernel
theorem dX2_init_28 : decode cX2_init 28 = .ok (.putfield 18, 3) := by decide +kernel
theorem dX2_init_31 : decode cX2_init 31 = .ok (.aload_n 0, 1) := by decide +kernel
theorem dX2_init_32 : decode cX2_init 32 = .ok (.iconst 2, 1) := by decide +kernel
theorem dX2_init_33 : decode cX2_init 33 = .ok (.sipush 240, 3) := by decide +kernel
theorem dX2_init_36 : decode cX2_init 36 = .ok (.multianewarray 21 2, 4) := by decide +kernel
theorem dX2_init_40 : decode cX2_init 40 = .ok (.putfield 23, 3) := by decide +kernel
theorem dX2_init_43 : decode cX2_init 43 = .ok (.aload_n 0, 1) := by decide +kernel
theorem dX2_init_44 : decode cX2_init 44 = .ok (.sipush 240, 3) := by decide +kernel
theorem dX2_init_47 : decode cX2_init 47 = .ok (.newarray .int, 2) := by decide +kernel
theorem dX2_init_49 : decode cX2_init 49 = .ok (.putfield 26, 3) := by decide +kernel
theorem dX2_init_52 : decode cX2_init 52 = .ok (.aload_n 0, 1) := by decide +kernel
theorem dX2_init_53 : decode cX2_init 53 = .ok (.iconst 2, 1) := by decide +kernel
theorem dX2_init_54 : decode cX2_init 54 = .ok (.sipush 240, 3) := by decide +kernel
theorem dX2_init_57 : decode cX2_init 57 = .ok (.multianewarray 21 2, 4) := by decide +kernel
theorem dX2_init_61 : decode cX2_init 61 = .ok (.putfield 29, 3) := by decide +kernel
theorem dX2_init_64 : decode cX2_init 64 = .ok (.aload_n 0, 1) := by decide +kernel
theorem dX2_init_65 : decode cX2_init 65 = .ok (.iconst 2, 1) := by decide +kernel
theorem dX2_init_66 : decode cX2_init 66 = .ok (.sipush 240, 3) := by decide +kernel
theorem dX2_init_69 : decode cX2_init 69 = .ok (.multianewarray 21 2, 4) := by decide +kernel
theorem dX2_init_73 : decode cX2_init 73 = .ok (.putfield 32, 3) := by decide +kernel
theorem dX2_init_76 : decode cX2_init 76 = .ok (.aload_n 0, 1) := by decide +kernel
theorem dX2_init_77 : decode cX2_init 77 = .ok (.sipush 240, 3) := by decide +kernel
theorem dX2_init_80 : decode cX2_init 80 = .ok (.newarray .int, 2) := by decide +kernel
theorem dX2_init_82 : decode cX2_init 82 = .ok (.putfield 35, 3) := by decide +kernel
theorem dX2_init_85 : decode cX2_init 85 = .ok (.aload_n 0, 1) := by decide +kernel
theorem dX2_init_86 : decode cX2_init 86 = .ok (.bipush 41, 2) := by decide +kernel
theorem dX2_init_88 : decode cX2_init 88 = .ok (.newarray .int, 2) := by decide +kernel
theorem dX2_init_90 : decode cX2_init 90 = .ok (.putfield 38, 3) := by decide +kernel
theorem dX2_init_93 : decode cX2_init 93 = .ok (.aload_n 0, 1) := by decide +kernel
theorem dX2_init_94 : decode cX2_init 94 = .ok (.bipush 60, 2) := by decide +kernel
theorem dX2_init_96 : decode cX2_init 96 = .ok (.newarray .int, 2) := by decide +kernel
theorem dX2_init_98 : decode cX2_init 98 = .ok (.putfield 41, 3) := by decide +kernel
theorem dX2_init_101 : decode cX2_init 101 = .ok (.aload_n 0, 1) := by decide +kernel
theorem dX2_init_102 : decode cX2_init 102 = .ok (.new 44, 3) := by decide +kernel
theorem dX2_init_105 : decode cX2_init 105 = .ok (.dup, 1) := by decide +kernel
theorem dX2_init_106 : decode cX2_init 106 = .ok (.invokespecial 46, 3) := by decide +kernel
theorem dX2_init_109 : decode cX2_init 109 = .ok (.putfield 47, 3) := by decide +kernel
theorem dX2_init_112 : decode cX2_init 112 = .ok (.aload_n 0, 1) := by decide +kernel
theorem dX2_init_113 : decode cX2_init 113 = .ok (.new 51, 3) := by decide +kernel
theorem dX2_init_116 : decode cX2_init 116 = .ok (.dup, 1) := by decide +kernel
theorem dX2_init_117 : decode cX2_init 117 = .ok (.invokespecial 53, 3) := by decide +kernel
theorem dX2_init_120 : decode cX2_init 120 = .ok (.putfield 54, 3) := by decide +kernel
theorem dX2_init_123 : decode cX2_init 123 = .ok (.return_, 1) := by decide +kernel
theorem dX2_clear_0 : decode cX2_clear 0 = .ok (.aload_n 0, 1) := by decide +kernel
theorem dX2_clear_1 : decode cX2_clear 1 = .ok (.getfield 47, 3) := by decide +kernel
theorem dX2_clear_4 : decode cX2_clear 4 = .ok (.invokevirtual 58, 3) := by decide +kernel
theorem dX2_clear_7 : decode cX2_clear 7 = .ok (.aload_n 0, 1) := by decide +kernel
theorem dX2_clear_8 : decode cX2_clear 8 = .ok (.iconst 0, 1) := by decide +kernel
theorem dX2_clear_9 : decode cX2_clear 9 = .ok (.putfield 61, 3) := by decide +kernel
theorem dX2_clear_12 : decode cX2_clear 12 = .ok (.aload_n 0, 1) := by decide +kernel
theorem dX2_clear_13 : decode cX2_clear 13 = .ok (.iconst 0, 1) := by decide +kernel
theorem dX2_clear_14 : decode cX2_clear 14 = .ok (.putfield 65, 3) := by decide +kernel
theorem dX2_clear_17 : decode cX2_clear 17 = .ok (.aload_n 0, 1) := by decide +kernel
theorem dX2_clear_18 : decode cX2_clear 18 = .ok (.iconst 0, 1) := by decide +kernel
theorem dX2_clear_19 : decode cX2_clear 19 = .ok (.putfield 68, 3) := by decide +kernel
theorem dX2_clear_22 : decode cX2_clear 22 = .ok (.aload_n 0, 1) := by decide +kernel
theorem dX2_clear_23 : decode cX2_clear 23 = .ok (.iconst 0, 1) := by decide +kernel
theorem dX2_clear_24 : decode cX2_clear 24 = .ok (.putfield 71, 3) := by decide +kernel
theorem dX2_clear_27 : decode cX2_clear 27 = .ok (.aload_n 0, 1) := by decide +kernel
theorem dX2_clear_28 : decode cX2_clear 28 = .ok (.iconst 0, 1) := by decide +kernel
theorem dX2_clear_29 : decode cX2_clear 29 = .ok (.putfield 74, 3) := by decide +kernel
theorem dX2_clear_32 : decode cX2_clear 32 = .ok (.return_, 1) := by decide +kernel
theorem dX2_addBlock_0 : decode cX2_addBlock 0 = .ok (.aload_n 0, 1) := by decide +kernel
theorem dX2_addBlock_1 : decode cX2_addBlock 1 = .ok (.getfield 38, 3) := by decide +kernel
theorem dX2_addBlock_4 : decode cX2_addBlock 4 = .ok (.aload_n 0, 1) := by decide +kernel
theorem dX2_addBlock_5 : decode cX2_addBlock 5 = .ok (.dup, 1) := by decide +kernel
theorem dX2_addBlock_6 : decode cX2_addBlock 6 = .ok (.getfield 61, 3) := by decide +kernel
theorem dX2_addBlock_9 : decode cX2_addBlock 9 = .ok (.dup_x1, 1) := by decide +kernel
theorem dX2_addBlock_10 : decode cX2_addBlock 10 = .ok (.iconst 1, 1) := by decide +kernel
theorem dX2_addBlock_11 : decode cX2_addBlock 11 = .ok (.iadd, 1) := by decide +kernel
theorem dX2_addBlock_12 : decode cX2_addBlock 12 = .ok (.putfield 61, 3) := by decide +kernel
theorem dX2_addBlock_15 : decode cX2_addBlock 15 = .ok (.aload_n 0, 1) := by decide +kernel
theorem dX2_addBlock_16 : decode cX2_addBlock 16 = .ok (.getfield 65, 3) := by decide +kernel
theorem dX2_addBlock_19 : decode cX2_addBlock 19 = .ok (.iastore, 1) := by decide +kernel
theorem dX2_addBlock_20 : decode cX2_addBlock 20 = .ok (.aload_n 0, 1) := by decide +kernel
theorem dX2_addBlock_21 : decode cX2_addBlock 21 = .ok (.getfield 38, 3) := by decide +kernel
theorem dX2_addBlock_24 : decode cX2_addBlock 24 = .ok (.aload_n 0, 1) := by decide +kernel
theorem dX2_addBlock_25 : decode cX2_addBlock 25 = .ok (.getfield 61, 3) := by decide +kernel
theorem dX2_addBlock_28 : decode cX2_addBlock 28 = .ok (.aload_n 0, 1) := by decide +kernel
theorem dX2_addBlock_29 : decode cX2_addBlock 29 = .ok (.getfield 65, 3) := by decide +kernel
theorem dX2_addBlock_32 : decode cX2_addBlock 32 = .ok (.iastore, 1) := by decide +kernel
theorem dX2_addBlock_33 : decode cX2_addBlock 33 = .ok (.return_, 1) := by decide +kernel
theorem dX2_addNode_0 : decode cX2_addNode 0 = .ok (.aload_n 0, 1) := by decide +kernel
theorem dX2_addNode_1 : decode cX2_addNode 1 = .ok (.iload_n 1, 1) := by decide +kernel
theorem dX2_addNode_2 : decode cX2_addNode 2 = .ok (.iload_n 2, 1) := by decide +kernel
theorem dX2_addNode_3 : decode cX2_addNode 3 = .ok (.invokevirtual 78, 3) := by decide +kernel
theorem dX2_addNode_6 : decode cX2_addNode 6 = .ok (.istore_n 3, 1) := by decide +kernel
theorem dX2_addNode_7 : decode cX2_addNode 7 = .ok (.aload_n 0, 1) := by decide +kernel
theorem dX2_addNode_8 : decode cX2_addNode 8 = .ok (.aload_n 0, 1) := by decide +kernel
theorem dX2_addNode_9 : decode cX2_addNode 9 = .ok (.getfield 68, 3) := by decide +kernel
theorem dX2_addNode_12 : decode cX2_addNode 12 = .ok (.putfield 65, 3) := by decide +kernel
theorem dX2_addNode_15 : decode cX2_addNode 15 = .ok (.aload_n 0, 1) := by decide +kernel
theorem dX2_addNode_16 : decode cX2_addNode 16 = .ok (.getfield 38, 3) := by decide +kernel
theorem dX2_addNode_19 : decode cX2_addNode 19 = .ok (.aload_n 0, 1) := by decide +kernel
theorem dX2_addNode_20 : decode cX2_addNode 20 = .ok (.getfield 61, 3) := by decide +kernel
theorem dX2_addNode_23 : decode cX2_addNode 23 = .ok (.aload_n 0, 1) := by decide +kernel
theorem dX2_addNode_24 : decode cX2_addNode 24 = .ok (.getfield 65, 3) := by decide +kernel
theorem dX2_addNode_27 : decode cX2_addNode 27 = .ok (.iastore, 1) := by decide +kernel
theorem dX2_addNode_28 : decode cX2_addNode 28 = .ok (.iload_n 3, 1) := by decide +kernel
theorem dX2_addNode_29 : decode cX2_addNode 29 = .ok (.ireturn, 1) := by decide +kernel
theorem dX2_newNode_0 : decode cX2_newNode 0 = .ok (.aload_n 0, 1) := by decide +kernel
theorem dX2_newNode_1 : decode cX2_newNode 1 = .ok (.getfield 68, 3) := by decide +kernel
theorem dX2_newNode_4 : decode cX2_newNode 4 = .ok (.sipush 239, 3) := by decide +kernel
theorem dX2_newNode_7 : decode cX2_newNode 7 = .ok (.invokestatic 82, 3) := by decide +kernel
theorem dX2_newNode_10 : decode cX2_newNode 10 = .ok (.istore_n 3, 1) := by decide +kernel
theorem dX2_newNode_11 : decode cX2_newNode 11 = .ok (.aload_n 0, 1) := by decide +kernel
theorem dX2_newNode_12 : decode cX2_newNode 12 = .ok (.iload_n 3, 1) := by decide +kernel
theorem dX2_newNode_13 : decode cX2_newNode 13 = .ok (.iconst 1, 1) := by decide +kernel
theorem dX2_newNode_14 : decode cX2_newNode 14 = .ok (.iadd, 1) := by decide +kernel
theorem dX2_newNode_15 : decode cX2_newNode 15 = .ok (.putfield 68, 3) := by decide +kernel
theorem dX2_newNode_18 : decode cX2_newNode 18 = .ok (.aload_n 0, 1) := by decide +kernel
theorem dX2_newNode_19 : decode cX2_newNode 19 = .ok (.getfield 9, 3) := by decide +kernel
theorem dX2_newNode_22 : decode cX2_newNode 22 = .ok (.iload_n 3, 1) := by decide +kernel
theorem dX2_newNode_23 : decode cX2_newNode 23 = .ok (.iload_n 1, 1) := by decide +kernel
theorem dX2_newNode_24 : decode cX2_newNode 24 = .ok (.iastore, 1) := by decide +kernel
theorem dX2_newNode_25 : decode cX2_newNode 25 = .ok (.aload_n 0, 1) := by decide +kernel
theorem dX2_newNode_26 : decode cX2_newNode 26 = .ok (.getfield 15, 3) := by decide +kernel
theorem dX2_newNode_29 : decode cX2_newNode 29 = .ok (.iload_n 3, 1) := by decide +kernel
theorem dX2_newNode_30 : decode cX2_newNode 30 = .ok (.iload_n 2, 1) := by decide +kernel
theorem dX2_newNode_31 : decode cX2_newNode 31 = .ok (.iastore, 1) := by decide +kernel
theorem dX2_newNode_32 : decode cX2_newNode 32 = .ok (.aload_n 0, 1) := by decide +kernel
theorem dX2_newNode_33 : decode cX2_newNode 33 = .ok (.getfield 18, 3) := by decide +kernel
theorem dX2_newNode_36 : decode cX2_newNode 36 = .ok (.iload_n 3, 1) := by decide +kernel
theorem dX2_newNode_37 : decode cX2_newNode 37 = .ok (.iconst (-1), 1) := by decide +kernel
theorem dX2_newNode_38 : decode cX2_newNode 38 = .ok (.iastore, 1) := by decide +kernel
theorem dX2_newNode_39 : decode cX2_newNode 39 = .ok (.aload_n 0, 1) := by decide +kernel
theorem dX2_newNode_40 : decode cX2_newNode 40 = .ok (.getfield 26, 3) := by decide +kernel
theorem dX2_newNode_43 : decode cX2_newNode 43 = .ok (.iload_n 3, 1) := by decide +kernel
theorem dX2_newNode_44 : decode cX2_newNode 44 = .ok (.iconst (-1), 1) := by decide +kernel
theorem dX2_newNode_45 : decode cX2_newNode 45 = .ok (.iastore, 1) := by decide +kernel
theorem dX2_newNode_46 : decode cX2_newNode 46 = .ok (.iconst 0, 1) := by decide +kernel
theorem dX2_newNode_47 : decode cX2_newNode 47 = .ok (.istore 4, 2) := by decide +kernel
theorem dX2_newNode_49 : decode cX2_newNode 49 = .ok (.iload 4, 2) := by decide +kernel
theorem dX2_newNode_51 : decode cX2_newNode 51 = .ok (.iconst 2, 1) := by decide +kernel
theorem dX2_newNode_52 : decode cX2_newNode 52 = .ok (.if_icmp .ge 39, 3) := by decide +kernel
theorem dX2_newNode_55 : decode cX2_newNode 55 = .ok (.aload_n 0, 1) := by decide +kernel
theorem dX2_newNode_56 : decode cX2_newNode 56 = .ok (.getfield 23, 3) := by decide +kernel
theorem dX2_newNode_59 : decode cX2_newNode 59 = .ok (.iload 4, 2) := by decide +kernel
theorem dX2_newNode_61 : decode cX2_newNode 61 = .ok (.aaload, 1) := by decide +kernel
theorem dX2_newNode_62 : decode cX2_newNode 62 = .ok (.iload_n 3, 1) := by decide +kernel
theorem dX2_newNode_63 : decode cX2_newNode 63 = .ok (.iconst 0, 1) := by decide +kernel
theorem dX2_newNode_64 : decode cX2_newNode 64 = .ok (.iastore, 1) := by decide +kernel
theorem dX2_newNode_65 : decode cX2_newNode 65 = .ok (.aload_n 0, 1) := by decide +kernel
theorem dX2_newNode_66 : decode cX2_newNode 66 = .ok (.getfield 29, 3) := by decide +kernel
theorem dX2_newNode_69 : decode cX2_newNode 69 = .ok (.iload 4, 2) := by decide +kernel
theorem dX2_newNode_71 : decode cX2_newNode 71 = .ok (.aaload, 1) := by decide +kernel
theorem dX2_newNode_72 : decode cX2_newNode 72 = .ok (.iload_n 3, 1) := by decide +kernel
theorem dX2_newNode_73 : decode cX2_newNode 73 = .ok (.iconst (-1), 1) := by decide +kernel
theorem dX2_newNode_74 : decode cX2_newNode 74 = .ok (.iastore, 1) := by decide +kernel
theorem dX2_newNode_75 : decode cX2_newNode 75 = .ok (.aload_n 0, 1) := by decide +kernel
theorem dX2_newNode_76 : decode cX2_newNode 76 = .ok (.getfield 32, 3) := by decide +kernel
theorem dX2_newNode_79 : decode cX2_newNode 79 = .ok (.iload 4, 2) := by decide +kernel
theorem dX2_newNode_81 : decode cX2_newNode 81 = .ok (.aaload, 1) := by decide +kernel
theorem dX2_newNode_82 : decode cX2_newNode 82 = .ok (.iload_n 3, 1) := by decide +kernel
theorem dX2_newNode_83 : decode cX2_newNode 83 = .ok (.iconst (-1), 1) := by decide +kernel
theorem dX2_newNode_84 : decode cX2_newNode 84 = .ok (.iastore, 1) := by decide +kernel
theorem dX2_newNode_85 : decode cX2_newNode 85 = .ok (.iinc 4 1, 3) := by decide +kernel
theorem dX2_newNode_88 : decode cX2_newNode 88 = .ok (.goto (-39), 3) := by decide +kernel
theorem dX2_newNode_91 : decode cX2_newNode 91 = .ok (.iload_n 3, 1) := by decide +kernel
theorem dX2_newNode_92 : decode cX2_newNode 92 = .ok (.ireturn, 1) := by decide +kernel
theorem dX2_makeSum_0 : decode cX2_makeSum 0 = .ok (.aload_n 0, 1) := by decide +kernel
theorem dX2_makeSum_1 : decode cX2_makeSum 1 = .ok (.getfield 9, 3) := by decide +kernel
theorem dX2_makeSum_4 : decode cX2_makeSum 4 = .ok (.iload_n 1, 1) := by decide +kernel
theorem dX2_makeSum_5 : decode cX2_makeSum 5 = .ok (.iconst 0, 1) := by decide +kernel
theorem dX2_makeSum_6 : decode cX2_makeSum 6 = .ok (.iastore, 1) := by decide +kernel
theorem dX2_makeSum_7 : decode cX2_makeSum 7 = .ok (.aload_n 0, 1) := by decide +kernel
theorem dX2_makeSum_8 : decode cX2_makeSum 8 = .ok (.getfield 26, 3) := by decide +kernel
theorem dX2_makeSum_11 : decode cX2_makeSum 11 = .ok (.iload_n 1, 1) := by decide +kernel
theorem dX2_makeSum_12 : decode cX2_makeSum 12 = .ok (.aload_n 0, 1) := by decide +kernel
theorem dX2_makeSum_13 : decode cX2_makeSum 13 = .ok (.getfield 47, 3) := by decide +kernel
theorem dX2_makeSum_16 : decode cX2_makeSum 16 = .ok (.iload_n 2, 1) := by decide +kernel
theorem dX2_makeSum_17 : decode cX2_makeSum 17 = .ok (.iload_n 3, 1) := by decide +kernel
theorem dX2_makeSum_18 : decode cX2_makeSum 18 = .ok (.iload 4, 2) := by decide +kernel
theorem dX2_makeSum_20 : decode cX2_makeSum 20 = .ok (.invokevirtual 87, 3) := by decide +kernel
theorem dX2_makeSum_23 : decode cX2_makeSum 23 = .ok (.iastore, 1) := by decide +kernel
theorem dX2_makeSum_24 : decode cX2_makeSum 24 = .ok (.return_, 1) := by decide +kernel
theorem dX2_finish_0 : decode cX2_finish 0 = .ok (.iconst 0, 1) := by decide +kernel
theorem dX2_finish_1 : decode cX2_finish 1 = .ok (.istore_n 1, 1) := by decide +kernel
theorem dX2_finish_2 : decode cX2_finish 2 = .ok (.iload_n 1, 1) := by decide +kernel
theorem dX2_finish_3 : decode cX2_finish 3 = .ok (.aload_n 0, 1) := by decide +kernel
theorem dX2_finish_4 : decode cX2_finish 4 = .ok (.getfield 65, 3) := by decide +kernel
theorem dX2_finish_7 : decode cX2_finish 7 = .ok (.if_icmp .ge 14, 3) := by decide +kernel
theorem dX2_finish_10 : decode cX2_finish 10 = .ok (.aload_n 0, 1) := by decide +kernel
theorem dX2_finish_11 : decode cX2_finish 11 = .ok (.iload_n 1, 1) := by decide +kernel
theorem dX2_finish_12 : decode cX2_finish 12 = .ok (.invokevirtual 91, 3) := by decide +kernel
theorem dX2_finish_15 : decode cX2_finish 15 = .ok (.iinc 1 1, 3) := by decide +kernel
theorem dX2_finish_18 : decode cX2_finish 18 = .ok (.goto (-16), 3) := by decide +kernel
theorem dX2_finish_21 : decode cX2_finish 21 = .ok (.aload_n 0, 1) := by decide +kernel
theorem dX2_finish_22 : decode cX2_finish 22 = .ok (.invokevirtual 95, 3) := by decide +kernel
theorem dX2_finish_25 : decode cX2_finish 25 = .ok (.aload_n 0, 1) := by decide +kernel
theorem dX2_finish_26 : decode cX2_finish 26 = .ok (.getfield 54, 3) := by decide +kernel
theorem dX2_finish_29 : decode cX2_finish 29 = .ok (.aload_n 0, 1) := by decide +kernel
theorem dX2_finish_30 : decode cX2_finish 30 = .ok (.invokevirtual 98, 3) := by decide +kernel
theorem dX2_finish_33 : decode cX2_finish 33 = .ok (.return_, 1) := by decide +kernel
theorem dX2_linkNode_0 : decode cX2_linkNode 0 = .ok (.aload_n 0, 1) := by decide +kernel
theorem dX2_linkNode_1 : decode cX2_linkNode 1 = .ok (.getfield 9, 3) := by decide +kernel
theorem dX2_linkNode_4 : decode cX2_linkNode 4 = .ok (.iload_n 1, 1) := by decide +kernel
theorem dX2_linkNode_5 : decode cX2_linkNode 5 = .ok (.iaload, 1) := by decide +kernel
theorem dX2_linkNode_6 : decode cX2_linkNode 6 = .ok (.iconst 4, 1) := by decide +kernel
theorem dX2_linkNode_7 : decode cX2_linkNode 7 = .ok (.if_icmp .eq 36, 3) := by decide +kernel
theorem dX2_linkNode_10 : decode cX2_linkNode 10 = .ok (.aload_n 0, 1) := by decide +kernel
theorem dX2_linkNode_11 : decode cX2_linkNode 11 = .ok (.getfield 9, 3) := by decide +kernel
theorem dX2_linkNode_14 : decode cX2_linkNode 14 = .ok (.iload_n 1, 1) := by decide +kernel
theorem dX2_linkNode_15 : decode cX2_linkNode 15 = .ok (.iaload, 1) := by decide +kernel
theorem dX2_linkNode_16 : decode cX2_linkNode 16 = .ok (.iconst 5, 1) := by decide +kernel
theorem dX2_linkNode_17 : decode cX2_linkNode 17 = .ok (.if_icmp .eq 26, 3) := by decide +kernel
theorem dX2_linkNode_20 : decode cX2_linkNode 20 = .ok (.aload_n 0, 1) := by decide +kernel
theorem dX2_linkNode_21 : decode cX2_linkNode 21 = .ok (.getfield 9, 3) := by decide +kernel
theorem dX2_linkNode_24 : decode cX2_linkNode 24 = .ok (.iload_n 1, 1) := by decide +kernel
theorem dX2_linkNode_25 : decode cX2_linkNode 25 = .ok (.iaload, 1) := by decide +kernel
theorem dX2_linkNode_26 : decode cX2_linkNode 26 = .ok (.bipush 6, 2) := by decide +kernel
theorem dX2_linkNode_28 : decode cX2_linkNode 28 = .ok (.if_icmp .eq 15, 3) := by decide +kernel
theorem dX2_linkNode_31 : decode cX2_linkNode 31 = .ok (.aload_n 0, 1) := by decide +kernel
theorem dX2_linkNode_32 : decode cX2_linkNode 32 = .ok (.getfield 32, 3) := by decide +kernel
theorem dX2_linkNode_35 : decode cX2_linkNode 35 = .ok (.iconst 0, 1) := by decide +kernel
theorem dX2_linkNode_36 : decode cX2_linkNode 36 = .ok (.aaload, 1) := by decide +kernel
theorem dX2_linkNode_37 : decode cX2_linkNode 37 = .ok (.iload_n 1, 1) := by decide +kernel
theorem dX2_linkNode_38 : decode cX2_linkNode 38 = .ok (.iload_n 1, 1) := by decide +kernel
theorem dX2_linkNode_39 : decode cX2_linkNode 39 = .ok (.iconst 1, 1) := by decide +kernel
theorem dX2_linkNode_40 : decode cX2_linkNode 40 = .ok (.iadd, 1) := by decide +kernel
theorem dX2_linkNode_41 : decode cX2_linkNode 41 = .ok (.iastore, 1) := by decide +kernel
theorem dX2_linkNode_42 : decode cX2_linkNode 42 = .ok (.return_, 1) := by decide +kernel
theorem dX2_linkNode_43 : decode cX2_linkNode 43 = .ok (.iconst 0, 1) := by decide +kernel
theorem dX2_linkNode_44 : decode cX2_linkNode 44 = .ok (.istore_n 2, 1) := by decide +kernel
theorem dX2_linkNode_45 : decode cX2_linkNode 45 = .ok (.iload_n 2, 1) := by decide +kernel
theorem dX2_linkNode_46 : decode cX2_linkNode 46 = .ok (.iconst 2, 1) := by decide +kernel
theorem dX2_linkNode_47 : decode cX2_linkNode 47 = .ok (.if_icmp .ge 75, 3) := by decide +kernel
theorem dX2_linkNode_50 : decode cX2_linkNode 50 = .ok (.aload_n 0, 1) := by decide +kernel
theorem dX2_linkNode_51 : decode cX2_linkNode 51 = .ok (.getfield 29, 3) := by decide +kernel
theorem dX2_linkNode_54 : decode cX2_linkNode 54 = .ok (.iload_n 2, 1) := by decide +kernel
theorem dX2_linkNode_55 : decode cX2_linkNode 55 = .ok (.aaload, 1) := by decide +kernel
theorem dX2_linkNode_56 : decode cX2_linkNode 56 = .ok (.iload_n 1, 1) := by decide +kernel
theorem dX2_linkNode_57 : decode cX2_linkNode 57 = .ok (.iaload, 1) := by decide +kernel
theorem dX2_linkNode_58 : decode cX2_linkNode 58 = .ok (.istore_n 3, 1) := by decide +kernel
theorem dX2_linkNode_59 : decode cX2_linkNode 59 = .ok (.iload_n 3, 1) := by decide +kernel
theorem dX2_linkNode_60 : decode cX2_linkNode 60 = .ok (.ifCond .lt 38, 3) := by decide +kernel
theorem dX2_linkNode_63 : decode cX2_linkNode 63 = .ok (.aload_n 0, 1) := by decide +kernel
theorem dX2_linkNode_64 : decode cX2_linkNode 64 = .ok (.getfield 9, 3) := by decide +kernel
theorem dX2_linkNode_67 : decode cX2_linkNode 67 = .ok (.iload_n 1, 1) := by decide +kernel
theorem dX2_linkNode_68 : decode cX2_linkNode 68 = .ok (.iaload, 1) := by decide +kernel
theorem dX2_linkNode_69 : decode cX2_linkNode 69 = .ok (.iconst 5, 1) := by decide +kernel
theorem dX2_linkNode_70 : decode cX2_linkNode 70 = .ok (.if_icmp .ne 28, 3) := by decide +kernel
theorem dX2_linkNode_73 : decode cX2_linkNode 73 = .ok (.aload_n 0, 1) := by decide +kernel
theorem dX2_linkNode_74 : decode cX2_linkNode 74 = .ok (.iload_n 3, 1) := by decide +kernel
theorem dX2_linkNode_75 : decode cX2_linkNode 75 = .ok (.invokevirtual 102, 3) := by decide +kernel
theorem dX2_linkNode_78 : decode cX2_linkNode 78 = .ok (.iconst 1, 1) := by decide +kernel
theorem dX2_linkNode_79 : decode cX2_linkNode 79 = .ok (.if_icmp .le 19, 3) := by decide +kernel
theorem dX2_linkNode_82 : decode cX2_linkNode 82 = .ok (.aload_n 0, 1) := by decide +kernel
theorem dX2_linkNode_83 : decode cX2_linkNode 83 = .ok (.getfield 32, 3) := by decide +kernel
theorem dX2_linkNode_86 : decode cX2_linkNode 86 = .ok (.iload_n 2, 1) := by decide +kernel
theorem dX2_linkNode_87 : decode cX2_linkNode 87 = .ok (.aaload, 1) := by decide +kernel
theorem dX2_linkNode_88 : decode cX2_linkNode 88 = .ok (.iload_n 1, 1) := by decide +kernel
theorem dX2_linkNode_89 : decode cX2_linkNode 89 = .ok (.aload_n 0, 1) := by decide +kernel
theorem dX2_linkNode_90 : decode cX2_linkNode 90 = .ok (.iload_n 3, 1) := by decide +kernel
theorem dX2_linkNode_91 : decode cX2_linkNode 91 = .ok (.invokevirtual 106, 3) := by decide +kernel
theorem dX2_linkNode_94 : decode cX2_linkNode 94 = .ok (.iastore, 1) := by decide +kernel
theorem dX2_linkNode_95 : decode cX2_linkNode 95 = .ok (.goto 21, 3) := by decide +kernel
theorem dX2_linkNode_98 : decode cX2_linkNode 98 = .ok (.iload_n 3, 1) := by decide +kernel
theorem dX2_linkNode_99 : decode cX2_linkNode 99 = .ok (.ifCond .lt 17, 3) := by decide +kernel
theorem dX2_linkNode_102 : decode cX2_linkNode 102 = .ok (.aload_n 0, 1) := by decide +kernel
theorem dX2_linkNode_103 : decode cX2_linkNode 103 = .ok (.getfield 32, 3) := by decide +kernel
theorem dX2_linkNode_106 : decode cX2_linkNode 106 = .ok (.iload_n 2, 1) := by decide +kernel
theorem dX2_linkNode_107 : decode cX2_linkNode 107 = .ok (.aaload, 1) := by decide +kernel
theorem dX2_linkNode_108 : decode cX2_linkNode 108 = .ok (.iload_n 1, 1) := by decide +kernel
theorem dX2_linkNode_109 : decode cX2_linkNode 109 = .ok (.aload_n 0, 1) := by decide +kernel
theorem dX2_linkNode_110 : decode cX2_linkNode 110 = .ok (.getfield 38, 3) := by decide +kernel
theorem dX2_linkNode_113 : decode cX2_linkNode 113 = .ok (.iload_n 3, 1) := by decide +kernel
theorem dX2_linkNode_114 : decode cX2_linkNode 114 = .ok (.iaload, 1) := by decide +kernel
theorem dX2_linkNode_115 : decode cX2_linkNode 115 = .ok (.iastore, 1) := by decide +kernel
theorem dX2_linkNode_116 : decode cX2_linkNode 116 = .ok (.iinc 2 1, 3) := by decide +kernel
theorem dX2_linkNode_119 : decode cX2_linkNode 119 = .ok (.goto (-74), 3) := by decide +kernel
theorem dX2_linkNode_122 : decode cX2_linkNode 122 = .ok (.return_, 1) := by decide +kernel
theorem dX2_addOnTheWay_0 : decode cX2_addOnTheWay 0 = .ok (.aload_n 0, 1) := by decide +kernel
theorem dX2_addOnTheWay_1 : decode cX2_addOnTheWay 1 = .ok (.bipush 7, 2) := by decide +kernel
theorem dX2_addOnTheWay_3 : decode cX2_addOnTheWay 3 = .ok (.iload_n 1, 1) := by decide +kernel
theorem dX2_addOnTheWay_4 : decode cX2_addOnTheWay 4 = .ok (.invokevirtual 78, 3) := by decide +kernel
theorem dX2_addOnTheWay_7 : decode cX2_addOnTheWay 7 = .ok (.istore_n 2, 1) := by decide +kernel
theorem dX2_addOnTheWay_8 : decode cX2_addOnTheWay 8 = .ok (.aload_n 0, 1) := by decide +kernel
theorem dX2_addOnTheWay_9 : decode cX2_addOnTheWay 9 = .ok (.getfield 29, 3) := by decide +kernel
theorem dX2_addOnTheWay_12 : decode cX2_addOnTheWay 12 = .ok (.iconst 0, 1) := by decide +kernel
theorem dX2_addOnTheWay_13 : decode cX2_addOnTheWay 13 = .ok (.aaload, 1) := by decide +kernel
theorem dX2_addOnTheWay_14 : decode cX2_addOnTheWay 14 = .ok (.iload_n 2, 1) := by decide +kernel
theorem dX2_addOnTheWay_15 : decode cX2_addOnTheWay 15 = .ok (.iload_n 1, 1) := by decide +kernel
theorem dX2_addOnTheWay_16 : decode cX2_addOnTheWay 16 = .ok (.iastore, 1) := by decide +kernel
theorem dX2_addOnTheWay_17 : decode cX2_addOnTheWay 17 = .ok (.aload_n 0, 1) := by decide +kernel
theorem dX2_addOnTheWay_18 : decode cX2_addOnTheWay 18 = .ok (.getfield 32, 3) := by decide +kernel
theorem dX2_addOnTheWay_21 : decode cX2_addOnTheWay 21 = .ok (.iconst 0, 1) := by decide +kernel
theorem dX2_addOnTheWay_22 : decode cX2_addOnTheWay 22 = .ok (.aaload, 1) := by decide +kernel
theorem dX2_addOnTheWay_23 : decode cX2_addOnTheWay 23 = .ok (.iload_n 2, 1) := by decide +kernel
theorem dX2_addOnTheWay_24 : decode cX2_addOnTheWay 24 = .ok (.aload_n 0, 1) := by decide +kernel
theorem dX2_addOnTheWay_25 : decode cX2_addOnTheWay 25 = .ok (.getfield 38, 3) := by decide +kernel
theorem dX2_addOnTheWay_28 : decode cX2_addOnTheWay 28 = .ok (.iload_n 1, 1) := by decide +kernel
theorem dX2_addOnTheWay_29 : decode cX2_addOnTheWay 29 = .ok (.iaload, 1) := by decide +kernel
theorem dX2_addOnTheWay_30 : decode cX2_addOnTheWay 30 = .ok (.iastore, 1) := by decide +kernel
theorem dX2_addOnTheWay_31 : decode cX2_addOnTheWay 31 = .ok (.iload_n 2, 1) := by decide +kernel
theorem dX2_addOnTheWay_32 : decode cX2_addOnTheWay 32 = .ok (.ireturn, 1) := by decide +kernel
theorem dX2_countLedBy_0 : decode cX2_countLedBy 0 = .ok (.aload_n 0, 1) := by decide +kernel
theorem dX2_countLedBy_1 : decode cX2_countLedBy 1 = .ok (.getfield 35, 3) := by decide +kernel
theorem dX2_countLedBy_4 : decode cX2_countLedBy 4 = .ok (.iconst 0, 1) := by decide +kernel
theorem dX2_countLedBy_5 : decode cX2_countLedBy 5 = .ok (.invokestatic 109, 3) := by decide +kernel
theorem dX2_countLedBy_8 : decode cX2_countLedBy 8 = .ok (.iconst 0, 1) := by decide +kernel
theorem dX2_countLedBy_9 : decode cX2_countLedBy 9 = .ok (.istore_n 1, 1) := by decide +kernel
theorem dX2_countLedBy_10 : decode cX2_countLedBy 10 = .ok (.iload_n 1, 1) := by decide +kernel
theorem dX2_countLedBy_11 : decode cX2_countLedBy 11 = .ok (.aload_n 0, 1) := by decide +kernel
theorem dX2_countLedBy_12 : decode cX2_countLedBy 12 = .ok (.getfield 68, 3) := by decide +kernel
theorem dX2_countLedBy_15 : decode cX2_countLedBy 15 = .ok (.if_icmp .ge 50, 3) := by decide +kernel
theorem dX2_countLedBy_18 : decode cX2_countLedBy 18 = .ok (.iconst 0, 1) := by decide +kernel
theorem dX2_countLedBy_19 : decode cX2_countLedBy 19 = .ok (.istore_n 2, 1) := by decide +kernel
theorem dX2_countLedBy_20 : decode cX2_countLedBy 20 = .ok (.iload_n 2, 1) := by decide +kernel
theorem dX2_countLedBy_21 : decode cX2_countLedBy 21 = .ok (.iconst 2, 1) := by decide +kernel
theorem dX2_countLedBy_22 : decode cX2_countLedBy 22 = .ok (.if_icmp .ge 37, 3) := by decide +kernel
theorem dX2_countLedBy_25 : decode cX2_countLedBy 25 = .ok (.aload_n 0, 1) := by decide +kernel
theorem dX2_countLedBy_26 : decode cX2_countLedBy 26 = .ok (.getfield 32, 3) := by decide +kernel
theorem dX2_countLedBy_29 : decode cX2_countLedBy 29 = .ok (.iload_n 2, 1) := by decide +kernel
theorem dX2_countLedBy_30 : decode cX2_countLedBy 30 = .ok (.aaload, 1) := by decide +kernel
theorem dX2_countLedBy_31 : decode cX2_countLedBy 31 = .ok (.iload_n 1, 1) := by decide +kernel
theorem dX2_countLedBy_32 : decode cX2_countLedBy 32 = .ok (.iaload, 1) := by decide +kernel
theorem dX2_countLedBy_33 : decode cX2_countLedBy 33 = .ok (.ifCond .lt 20, 3) := by decide +kernel
theorem dX2_countLedBy_36 : decode cX2_countLedBy 36 = .ok (.aload_n 0, 1) := by decide +kernel
theorem dX2_countLedBy_37 : decode cX2_countLedBy 37 = .ok (.getfield 35, 3) := by decide +kernel
theorem dX2_countLedBy_40 : decode cX2_countLedBy 40 = .ok (.aload_n 0, 1) := by decide +kernel
theorem dX2_countLedBy_41 : decode cX2_countLedBy 41 = .ok (.getfield 32, 3) := by decide +kernel
theorem dX2_countLedBy_44 : decode cX2_countLedBy 44 = .ok (.iload_n 2, 1) := by decide +kernel
theorem dX2_countLedBy_45 : decode cX2_countLedBy 45 = .ok (.aaload, 1) := by decide +kernel
theorem dX2_countLedBy_46 : decode cX2_countLedBy 46 = .ok (.iload_n 1, 1) := by decide +kernel
theorem dX2_countLedBy_47 : decode cX2_countLedBy 47 = .ok (.iaload, 1) := by decide +kernel
theorem dX2_countLedBy_48 : decode cX2_countLedBy 48 = .ok (.dup2, 1) := by decide +kernel
theorem dX2_countLedBy_49 : decode cX2_countLedBy 49 = .ok (.iaload, 1) := by decide +kernel
theorem dX2_countLedBy_50 : decode cX2_countLedBy 50 = .ok (.iconst 1, 1) := by decide +kernel
theorem dX2_countLedBy_51 : decode cX2_countLedBy 51 = .ok (.iadd, 1) := by decide +kernel
theorem dX2_countLedBy_52 : decode cX2_countLedBy 52 = .ok (.iastore, 1) := by decide +kernel
theorem dX2_countLedBy_53 : decode cX2_countLedBy 53 = .ok (.iinc 2 1, 3) := by decide +kernel
theorem dX2_countLedBy_56 : decode cX2_countLedBy 56 = .ok (.goto (-36), 3) := by decide +kernel
theorem dX2_countLedBy_59 : decode cX2_countLedBy 59 = .ok (.iinc 1 1, 3) := by decide +kernel
theorem dX2_countLedBy_62 : decode cX2_countLedBy 62 = .ok (.goto (-52), 3) := by decide +kernel
theorem dX2_countLedBy_65 : decode cX2_countLedBy 65 = .ok (.return_, 1) := by decide +kernel
theorem dX2_countWaysTo_0 : decode cX2_countWaysTo 0 = .ok (.iconst 0, 1) := by decide +kernel
theorem dX2_countWaysTo_1 : decode cX2_countWaysTo 1 = .ok (.istore_n 2, 1) := by decide +kernel
theorem dX2_countWaysTo_2 : decode cX2_countWaysTo 2 = .ok (.iconst 0, 1) := by decide +kernel
theorem dX2_countWaysTo_3 : decode cX2_countWaysTo 3 = .ok (.istore_n 3, 1) := by decide +kernel
theorem dX2_countWaysTo_4 : decode cX2_countWaysTo 4 = .ok (.iload_n 3, 1) := by decide +kernel
theorem dX2_countWaysTo_5 : decode cX2_countWaysTo 5 = .ok (.aload_n 0, 1) := by decide +kernel
theorem dX2_countWaysTo_6 : decode cX2_countWaysTo 6 = .ok (.getfield 61, 3) := by decide +kernel
theorem dX2_countWaysTo_9 : decode cX2_countWaysTo 9 = .ok (.if_icmp .ge 57, 3) := by decide +kernel
theorem dX2_countWaysTo_12 : decode cX2_countWaysTo 12 = .ok (.iload_n 2, 1) := by decide +kernel
theorem dX2_countWaysTo_13 : decode cX2_countWaysTo 13 = .ok (.aload_n 0, 1) := by decide +kernel
theorem dX2_countWaysTo_14 : decode cX2_countWaysTo 14 = .ok (.getfield 29, 3) := by decide +kernel
theorem dX2_countWaysTo_17 : decode cX2_countWaysTo 17 = .ok (.iconst 0, 1) := by decide +kernel
theorem dX2_countWaysTo_18 : decode cX2_countWaysTo 18 = .ok (.aaload, 1) := by decide +kernel
theorem dX2_countWaysTo_19 : decode cX2_countWaysTo 19 = .ok (.aload_n 0, 1) := by decide +kernel
theorem dX2_countWaysTo_20 : decode cX2_countWaysTo 20 = .ok (.iload_n 3, 1) := by decide +kernel
theorem dX2_countWaysTo_21 : decode cX2_countWaysTo 21 = .ok (.invokevirtual 115, 3) := by decide +kernel
theorem dX2_countWaysTo_24 : decode cX2_countWaysTo 24 = .ok (.iaload, 1) := by decide +kernel
theorem dX2_countWaysTo_25 : decode cX2_countWaysTo 25 = .ok (.iload_n 1, 1) := by decide +kernel
theorem dX2_countWaysTo_26 : decode cX2_countWaysTo 26 = .ok (.if_icmp .ne 7, 3) := by decide +kernel
theorem dX2_countWaysTo_29 : decode cX2_countWaysTo 29 = .ok (.iconst 1, 1) := by decide +kernel
theorem dX2_countWaysTo_30 : decode cX2_countWaysTo 30 = .ok (.goto 4, 3) := by decide +kernel
theorem dX2_countWaysTo_33 : decode cX2_countWaysTo 33 = .ok (.iconst 0, 1) := by decide +kernel
theorem dX2_countWaysTo_34 : decode cX2_countWaysTo 34 = .ok (.iadd, 1) := by decide +kernel
theorem dX2_countWaysTo_35 : decode cX2_countWaysTo 35 = .ok (.istore_n 2, 1) := by decide +kernel
theorem dX2_countWaysTo_36 : decode cX2_countWaysTo 36 = .ok (.iload_n 2, 1) := by decide +kernel
theorem dX2_countWaysTo_37 : decode cX2_countWaysTo 37 = .ok (.aload_n 0, 1) := by decide +kernel
theorem dX2_countWaysTo_38 : decode cX2_countWaysTo 38 = .ok (.getfield 29, 3) := by decide +kernel
theorem dX2_countWaysTo_41 : decode cX2_countWaysTo 41 = .ok (.iconst 1, 1) := by decide +kernel
theorem dX2_countWaysTo_42 : decode cX2_countWaysTo 42 = .ok (.aaload, 1) := by decide +kernel
theorem dX2_countWaysTo_43 : decode cX2_countWaysTo 43 = .ok (.aload_n 0, 1) := by decide +kernel
theorem dX2_countWaysTo_44 : decode cX2_countWaysTo 44 = .ok (.iload_n 3, 1) := by decide +kernel
theorem dX2_countWaysTo_45 : decode cX2_countWaysTo 45 = .ok (.invokevirtual 115, 3) := by decide +kernel
theorem dX2_countWaysTo_48 : decode cX2_countWaysTo 48 = .ok (.iaload, 1) := by decide +kernel
theorem dX2_countWaysTo_49 : decode cX2_countWaysTo 49 = .ok (.iload_n 1, 1) := by decide +kernel
theorem dX2_countWaysTo_50 : decode cX2_countWaysTo 50 = .ok (.if_icmp .ne 7, 3) := by decide +kernel
theorem dX2_countWaysTo_53 : decode cX2_countWaysTo 53 = .ok (.iconst 1, 1) := by decide +kernel
theorem dX2_countWaysTo_54 : decode cX2_countWaysTo 54 = .ok (.goto 4, 3) := by decide +kernel
theorem dX2_countWaysTo_57 : decode cX2_countWaysTo 57 = .ok (.iconst 0, 1) := by decide +kernel
theorem dX2_countWaysTo_58 : decode cX2_countWaysTo 58 = .ok (.iadd, 1) := by decide +kernel
theorem dX2_countWaysTo_59 : decode cX2_countWaysTo 59 = .ok (.istore_n 2, 1) := by decide +kernel
theorem dX2_countWaysTo_60 : decode cX2_countWaysTo 60 = .ok (.iinc 3 1, 3) := by decide +kernel
theorem dX2_countWaysTo_63 : decode cX2_countWaysTo 63 = .ok (.goto (-59), 3) := by decide +kernel
theorem dX2_countWaysTo_66 : decode cX2_countWaysTo 66 = .ok (.iload_n 2, 1) := by decide +kernel
theorem dX2_countWaysTo_67 : decode cX2_countWaysTo 67 = .ok (.ireturn, 1) := by decide +kernel
theorem dX2_endOf_0 : decode cX2_endOf 0 = .ok (.iconst 0, 1) := by decide +kernel
theorem dX2_endOf_1 : decode cX2_endOf 1 = .ok (.aload_n 0, 1) := by decide +kernel
theorem dX2_endOf_2 : decode cX2_endOf 2 = .ok (.getfield 38, 3) := by decide +kernel
theorem dX2_endOf_5 : decode cX2_endOf 5 = .ok (.iload_n 1, 1) := by decide +kernel
theorem dX2_endOf_6 : decode cX2_endOf 6 = .ok (.iconst 1, 1) := by decide +kernel
theorem dX2_endOf_7 : decode cX2_endOf 7 = .ok (.iadd, 1) := by decide +kernel
theorem dX2_endOf_8 : decode cX2_endOf 8 = .ok (.iaload, 1) := by decide +kernel
theorem dX2_endOf_9 : decode cX2_endOf 9 = .ok (.iconst 1, 1) := by decide +kernel
theorem dX2_endOf_10 : decode cX2_endOf 10 = .ok (.isub, 1) := by decide +kernel
theorem dX2_endOf_11 : decode cX2_endOf 11 = .ok (.invokestatic 118, 3) := by decide +kernel
theorem dX2_endOf_14 : decode cX2_endOf 14 = .ok (.ireturn, 1) := by decide +kernel
theorem dX2_hasNode_0 : decode cX2_hasNode 0 = .ok (.iload_n 1, 1) := by decide +kernel
theorem dX2_hasNode_1 : decode cX2_hasNode 1 = .ok (.ifCond .lt 15, 3) := by decide +kernel
theorem dX2_hasNode_4 : decode cX2_hasNode 4 = .ok (.iload_n 1, 1) := by decide +kernel
theorem dX2_hasNode_5 : decode cX2_hasNode 5 = .ok (.aload_n 0, 1) := by decide +kernel
theorem dX2_hasNode_6 : decode cX2_hasNode 6 = .ok (.getfield 68, 3) := by decide +kernel
theorem dX2_hasNode_9 : decode cX2_hasNode 9 = .ok (.if_icmp .ge 7, 3) := by decide +kernel
theorem dX2_hasNode_12 : decode cX2_hasNode 12 = .ok (.iconst 1, 1) := by decide +kernel
theorem dX2_hasNode_13 : decode cX2_hasNode 13 = .ok (.goto 4, 3) := by decide +kernel
theorem dX2_hasNode_16 : decode cX2_hasNode 16 = .ok (.iconst 0, 1) := by decide +kernel
theorem dX2_hasNode_17 : decode cX2_hasNode 17 = .ok (.ireturn, 1) := by decide +kernel
theorem dX2_countNodesThatWork_0 : decode cX2_countNodesThatWork 0 = .ok (.iconst 0, 1) := by decide +kernel
theorem dX2_countNodesThatWork_1 : decode cX2_countNodesThatWork 1 = .ok (.istore_n 2, 1) := by decide +kernel
theorem dX2_countNodesThatWork_2 : decode cX2_countNodesThatWork 2 = .ok (.iconst 0, 1) := by decide +kernel
theorem dX2_countNodesThatWork_3 : decode cX2_countNodesThatWork 3 = .ok (.istore_n 3, 1) := by decide +kernel
theorem dX2_countNodesThatWork_4 : decode cX2_countNodesThatWork 4 = .ok (.iload_n 3, 1) := by decide +kernel
theorem dX2_countNodesThatWork_5 : decode cX2_countNodesThatWork 5 = .ok (.aload_n 0, 1) := by decide +kernel
theorem dX2_countNodesThatWork_6 : decode cX2_countNodesThatWork 6 = .ok (.getfield 65, 3) := by decide +kernel
theorem dX2_countNodesThatWork_9 : decode cX2_countNodesThatWork 9 = .ok (.if_icmp .ge 27, 3) := by decide +kernel
theorem dX2_countNodesThatWork_12 : decode cX2_countNodesThatWork 12 = .ok (.iload_n 2, 1) := by decide +kernel
theorem dX2_countNodesThatWork_13 : decode cX2_countNodesThatWork 13 = .ok (.aload_n 0, 1) := by decide +kernel
theorem dX2_countNodesThatWork_14 : decode cX2_countNodesThatWork 14 = .ok (.getfield 26, 3) := by decide +kernel
theorem dX2_countNodesThatWork_17 : decode cX2_countNodesThatWork 17 = .ok (.iload_n 3, 1) := by decide +kernel
theorem dX2_countNodesThatWork_18 : decode cX2_countNodesThatWork 18 = .ok (.iaload, 1) := by decide +kernel
theorem dX2_countNodesThatWork_19 : decode cX2_countNodesThatWork 19 = .ok (.iload_n 1, 1) := by decide +kernel
theorem dX2_countNodesThatWork_20 : decode cX2_countNodesThatWork 20 = .ok (.if_icmp .ne 7, 3) := by decide +kernel
theorem dX2_countNodesThatWork_23 : decode cX2_countNodesThatWork 23 = .ok (.iconst 1, 1) := by decide +kernel
theorem dX2_countNodesThatWork_24 : decode cX2_countNodesThatWork 24 = .ok (.goto 4, 3) := by decide +kernel
theorem dX2_countNodesThatWork_27 : decode cX2_countNodesThatWork 27 = .ok (.iconst 0, 1) := by decide +kernel
theorem dX2_countNodesThatWork_28 : decode cX2_countNodesThatWork 28 = .ok (.iadd, 1) := by decide +kernel
theorem dX2_countNodesThatWork_29 : decode cX2_countNodesThatWork 29 = .ok (.istore_n 2, 1) := by decide +kernel
theorem dX2_countNodesThatWork_30 : decode cX2_countNodesThatWork 30 = .ok (.iinc 3 1, 3) := by decide +kernel
theorem dX2_countNodesThatWork_33 : decode cX2_countNodesThatWork 33 = .ok (.goto (-29), 3) := by decide +kernel
theorem dX2_countNodesThatWork_36 : decode cX2_countNodesThatWork 36 = .ok (.iload_n 2, 1) := by decide +kernel
theorem dX2_countNodesThatWork_37 : decode cX2_countNodesThatWork 37 = .ok (.ireturn, 1) := by decide +kernel
theorem dX2_blocksComeTo_0 : decode cX2_blocksComeTo 0 = .ok (.lconst 1, 1) := by decide +kernel
theorem dX2_blocksComeTo_1 : decode cX2_blocksComeTo 1 = .ok (.lstore_n 1, 1) := by decide +kernel
theorem dX2_blocksComeTo_2 : decode cX2_blocksComeTo 2 = .ok (.iconst 0, 1) := by decide +kernel
theorem dX2_blocksComeTo_3 : decode cX2_blocksComeTo 3 = .ok (.istore_n 3, 1) := by decide +kernel
theorem dX2_blocksComeTo_4 : decode cX2_blocksComeTo 4 = .ok (.iload_n 3, 1) := by decide +kernel
theorem dX2_blocksComeTo_5 : decode cX2_blocksComeTo 5 = .ok (.aload_n 0, 1) := by decide +kernel
theorem dX2_blocksComeTo_6 : decode cX2_blocksComeTo 6 = .ok (.getfield 61, 3) := by decide +kernel
theorem dX2_blocksComeTo_9 : decode cX2_blocksComeTo 9 = .ok (.if_icmp .ge 47, 3) := by decide +kernel
theorem dX2_blocksComeTo_12 : decode cX2_blocksComeTo 12 = .ok (.iconst 0, 1) := by decide +kernel
theorem dX2_blocksComeTo_13 : decode cX2_blocksComeTo 13 = .ok (.istore 4, 2) := by decide +kernel
theorem dX2_blocksComeTo_15 : decode cX2_blocksComeTo 15 = .ok (.iload 4, 2) := by decide +kernel
theorem dX2_blocksComeTo_17 : decode cX2_blocksComeTo 17 = .ok (.aload_n 0, 1) := by decide +kernel
theorem dX2_blocksComeTo_18 : decode cX2_blocksComeTo 18 = .ok (.getfield 61, 3) := by decide +kernel
theorem dX2_blocksComeTo_21 : decode cX2_blocksComeTo 21 = .ok (.if_icmp .ge 29, 3) := by decide +kernel
theorem dX2_blocksComeTo_24 : decode cX2_blocksComeTo 24 = .ok (.lload_n 1, 1) := by decide +kernel
theorem dX2_blocksComeTo_25 : decode cX2_blocksComeTo 25 = .ok (.iload 4, 2) := by decide +kernel
theorem dX2_blocksComeTo_27 : decode cX2_blocksComeTo 27 = .ok (.lushr, 1) := by decide +kernel
theorem dX2_blocksComeTo_28 : decode cX2_blocksComeTo 28 = .ok (.lconst 1, 1) := by decide +kernel
theorem dX2_blocksComeTo_29 : decode cX2_blocksComeTo 29 = .ok (.land, 1) := by decide +kernel
theorem dX2_blocksComeTo_30 : decode cX2_blocksComeTo 30 = .ok (.lconst 1, 1) := by decide +kernel
theorem dX2_blocksComeTo_31 : decode cX2_blocksComeTo 31 = .ok (.lcmp, 1) := by decide +kernel
theorem dX2_blocksComeTo_32 : decode cX2_blocksComeTo 32 = .ok (.ifCond .ne 12, 3) := by decide +kernel
theorem dX2_blocksComeTo_35 : decode cX2_blocksComeTo 35 = .ok (.lload_n 1, 1) := by decide +kernel
theorem dX2_blocksComeTo_36 : decode cX2_blocksComeTo 36 = .ok (.aload_n 0, 1) := by decide +kernel
theorem dX2_blocksComeTo_37 : decode cX2_blocksComeTo 37 = .ok (.iload 4, 2) := by decide +kernel
theorem dX2_blocksComeTo_39 : decode cX2_blocksComeTo 39 = .ok (.invokevirtual 121, 3) := by decide +kernel
theorem dX2_blocksComeTo_42 : decode cX2_blocksComeTo 42 = .ok (.lor, 1) := by decide +kernel
theorem dX2_blocksComeTo_43 : decode cX2_blocksComeTo 43 = .ok (.lstore_n 1, 1) := by decide +kernel
theorem dX2_blocksComeTo_44 : decode cX2_blocksComeTo 44 = .ok (.iinc 4 1, 3) := by decide +kernel
theorem dX2_blocksComeTo_47 : decode cX2_blocksComeTo 47 = .ok (.goto (-32), 3) := by decide +kernel
theorem dX2_blocksComeTo_50 : decode cX2_blocksComeTo 50 = .ok (.iinc 3 1, 3) := by decide +kernel
theorem dX2_blocksComeTo_53 : decode cX2_blocksComeTo 53 = .ok (.goto (-49), 3) := by decide +kernel
theorem dX2_blocksComeTo_56 : decode cX2_blocksComeTo 56 = .ok (.lload_n 1, 1) := by decide +kernel
theorem dX2_blocksComeTo_57 : decode cX2_blocksComeTo 57 = .ok (.lreturn, 1) := by decide +kernel
theorem dX2_blocksThatLeave_0 : decode cX2_blocksThatLeave 0 = .ok (.lconst 0, 1) := by decide +kernel
theorem dX2_blocksThatLeave_1 : decode cX2_blocksThatLeave 1 = .ok (.lstore_n 1, 1) := by decide +kernel
theorem dX2_blocksThatLeave_2 : decode cX2_blocksThatLeave 2 = .ok (.iconst 0, 1) := by decide +kernel
theorem dX2_blocksThatLeave_3 : decode cX2_blocksThatLeave 3 = .ok (.istore_n 3, 1) := by decide +kernel
theorem dX2_blocksThatLeave_4 : decode cX2_blocksThatLeave 4 = .ok (.iload_n 3, 1) := by decide +kernel
theorem dX2_blocksThatLeave_5 : decode cX2_blocksThatLeave 5 = .ok (.aload_n 0, 1) := by decide +kernel
theorem dX2_blocksThatLeave_6 : decode cX2_blocksThatLeave 6 = .ok (.getfield 61, 3) := by decide +kernel
theorem dX2_blocksThatLeave_9 : decode cX2_blocksThatLeave 9 = .ok (.if_icmp .ge 64, 3) := by decide +kernel
theorem dX2_blocksThatLeave_12 : decode cX2_blocksThatLeave 12 = .ok (.aload_n 0, 1) := by decide +kernel
theorem dX2_blocksThatLeave_13 : decode cX2_blocksThatLeave 13 = .ok (.getfield 61, 3) := by decide +kernel
theorem dX2_blocksThatLeave_16 : decode cX2_blocksThatLeave 16 = .ok (.iconst 1, 1) := by decide +kernel
theorem dX2_blocksThatLeave_17 : decode cX2_blocksThatLeave 17 = .ok (.isub, 1) := by decide +kernel
theorem dX2_blocksThatLeave_18 : decode cX2_blocksThatLeave 18 = .ok (.istore 4, 2) := by decide +kernel
theorem dX2_blocksThatLeave_20 : decode cX2_blocksThatLeave 20 = .ok (.iload 4, 2) := by decide +kernel
theorem dX2_blocksThatLeave_22 : decode cX2_blocksThatLeave 22 = .ok (.ifCond .lt 45, 3) := by decide +kernel
theorem dX2_blocksThatLeave_25 : decode cX2_blocksThatLeave 25 = .ok (.aload_n 0, 1) := by decide +kernel
theorem dX2_blocksThatLeave_26 : decode cX2_blocksThatLeave 26 = .ok (.getfield 9, 3) := by decide +kernel
theorem dX2_blocksThatLeave_29 : decode cX2_blocksThatLeave 29 = .ok (.aload_n 0, 1) := by decide +kernel
theorem dX2_blocksThatLeave_30 : decode cX2_blocksThatLeave 30 = .ok (.iload 4, 2) := by decide +kernel
theorem dX2_blocksThatLeave_32 : decode cX2_blocksThatLeave 32 = .ok (.invokevirtual 115, 3) := by decide +kernel
theorem dX2_blocksThatLeave_35 : decode cX2_blocksThatLeave 35 = .ok (.iaload, 1) := by decide +kernel
theorem dX2_blocksThatLeave_36 : decode cX2_blocksThatLeave 36 = .ok (.bipush 6, 2) := by decide +kernel
theorem dX2_blocksThatLeave_38 : decode cX2_blocksThatLeave 38 = .ok (.if_icmp .eq 16, 3) := by decide +kernel
theorem dX2_blocksThatLeave_41 : decode cX2_blocksThatLeave 41 = .ok (.aload_n 0, 1) := by decide +kernel
theorem dX2_blocksThatLeave_42 : decode cX2_blocksThatLeave 42 = .ok (.iload 4, 2) := by decide +kernel
theorem dX2_blocksThatLeave_44 : decode cX2_blocksThatLeave 44 = .ok (.invokevirtual 121, 3) := by decide +kernel
theorem dX2_blocksThatLeave_47 : decode cX2_blocksThatLeave 47 = .ok (.lload_n 1, 1) := by decide +kernel
theorem dX2_blocksThatLeave_48 : decode cX2_blocksThatLeave 48 = .ok (.land, 1) := by decide +kernel
theorem dX2_blocksThatLeave_49 : decode cX2_blocksThatLeave 49 = .ok (.lconst 0, 1) := by decide +kernel
theorem dX2_blocksThatLeave_50 : decode cX2_blocksThatLeave 50 = .ok (.lcmp, 1) := by decide +kernel
theorem dX2_blocksThatLeave_51 : decode cX2_blocksThatLeave 51 = .ok (.ifCond .eq 10, 3) := by decide +kernel
theorem dX2_blocksThatLeave_54 : decode cX2_blocksThatLeave 54 = .ok (.lload_n 1, 1) := by decide +kernel
theorem dX2_blocksThatLeave_55 : decode cX2_blocksThatLeave 55 = .ok (.lconst 1, 1) := by decide +kernel
theorem dX2_blocksThatLeave_56 : decode cX2_blocksThatLeave 56 = .ok (.iload 4, 2) := by decide +kernel
theorem dX2_blocksThatLeave_58 : decode cX2_blocksThatLeave 58 = .ok (.lshl, 1) := by decide +kernel
theorem dX2_blocksThatLeave_59 : decode cX2_blocksThatLeave 59 = .ok (.lor, 1) := by decide +kernel
theorem dX2_blocksThatLeave_60 : decode cX2_blocksThatLeave 60 = .ok (.lstore_n 1, 1) := by decide +kernel
theorem dX2_blocksThatLeave_61 : decode cX2_blocksThatLeave 61 = .ok (.iinc 4 (-1), 3) := by decide +kernel
theorem dX2_blocksThatLeave_64 : decode cX2_blocksThatLeave 64 = .ok (.goto (-44), 3) := by decide +kernel
theorem dX2_blocksThatLeave_67 : decode cX2_blocksThatLeave 67 = .ok (.iinc 3 1, 3) := by decide +kernel
theorem dX2_blocksThatLeave_70 : decode cX2_blocksThatLeave 70 = .ok (.goto (-66), 3) := by decide +kernel
theorem dX2_blocksThatLeave_73 : decode cX2_blocksThatLeave 73 = .ok (.lload_n 1, 1) := by decide +kernel
theorem dX2_blocksThatLeave_74 : decode cX2_blocksThatLeave 74 = .ok (.lreturn, 1) := by decide +kernel
theorem dX2_blocksNamedBy_0 : decode cX2_blocksNamedBy 0 = .ok (.aload_n 0, 1) := by decide +kernel
theorem dX2_blocksNamedBy_1 : decode cX2_blocksNamedBy 1 = .ok (.iload_n 1, 1) := by decide +kernel
theorem dX2_blocksNamedBy_2 : decode cX2_blocksNamedBy 2 = .ok (.invokevirtual 115, 3) := by decide +kernel
theorem dX2_blocksNamedBy_5 : decode cX2_blocksNamedBy 5 = .ok (.istore_n 2, 1) := by decide +kernel
theorem dX2_blocksNamedBy_6 : decode cX2_blocksNamedBy 6 = .ok (.aload_n 0, 1) := by decide +kernel
theorem dX2_blocksNamedBy_7 : decode cX2_blocksNamedBy 7 = .ok (.getfield 29, 3) := by decide +kernel
theorem dX2_blocksNamedBy_10 : decode cX2_blocksNamedBy 10 = .ok (.iconst 0, 1) := by decide +kernel
theorem dX2_blocksNamedBy_11 : decode cX2_blocksNamedBy 11 = .ok (.aaload, 1) := by decide +kernel
theorem dX2_blocksNamedBy_12 : decode cX2_blocksNamedBy 12 = .ok (.iload_n 2, 1) := by decide +kernel
theorem dX2_blocksNamedBy_13 : decode cX2_blocksNamedBy 13 = .ok (.iaload, 1) := by decide +kernel
theorem dX2_blocksNamedBy_14 : decode cX2_blocksNamedBy 14 = .ok (.ifCond .ge 7, 3) := by decide +kernel
theorem dX2_blocksNamedBy_17 : decode cX2_blocksNamedBy 17 = .ok (.lconst 0, 1) := by decide +kernel
theorem dX2_blocksNamedBy_18 : decode cX2_blocksNamedBy 18 = .ok (.goto 13, 3) := by decide +kernel
theorem dX2_blocksNamedBy_21 : decode cX2_blocksNamedBy 21 = .ok (.lconst 1, 1) := by decide +kernel
theorem dX2_blocksNamedBy_22 : decode cX2_blocksNamedBy 22 = .ok (.aload_n 0, 1) := by decide +kernel
theorem dX2_blocksNamedBy_23 : decode cX2_blocksNamedBy 23 = .ok (.getfield 29, 3) := by decide +kernel
theorem dX2_blocksNamedBy_26 : decode cX2_blocksNamedBy 26 = .ok (.iconst 0, 1) := by decide +kernel
theorem dX2_blocksNamedBy_27 : decode cX2_blocksNamedBy 27 = .ok (.aaload, 1) := by decide +kernel
theorem dX2_blocksNamedBy_28 : decode cX2_blocksNamedBy 28 = .ok (.iload_n 2, 1) := by decide +kernel
theorem dX2_blocksNamedBy_29 : decode cX2_blocksNamedBy 29 = .ok (.iaload, 1) := by decide +kernel
theorem dX2_blocksNamedBy_30 : decode cX2_blocksNamedBy 30 = .ok (.lshl, 1) := by decide +kernel
theorem dX2_blocksNamedBy_31 : decode cX2_blocksNamedBy 31 = .ok (.lstore_n 3, 1) := by decide +kernel
theorem dX2_blocksNamedBy_32 : decode cX2_blocksNamedBy 32 = .ok (.lload_n 3, 1) := by decide +kernel
theorem dX2_blocksNamedBy_33 : decode cX2_blocksNamedBy 33 = .ok (.aload_n 0, 1) := by decide +kernel
theorem dX2_blocksNamedBy_34 : decode cX2_blocksNamedBy 34 = .ok (.getfield 29, 3) := by decide +kernel
theorem dX2_blocksNamedBy_37 : decode cX2_blocksNamedBy 37 = .ok (.iconst 1, 1) := by decide +kernel
theorem dX2_blocksNamedBy_38 : decode cX2_blocksNamedBy 38 = .ok (.aaload, 1) := by decide +kernel
theorem dX2_blocksNamedBy_39 : decode cX2_blocksNamedBy 39 = .ok (.iload_n 2, 1) := by decide +kernel
theorem dX2_blocksNamedBy_40 : decode cX2_blocksNamedBy 40 = .ok (.iaload, 1) := by decide +kernel
theorem dX2_blocksNamedBy_41 : decode cX2_blocksNamedBy 41 = .ok (.ifCond .ge 7, 3) := by decide +kernel
theorem dX2_blocksNamedBy_44 : decode cX2_blocksNamedBy 44 = .ok (.lconst 0, 1) := by decide +kernel
theorem dX2_blocksNamedBy_45 : decode cX2_blocksNamedBy 45 = .ok (.goto 13, 3) := by decide +kernel
theorem dX2_blocksNamedBy_48 : decode cX2_blocksNamedBy 48 = .ok (.lconst 1, 1) := by decide +kernel
theorem dX2_blocksNamedBy_49 : decode cX2_blocksNamedBy 49 = .ok (.aload_n 0, 1) := by decide +kernel
theorem dX2_blocksNamedBy_50 : decode cX2_blocksNamedBy 50 = .ok (.getfield 29, 3) := by decide +kernel
theorem dX2_blocksNamedBy_53 : decode cX2_blocksNamedBy 53 = .ok (.iconst 1, 1) := by decide +kernel
theorem dX2_blocksNamedBy_54 : decode cX2_blocksNamedBy 54 = .ok (.aaload, 1) := by decide +kernel
theorem dX2_blocksNamedBy_55 : decode cX2_blocksNamedBy 55 = .ok (.iload_n 2, 1) := by decide +kernel
theorem dX2_blocksNamedBy_56 : decode cX2_blocksNamedBy 56 = .ok (.iaload, 1) := by decide +kernel
theorem dX2_blocksNamedBy_57 : decode cX2_blocksNamedBy 57 = .ok (.lshl, 1) := by decide +kernel
theorem dX2_blocksNamedBy_58 : decode cX2_blocksNamedBy 58 = .ok (.lor, 1) := by decide +kernel
theorem dX2_blocksNamedBy_59 : decode cX2_blocksNamedBy 59 = .ok (.lreturn, 1) := by decide +kernel
theorem dX2_wayCanGoTo_0 : decode cX2_wayCanGoTo 0 = .ok (.aload_n 0, 1) := by decide +kernel
theorem dX2_wayCanGoTo_1 : decode cX2_wayCanGoTo 1 = .ok (.getfield 71, 3) := by decide +kernel
theorem dX2_wayCanGoTo_4 : decode cX2_wayCanGoTo 4 = .ok (.ifCond .ne 13, 3) := by decide +kernel
theorem dX2_wayCanGoTo_7 : decode cX2_wayCanGoTo 7 = .ok (.iload_n 1, 1) := by decide +kernel
theorem dX2_wayCanGoTo_8 : decode cX2_wayCanGoTo 8 = .ok (.ifCond .ne 7, 3) := by decide +kernel
theorem dX2_wayCanGoTo_11 : decode cX2_wayCanGoTo 11 = .ok (.iconst 1, 1) := by decide +kernel
theorem dX2_wayCanGoTo_12 : decode cX2_wayCanGoTo 12 = .ok (.goto 4, 3) := by decide +kernel
theorem dX2_wayCanGoTo_15 : decode cX2_wayCanGoTo 15 = .ok (.iconst 0, 1) := by decide +kernel
theorem dX2_wayCanGoTo_16 : decode cX2_wayCanGoTo 16 = .ok (.ireturn, 1) := by decide +kernel
theorem dX2_wayCanGoTo_17 : decode cX2_wayCanGoTo 17 = .ok (.aload_n 0, 1) := by decide +kernel
theorem dX2_wayCanGoTo_18 : decode cX2_wayCanGoTo 18 = .ok (.aload_n 0, 1) := by decide +kernel
theorem dX2_wayCanGoTo_19 : decode cX2_wayCanGoTo 19 = .ok (.getfield 41, 3) := by decide +kernel
theorem dX2_wayCanGoTo_22 : decode cX2_wayCanGoTo 22 = .ok (.aload_n 0, 1) := by decide +kernel
theorem dX2_wayCanGoTo_23 : decode cX2_wayCanGoTo 23 = .ok (.getfield 71, 3) := by decide +kernel
theorem dX2_wayCanGoTo_26 : decode cX2_wayCanGoTo 26 = .ok (.iconst 1, 1) := by decide +kernel
theorem dX2_wayCanGoTo_27 : decode cX2_wayCanGoTo 27 = .ok (.isub, 1) := by decide +kernel
theorem dX2_wayCanGoTo_28 : decode cX2_wayCanGoTo 28 = .ok (.iaload, 1) := by decide +kernel
theorem dX2_wayCanGoTo_29 : decode cX2_wayCanGoTo 29 = .ok (.invokevirtual 115, 3) := by decide +kernel
theorem dX2_wayCanGoTo_32 : decode cX2_wayCanGoTo 32 = .ok (.istore_n 2, 1) := by decide +kernel
theorem dX2_wayCanGoTo_33 : decode cX2_wayCanGoTo 33 = .ok (.aload_n 0, 1) := by decide +kernel
theorem dX2_wayCanGoTo_34 : decode cX2_wayCanGoTo 34 = .ok (.getfield 29, 3) := by decide +kernel
theorem dX2_wayCanGoTo_37 : decode cX2_wayCanGoTo 37 = .ok (.iconst 0, 1) := by decide +kernel
theorem dX2_wayCanGoTo_38 : decode cX2_wayCanGoTo 38 = .ok (.aaload, 1) := by decide +kernel
theorem dX2_wayCanGoTo_39 : decode cX2_wayCanGoTo 39 = .ok (.iload_n 2, 1) := by decide +kernel
theorem dX2_wayCanGoTo_40 : decode cX2_wayCanGoTo 40 = .ok (.iaload, 1) := by decide +kernel
theorem dX2_wayCanGoTo_41 : decode cX2_wayCanGoTo 41 = .ok (.iload_n 1, 1) := by decide +kernel
theorem dX2_wayCanGoTo_42 : decode cX2_wayCanGoTo 42 = .ok (.if_icmp .eq 15, 3) := by decide +kernel
theorem dX2_wayCanGoTo_45 : decode cX2_wayCanGoTo 45 = .ok (.aload_n 0, 1) := by decide +kernel
theorem dX2_wayCanGoTo_46 : decode cX2_wayCanGoTo 46 = .ok (.getfield 29, 3) := by decide +kernel
theorem dX2_wayCanGoTo_49 : decode cX2_wayCanGoTo 49 = .ok (.iconst 1, 1) := by decide +kernel
theorem dX2_wayCanGoTo_50 : decode cX2_wayCanGoTo 50 = .ok (.aaload, 1) := by decide +kernel
theorem dX2_wayCanGoTo_51 : decode cX2_wayCanGoTo 51 = .ok (.iload_n 2, 1) := by decide +kernel
theorem dX2_wayCanGoTo_52 : decode cX2_wayCanGoTo 52 = .ok (.iaload, 1) := by decide +kernel
theorem dX2_wayCanGoTo_53 : decode cX2_wayCanGoTo 53 = .ok (.iload_n 1, 1) := by decide +kernel
theorem dX2_wayCanGoTo_54 : decode cX2_wayCanGoTo 54 = .ok (.if_icmp .ne 7, 3) := by decide +kernel
theorem dX2_wayCanGoTo_57 : decode cX2_wayCanGoTo 57 = .ok (.iconst 1, 1) := by decide +kernel
theorem dX2_wayCanGoTo_58 : decode cX2_wayCanGoTo 58 = .ok (.goto 4, 3) := by decide +kernel
theorem dX2_wayCanGoTo_61 : decode cX2_wayCanGoTo 61 = .ok (.iconst 0, 1) := by decide +kernel
theorem dX2_wayCanGoTo_62 : decode cX2_wayCanGoTo 62 = .ok (.ireturn, 1) := by decide +kernel
theorem dX2_countOnWay_0 : decode cX2_countOnWay 0 = .ok (.iconst 0, 1) := by decide +kernel
theorem dX2_countOnWay_1 : decode cX2_countOnWay 1 = .ok (.istore_n 3, 1) := by decide +kernel
theorem dX2_countOnWay_2 : decode cX2_countOnWay 2 = .ok (.iconst 0, 1) := by decide +kernel
theorem dX2_countOnWay_3 : decode cX2_countOnWay 3 = .ok (.istore 4, 2) := by decide +kernel
theorem dX2_countOnWay_5 : decode cX2_countOnWay 5 = .ok (.iload 4, 2) := by decide +kernel
theorem dX2_countOnWay_7 : decode cX2_countOnWay 7 = .ok (.aload_n 0, 1) := by decide +kernel
theorem dX2_countOnWay_8 : decode cX2_countOnWay 8 = .ok (.getfield 71, 3) := by decide +kernel
theorem dX2_countOnWay_11 : decode cX2_countOnWay 11 = .ok (.if_icmp .ge 116, 3) := by decide +kernel
theorem dX2_countOnWay_14 : decode cX2_countOnWay 14 = .ok (.aload_n 0, 1) := by decide +kernel
theorem dX2_countOnWay_15 : decode cX2_countOnWay 15 = .ok (.getfield 41, 3) := by decide +kernel
theorem dX2_countOnWay_18 : decode cX2_countOnWay 18 = .ok (.iload 4, 2) := by decide +kernel
theorem dX2_countOnWay_20 : decode cX2_countOnWay 20 = .ok (.iaload, 1) := by decide +kernel
theorem dX2_countOnWay_21 : decode cX2_countOnWay 21 = .ok (.istore 5, 2) := by decide +kernel
theorem dX2_countOnWay_23 : decode cX2_countOnWay 23 = .ok (.aload_n 0, 1) := by decide +kernel
theorem dX2_countOnWay_24 : decode cX2_countOnWay 24 = .ok (.getfield 38, 3) := by decide +kernel
theorem dX2_countOnWay_27 : decode cX2_countOnWay 27 = .ok (.iload 5, 2) := by decide +kernel
theorem dX2_countOnWay_29 : decode cX2_countOnWay 29 = .ok (.iaload, 1) := by decide +kernel
theorem dX2_countOnWay_30 : decode cX2_countOnWay 30 = .ok (.istore 6, 2) := by decide +kernel
theorem dX2_countOnWay_32 : decode cX2_countOnWay 32 = .ok (.iload 6, 2) := by decide +kernel
theorem dX2_countOnWay_34 : decode cX2_countOnWay 34 = .ok (.aload_n 0, 1) := by decide +kernel
theorem dX2_countOnWay_35 : decode cX2_countOnWay 35 = .ok (.getfield 38, 3) := by decide +kernel
theorem dX2_countOnWay_38 : decode cX2_countOnWay 38 = .ok (.iload 5, 2) := by decide +kernel
theorem dX2_countOnWay_40 : decode cX2_countOnWay 40 = .ok (.iconst 1, 1) := by decide +kernel
theorem dX2_countOnWay_41 : decode cX2_countOnWay 41 = .ok (.iadd, 1) := by decide +kernel
theorem dX2_countOnWay_42 : decode cX2_countOnWay 42 = .ok (.iaload, 1) := by decide +kernel
theorem dX2_countOnWay_43 : decode cX2_countOnWay 43 = .ok (.if_icmp .ge 23, 3) := by decide +kernel
theorem dX2_countOnWay_46 : decode cX2_countOnWay 46 = .ok (.iload_n 3, 1) := by decide +kernel
theorem dX2_countOnWay_47 : decode cX2_countOnWay 47 = .ok (.aload_n 0, 1) := by decide +kernel
theorem dX2_countOnWay_48 : decode cX2_countOnWay 48 = .ok (.getfield 54, 3) := by decide +kernel
theorem dX2_countOnWay_51 : decode cX2_countOnWay 51 = .ok (.iload_n 1, 1) := by decide +kernel
theorem dX2_countOnWay_52 : decode cX2_countOnWay 52 = .ok (.iload_n 2, 1) := by decide +kernel
theorem dX2_countOnWay_53 : decode cX2_countOnWay 53 = .ok (.iload 6, 2) := by decide +kernel
theorem dX2_countOnWay_55 : decode cX2_countOnWay 55 = .ok (.invokevirtual 125, 3) := by decide +kernel
theorem dX2_countOnWay_58 : decode cX2_countOnWay 58 = .ok (.iadd, 1) := by decide +kernel
theorem dX2_countOnWay_59 : decode cX2_countOnWay 59 = .ok (.istore_n 3, 1) := by decide +kernel
theorem dX2_countOnWay_60 : decode cX2_countOnWay 60 = .ok (.iinc 6 1, 3) := by decide +kernel
theorem dX2_countOnWay_63 : decode cX2_countOnWay 63 = .ok (.goto (-31), 3) := by decide +kernel
theorem dX2_countOnWay_66 : decode cX2_countOnWay 66 = .ok (.iload 4, 2) := by decide +kernel
theorem dX2_countOnWay_68 : decode cX2_countOnWay 68 = .ok (.iconst 1, 1) := by decide +kernel
theorem dX2_countOnWay_69 : decode cX2_countOnWay 69 = .ok (.iadd, 1) := by decide +kernel
theorem dX2_countOnWay_70 : decode cX2_countOnWay 70 = .ok (.aload_n 0, 1) := by decide +kernel
theorem dX2_countOnWay_71 : decode cX2_countOnWay 71 = .ok (.getfield 71, 3) := by decide +kernel
theorem dX2_countOnWay_74 : decode cX2_countOnWay 74 = .ok (.if_icmp .ge 21, 3) := by decide +kernel
theorem dX2_countOnWay_77 : decode cX2_countOnWay 77 = .ok (.aload_n 0, 1) := by decide +kernel
theorem dX2_countOnWay_78 : decode cX2_countOnWay 78 = .ok (.iload 5, 2) := by decide +kernel
theorem dX2_countOnWay_80 : decode cX2_countOnWay 80 = .ok (.aload_n 0, 1) := by decide +kernel
theorem dX2_countOnWay_81 : decode cX2_countOnWay 81 = .ok (.getfield 41, 3) := by decide +kernel
theorem dX2_countOnWay_84 : decode cX2_countOnWay 84 = .ok (.iload 4, 2) := by decide +kernel
theorem dX2_countOnWay_86 : decode cX2_countOnWay 86 = .ok (.iconst 1, 1) := by decide +kernel
theorem dX2_countOnWay_87 : decode cX2_countOnWay 87 = .ok (.iadd, 1) := by decide +kernel
theorem dX2_countOnWay_88 : decode cX2_countOnWay 88 = .ok (.iaload, 1) := by decide +kernel
theorem dX2_countOnWay_89 : decode cX2_countOnWay 89 = .ok (.invokevirtual 128, 3) := by decide +kernel
theorem dX2_countOnWay_92 : decode cX2_countOnWay 92 = .ok (.goto 4, 3) := by decide +kernel
theorem dX2_countOnWay_95 : decode cX2_countOnWay 95 = .ok (.iconst (-1), 1) := by decide +kernel
theorem dX2_countOnWay_96 : decode cX2_countOnWay 96 = .ok (.istore 6, 2) := by decide +kernel
theorem dX2_countOnWay_98 : decode cX2_countOnWay 98 = .ok (.iload 6, 2) := by decide +kernel
theorem dX2_countOnWay_100 : decode cX2_countOnWay 100 = .ok (.aload_n 0, 1) := by decide +kernel
theorem dX2_countOnWay_101 : decode cX2_countOnWay 101 = .ok (.getfield 65, 3) := by decide +kernel
theorem dX2_countOnWay_104 : decode cX2_countOnWay 104 = .ok (.if_icmp .lt 17, 3) := by decide +kernel
theorem dX2_countOnWay_107 : decode cX2_countOnWay 107 = .ok (.iload_n 3, 1) := by decide +kernel
theorem dX2_countOnWay_108 : decode cX2_countOnWay 108 = .ok (.aload_n 0, 1) := by decide +kernel
theorem dX2_countOnWay_109 : decode cX2_countOnWay 109 = .ok (.getfield 54, 3) := by decide +kernel
theorem dX2_countOnWay_112 : decode cX2_countOnWay 112 = .ok (.iload_n 1, 1) := by decide +kernel
theorem dX2_countOnWay_113 : decode cX2_countOnWay 113 = .ok (.iload_n 2, 1) := by decide +kernel
theorem dX2_countOnWay_114 : decode cX2_countOnWay 114 = .ok (.iload 6, 2) := by decide +kernel
theorem dX2_countOnWay_116 : decode cX2_countOnWay 116 = .ok (.invokevirtual 125, 3) := by decide +kernel
theorem dX2_countOnWay_119 : decode cX2_countOnWay 119 = .ok (.iadd, 1) := by decide +kernel
theorem dX2_countOnWay_120 : decode cX2_countOnWay 120 = .ok (.istore_n 3, 1) := by decide +kernel
theorem dX2_countOnWay_121 : decode cX2_countOnWay 121 = .ok (.iinc 4 1, 3) := by decide +kernel
theorem dX2_countOnWay_124 : decode cX2_countOnWay 124 = .ok (.goto (-119), 3) := by decide +kernel
theorem dX2_countOnWay_127 : decode cX2_countOnWay 127 = .ok (.iload_n 3, 1) := by decide +kernel
theorem dX2_countOnWay_128 : decode cX2_countOnWay 128 = .ok (.ireturn, 1) := by decide +kernel
theorem dX2_leadsTowards_0 : decode cX2_leadsTowards 0 = .ok (.aload_n 0, 1) := by decide +kernel
theorem dX2_leadsTowards_1 : decode cX2_leadsTowards 1 = .ok (.iload_n 1, 1) := by decide +kernel
theorem dX2_leadsTowards_2 : decode cX2_leadsTowards 2 = .ok (.invokevirtual 115, 3) := by decide +kernel
theorem dX2_leadsTowards_5 : decode cX2_leadsTowards 5 = .ok (.istore_n 3, 1) := by decide +kernel
theorem dX2_leadsTowards_6 : decode cX2_leadsTowards 6 = .ok (.aload_n 0, 1) := by decide +kernel
theorem dX2_leadsTowards_7 : decode cX2_leadsTowards 7 = .ok (.getfield 29, 3) := by decide +kernel
theorem dX2_leadsTowards_10 : decode cX2_leadsTowards 10 = .ok (.iconst 0, 1) := by decide +kernel
theorem dX2_leadsTowards_11 : decode cX2_leadsTowards 11 = .ok (.aaload, 1) := by decide +kernel
theorem dX2_leadsTowards_12 : decode cX2_leadsTowards 12 = .ok (.iload_n 3, 1) := by decide +kernel
theorem dX2_leadsTowards_13 : decode cX2_leadsTowards 13 = .ok (.iaload, 1) := by decide +kernel
theorem dX2_leadsTowards_14 : decode cX2_leadsTowards 14 = .ok (.iload_n 2, 1) := by decide +kernel
theorem dX2_leadsTowards_15 : decode cX2_leadsTowards 15 = .ok (.if_icmp .ne 14, 3) := by decide +kernel
theorem dX2_leadsTowards_18 : decode cX2_leadsTowards 18 = .ok (.aload_n 0, 1) := by decide +kernel
theorem dX2_leadsTowards_19 : decode cX2_leadsTowards 19 = .ok (.getfield 32, 3) := by decide +kernel
theorem dX2_leadsTowards_22 : decode cX2_leadsTowards 22 = .ok (.iconst 0, 1) := by decide +kernel
theorem dX2_leadsTowards_23 : decode cX2_leadsTowards 23 = .ok (.aaload, 1) := by decide +kernel
theorem dX2_leadsTowards_24 : decode cX2_leadsTowards 24 = .ok (.iload_n 3, 1) := by decide +kernel
theorem dX2_leadsTowards_25 : decode cX2_leadsTowards 25 = .ok (.iaload, 1) := by decide +kernel
theorem dX2_leadsTowards_26 : decode cX2_leadsTowards 26 = .ok (.goto 11, 3) := by decide +kernel
theorem dX2_leadsTowards_29 : decode cX2_leadsTowards 29 = .ok (.aload_n 0, 1) := by decide +kernel
theorem dX2_leadsTowards_30 : decode cX2_leadsTowards 30 = .ok (.getfield 32, 3) := by decide +kernel
theorem dX2_leadsTowards_33 : decode cX2_leadsTowards 33 = .ok (.iconst 1, 1) := by decide +kernel
theorem dX2_leadsTowards_34 : decode cX2_leadsTowards 34 = .ok (.aaload, 1) := by decide +kernel
theorem dX2_leadsTowards_35 : decode cX2_leadsTowards 35 = .ok (.iload_n 3, 1) := by decide +kernel
theorem dX2_leadsTowards_36 : decode cX2_leadsTowards 36 = .ok (.iaload, 1) := by decide +kernel
theorem dX2_leadsTowards_37 : decode cX2_leadsTowards 37 = .ok (.ireturn, 1) := by decide +kernel
theorem dX3_init_0 : decode cX3_init 0 = .ok (.aload_n 0, 1) := by decide +kernel
theorem dX3_init_1 : decode cX3_init 1 = .ok (.invokespecial 3, 3) := by decide +kernel
theorem dX3_init_4 : decode cX3_init 4 = .ok (.aload_n 0, 1) := by decide +kernel
theorem dX3_init_5 : decode cX3_init 5 = .ok (.bipush 48, 2) := by decide +kernel
theorem dX3_init_7 : decode cX3_init 7 = .ok (.newarray .int, 2) := by decide +kernel
theorem dX3_init_9 : decode cX3_init 9 = .ok (.putfield 9, 3) := by decide +kernel
theorem dX3_init_12 : decode cX3_init 12 = .ok (.aload_n 0, 1) := by decide +kernel
theorem dX3_init_13 : decode cX3_init 13 = .ok (.bipush 48, 2) := by decide +kernel
theorem dX3_init_15 : decode cX3_init 15 = .ok (.newarray .int, 2) := by decide +kernel
theorem dX3_init_17 : decode cX3_init 17 = .ok (.putfield 15, 3) := by decide +kernel
theorem dX3_init_20 : decode cX3_init 20 = .ok (.aload_n 0, 1) := by decide +kernel
theorem dX3_init_21 : decode cX3_init 21 = .ok (.iconst 2, 1) := by decide +kernel
theorem dX3_init_22 : decode cX3_init 22 = .ok (.bipush 8, 2) := by decide +kernel
theorem dX3_init_24 : decode cX3_init 24 = .ok (.multianewarray 18 2, 4) := by decide +kernel
theorem dX3_init_28 : decode cX3_init 28 = .ok (.putfield 20, 3) := by decide +kernel
theorem dX3_init_31 : decode cX3_init 31 = .ok (.aload_n 0, 1) := by decide +kernel
theorem dX3_init_32 : decode cX3_init 32 = .ok (.bipush 100, 2) := by decide +kernel
theorem dX3_init_34 : decode cX3_init 34 = .ok (.newarray .int, 2) := by decide +kernel
theorem dX3_init_36 : decode cX3_init 36 = .ok (.putfield 23, 3) := by decide +kernel
theorem dX3_init_39 : decode cX3_init 39 = .ok (.aload_n 0, 1) := by decide +kernel
theorem dX3_init_40 : decode cX3_init 40 = .ok (.bipush 32, 2) := by decide +kernel
theorem dX3_init_42 : decode cX3_init 42 = .ok (.newarray .int, 2) := by decide +kernel
theorem dX3_init_44 : decode cX3_init 44 = .ok (.putfield 26, 3) := by decide +kernel
theorem dX3_init_47 : decode cX3_init 47 = .ok (.aload_n 0, 1) := by decide +kernel
theorem dX3_init_48 : decode cX3_init 48 = .ok (.bipush 32, 2) := by decide +kernel
theorem dX3_init_50 : decode cX3_init 50 = .ok (.newarray .int, 2) := by decide +kernel
theorem dX3_init_52 : decode cX3_init 52 = .ok (.putfield 29, 3) := by decide +kernel
theorem dX3_init_55 : decode cX3_init 55 = .ok (.return_, 1) := by decide +kernel
theorem dX3_go_0 : decode cX3_go 0 = .ok (.aload_n 0, 1) := by decide +kernel
theorem dX3_go_1 : decode cX3_go 1 = .ok (.invokevirtual 32, 3) := by decide +kernel
theorem dX3_go_4 : decode cX3_go 4 = .ok (.iconst 0, 1) := by decide +kernel
theorem dX3_go_5 : decode cX3_go 5 = .ok (.istore_n 3, 1) := by decide +kernel
theorem dX3_go_6 : decode cX3_go 6 = .ok (.iconst 0, 1) := by decide +kernel
theorem dX3_go_7 : decode cX3_go 7 = .ok (.istore 4, 2) := by decide +kernel
theorem dX3_go_9 : decode cX3_go 9 = .ok (.iload_n 3, 1) := by decide +kernel
theorem dX3_go_10 : decode cX3_go 10 = .ok (.ifCond .lt 97, 3) := by decide +kernel
theorem dX3_go_13 : decode cX3_go 13 = .ok (.iload 4, 2) := by decide +kernel
theorem dX3_go_15 : decode cX3_go 15 = .ok (.sipush 2000, 3) := by decide +kernel
theorem dX3_go_18 : decode cX3_go 18 = .ok (.if_icmp .gt 89, 3) := by decide +kernel
theorem dX3_go_21 : decode cX3_go 21 = .ok (.aload_n 1, 1) := by decide +kernel
theorem dX3_go_22 : decode cX3_go 22 = .ok (.getfield 35, 3) := by decide +kernel
theorem dX3_go_25 : decode cX3_go 25 = .ok (.iload_n 3, 1) := by decide +kernel
theorem dX3_go_26 : decode cX3_go 26 = .ok (.iaload, 1) := by decide +kernel
theorem dX3_go_27 : decode cX3_go 27 = .ok (.bipush 7, 2) := by decide +kernel
theorem dX3_go_29 : decode cX3_go 29 = .ok (.if_icmp .eq 29, 3) := by decide +kernel
theorem dX3_go_32 : decode cX3_go 32 = .ok (.aload_n 0, 1) := by decide +kernel
theorem dX3_go_33 : decode cX3_go 33 = .ok (.getfield 40, 3) := by decide +kernel
theorem dX3_go_36 : decode cX3_go 36 = .ok (.sipush 1000, 3) := by decide +kernel
theorem dX3_go_39 : decode cX3_go 39 = .ok (.if_icmp .lt 9, 3) := by decide +kernel
theorem dX3_go_42 : decode cX3_go 42 = .ok (.aload_n 0, 1) := by decide +kernel
theorem dX3_go_43 : decode cX3_go 43 = .ok (.iconst 2, 1) := by decide +kernel
theorem dX3_go_44 : decode cX3_go 44 = .ok (.putfield 44, 3) := by decide +kernel
theorem dX3_go_47 : decode cX3_go 47 = .ok (.return_, 1) := by decide +kernel
theorem dX3_go_48 : decode cX3_go 48 = .ok (.aload_n 0, 1) := by decide +kernel
theorem dX3_go_49 : decode cX3_go 49 = .ok (.dup, 1) := by decide +kernel
theorem dX3_go_50 : decode cX3_go 50 = .ok (.getfield 40, 3) := by decide +kernel
theorem dX3_go_53 : decode cX3_go 53 = .ok (.iconst 1, 1) := by decide +kernel
theorem dX3_go_54 : decode cX3_go 54 = .ok (.iadd, 1) := by decide +kernel
theorem dX3_go_55 : decode cX3_go 55 = .ok (.putfield 40, 3) := by decide +kernel
theorem dX3_go_58 : decode cX3_go 58 = .ok (.aload_n 0, 1) := by decide +kernel
theorem dX3_go_59 : decode cX3_go 59 = .ok (.aload_n 1, 1) := by decide +kernel
theorem dX3_go_60 : decode cX3_go 60 = .ok (.iload_n 2, 1) := by decide +kernel
theorem dX3_go_61 : decode cX3_go 61 = .ok (.iload_n 3, 1) := by decide +kernel
theorem dX3_go_62 : decode cX3_go 62 = .ok (.invokevirtual 47, 3) := by decide +kernel
theorem dX3_go_65 : decode cX3_go 65 = .ok (.ifCond .eq 13, 3) := by decide +kernel
theorem dX3_go_68 : decode cX3_go 68 = .ok (.aload_n 0, 1) := by decide +kernel
theorem dX3_go_69 : decode cX3_go 69 = .ok (.aload_n 1, 1) := by decide +kernel
theorem dX3_go_70 : decode cX3_go 70 = .ok (.iload_n 2, 1) := by decide +kernel
theorem dX3_go_71 : decode cX3_go 71 = .ok (.iload_n 3, 1) := by decide +kernel
theorem dX3_go_72 : decode cX3_go 72 = .ok (.invokevirtual 51, 3) := by decide +kernel
theorem dX3_go_75 : decode cX3_go 75 = .ok (.ifCond .ne 19, 3) := by decide +kernel
theorem dX3_go_78 : decode cX3_go 78 = .ok (.aload_n 0, 1) := by decide +kernel
theorem dX3_go_79 : decode cX3_go 79 = .ok (.iconst 1, 1) := by decide +kernel
theorem dX3_go_80 : decode cX3_go 80 = .ok (.putfield 44, 3) := by decide +kernel
theorem dX3_go_83 : decode cX3_go 83 = .ok (.aload_n 0, 1) := by decide +kernel
theorem dX3_go_84 : decode cX3_go 84 = .ok (.aload_n 1, 1) := by decide +kernel
theorem dX3_go_85 : decode cX3_go 85 = .ok (.getfield 54, 3) := by decide +kernel
theorem dX3_go_88 : decode cX3_go 88 = .ok (.iload_n 3, 1) := by decide +kernel
theorem dX3_go_89 : decode cX3_go 89 = .ok (.iaload, 1) := by decide +kernel
theorem dX3_go_90 : decode cX3_go 90 = .ok (.putfield 57, 3) := by decide +kernel
theorem dX3_go_93 : decode cX3_go 93 = .ok (.return_, 1) := by decide +kernel
theorem dX3_go_94 : decode cX3_go 94 = .ok (.aload_n 0, 1) := by decide +kernel
theorem dX3_go_95 : decode cX3_go 95 = .ok (.aload_n 1, 1) := by decide +kernel
theorem dX3_go_96 : decode cX3_go 96 = .ok (.iload_n 3, 1) := by decide +kernel
theorem dX3_go_97 : decode cX3_go 97 = .ok (.invokevirtual 60, 3) := by decide +kernel
theorem dX3_go_100 : decode cX3_go 100 = .ok (.istore_n 3, 1) := by decide +kernel
theorem dX3_go_101 : decode cX3_go 101 = .ok (.iinc 4 1, 3) := by decide +kernel
theorem dX3_go_104 : decode cX3_go 104 = .ok (.goto (-95), 3) := by decide +kernel
theorem dX3_go_107 : decode cX3_go 107 = .ok (.return_, 1) := by decide +kernel
theorem dX3_reset_0 : decode cX3_reset 0 = .ok (.aload_n 0, 1) := by decide +kernel
theorem dX3_reset_1 : decode cX3_reset 1 = .ok (.getfield 9, 3) := by decide +kernel
theorem dX3_reset_4 : decode cX3_reset 4 = .ok (.iconst 0, 1) := by decide +kernel
theorem dX3_reset_5 : decode cX3_reset 5 = .ok (.aload_n 0, 1) := by decide +kernel
theorem dX3_reset_6 : decode cX3_reset 6 = .ok (.getfield 15, 3) := by decide +kernel
theorem dX3_reset_9 : decode cX3_reset 9 = .ok (.iconst 0, 1) := by decide +kernel
theorem dX3_reset_10 : decode cX3_reset 10 = .ok (.bipush 48, 2) := by decide +kernel
theorem dX3_reset_12 : decode cX3_reset 12 = .ok (.invokestatic 64, 3) := by decide +kernel
theorem dX3_reset_15 : decode cX3_reset 15 = .ok (.iconst 0, 1) := by decide +kernel
theorem dX3_reset_16 : decode cX3_reset 16 = .ok (.istore_n 1, 1) := by decide +kernel
theorem dX3_reset_17 : decode cX3_reset 17 = .ok (.iload_n 1, 1) := by decide +kernel
theorem dX3_reset_18 : decode cX3_reset 18 = .ok (.iconst 2, 1) := by decide +kernel
theorem dX3_reset_19 : decode cX3_reset 19 = .ok (.if_icmp .ge 19, 3) := by decide +kernel
theorem dX3_reset_22 : decode cX3_reset 22 = .ok (.aload_n 0, 1) := by decide +kernel
theorem dX3_reset_23 : decode cX3_reset 23 = .ok (.getfield 20, 3) := by decide +kernel
theorem dX3_reset_26 : decode cX3_reset 26 = .ok (.iload_n 1, 1) := by decide +kernel
theorem dX3_reset_27 : decode cX3_reset 27 = .ok (.aaload, 1) := by decide +kernel
theorem dX3_reset_28 : decode cX3_reset 28 = .ok (.iconst 0, 1) := by decide +kernel
theorem dX3_reset_29 : decode cX3_reset 29 = .ok (.invokestatic 70, 3) := by decide +kernel
theorem dX3_reset_32 : decode cX3_reset 32 = .ok (.iinc 1 1, 3) := by decide +kernel
theorem dX3_reset_35 : decode cX3_reset 35 = .ok (.goto (-18), 3) := by decide +kernel
theorem dX3_reset_38 : decode cX3_reset 38 = .ok (.aload_n 0, 1) := by decide +kernel
theorem dX3_reset_39 : decode cX3_reset 39 = .ok (.getfield 26, 3) := by decide +kernel
theorem dX3_reset_42 : decode cX3_reset 42 = .ok (.iconst 0, 1) := by decide +kernel
theorem dX3_reset_43 : decode cX3_reset 43 = .ok (.invokestatic 70, 3) := by decide +kernel
theorem dX3_reset_46 : decode cX3_reset 46 = .ok (.aload_n 0, 1) := by decide +kernel
theorem dX3_reset_47 : decode cX3_reset 47 = .ok (.getfield 29, 3) := by decide +kernel
theorem dX3_reset_50 : decode cX3_reset 50 = .ok (.iconst 0, 1) := by decide +kernel
theorem dX3_reset_51 : decode cX3_reset 51 = .ok (.invokestatic 70, 3) := by decide +kernel
theorem dX3_reset_54 : decode cX3_reset 54 = .ok (.aload_n 0, 1) := by decide +kernel
theorem dX3_reset_55 : decode cX3_reset 55 = .ok (.iconst 0, 1) := by decide +kernel
theorem dX3_reset_56 : decode cX3_reset 56 = .ok (.putfield 44, 3) := by decide +kernel
theorem dX3_reset_59 : decode cX3_reset 59 = .ok (.aload_n 0, 1) := by decide +kernel
theorem dX3_reset_60 : decode cX3_reset 60 = .ok (.iconst 0, 1) := by decide +kernel
theorem dX3_reset_61 : decode cX3_reset 61 = .ok (.putfield 40, 3) := by decide +kernel
theorem dX3_reset_64 : decode cX3_reset 64 = .ok (.aload_n 0, 1) := by decide +kernel
theorem dX3_reset_65 : decode cX3_reset 65 = .ok (.iconst 0, 1) := by decide +kernel
theorem dX3_reset_66 : decode cX3_reset 66 = .ok (.putfield 76, 3) := by decide +kernel
theorem dX3_reset_69 : decode cX3_reset 69 = .ok (.aload_n 0, 1) := by decide +kernel
theorem dX3_reset_70 : decode cX3_reset 70 = .ok (.iconst (-1), 1) := by decide +kernel
theorem dX3_reset_71 : decode cX3_reset 71 = .ok (.putfield 57, 3) := by decide +kernel
theorem dX3_reset_74 : decode cX3_reset 74 = .ok (.aload_n 0, 1) := by decide +kernel
theorem dX3_reset_75 : decode cX3_reset 75 = .ok (.iconst 0, 1) := by decide +kernel
theorem dX3_reset_76 : decode cX3_reset 76 = .ok (.putfield 79, 3) := by decide +kernel
theorem dX3_reset_79 : decode cX3_reset 79 = .ok (.return_, 1) := by decide +kernel
theorem dX3_setAhead_0 : decode cX3_setAhead 0 = .ok (.aload_n 1, 1) := by decide +kernel
theorem dX3_setAhead_1 : decode cX3_setAhead 1 = .ok (.getfield 82, 3) := by decide +kernel
theorem dX3_setAhead_4 : decode cX3_setAhead 4 = .ok (.iload_n 2, 1) := by decide +kernel
theorem dX3_setAhead_5 : decode cX3_setAhead 5 = .ok (.iload_n 3, 1) := by decide +kernel
theorem dX3_setAhead_6 : decode cX3_setAhead 6 = .ok (.invokevirtual 86, 3) := by decide +kernel
theorem dX3_setAhead_9 : decode cX3_setAhead 9 = .ok (.istore 4, 2) := by decide +kernel
theorem dX3_setAhead_11 : decode cX3_setAhead 11 = .ok (.iconst 0, 1) := by decide +kernel
theorem dX3_setAhead_12 : decode cX3_setAhead 12 = .ok (.istore 5, 2) := by decide +kernel
theorem dX3_setAhead_14 : decode cX3_setAhead 14 = .ok (.iload 4, 2) := by decide +kernel
theorem dX3_setAhead_16 : decode cX3_setAhead 16 = .ok (.ifCond .eq 58, 3) := by decide +kernel
theorem dX3_setAhead_19 : decode cX3_setAhead 19 = .ok (.iload 5, 2) := by decide +kernel
theorem dX3_setAhead_21 : decode cX3_setAhead 21 = .ok (.aload_n 1, 1) := by decide +kernel
theorem dX3_setAhead_22 : decode cX3_setAhead 22 = .ok (.getfield 91, 3) := by decide +kernel
theorem dX3_setAhead_25 : decode cX3_setAhead 25 = .ok (.getfield 95, 3) := by decide +kernel
theorem dX3_setAhead_28 : decode cX3_setAhead 28 = .ok (.if_icmp .ge 46, 3) := by decide +kernel
theorem dX3_setAhead_31 : decode cX3_setAhead 31 = .ok (.iload 4, 2) := by decide +kernel
theorem dX3_setAhead_33 : decode cX3_setAhead 33 = .ok (.iload 5, 2) := by decide +kernel
theorem dX3_setAhead_35 : decode cX3_setAhead 35 = .ok (.iushr, 1) := by decide +kernel
theorem dX3_setAhead_36 : decode cX3_setAhead 36 = .ok (.iconst 1, 1) := by decide +kernel
theorem dX3_setAhead_37 : decode cX3_setAhead 37 = .ok (.iand, 1) := by decide +kernel
theorem dX3_setAhead_38 : decode cX3_setAhead 38 = .ok (.iconst 1, 1) := by decide +kernel
theorem dX3_setAhead_39 : decode cX3_setAhead 39 = .ok (.if_icmp .ne 29, 3) := by decide +kernel
theorem dX3_setAhead_42 : decode cX3_setAhead 42 = .ok (.aload_n 0, 1) := by decide +kernel
theorem dX3_setAhead_43 : decode cX3_setAhead 43 = .ok (.aload_n 1, 1) := by decide +kernel
theorem dX3_setAhead_44 : decode cX3_setAhead 44 = .ok (.getfield 91, 3) := by decide +kernel
theorem dX3_setAhead_47 : decode cX3_setAhead 47 = .ok (.iload 5, 2) := by decide +kernel
theorem dX3_setAhead_49 : decode cX3_setAhead 49 = .ok (.invokevirtual 100, 3) := by decide +kernel
theorem dX3_setAhead_52 : decode cX3_setAhead 52 = .ok (.ifCond .ne 5, 3) := by decide +kernel
theorem dX3_setAhead_55 : decode cX3_setAhead 55 = .ok (.iconst 0, 1) := by decide +kernel
theorem dX3_setAhead_56 : decode cX3_setAhead 56 = .ok (.ireturn, 1) := by decide +kernel
theorem dX3_setAhead_57 : decode cX3_setAhead 57 = .ok (.aload_n 0, 1) := by decide +kernel
theorem dX3_setAhead_58 : decode cX3_setAhead 58 = .ok (.getfield 29, 3) := by decide +kernel
theorem dX3_setAhead_61 : decode cX3_setAhead 61 = .ok (.iload 5, 2) := by decide +kernel
theorem dX3_setAhead_63 : decode cX3_setAhead 63 = .ok (.aload_n 0, 1) := by decide +kernel
theorem dX3_setAhead_64 : decode cX3_setAhead 64 = .ok (.getfield 104, 3) := by decide +kernel
theorem dX3_setAhead_67 : decode cX3_setAhead 67 = .ok (.iastore, 1) := by decide +kernel
theorem dX3_setAhead_68 : decode cX3_setAhead 68 = .ok (.iinc 5 1, 3) := by decide +kernel
theorem dX3_setAhead_71 : decode cX3_setAhead 71 = .ok (.goto (-57), 3) := by decide +kernel
theorem dX3_setAhead_74 : decode cX3_setAhead 74 = .ok (.iconst 1, 1) := by decide +kernel
theorem dX3_setAhead_75 : decode cX3_setAhead 75 = .ok (.ireturn, 1) := by decide +kernel
theorem dX3_doNode_0 : decode cX3_doNode 0 = .ok (.aload_n 0, 1) := by decide +kernel
theorem dX3_doNode_1 : decode cX3_doNode 1 = .ok (.aload_n 1, 1) := by decide +kernel
theorem dX3_doNode_2 : decode cX3_doNode 2 = .ok (.getfield 107, 3) := by decide +kernel
theorem dX3_doNode_5 : decode cX3_doNode 5 = .ok (.iconst 0, 1) := by decide +kernel
theorem dX3_doNode_6 : decode cX3_doNode 6 = .ok (.aaload, 1) := by decide +kernel
theorem dX3_doNode_7 : decode cX3_doNode 7 = .ok (.iload_n 3, 1) := by decide +kernel
theorem dX3_doNode_8 : decode cX3_doNode 8 = .ok (.iaload, 1) := by decide +kernel
theorem dX3_doNode_9 : decode cX3_doNode 9 = .ok (.invokevirtual 110, 3) := by decide +kernel
theorem dX3_doNode_12 : decode cX3_doNode 12 = .ok (.istore 4, 2) := by decide +kernel
theorem dX3_doNode_14 : decode cX3_doNode 14 = .ok (.aload_n 0, 1) := by decide +kernel
theorem dX3_doNode_15 : decode cX3_doNode 15 = .ok (.aload_n 1, 1) := by decide +kernel
theorem dX3_doNode_16 : decode cX3_doNode 16 = .ok (.getfield 107, 3) := by decide +kernel
theorem dX3_doNode_19 : decode cX3_doNode 19 = .ok (.iconst 1, 1) := by decide +kernel
theorem dX3_doNode_20 : decode cX3_doNode 20 = .ok (.aaload, 1) := by decide +kernel
theorem dX3_doNode_21 : decode cX3_doNode 21 = .ok (.iload_n 3, 1) := by decide +kernel
theorem dX3_doNode_22 : decode cX3_doNode 22 = .ok (.iaload, 1) := by decide +kernel
theorem dX3_doNode_23 : decode cX3_doNode 23 = .ok (.invokevirtual 110, 3) := by decide +kernel
theorem dX3_doNode_26 : decode cX3_doNode 26 = .ok (.istore 5, 2) := by decide +kernel
theorem dX3_doNode_28 : decode cX3_doNode 28 = .ok (.aload_n 1, 1) := by decide +kernel
theorem dX3_doNode_29 : decode cX3_doNode 29 = .ok (.getfield 35, 3) := by decide +kernel
theorem dX3_doNode_32 : decode cX3_doNode 32 = .ok (.iload_n 3, 1) := by decide +kernel
theorem dX3_doNode_33 : decode cX3_doNode 33 = .ok (.iaload, 1) := by decide +kernel
theorem dX3_doNode_34 : decode cX3_doNode 34 = .ok (.tableswitch 75 0 3 #[30, 38, 52, 67], 30) := by decide +kernel
theorem dX3_doNode_64 : decode cX3_doNode 64 = .ok (.aload_n 0, 1) := by decide +kernel
theorem dX3_doNode_65 : decode cX3_doNode 65 = .ok (.aload_n 1, 1) := by decide +kernel
theorem dX3_doNode_66 : decode cX3_doNode 66 = .ok (.iload_n 2, 1) := by decide +kernel
theorem dX3_doNode_67 : decode cX3_doNode 67 = .ok (.iload_n 3, 1) := by decide +kernel
theorem dX3_doNode_68 : decode cX3_doNode 68 = .ok (.invokevirtual 114, 3) := by decide +kernel
theorem dX3_doNode_71 : decode cX3_doNode 71 = .ok (.ireturn, 1) := by decide +kernel
theorem dX3_doNode_72 : decode cX3_doNode 72 = .ok (.aload_n 0, 1) := by decide +kernel
theorem dX3_doNode_73 : decode cX3_doNode 73 = .ok (.aload_n 1, 1) := by decide +kernel
theorem dX3_doNode_74 : decode cX3_doNode 74 = .ok (.getfield 117, 3) := by decide +kernel
theorem dX3_doNode_77 : decode cX3_doNode 77 = .ok (.iload_n 3, 1) := by decide +kernel
theorem dX3_doNode_78 : decode cX3_doNode 78 = .ok (.iaload, 1) := by decide +kernel
theorem dX3_doNode_79 : decode cX3_doNode 79 = .ok (.iload 4, 2) := by decide +kernel
theorem dX3_doNode_81 : decode cX3_doNode 81 = .ok (.invokevirtual 120, 3) := by decide +kernel
theorem dX3_doNode_84 : decode cX3_doNode 84 = .ok (.iconst 1, 1) := by decide +kernel
theorem dX3_doNode_85 : decode cX3_doNode 85 = .ok (.ireturn, 1) := by decide +kernel
theorem dX3_doNode_86 : decode cX3_doNode 86 = .ok (.aload_n 0, 1) := by decide +kernel
theorem dX3_doNode_87 : decode cX3_doNode 87 = .ok (.aload_n 1, 1) := by decide +kernel
theorem dX3_doNode_88 : decode cX3_doNode 88 = .ok (.getfield 117, 3) := by decide +kernel
theorem dX3_doNode_91 : decode cX3_doNode 91 = .ok (.iload_n 3, 1) := by decide +kernel
theorem dX3_doNode_92 : decode cX3_doNode 92 = .ok (.iaload, 1) := by decide +kernel
theorem dX3_doNode_93 : decode cX3_doNode 93 = .ok (.iload 4, 2) := by decide +kernel
theorem dX3_doNode_95 : decode cX3_doNode 95 = .ok (.iload 5, 2) := by decide +kernel
theorem dX3_doNode_97 : decode cX3_doNode 97 = .ok (.invokevirtual 124, 3) := by decide +kernel
theorem dX3_doNode_100 : decode cX3_doNode 100 = .ok (.ireturn, 1) := by decide +kernel
theorem dX3_doNode_101 : decode cX3_doNode 101 = .ok (.aload_n 0, 1) := by decide +kernel
theorem dX3_doNode_102 : decode cX3_doNode 102 = .ok (.iload 4, 2) := by decide +kernel
theorem dX3_doNode_104 : decode cX3_doNode 104 = .ok (.invokevirtual 128, 3) := by decide +kernel
theorem dX3_doNode_107 : decode cX3_doNode 107 = .ok (.iconst 1, 1) := by decide +kernel
theorem dX3_doNode_108 : decode cX3_doNode 108 = .ok (.ireturn, 1) := by decide +kernel
theorem dX3_doNode_109 : decode cX3_doNode 109 = .ok (.iconst 1, 1) := by decide +kernel
theorem dX3_doNode_110 : decode cX3_doNode 110 = .ok (.ireturn, 1) := by decide +kernel
theorem dX3_giveSum_0 : decode cX3_giveSum 0 = .ok (.aload_n 1, 1) := by decide +kernel
theorem dX3_giveSum_1 : decode cX3_giveSum 1 = .ok (.getfield 132, 3) := by decide +kernel
theorem dX3_giveSum_4 : decode cX3_giveSum 4 = .ok (.iload_n 3, 1) := by decide +kernel
theorem dX3_giveSum_5 : decode cX3_giveSum 5 = .ok (.iaload, 1) := by decide +kernel
theorem dX3_giveSum_6 : decode cX3_giveSum 6 = .ok (.istore 4, 2) := by decide +kernel
theorem dX3_giveSum_8 : decode cX3_giveSum 8 = .ok (.aload_n 1, 1) := by decide +kernel
theorem dX3_giveSum_9 : decode cX3_giveSum 9 = .ok (.getfield 91, 3) := by decide +kernel
theorem dX3_giveSum_12 : decode cX3_giveSum 12 = .ok (.iload 4, 2) := by decide +kernel
theorem dX3_giveSum_14 : decode cX3_giveSum 14 = .ok (.invokevirtual 135, 3) := by decide +kernel
theorem dX3_giveSum_17 : decode cX3_giveSum 17 = .ok (.ifCond .ne 5, 3) := by decide +kernel
theorem dX3_giveSum_20 : decode cX3_giveSum 20 = .ok (.iconst 1, 1) := by decide +kernel
theorem dX3_giveSum_21 : decode cX3_giveSum 21 = .ok (.ireturn, 1) := by decide +kernel
theorem dX3_giveSum_22 : decode cX3_giveSum 22 = .ok (.aload_n 1, 1) := by decide +kernel
theorem dX3_giveSum_23 : decode cX3_giveSum 23 = .ok (.getfield 82, 3) := by decide +kernel
theorem dX3_giveSum_26 : decode cX3_giveSum 26 = .ok (.iload_n 2, 1) := by decide +kernel
theorem dX3_giveSum_27 : decode cX3_giveSum 27 = .ok (.iload_n 3, 1) := by decide +kernel
theorem dX3_giveSum_28 : decode cX3_giveSum 28 = .ok (.invokevirtual 139, 3) := by decide +kernel
theorem dX3_giveSum_31 : decode cX3_giveSum 31 = .ok (.iload 4, 2) := by decide +kernel
theorem dX3_giveSum_33 : decode cX3_giveSum 33 = .ok (.iushr, 1) := by decide +kernel
theorem dX3_giveSum_34 : decode cX3_giveSum 34 = .ok (.iconst 1, 1) := by decide +kernel
theorem dX3_giveSum_35 : decode cX3_giveSum 35 = .ok (.iand, 1) := by decide +kernel
theorem dX3_giveSum_36 : decode cX3_giveSum 36 = .ok (.iconst 1, 1) := by decide +kernel
theorem dX3_giveSum_37 : decode cX3_giveSum 37 = .ok (.if_icmp .ne 22, 3) := by decide +kernel
theorem dX3_giveSum_40 : decode cX3_giveSum 40 = .ok (.aload_n 0, 1) := by decide +kernel
theorem dX3_giveSum_41 : decode cX3_giveSum 41 = .ok (.aload_n 1, 1) := by decide +kernel
theorem dX3_giveSum_42 : decode cX3_giveSum 42 = .ok (.getfield 117, 3) := by decide +kernel
theorem dX3_giveSum_45 : decode cX3_giveSum 45 = .ok (.iload_n 3, 1) := by decide +kernel
theorem dX3_giveSum_46 : decode cX3_giveSum 46 = .ok (.iaload, 1) := by decide +kernel
theorem dX3_giveSum_47 : decode cX3_giveSum 47 = .ok (.aload_n 0, 1) := by decide +kernel
theorem dX3_giveSum_48 : decode cX3_giveSum 48 = .ok (.getfield 29, 3) := by decide +kernel
theorem dX3_giveSum_51 : decode cX3_giveSum 51 = .ok (.iload 4, 2) := by decide +kernel
theorem dX3_giveSum_53 : decode cX3_giveSum 53 = .ok (.iaload, 1) := by decide +kernel
theorem dX3_giveSum_54 : decode cX3_giveSum 54 = .ok (.invokevirtual 120, 3) := by decide +kernel
theorem dX3_giveSum_57 : decode cX3_giveSum 57 = .ok (.iconst 1, 1) := by decide +kernel
theorem dX3_giveSum_58 : decode cX3_giveSum 58 = .ok (.ireturn, 1) := by decide +kernel
theorem dX3_giveSum_59 : decode cX3_giveSum 59 = .ok (.aload_n 0, 1) := by decide +kernel
theorem dX3_giveSum_60 : decode cX3_giveSum 60 = .ok (.aload_n 1, 1) := by decide +kernel
theorem dX3_giveSum_61 : decode cX3_giveSum 61 = .ok (.getfield 91, 3) := by decide +kernel
theorem dX3_giveSum_64 : decode cX3_giveSum 64 = .ok (.iload 4, 2) := by decide +kernel
theorem dX3_giveSum_66 : decode cX3_giveSum 66 = .ok (.invokevirtual 100, 3) := by decide +kernel
theorem dX3_giveSum_69 : decode cX3_giveSum 69 = .ok (.ifCond .ne 5, 3) := by decide +kernel
theorem dX3_giveSum_72 : decode cX3_giveSum 72 = .ok (.iconst 0, 1) := by decide +kernel
theorem dX3_giveSum_73 : decode cX3_giveSum 73 = .ok (.ireturn, 1) := by decide +kernel
theorem dX3_giveSum_74 : decode cX3_giveSum 74 = .ok (.aload_n 0, 1) := by decide +kernel
theorem dX3_giveSum_75 : decode cX3_giveSum 75 = .ok (.aload_n 1, 1) := by decide +kernel
theorem dX3_giveSum_76 : decode cX3_giveSum 76 = .ok (.getfield 117, 3) := by decide +kernel
theorem dX3_giveSum_79 : decode cX3_giveSum 79 = .ok (.iload_n 3, 1) := by decide +kernel
theorem dX3_giveSum_80 : decode cX3_giveSum 80 = .ok (.iaload, 1) := by decide +kernel
theorem dX3_giveSum_81 : decode cX3_giveSum 81 = .ok (.aload_n 0, 1) := by decide +kernel
theorem dX3_giveSum_82 : decode cX3_giveSum 82 = .ok (.getfield 104, 3) := by decide +kernel
theorem dX3_giveSum_85 : decode cX3_giveSum 85 = .ok (.invokevirtual 120, 3) := by decide +kernel
theorem dX3_giveSum_88 : decode cX3_giveSum 88 = .ok (.iconst 1, 1) := by decide +kernel
theorem dX3_giveSum_89 : decode cX3_giveSum 89 = .ok (.ireturn, 1) := by decide +kernel
theorem dX3_giveName_0 : decode cX3_giveName 0 = .ok (.iload_n 1, 1) := by decide +kernel
theorem dX3_giveName_1 : decode cX3_giveName 1 = .ok (.ifCond .lt 16, 3) := by decide +kernel
theorem dX3_giveName_4 : decode cX3_giveName 4 = .ok (.iload_n 1, 1) := by decide +kernel
theorem dX3_giveName_5 : decode cX3_giveName 5 = .ok (.bipush 48, 2) := by decide +kernel
theorem dX3_giveName_7 : decode cX3_giveName 7 = .ok (.if_icmp .ge 10, 3) := by decide +kernel
theorem dX3_giveName_10 : decode cX3_giveName 10 = .ok (.aload_n 0, 1) := by decide +kernel
theorem dX3_giveName_11 : decode cX3_giveName 11 = .ok (.getfield 15, 3) := by decide +kernel
theorem dX3_giveName_14 : decode cX3_giveName 14 = .ok (.iload_n 1, 1) := by decide +kernel
theorem dX3_giveName_15 : decode cX3_giveName 15 = .ok (.iload_n 2, 1) := by decide +kernel
theorem dX3_giveName_16 : decode cX3_giveName 16 = .ok (.iastore, 1) := by decide +kernel
theorem dX3_giveName_17 : decode cX3_giveName 17 = .ok (.return_, 1) := by decide +kernel
theorem dX3_giveRow_0 : decode cX3_giveRow 0 = .ok (.iload_n 1, 1) := by decide +kernel
theorem dX3_giveRow_1 : decode cX3_giveRow 1 = .ok (.iload_n 2, 1) := by decide +kernel
theorem dX3_giveRow_2 : decode cX3_giveRow 2 = .ok (.invokestatic 142, 3) := by decide +kernel
theorem dX3_giveRow_5 : decode cX3_giveRow 5 = .ok (.ifCond .ne 5, 3) := by decide +kernel
theorem dX3_giveRow_8 : decode cX3_giveRow 8 = .ok (.iconst 0, 1) := by decide +kernel
theorem dX3_giveRow_9 : decode cX3_giveRow 9 = .ok (.ireturn, 1) := by decide +kernel
theorem dX3_giveRow_10 : decode cX3_giveRow 10 = .ok (.aload_n 0, 1) := by decide +kernel
theorem dX3_giveRow_11 : decode cX3_giveRow 11 = .ok (.getfield 20, 3) := by decide +kernel
theorem dX3_giveRow_14 : decode cX3_giveRow 14 = .ok (.iload_n 1, 1) := by decide +kernel
theorem dX3_giveRow_15 : decode cX3_giveRow 15 = .ok (.aaload, 1) := by decide +kernel
theorem dX3_giveRow_16 : decode cX3_giveRow 16 = .ok (.iload_n 2, 1) := by decide +kernel
theorem dX3_giveRow_17 : decode cX3_giveRow 17 = .ok (.iload_n 3, 1) := by decide +kernel
theorem dX3_giveRow_18 : decode cX3_giveRow 18 = .ok (.iastore, 1) := by decide +kernel
theorem dX3_giveRow_19 : decode cX3_giveRow 19 = .ok (.iconst 1, 1) := by decide +kernel
theorem dX3_giveRow_20 : decode cX3_giveRow 20 = .ok (.ireturn, 1) := by decide +kernel
theorem dX3_tellValue_0 : decode cX3_tellValue 0 = .ok (.aload_n 0, 1) := by decide +kernel
theorem dX3_tellValue_1 : decode cX3_tellValue 1 = .ok (.getfield 76, 3) := by decide +kernel
theorem dX3_tellValue_4 : decode cX3_tellValue 4 = .ok (.bipush 100, 2) := by decide +kernel
theorem dX3_tellValue_6 : decode cX3_tellValue 6 = .ok (.if_icmp .ge 13, 3) := by decide +kernel
theorem dX3_tellValue_9 : decode cX3_tellValue 9 = .ok (.aload_n 0, 1) := by decide +kernel
theorem dX3_tellValue_10 : decode cX3_tellValue 10 = .ok (.getfield 23, 3) := by decide +kernel
theorem dX3_tellValue_13 : decode cX3_tellValue 13 = .ok (.aload_n 0, 1) := by decide +kernel
theorem dX3_tellValue_14 : decode cX3_tellValue 14 = .ok (.getfield 76, 3) := by decide +kernel
theorem dX3_tellValue_17 : decode cX3_tellValue 17 = .ok (.iload_n 1, 1) := by decide +kernel
theorem dX3_tellValue_18 : decode cX3_tellValue 18 = .ok (.iastore, 1) := by decide +kernel
theorem dX3_tellValue_19 : decode cX3_tellValue 19 = .ok (.aload_n 0, 1) := by decide +kernel
theorem dX3_tellValue_20 : decode cX3_tellValue 20 = .ok (.dup, 1) := by decide +kernel
theorem dX3_tellValue_21 : decode cX3_tellValue 21 = .ok (.getfield 76, 3) := by decide +kernel
theorem dX3_tellValue_24 : decode cX3_tellValue 24 = .ok (.iconst 1, 1) := by decide +kernel
theorem dX3_tellValue_25 : decode cX3_tellValue 25 = .ok (.iadd, 1) := by decide +kernel
theorem dX3_tellValue_26 : decode cX3_tellValue 26 = .ok (.putfield 76, 3) := by decide +kernel
theorem dX3_tellValue_29 : decode cX3_tellValue 29 = .ok (.return_, 1) := by decide +kernel
theorem dX3_work_0 : decode cX3_work 0 = .ok (.aload_n 0, 1) := by decide +kernel
theorem dX3_work_1 : decode cX3_work 1 = .ok (.getfield 26, 3) := by decide +kernel
theorem dX3_work_4 : decode cX3_work 4 = .ok (.iload_n 2, 1) := by decide +kernel
theorem dX3_work_5 : decode cX3_work 5 = .ok (.dup2, 1) := by decide +kernel
theorem dX3_work_6 : decode cX3_work 6 = .ok (.iaload, 1) := by decide +kernel
theorem dX3_work_7 : decode cX3_work 7 = .ok (.iconst 1, 1) := by decide +kernel
theorem dX3_work_8 : decode cX3_work 8 = .ok (.iadd, 1) := by decide +kernel
theorem dX3_work_9 : decode cX3_work 9 = .ok (.iastore, 1) := by decide +kernel
theorem dX3_work_10 : decode cX3_work 10 = .ok (.aload_n 0, 1) := by decide +kernel
theorem dX3_work_11 : decode cX3_work 11 = .ok (.dup, 1) := by decide +kernel
theorem dX3_work_12 : decode cX3_work 12 = .ok (.getfield 79, 3) := by decide +kernel
theorem dX3_work_15 : decode cX3_work 15 = .ok (.iconst 1, 1) := by decide +kernel
theorem dX3_work_16 : decode cX3_work 16 = .ok (.iadd, 1) := by decide +kernel
theorem dX3_work_17 : decode cX3_work 17 = .ok (.putfield 79, 3) := by decide +kernel
theorem dX3_work_20 : decode cX3_work 20 = .ok (.aload_n 0, 1) := by decide +kernel
theorem dX3_work_21 : decode cX3_work 21 = .ok (.aload_n 1, 1) := by decide +kernel
theorem dX3_work_22 : decode cX3_work 22 = .ok (.getfield 146, 3) := by decide +kernel
theorem dX3_work_25 : decode cX3_work 25 = .ok (.iload_n 2, 1) := by decide +kernel
theorem dX3_work_26 : decode cX3_work 26 = .ok (.iaload, 1) := by decide +kernel
theorem dX3_work_27 : decode cX3_work 27 = .ok (.invokevirtual 110, 3) := by decide +kernel
theorem dX3_work_30 : decode cX3_work 30 = .ok (.istore_n 3, 1) := by decide +kernel
theorem dX3_work_31 : decode cX3_work 31 = .ok (.aload_n 0, 1) := by decide +kernel
theorem dX3_work_32 : decode cX3_work 32 = .ok (.aload_n 1, 1) := by decide +kernel
theorem dX3_work_33 : decode cX3_work 33 = .ok (.getfield 149, 3) := by decide +kernel
theorem dX3_work_36 : decode cX3_work 36 = .ok (.iload_n 2, 1) := by decide +kernel
theorem dX3_work_37 : decode cX3_work 37 = .ok (.iaload, 1) := by decide +kernel
theorem dX3_work_38 : decode cX3_work 38 = .ok (.invokevirtual 110, 3) := by decide +kernel
theorem dX3_work_41 : decode cX3_work 41 = .ok (.istore 4, 2) := by decide +kernel
theorem dX3_work_43 : decode cX3_work 43 = .ok (.aload_n 1, 1) := by decide +kernel
theorem dX3_work_44 : decode cX3_work 44 = .ok (.getfield 152, 3) := by decide +kernel
theorem dX3_work_47 : decode cX3_work 47 = .ok (.iload_n 2, 1) := by decide +kernel
theorem dX3_work_48 : decode cX3_work 48 = .ok (.iaload, 1) := by decide +kernel
theorem dX3_work_49 : decode cX3_work 49 = .ok (.lookupswitch 117 #[(38, 89), (42, 79), (43, 59), (45, 69), (47, 109), (94, 99)], 59) := by decide +kernel
theorem dX3_work_108 : decode cX3_work 108 = .ok (.aload_n 0, 1) := by decide +kernel
theorem dX3_work_109 : decode cX3_work 109 = .ok (.iload_n 3, 1) := by decide +kernel
theorem dX3_work_110 : decode cX3_work 110 = .ok (.iload 4, 2) := by decide +kernel
theorem dX3_work_112 : decode cX3_work 112 = .ok (.iadd, 1) := by decide +kernel
theorem dX3_work_113 : decode cX3_work 113 = .ok (.putfield 104, 3) := by decide +kernel
theorem dX3_work_116 : decode cX3_work 116 = .ok (.iconst 1, 1) := by decide +kernel
theorem dX3_work_117 : decode cX3_work 117 = .ok (.ireturn, 1) := by decide +kernel
theorem dX3_work_118 : decode cX3_work 118 = .ok (.aload_n 0, 1) := by decide +kernel
theorem dX3_work_119 : decode cX3_work 119 = .ok (.iload_n 3, 1) := by decide +kernel
theorem dX3_work_120 : decode cX3_work 120 = .ok (.iload 4, 2) := by decide +kernel
theorem dX3_work_122 : decode cX3_work 122 = .ok (.isub, 1) := by decide +kernel
theorem dX3_work_123 : decode cX3_work 123 = .ok (.putfield 104, 3) := by decide +kernel
theorem dX3_work_126 : decode cX3_work 126 = .ok (.iconst 1, 1) := by decide +kernel
theorem dX3_work_127 : decode cX3_work 127 = .ok (.ireturn, 1) := by decide +kernel
theorem dX3_work_128 : decode cX3_work 128 = .ok (.aload_n 0, 1) := by decide +kernel
theorem dX3_work_129 : decode cX3_work 129 = .ok (.iload_n 3, 1) := by decide +kernel
theorem dX3_work_130 : decode cX3_work 130 = .ok (.iload 4, 2) := by decide +kernel
theorem dX3_work_132 : decode cX3_work 132 = .ok (.imul, 1) := by decide +kernel
theorem dX3_work_133 : decode cX3_work 133 = .ok (.putfield 104, 3) := by decide +kernel
theorem dX3_work_136 : decode cX3_work 136 = .ok (.iconst 1, 1) := by decide +kernel
theorem dX3_work_137 : decode cX3_work 137 = .ok (.ireturn, 1) := by decide +kernel
theorem dX3_work_138 : decode cX3_work 138 = .ok (.aload_n 0, 1) := by decide +kernel
theorem dX3_work_139 : decode cX3_work 139 = .ok (.iload_n 3, 1) := by decide +kernel
theorem dX3_work_140 : decode cX3_work 140 = .ok (.iload 4, 2) := by decide +kernel
theorem dX3_work_142 : decode cX3_work 142 = .ok (.iand, 1) := by decide +kernel
theorem dX3_work_143 : decode cX3_work 143 = .ok (.putfield 104, 3) := by decide +kernel
theorem dX3_work_146 : decode cX3_work 146 = .ok (.iconst 1, 1) := by decide +kernel
theorem dX3_work_147 : decode cX3_work 147 = .ok (.ireturn, 1) := by decide +kernel
theorem dX3_work_148 : decode cX3_work 148 = .ok (.aload_n 0, 1) := by decide +kernel
theorem dX3_work_149 : decode cX3_work 149 = .ok (.iload_n 3, 1) := by decide +kernel
theorem dX3_work_150 : decode cX3_work 150 = .ok (.iload 4, 2) := by decide +kernel
theorem dX3_work_152 : decode cX3_work 152 = .ok (.ixor, 1) := by decide +kernel
theorem dX3_work_153 : decode cX3_work 153 = .ok (.putfield 104, 3) := by decide +kernel
theorem dX3_work_156 : decode cX3_work 156 = .ok (.iconst 1, 1) := by decide +kernel
theorem dX3_work_157 : decode cX3_work 157 = .ok (.ireturn, 1) := by decide +kernel
theorem dX3_work_158 : decode cX3_work 158 = .ok (.aload_n 0, 1) := by decide +kernel
theorem dX3_work_159 : decode cX3_work 159 = .ok (.iload_n 3, 1) := by decide +kernel
theorem dX3_work_160 : decode cX3_work 160 = .ok (.iload 4, 2) := by decide +kernel
theorem dX3_work_162 : decode cX3_work 162 = .ok (.invokevirtual 155, 3) := by decide +kernel
theorem dX3_work_165 : decode cX3_work 165 = .ok (.ireturn, 1) := by decide +kernel
theorem dX3_work_166 : decode cX3_work 166 = .ok (.aload_n 0, 1) := by decide +kernel
theorem dX3_work_167 : decode cX3_work 167 = .ok (.iload_n 3, 1) := by decide +kernel
theorem dX3_work_168 : decode cX3_work 168 = .ok (.iload 4, 2) := by decide +kernel
theorem dX3_work_170 : decode cX3_work 170 = .ok (.invokevirtual 158, 3) := by decide +kernel
theorem dX3_work_173 : decode cX3_work 173 = .ok (.ireturn, 1) := by decide +kernel
theorem dX3_divide_0 : decode cX3_divide 0 = .ok (.iload_n 2, 1) := by decide +kernel
theorem dX3_divide_1 : decode cX3_divide 1 = .ok (.ifCond .ne 5, 3) := by decide +kernel
theorem dX3_divide_4 : decode cX3_divide 4 = .ok (.iconst 0, 1) := by decide +kernel
theorem dX3_divide_5 : decode cX3_divide 5 = .ok (.ireturn, 1) := by decide +kernel
theorem dX3_divide_6 : decode cX3_divide 6 = .ok (.aload_n 0, 1) := by decide +kernel
theorem dX3_divide_7 : decode cX3_divide 7 = .ok (.iload_n 1, 1) := by decide +kernel
theorem dX3_divide_8 : decode cX3_divide 8 = .ok (.iload_n 2, 1) := by decide +kernel
theorem dX3_divide_9 : decode cX3_divide 9 = .ok (.idiv, 1) := by decide +kernel
theorem dX3_divide_10 : decode cX3_divide 10 = .ok (.putfield 104, 3) := by decide +kernel
theorem dX3_divide_13 : decode cX3_divide 13 = .ok (.iconst 1, 1) := by decide +kernel
theorem dX3_divide_14 : decode cX3_divide 14 = .ok (.ireturn, 1) := by decide +kernel
theorem dX3_readRow_0 : decode cX3_readRow 0 = .ok (.iload_n 1, 1) := by decide +kernel
theorem dX3_readRow_1 : decode cX3_readRow 1 = .ok (.iload_n 2, 1) := by decide +kernel
theorem dX3_readRow_2 : decode cX3_readRow 2 = .ok (.invokestatic 142, 3) := by decide +kernel
theorem dX3_readRow_5 : decode cX3_readRow 5 = .ok (.ifCond .ne 5, 3) := by decide +kernel
theorem dX3_readRow_8 : decode cX3_readRow 8 = .ok (.iconst 0, 1) := by decide +kernel
theorem dX3_readRow_9 : decode cX3_readRow 9 = .ok (.ireturn, 1) := by decide +kernel
theorem dX3_readRow_10 : decode cX3_readRow 10 = .ok (.aload_n 0, 1) := by decide +kernel
theorem dX3_readRow_11 : decode cX3_readRow 11 = .ok (.aload_n 0, 1) := by decide +kernel
theorem dX3_readRow_12 : decode cX3_readRow 12 = .ok (.getfield 20, 3) := by decide +kernel
theorem dX3_readRow_15 : decode cX3_readRow 15 = .ok (.iload_n 1, 1) := by decide +kernel
theorem dX3_readRow_16 : decode cX3_readRow 16 = .ok (.aaload, 1) := by decide +kernel
theorem dX3_readRow_17 : decode cX3_readRow 17 = .ok (.iload_n 2, 1) := by decide +kernel
theorem dX3_readRow_18 : decode cX3_readRow 18 = .ok (.iaload, 1) := by decide +kernel
theorem dX3_readRow_19 : decode cX3_readRow 19 = .ok (.putfield 104, 3) := by decide +kernel
theorem dX3_readRow_22 : decode cX3_readRow 22 = .ok (.iconst 1, 1) := by decide +kernel
theorem dX3_readRow_23 : decode cX3_readRow 23 = .ok (.ireturn, 1) := by decide +kernel
theorem dX3_hasPlace_0 : decode cX3_hasPlace 0 = .ok (.iload_n 0, 1) := by decide +kernel
theorem dX3_hasPlace_1 : decode cX3_hasPlace 1 = .ok (.ifCond .lt 22, 3) := by decide +kernel
theorem dX3_hasPlace_4 : decode cX3_hasPlace 4 = .ok (.iload_n 0, 1) := by decide +kernel
theorem dX3_hasPlace_5 : decode cX3_hasPlace 5 = .ok (.iconst 2, 1) := by decide +kernel
theorem dX3_hasPlace_6 : decode cX3_hasPlace 6 = .ok (.if_icmp .ge 17, 3) := by decide +kernel
theorem dX3_hasPlace_9 : decode cX3_hasPlace 9 = .ok (.iload_n 1, 1) := by decide +kernel
theorem dX3_hasPlace_10 : decode cX3_hasPlace 10 = .ok (.ifCond .lt 13, 3) := by decide +kernel
theorem dX3_hasPlace_13 : decode cX3_hasPlace 13 = .ok (.iload_n 1, 1) := by decide +kernel
theorem dX3_hasPlace_14 : decode cX3_hasPlace 14 = .ok (.bipush 8, 2) := by decide +kernel
theorem dX3_hasPlace_16 : decode cX3_hasPlace 16 = .ok (.if_icmp .ge 7, 3) := by decide +kernel
theorem dX3_hasPlace_19 : decode cX3_hasPlace 19 = .ok (.iconst 1, 1) := by decide +kernel
theorem dX3_hasPlace_20 : decode cX3_hasPlace 20 = .ok (.goto 4, 3) := by decide +kernel
theorem dX3_hasPlace_23 : decode cX3_hasPlace 23 = .ok (.iconst 0, 1) := by decide +kernel
theorem dX3_hasPlace_24 : decode cX3_hasPlace 24 = .ok (.ireturn, 1) := by decide +kernel
theorem dX3_valueOf_0 : decode cX3_valueOf 0 = .ok (.iload_n 1, 1) := by decide +kernel
theorem dX3_valueOf_1 : decode cX3_valueOf 1 = .ok (.ldc 161, 2) := by decide +kernel
theorem dX3_valueOf_3 : decode cX3_valueOf 3 = .ok (.isub, 1) := by decide +kernel
theorem dX3_valueOf_4 : decode cX3_valueOf 4 = .ok (.istore_n 2, 1) := by decide +kernel
theorem dX3_valueOf_5 : decode cX3_valueOf 5 = .ok (.iload_n 1, 1) := by decide +kernel
theorem dX3_valueOf_6 : decode cX3_valueOf 6 = .ok (.invokestatic 162, 3) := by decide +kernel
theorem dX3_valueOf_9 : decode cX3_valueOf 9 = .ok (.ifCond .eq 18, 3) := by decide +kernel
theorem dX3_valueOf_12 : decode cX3_valueOf 12 = .ok (.iload_n 2, 1) := by decide +kernel
theorem dX3_valueOf_13 : decode cX3_valueOf 13 = .ok (.bipush 48, 2) := by decide +kernel
theorem dX3_valueOf_15 : decode cX3_valueOf 15 = .ok (.if_icmp .ge 12, 3) := by decide +kernel
theorem dX3_valueOf_18 : decode cX3_valueOf 18 = .ok (.aload_n 0, 1) := by decide +kernel
theorem dX3_valueOf_19 : decode cX3_valueOf 19 = .ok (.getfield 15, 3) := by decide +kernel
theorem dX3_valueOf_22 : decode cX3_valueOf 22 = .ok (.iload_n 2, 1) := by decide +kernel
theorem dX3_valueOf_23 : decode cX3_valueOf 23 = .ok (.iaload, 1) := by decide +kernel
theorem dX3_valueOf_24 : decode cX3_valueOf 24 = .ok (.goto 4, 3) := by decide +kernel
theorem dX3_valueOf_27 : decode cX3_valueOf 27 = .ok (.iload_n 1, 1) := by decide +kernel
theorem dX3_valueOf_28 : decode cX3_valueOf 28 = .ok (.ireturn, 1) := by decide +kernel
theorem dX3_nextOf_0 : decode cX3_nextOf 0 = .ok (.aload_n 1, 1) := by decide +kernel
theorem dX3_nextOf_1 : decode cX3_nextOf 1 = .ok (.getfield 35, 3) := by decide +kernel
theorem dX3_nextOf_4 : decode cX3_nextOf 4 = .ok (.iload_n 2, 1) := by decide +kernel
theorem dX3_nextOf_5 : decode cX3_nextOf 5 = .ok (.iaload, 1) := by decide +kernel
theorem dX3_nextOf_6 : decode cX3_nextOf 6 = .ok (.iconst 5, 1) := by decide +kernel
theorem dX3_nextOf_7 : decode cX3_nextOf 7 = .ok (.if_icmp .ne 34, 3) := by decide +kernel
theorem dX3_nextOf_10 : decode cX3_nextOf 10 = .ok (.aload_n 0, 1) := by decide +kernel
theorem dX3_nextOf_11 : decode cX3_nextOf 11 = .ok (.aload_n 1, 1) := by decide +kernel
theorem dX3_nextOf_12 : decode cX3_nextOf 12 = .ok (.getfield 107, 3) := by decide +kernel
theorem dX3_nextOf_15 : decode cX3_nextOf 15 = .ok (.iconst 0, 1) := by decide +kernel
theorem dX3_nextOf_16 : decode cX3_nextOf 16 = .ok (.aaload, 1) := by decide +kernel
theorem dX3_nextOf_17 : decode cX3_nextOf 17 = .ok (.iload_n 2, 1) := by decide +kernel
theorem dX3_nextOf_18 : decode cX3_nextOf 18 = .ok (.iaload, 1) := by decide +kernel
theorem dX3_nextOf_19 : decode cX3_nextOf 19 = .ok (.invokevirtual 110, 3) := by decide +kernel
theorem dX3_nextOf_22 : decode cX3_nextOf 22 = .ok (.aload_n 0, 1) := by decide +kernel
theorem dX3_nextOf_23 : decode cX3_nextOf 23 = .ok (.aload_n 1, 1) := by decide +kernel
theorem dX3_nextOf_24 : decode cX3_nextOf 24 = .ok (.getfield 107, 3) := by decide +kernel
theorem dX3_nextOf_27 : decode cX3_nextOf 27 = .ok (.iconst 1, 1) := by decide +kernel
theorem dX3_nextOf_28 : decode cX3_nextOf 28 = .ok (.aaload, 1) := by decide +kernel
theorem dX3_nextOf_29 : decode cX3_nextOf 29 = .ok (.iload_n 2, 1) := by decide +kernel
theorem dX3_nextOf_30 : decode cX3_nextOf 30 = .ok (.iaload, 1) := by decide +kernel
theorem dX3_nextOf_31 : decode cX3_nextOf 31 = .ok (.invokevirtual 110, 3) := by decide +kernel
theorem dX3_nextOf_34 : decode cX3_nextOf 34 = .ok (.if_icmp .lt 7, 3) := by decide +kernel
theorem dX3_nextOf_37 : decode cX3_nextOf 37 = .ok (.iconst 1, 1) := by decide +kernel
theorem dX3_nextOf_38 : decode cX3_nextOf 38 = .ok (.goto 4, 3) := by decide +kernel
theorem dX3_nextOf_41 : decode cX3_nextOf 41 = .ok (.iconst 0, 1) := by decide +kernel
theorem dX3_nextOf_42 : decode cX3_nextOf 42 = .ok (.istore_n 3, 1) := by decide +kernel
theorem dX3_nextOf_43 : decode cX3_nextOf 43 = .ok (.aload_n 1, 1) := by decide +kernel
theorem dX3_nextOf_44 : decode cX3_nextOf 44 = .ok (.getfield 165, 3) := by decide +kernel
theorem dX3_nextOf_47 : decode cX3_nextOf 47 = .ok (.iload_n 3, 1) := by decide +kernel
theorem dX3_nextOf_48 : decode cX3_nextOf 48 = .ok (.ifCond .eq 7, 3) := by decide +kernel
theorem dX3_nextOf_51 : decode cX3_nextOf 51 = .ok (.iconst 1, 1) := by decide +kernel
theorem dX3_nextOf_52 : decode cX3_nextOf 52 = .ok (.goto 4, 3) := by decide +kernel
theorem dX3_nextOf_55 : decode cX3_nextOf 55 = .ok (.iconst 0, 1) := by decide +kernel
theorem dX3_nextOf_56 : decode cX3_nextOf 56 = .ok (.aaload, 1) := by decide +kernel
theorem dX3_nextOf_57 : decode cX3_nextOf 57 = .ok (.iload_n 2, 1) := by decide +kernel
theorem dX3_nextOf_58 : decode cX3_nextOf 58 = .ok (.iaload, 1) := by decide +kernel
theorem dX3_nextOf_59 : decode cX3_nextOf 59 = .ok (.ireturn, 1) := by decide +kernel
theorem dX4_init_0 : decode cX4_init 0 = .ok (.aload_n 0, 1) := by decide +kernel
theorem dX4_init_1 : decode cX4_init 1 = .ok (.invokespecial 3, 3) := by decide +kernel
theorem dX4_init_4 : decode cX4_init 4 = .ok (.aload_n 0, 1) := by decide +kernel
theorem dX4_init_5 : decode cX4_init 5 = .ok (.bipush 32, 2) := by decide +kernel
theorem dX4_init_7 : decode cX4_init 7 = .ok (.newarray .int, 2) := by decide +kernel
theorem dX4_init_9 : decode cX4_init 9 = .ok (.putfield 9, 3) := by decide +kernel
theorem dX4_init_12 : decode cX4_init 12 = .ok (.aload_n 0, 1) := by decide +kernel
theorem dX4_init_13 : decode cX4_init 13 = .ok (.bipush 32, 2) := by decide +kernel
theorem dX4_init_15 : decode cX4_init 15 = .ok (.newarray .int, 2) := by decide +kernel
theorem dX4_init_17 : decode cX4_init 17 = .ok (.putfield 15, 3) := by decide +kernel
theorem dX4_init_20 : decode cX4_init 20 = .ok (.aload_n 0, 1) := by decide +kernel
theorem dX4_init_21 : decode cX4_init 21 = .ok (.bipush 32, 2) := by decide +kernel
theorem dX4_init_23 : decode cX4_init 23 = .ok (.newarray .int, 2) := by decide +kernel
theorem dX4_init_25 : decode cX4_init 25 = .ok (.putfield 18, 3) := by decide +kernel
theorem dX4_init_28 : decode cX4_init 28 = .ok (.return_, 1) := by decide +kernel
theorem dX4_clear_0 : decode cX4_clear 0 = .ok (.aload_n 0, 1) := by decide +kernel
theorem dX4_clear_1 : decode cX4_clear 1 = .ok (.iconst 0, 1) := by decide +kernel
theorem dX4_clear_2 : decode cX4_clear 2 = .ok (.putfield 21, 3) := by decide +kernel
theorem dX4_clear_5 : decode cX4_clear 5 = .ok (.aload_n 0, 1) := by decide +kernel
theorem dX4_clear_6 : decode cX4_clear 6 = .ok (.iconst 0, 1) := by decide +kernel
theorem dX4_clear_7 : decode cX4_clear 7 = .ok (.putfield 25, 3) := by decide +kernel
theorem dX4_clear_10 : decode cX4_clear 10 = .ok (.return_, 1) := by decide +kernel
theorem dX4_has_0 : decode cX4_has 0 = .ok (.iload_n 1, 1) := by decide +kernel
theorem dX4_has_1 : decode cX4_has 1 = .ok (.ifCond .lt 15, 3) := by decide +kernel
theorem dX4_has_4 : decode cX4_has 4 = .ok (.iload_n 1, 1) := by decide +kernel
theorem dX4_has_5 : decode cX4_has 5 = .ok (.aload_n 0, 1) := by decide +kernel
theorem dX4_has_6 : decode cX4_has 6 = .ok (.getfield 21, 3) := by decide +kernel
theorem dX4_has_9 : decode cX4_has 9 = .ok (.if_icmp .ge 7, 3) := by decide +kernel
theorem dX4_has_12 : decode cX4_has 12 = .ok (.iconst 1, 1) := by decide +kernel
theorem dX4_has_13 : decode cX4_has 13 = .ok (.goto 4, 3) := by decide +kernel
theorem dX4_has_16 : decode cX4_has 16 = .ok (.iconst 0, 1) := by decide +kernel
theorem dX4_has_17 : decode cX4_has 17 = .ok (.ireturn, 1) := by decide +kernel
theorem dX4_numberFor_0 : decode cX4_numberFor 0 = .ok (.iconst 0, 1) := by decide +kernel
theorem dX4_numberFor_1 : decode cX4_numberFor 1 = .ok (.istore 4, 2) := by decide +kernel
theorem dX4_numberFor_3 : decode cX4_numberFor 3 = .ok (.iload 4, 2) := by decide +kernel
theorem dX4_numberFor_5 : decode cX4_numberFor 5 = .ok (.aload_n 0, 1) := by decide +kernel
theorem dX4_numberFor_6 : decode cX4_numberFor 6 = .ok (.getfield 21, 3) := by decide +kernel
