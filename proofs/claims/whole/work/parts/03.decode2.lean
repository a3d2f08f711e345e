theorem dX4_numberFor_9 : decode cX4_numberFor 9 = .ok (.if_icmp .ge 45, 3) := by decide +kernel
theorem dX4_numberFor_12 : decode cX4_numberFor 12 = .ok (.aload_n 0, 1) := by decide +kernel
theorem dX4_numberFor_13 : decode cX4_numberFor 13 = .ok (.getfield 9, 3) := by decide +kernel
theorem dX4_numberFor_16 : decode cX4_numberFor 16 = .ok (.iload 4, 2) := by decide +kernel
theorem dX4_numberFor_18 : decode cX4_numberFor 18 = .ok (.iaload, 1) := by decide +kernel
theorem dX4_numberFor_19 : decode cX4_numberFor 19 = .ok (.iload_n 1, 1) := by decide +kernel
theorem dX4_numberFor_20 : decode cX4_numberFor 20 = .ok (.if_icmp .ne 28, 3) := by decide +kernel
theorem dX4_numberFor_23 : decode cX4_numberFor 23 = .ok (.aload_n 0, 1) := by decide +kernel
theorem dX4_numberFor_24 : decode cX4_numberFor 24 = .ok (.getfield 15, 3) := by decide +kernel
theorem dX4_numberFor_27 : decode cX4_numberFor 27 = .ok (.iload 4, 2) := by decide +kernel
theorem dX4_numberFor_29 : decode cX4_numberFor 29 = .ok (.iaload, 1) := by decide +kernel
theorem dX4_numberFor_30 : decode cX4_numberFor 30 = .ok (.iload_n 2, 1) := by decide +kernel
theorem dX4_numberFor_31 : decode cX4_numberFor 31 = .ok (.if_icmp .ne 17, 3) := by decide +kernel
theorem dX4_numberFor_34 : decode cX4_numberFor 34 = .ok (.aload_n 0, 1) := by decide +kernel
theorem dX4_numberFor_35 : decode cX4_numberFor 35 = .ok (.getfield 18, 3) := by decide +kernel
theorem dX4_numberFor_38 : decode cX4_numberFor 38 = .ok (.iload 4, 2) := by decide +kernel
theorem dX4_numberFor_40 : decode cX4_numberFor 40 = .ok (.iaload, 1) := by decide +kernel
theorem dX4_numberFor_41 : decode cX4_numberFor 41 = .ok (.iload_n 3, 1) := by decide +kernel
theorem dX4_numberFor_42 : decode cX4_numberFor 42 = .ok (.if_icmp .ne 6, 3) := by decide +kernel
theorem dX4_numberFor_45 : decode cX4_numberFor 45 = .ok (.iload 4, 2) := by decide +kernel
theorem dX4_numberFor_47 : decode cX4_numberFor 47 = .ok (.ireturn, 1) := by decide +kernel
theorem dX4_numberFor_48 : decode cX4_numberFor 48 = .ok (.iinc 4 1, 3) := by decide +kernel
theorem dX4_numberFor_51 : decode cX4_numberFor 51 = .ok (.goto (-48), 3) := by decide +kernel
theorem dX4_numberFor_54 : decode cX4_numberFor 54 = .ok (.aload_n 0, 1) := by decide +kernel
theorem dX4_numberFor_55 : decode cX4_numberFor 55 = .ok (.getfield 21, 3) := by decide +kernel
theorem dX4_numberFor_58 : decode cX4_numberFor 58 = .ok (.bipush 32, 2) := by decide +kernel
theorem dX4_numberFor_60 : decode cX4_numberFor 60 = .ok (.if_icmp .lt 10, 3) := by decide +kernel
theorem dX4_numberFor_63 : decode cX4_numberFor 63 = .ok (.aload_n 0, 1) := by decide +kernel
theorem dX4_numberFor_64 : decode cX4_numberFor 64 = .ok (.iconst 1, 1) := by decide +kernel
theorem dX4_numberFor_65 : decode cX4_numberFor 65 = .ok (.putfield 25, 3) := by decide +kernel
theorem dX4_numberFor_68 : decode cX4_numberFor 68 = .ok (.iconst (-1), 1) := by decide +kernel
theorem dX4_numberFor_69 : decode cX4_numberFor 69 = .ok (.ireturn, 1) := by decide +kernel
theorem dX4_numberFor_70 : decode cX4_numberFor 70 = .ok (.aload_n 0, 1) := by decide +kernel
theorem dX4_numberFor_71 : decode cX4_numberFor 71 = .ok (.getfield 9, 3) := by decide +kernel
theorem dX4_numberFor_74 : decode cX4_numberFor 74 = .ok (.aload_n 0, 1) := by decide +kernel
theorem dX4_numberFor_75 : decode cX4_numberFor 75 = .ok (.getfield 21, 3) := by decide +kernel
theorem dX4_numberFor_78 : decode cX4_numberFor 78 = .ok (.iload_n 1, 1) := by decide +kernel
theorem dX4_numberFor_79 : decode cX4_numberFor 79 = .ok (.iastore, 1) := by decide +kernel
theorem dX4_numberFor_80 : decode cX4_numberFor 80 = .ok (.aload_n 0, 1) := by decide +kernel
theorem dX4_numberFor_81 : decode cX4_numberFor 81 = .ok (.getfield 15, 3) := by decide +kernel
theorem dX4_numberFor_84 : decode cX4_numberFor 84 = .ok (.aload_n 0, 1) := by decide +kernel
theorem dX4_numberFor_85 : decode cX4_numberFor 85 = .ok (.getfield 21, 3) := by decide +kernel
theorem dX4_numberFor_88 : decode cX4_numberFor 88 = .ok (.iload_n 2, 1) := by decide +kernel
theorem dX4_numberFor_89 : decode cX4_numberFor 89 = .ok (.iastore, 1) := by decide +kernel
theorem dX4_numberFor_90 : decode cX4_numberFor 90 = .ok (.aload_n 0, 1) := by decide +kernel
theorem dX4_numberFor_91 : decode cX4_numberFor 91 = .ok (.getfield 18, 3) := by decide +kernel
theorem dX4_numberFor_94 : decode cX4_numberFor 94 = .ok (.aload_n 0, 1) := by decide +kernel
theorem dX4_numberFor_95 : decode cX4_numberFor 95 = .ok (.getfield 21, 3) := by decide +kernel
theorem dX4_numberFor_98 : decode cX4_numberFor 98 = .ok (.iload_n 3, 1) := by decide +kernel
theorem dX4_numberFor_99 : decode cX4_numberFor 99 = .ok (.iastore, 1) := by decide +kernel
theorem dX4_numberFor_100 : decode cX4_numberFor 100 = .ok (.aload_n 0, 1) := by decide +kernel
theorem dX4_numberFor_101 : decode cX4_numberFor 101 = .ok (.dup, 1) := by decide +kernel
theorem dX4_numberFor_102 : decode cX4_numberFor 102 = .ok (.getfield 21, 3) := by decide +kernel
theorem dX4_numberFor_105 : decode cX4_numberFor 105 = .ok (.dup_x1, 1) := by decide +kernel
theorem dX4_numberFor_106 : decode cX4_numberFor 106 = .ok (.iconst 1, 1) := by decide +kernel
theorem dX4_numberFor_107 : decode cX4_numberFor 107 = .ok (.iadd, 1) := by decide +kernel
theorem dX4_numberFor_108 : decode cX4_numberFor 108 = .ok (.putfield 21, 3) := by decide +kernel
theorem dX4_numberFor_111 : decode cX4_numberFor 111 = .ok (.ireturn, 1) := by decide +kernel
theorem dX4_isBold_0 : decode cX4_isBold 0 = .ok (.aload_n 0, 1) := by decide +kernel
theorem dX4_isBold_1 : decode cX4_isBold 1 = .ok (.getfield 9, 3) := by decide +kernel
theorem dX4_isBold_4 : decode cX4_isBold 4 = .ok (.iload_n 1, 1) := by decide +kernel
theorem dX4_isBold_5 : decode cX4_isBold 5 = .ok (.iaload, 1) := by decide +kernel
theorem dX4_isBold_6 : decode cX4_isBold 6 = .ok (.bipush 47, 2) := by decide +kernel
theorem dX4_isBold_8 : decode cX4_isBold 8 = .ok (.if_icmp .eq 14, 3) := by decide +kernel
theorem dX4_isBold_11 : decode cX4_isBold 11 = .ok (.aload_n 0, 1) := by decide +kernel
theorem dX4_isBold_12 : decode cX4_isBold 12 = .ok (.getfield 9, 3) := by decide +kernel
theorem dX4_isBold_15 : decode cX4_isBold 15 = .ok (.iload_n 1, 1) := by decide +kernel
theorem dX4_isBold_16 : decode cX4_isBold 16 = .ok (.iaload, 1) := by decide +kernel
theorem dX4_isBold_17 : decode cX4_isBold 17 = .ok (.bipush 114, 2) := by decide +kernel
theorem dX4_isBold_19 : decode cX4_isBold 19 = .ok (.if_icmp .ne 7, 3) := by decide +kernel
theorem dX4_isBold_22 : decode cX4_isBold 22 = .ok (.iconst 1, 1) := by decide +kernel
theorem dX4_isBold_23 : decode cX4_isBold 23 = .ok (.goto 4, 3) := by decide +kernel
theorem dX4_isBold_26 : decode cX4_isBold 26 = .ok (.iconst 0, 1) := by decide +kernel
theorem dX4_isBold_27 : decode cX4_isBold 27 = .ok (.ireturn, 1) := by decide +kernel
theorem dX4_everyOne_0 : decode cX4_everyOne 0 = .ok (.aload_n 0, 1) := by decide +kernel
theorem dX4_everyOne_1 : decode cX4_everyOne 1 = .ok (.getfield 21, 3) := by decide +kernel
theorem dX4_everyOne_4 : decode cX4_everyOne 4 = .ok (.bipush 32, 2) := by decide +kernel
theorem dX4_everyOne_6 : decode cX4_everyOne 6 = .ok (.if_icmp .lt 7, 3) := by decide +kernel
theorem dX4_everyOne_9 : decode cX4_everyOne 9 = .ok (.iconst (-1), 1) := by decide +kernel
theorem dX4_everyOne_10 : decode cX4_everyOne 10 = .ok (.goto 11, 3) := by decide +kernel
theorem dX4_everyOne_13 : decode cX4_everyOne 13 = .ok (.iconst 1, 1) := by decide +kernel
theorem dX4_everyOne_14 : decode cX4_everyOne 14 = .ok (.aload_n 0, 1) := by decide +kernel
theorem dX4_everyOne_15 : decode cX4_everyOne 15 = .ok (.getfield 21, 3) := by decide +kernel
theorem dX4_everyOne_18 : decode cX4_everyOne 18 = .ok (.ishl, 1) := by decide +kernel
theorem dX4_everyOne_19 : decode cX4_everyOne 19 = .ok (.iconst 1, 1) := by decide +kernel
theorem dX4_everyOne_20 : decode cX4_everyOne 20 = .ok (.isub, 1) := by decide +kernel
theorem dX4_everyOne_21 : decode cX4_everyOne 21 = .ok (.ireturn, 1) := by decide +kernel
theorem dX4_boldOnes_0 : decode cX4_boldOnes 0 = .ok (.iconst 0, 1) := by decide +kernel
theorem dX4_boldOnes_1 : decode cX4_boldOnes 1 = .ok (.istore_n 1, 1) := by decide +kernel
theorem dX4_boldOnes_2 : decode cX4_boldOnes 2 = .ok (.iconst 0, 1) := by decide +kernel
theorem dX4_boldOnes_3 : decode cX4_boldOnes 3 = .ok (.istore_n 2, 1) := by decide +kernel
theorem dX4_boldOnes_4 : decode cX4_boldOnes 4 = .ok (.iload_n 2, 1) := by decide +kernel
theorem dX4_boldOnes_5 : decode cX4_boldOnes 5 = .ok (.aload_n 0, 1) := by decide +kernel
theorem dX4_boldOnes_6 : decode cX4_boldOnes 6 = .ok (.getfield 21, 3) := by decide +kernel
theorem dX4_boldOnes_9 : decode cX4_boldOnes 9 = .ok (.if_icmp .ge 27, 3) := by decide +kernel
theorem dX4_boldOnes_12 : decode cX4_boldOnes 12 = .ok (.iload_n 1, 1) := by decide +kernel
theorem dX4_boldOnes_13 : decode cX4_boldOnes 13 = .ok (.aload_n 0, 1) := by decide +kernel
theorem dX4_boldOnes_14 : decode cX4_boldOnes 14 = .ok (.iload_n 2, 1) := by decide +kernel
theorem dX4_boldOnes_15 : decode cX4_boldOnes 15 = .ok (.invokevirtual 29, 3) := by decide +kernel
theorem dX4_boldOnes_18 : decode cX4_boldOnes 18 = .ok (.ifCond .eq 9, 3) := by decide +kernel
theorem dX4_boldOnes_21 : decode cX4_boldOnes 21 = .ok (.iconst 1, 1) := by decide +kernel
theorem dX4_boldOnes_22 : decode cX4_boldOnes 22 = .ok (.iload_n 2, 1) := by decide +kernel
theorem dX4_boldOnes_23 : decode cX4_boldOnes 23 = .ok (.ishl, 1) := by decide +kernel
theorem dX4_boldOnes_24 : decode cX4_boldOnes 24 = .ok (.goto 4, 3) := by decide +kernel
theorem dX4_boldOnes_27 : decode cX4_boldOnes 27 = .ok (.iconst 0, 1) := by decide +kernel
theorem dX4_boldOnes_28 : decode cX4_boldOnes 28 = .ok (.ior, 1) := by decide +kernel
theorem dX4_boldOnes_29 : decode cX4_boldOnes 29 = .ok (.istore_n 1, 1) := by decide +kernel
theorem dX4_boldOnes_30 : decode cX4_boldOnes 30 = .ok (.iinc 2 1, 3) := by decide +kernel
theorem dX4_boldOnes_33 : decode cX4_boldOnes 33 = .ok (.goto (-29), 3) := by decide +kernel
theorem dX4_boldOnes_36 : decode cX4_boldOnes 36 = .ok (.iload_n 1, 1) := by decide +kernel
theorem dX4_boldOnes_37 : decode cX4_boldOnes 37 = .ok (.ireturn, 1) := by decide +kernel
theorem dX4_withName_0 : decode cX4_withName 0 = .ok (.iconst 0, 1) := by decide +kernel
theorem dX4_withName_1 : decode cX4_withName 1 = .ok (.istore_n 2, 1) := by decide +kernel
theorem dX4_withName_2 : decode cX4_withName 2 = .ok (.iconst 0, 1) := by decide +kernel
theorem dX4_withName_3 : decode cX4_withName 3 = .ok (.istore_n 3, 1) := by decide +kernel
theorem dX4_withName_4 : decode cX4_withName 4 = .ok (.iload_n 3, 1) := by decide +kernel
theorem dX4_withName_5 : decode cX4_withName 5 = .ok (.aload_n 0, 1) := by decide +kernel
theorem dX4_withName_6 : decode cX4_withName 6 = .ok (.getfield 21, 3) := by decide +kernel
theorem dX4_withName_9 : decode cX4_withName 9 = .ok (.if_icmp .ge 57, 3) := by decide +kernel
theorem dX4_withName_12 : decode cX4_withName 12 = .ok (.aload_n 0, 1) := by decide +kernel
theorem dX4_withName_13 : decode cX4_withName 13 = .ok (.getfield 15, 3) := by decide +kernel
theorem dX4_withName_16 : decode cX4_withName 16 = .ok (.iload_n 3, 1) := by decide +kernel
theorem dX4_withName_17 : decode cX4_withName 17 = .ok (.iaload, 1) := by decide +kernel
theorem dX4_withName_18 : decode cX4_withName 18 = .ok (.ldc 33, 2) := by decide +kernel
theorem dX4_withName_20 : decode cX4_withName 20 = .ok (.iload_n 1, 1) := by decide +kernel
theorem dX4_withName_21 : decode cX4_withName 21 = .ok (.iadd, 1) := by decide +kernel
theorem dX4_withName_22 : decode cX4_withName 22 = .ok (.if_icmp .eq 16, 3) := by decide +kernel
theorem dX4_withName_25 : decode cX4_withName 25 = .ok (.aload_n 0, 1) := by decide +kernel
theorem dX4_withName_26 : decode cX4_withName 26 = .ok (.getfield 18, 3) := by decide +kernel
theorem dX4_withName_29 : decode cX4_withName 29 = .ok (.iload_n 3, 1) := by decide +kernel
theorem dX4_withName_30 : decode cX4_withName 30 = .ok (.iaload, 1) := by decide +kernel
theorem dX4_withName_31 : decode cX4_withName 31 = .ok (.ldc 33, 2) := by decide +kernel
theorem dX4_withName_33 : decode cX4_withName 33 = .ok (.iload_n 1, 1) := by decide +kernel
theorem dX4_withName_34 : decode cX4_withName 34 = .ok (.iadd, 1) := by decide +kernel
theorem dX4_withName_35 : decode cX4_withName 35 = .ok (.if_icmp .ne 7, 3) := by decide +kernel
theorem dX4_withName_38 : decode cX4_withName 38 = .ok (.iconst 1, 1) := by decide +kernel
theorem dX4_withName_39 : decode cX4_withName 39 = .ok (.goto 4, 3) := by decide +kernel
theorem dX4_withName_42 : decode cX4_withName 42 = .ok (.iconst 0, 1) := by decide +kernel
theorem dX4_withName_43 : decode cX4_withName 43 = .ok (.istore 4, 2) := by decide +kernel
theorem dX4_withName_45 : decode cX4_withName 45 = .ok (.iload_n 2, 1) := by decide +kernel
theorem dX4_withName_46 : decode cX4_withName 46 = .ok (.iload 4, 2) := by decide +kernel
theorem dX4_withName_48 : decode cX4_withName 48 = .ok (.ifCond .eq 9, 3) := by decide +kernel
theorem dX4_withName_51 : decode cX4_withName 51 = .ok (.iconst 1, 1) := by decide +kernel
theorem dX4_withName_52 : decode cX4_withName 52 = .ok (.iload_n 3, 1) := by decide +kernel
theorem dX4_withName_53 : decode cX4_withName 53 = .ok (.ishl, 1) := by decide +kernel
theorem dX4_withName_54 : decode cX4_withName 54 = .ok (.goto 4, 3) := by decide +kernel
theorem dX4_withName_57 : decode cX4_withName 57 = .ok (.iconst 0, 1) := by decide +kernel
theorem dX4_withName_58 : decode cX4_withName 58 = .ok (.ior, 1) := by decide +kernel
theorem dX4_withName_59 : decode cX4_withName 59 = .ok (.istore_n 2, 1) := by decide +kernel
theorem dX4_withName_60 : decode cX4_withName 60 = .ok (.iinc 3 1, 3) := by decide +kernel
theorem dX4_withName_63 : decode cX4_withName 63 = .ok (.goto (-59), 3) := by decide +kernel
theorem dX4_withName_66 : decode cX4_withName 66 = .ok (.iload_n 2, 1) := by decide +kernel
theorem dX4_withName_67 : decode cX4_withName 67 = .ok (.ireturn, 1) := by decide +kernel
theorem dX4_ofRow_0 : decode cX4_ofRow 0 = .ok (.iconst 0, 1) := by decide +kernel
theorem dX4_ofRow_1 : decode cX4_ofRow 1 = .ok (.istore_n 2, 1) := by decide +kernel
theorem dX4_ofRow_2 : decode cX4_ofRow 2 = .ok (.iconst 0, 1) := by decide +kernel
theorem dX4_ofRow_3 : decode cX4_ofRow 3 = .ok (.istore_n 3, 1) := by decide +kernel
theorem dX4_ofRow_4 : decode cX4_ofRow 4 = .ok (.iload_n 3, 1) := by decide +kernel
theorem dX4_ofRow_5 : decode cX4_ofRow 5 = .ok (.aload_n 0, 1) := by decide +kernel
theorem dX4_ofRow_6 : decode cX4_ofRow 6 = .ok (.getfield 21, 3) := by decide +kernel
theorem dX4_ofRow_9 : decode cX4_ofRow 9 = .ok (.if_icmp .ge 40, 3) := by decide +kernel
theorem dX4_ofRow_12 : decode cX4_ofRow 12 = .ok (.iload_n 2, 1) := by decide +kernel
theorem dX4_ofRow_13 : decode cX4_ofRow 13 = .ok (.aload_n 0, 1) := by decide +kernel
theorem dX4_ofRow_14 : decode cX4_ofRow 14 = .ok (.getfield 9, 3) := by decide +kernel
theorem dX4_ofRow_17 : decode cX4_ofRow 17 = .ok (.iload_n 3, 1) := by decide +kernel
theorem dX4_ofRow_18 : decode cX4_ofRow 18 = .ok (.iaload, 1) := by decide +kernel
theorem dX4_ofRow_19 : decode cX4_ofRow 19 = .ok (.bipush 114, 2) := by decide +kernel
theorem dX4_ofRow_21 : decode cX4_ofRow 21 = .ok (.if_icmp .ne 19, 3) := by decide +kernel
theorem dX4_ofRow_24 : decode cX4_ofRow 24 = .ok (.aload_n 0, 1) := by decide +kernel
theorem dX4_ofRow_25 : decode cX4_ofRow 25 = .ok (.getfield 15, 3) := by decide +kernel
theorem dX4_ofRow_28 : decode cX4_ofRow 28 = .ok (.iload_n 3, 1) := by decide +kernel
theorem dX4_ofRow_29 : decode cX4_ofRow 29 = .ok (.iaload, 1) := by decide +kernel
theorem dX4_ofRow_30 : decode cX4_ofRow 30 = .ok (.iload_n 1, 1) := by decide +kernel
theorem dX4_ofRow_31 : decode cX4_ofRow 31 = .ok (.if_icmp .ne 9, 3) := by decide +kernel
theorem dX4_ofRow_34 : decode cX4_ofRow 34 = .ok (.iconst 1, 1) := by decide +kernel
theorem dX4_ofRow_35 : decode cX4_ofRow 35 = .ok (.iload_n 3, 1) := by decide +kernel
theorem dX4_ofRow_36 : decode cX4_ofRow 36 = .ok (.ishl, 1) := by decide +kernel
theorem dX4_ofRow_37 : decode cX4_ofRow 37 = .ok (.goto 4, 3) := by decide +kernel
theorem dX4_ofRow_40 : decode cX4_ofRow 40 = .ok (.iconst 0, 1) := by decide +kernel
theorem dX4_ofRow_41 : decode cX4_ofRow 41 = .ok (.ior, 1) := by decide +kernel
theorem dX4_ofRow_42 : decode cX4_ofRow 42 = .ok (.istore_n 2, 1) := by decide +kernel
theorem dX4_ofRow_43 : decode cX4_ofRow 43 = .ok (.iinc 3 1, 3) := by decide +kernel
theorem dX4_ofRow_46 : decode cX4_ofRow 46 = .ok (.goto (-42), 3) := by decide +kernel
theorem dX4_ofRow_49 : decode cX4_ofRow 49 = .ok (.iload_n 2, 1) := by decide +kernel
theorem dX4_ofRow_50 : decode cX4_ofRow 50 = .ok (.ireturn, 1) := by decide +kernel
theorem dX5_init_0 : decode cX5_init 0 = .ok (.aload_n 0, 1) := by decide +kernel
theorem dX5_init_1 : decode cX5_init 1 = .ok (.invokespecial 3, 3) := by decide +kernel
theorem dX5_init_4 : decode cX5_init 4 = .ok (.aload_n 0, 1) := by decide +kernel
theorem dX5_init_5 : decode cX5_init 5 = .ok (.sipush 3000, 3) := by decide +kernel
theorem dX5_init_8 : decode cX5_init 8 = .ok (.newarray .byte, 2) := by decide +kernel
theorem dX5_init_10 : decode cX5_init 10 = .ok (.putfield 9, 3) := by decide +kernel
theorem dX5_init_13 : decode cX5_init 13 = .ok (.return_, 1) := by decide +kernel
theorem dX5_add_0 : decode cX5_add 0 = .ok (.aload_n 0, 1) := by decide +kernel
theorem dX5_add_1 : decode cX5_add 1 = .ok (.getfield 15, 3) := by decide +kernel
theorem dX5_add_4 : decode cX5_add 4 = .ok (.ifCond .lt 33, 3) := by decide +kernel
theorem dX5_add_7 : decode cX5_add 7 = .ok (.aload_n 0, 1) := by decide +kernel
theorem dX5_add_8 : decode cX5_add 8 = .ok (.getfield 15, 3) := by decide +kernel
theorem dX5_add_11 : decode cX5_add 11 = .ok (.aload_n 0, 1) := by decide +kernel
theorem dX5_add_12 : decode cX5_add 12 = .ok (.getfield 9, 3) := by decide +kernel
theorem dX5_add_15 : decode cX5_add 15 = .ok (.arraylength, 1) := by decide +kernel
theorem dX5_add_16 : decode cX5_add 16 = .ok (.if_icmp .ge 21, 3) := by decide +kernel
theorem dX5_add_19 : decode cX5_add 19 = .ok (.aload_n 0, 1) := by decide +kernel
theorem dX5_add_20 : decode cX5_add 20 = .ok (.getfield 9, 3) := by decide +kernel
theorem dX5_add_23 : decode cX5_add 23 = .ok (.aload_n 0, 1) := by decide +kernel
theorem dX5_add_24 : decode cX5_add 24 = .ok (.dup, 1) := by decide +kernel
theorem dX5_add_25 : decode cX5_add 25 = .ok (.getfield 15, 3) := by decide +kernel
theorem dX5_add_28 : decode cX5_add 28 = .ok (.dup_x1, 1) := by decide +kernel
theorem dX5_add_29 : decode cX5_add 29 = .ok (.iconst 1, 1) := by decide +kernel
theorem dX5_add_30 : decode cX5_add 30 = .ok (.iadd, 1) := by decide +kernel
theorem dX5_add_31 : decode cX5_add 31 = .ok (.putfield 15, 3) := by decide +kernel
theorem dX5_add_34 : decode cX5_add 34 = .ok (.iload_n 1, 1) := by decide +kernel
theorem dX5_add_35 : decode cX5_add 35 = .ok (.i2b, 1) := by decide +kernel
theorem dX5_add_36 : decode cX5_add 36 = .ok (.bastore, 1) := by decide +kernel
theorem dX5_add_37 : decode cX5_add 37 = .ok (.return_, 1) := by decide +kernel
theorem dX5_byteAt_0 : decode cX5_byteAt 0 = .ok (.iload_n 1, 1) := by decide +kernel
theorem dX5_byteAt_1 : decode cX5_byteAt 1 = .ok (.ifCond .lt 33, 3) := by decide +kernel
theorem dX5_byteAt_4 : decode cX5_byteAt 4 = .ok (.iload_n 1, 1) := by decide +kernel
theorem dX5_byteAt_5 : decode cX5_byteAt 5 = .ok (.aload_n 0, 1) := by decide +kernel
theorem dX5_byteAt_6 : decode cX5_byteAt 6 = .ok (.getfield 15, 3) := by decide +kernel
theorem dX5_byteAt_9 : decode cX5_byteAt 9 = .ok (.if_icmp .ge 25, 3) := by decide +kernel
theorem dX5_byteAt_12 : decode cX5_byteAt 12 = .ok (.iload_n 1, 1) := by decide +kernel
theorem dX5_byteAt_13 : decode cX5_byteAt 13 = .ok (.aload_n 0, 1) := by decide +kernel
theorem dX5_byteAt_14 : decode cX5_byteAt 14 = .ok (.getfield 9, 3) := by decide +kernel
theorem dX5_byteAt_17 : decode cX5_byteAt 17 = .ok (.arraylength, 1) := by decide +kernel
theorem dX5_byteAt_18 : decode cX5_byteAt 18 = .ok (.if_icmp .ge 16, 3) := by decide +kernel
theorem dX5_byteAt_21 : decode cX5_byteAt 21 = .ok (.aload_n 0, 1) := by decide +kernel
theorem dX5_byteAt_22 : decode cX5_byteAt 22 = .ok (.getfield 9, 3) := by decide +kernel
theorem dX5_byteAt_25 : decode cX5_byteAt 25 = .ok (.iload_n 1, 1) := by decide +kernel
theorem dX5_byteAt_26 : decode cX5_byteAt 26 = .ok (.baload, 1) := by decide +kernel
theorem dX5_byteAt_27 : decode cX5_byteAt 27 = .ok (.sipush 255, 3) := by decide +kernel
theorem dX5_byteAt_30 : decode cX5_byteAt 30 = .ok (.iand, 1) := by decide +kernel
theorem dX5_byteAt_31 : decode cX5_byteAt 31 = .ok (.goto 4, 3) := by decide +kernel
theorem dX5_byteAt_34 : decode cX5_byteAt 34 = .ok (.iconst (-1), 1) := by decide +kernel
theorem dX5_byteAt_35 : decode cX5_byteAt 35 = .ok (.ireturn, 1) := by decide +kernel
theorem dX5_hold_0 : decode cX5_hold 0 = .ok (.aload_n 0, 1) := by decide +kernel
theorem dX5_hold_1 : decode cX5_hold 1 = .ok (.iload_n 2, 1) := by decide +kernel
theorem dX5_hold_2 : decode cX5_hold 2 = .ok (.aload_n 1, 1) := by decide +kernel
theorem dX5_hold_3 : decode cX5_hold 3 = .ok (.arraylength, 1) := by decide +kernel
theorem dX5_hold_4 : decode cX5_hold 4 = .ok (.aload_n 0, 1) := by decide +kernel
theorem dX5_hold_5 : decode cX5_hold 5 = .ok (.getfield 9, 3) := by decide +kernel
theorem dX5_hold_8 : decode cX5_hold 8 = .ok (.arraylength, 1) := by decide +kernel
theorem dX5_hold_9 : decode cX5_hold 9 = .ok (.invokestatic 19, 3) := by decide +kernel
theorem dX5_hold_12 : decode cX5_hold 12 = .ok (.invokestatic 19, 3) := by decide +kernel
theorem dX5_hold_15 : decode cX5_hold 15 = .ok (.putfield 15, 3) := by decide +kernel
theorem dX5_hold_18 : decode cX5_hold 18 = .ok (.aload_n 1, 1) := by decide +kernel
theorem dX5_hold_19 : decode cX5_hold 19 = .ok (.iconst 0, 1) := by decide +kernel
theorem dX5_hold_20 : decode cX5_hold 20 = .ok (.aload_n 0, 1) := by decide +kernel
theorem dX5_hold_21 : decode cX5_hold 21 = .ok (.getfield 9, 3) := by decide +kernel
theorem dX5_hold_24 : decode cX5_hold 24 = .ok (.iconst 0, 1) := by decide +kernel
theorem dX5_hold_25 : decode cX5_hold 25 = .ok (.aload_n 0, 1) := by decide +kernel
theorem dX5_hold_26 : decode cX5_hold 26 = .ok (.getfield 15, 3) := by decide +kernel
theorem dX5_hold_29 : decode cX5_hold 29 = .ok (.invokestatic 25, 3) := by decide +kernel
theorem dX5_hold_32 : decode cX5_hold 32 = .ok (.return_, 1) := by decide +kernel
theorem dX6_init_0 : decode cX6_init 0 = .ok (.aload_n 0, 1) := by decide +kernel
theorem dX6_init_1 : decode cX6_init 1 = .ok (.invokespecial 3, 3) := by decide +kernel
theorem dX6_init_4 : decode cX6_init 4 = .ok (.aload_n 0, 1) := by decide +kernel
theorem dX6_init_5 : decode cX6_init 5 = .ok (.sipush 3001, 3) := by decide +kernel
theorem dX6_init_8 : decode cX6_init 8 = .ok (.newarray .int, 2) := by decide +kernel
theorem dX6_init_10 : decode cX6_init 10 = .ok (.putfield 9, 3) := by decide +kernel
theorem dX6_init_13 : decode cX6_init 13 = .ok (.aload_n 0, 1) := by decide +kernel
theorem dX6_init_14 : decode cX6_init 14 = .ok (.sipush 3001, 3) := by decide +kernel
theorem dX6_init_17 : decode cX6_init 17 = .ok (.newarray .int, 2) := by decide +kernel
theorem dX6_init_19 : decode cX6_init 19 = .ok (.putfield 15, 3) := by decide +kernel
theorem dX6_init_22 : decode cX6_init 22 = .ok (.aload_n 0, 1) := by decide +kernel
theorem dX6_init_23 : decode cX6_init 23 = .ok (.sipush 3001, 3) := by decide +kernel
theorem dX6_init_26 : decode cX6_init 26 = .ok (.newarray .int, 2) := by decide +kernel
theorem dX6_init_28 : decode cX6_init 28 = .ok (.putfield 18, 3) := by decide +kernel
theorem dX6_init_31 : decode cX6_init 31 = .ok (.return_, 1) := by decide +kernel
theorem dX6_scan_0 : decode cX6_scan 0 = .ok (.aload_n 0, 1) := by decide +kernel
theorem dX6_scan_1 : decode cX6_scan 1 = .ok (.iconst 0, 1) := by decide +kernel
theorem dX6_scan_2 : decode cX6_scan 2 = .ok (.putfield 21, 3) := by decide +kernel
theorem dX6_scan_5 : decode cX6_scan 5 = .ok (.iconst 0, 1) := by decide +kernel
theorem dX6_scan_6 : decode cX6_scan 6 = .ok (.istore_n 2, 1) := by decide +kernel
theorem dX6_scan_7 : decode cX6_scan 7 = .ok (.iconst 0, 1) := by decide +kernel
theorem dX6_scan_8 : decode cX6_scan 8 = .ok (.istore_n 3, 1) := by decide +kernel
theorem dX6_scan_9 : decode cX6_scan 9 = .ok (.iload_n 3, 1) := by decide +kernel
theorem dX6_scan_10 : decode cX6_scan 10 = .ok (.aload_n 1, 1) := by decide +kernel
theorem dX6_scan_11 : decode cX6_scan 11 = .ok (.getfield 25, 3) := by decide +kernel
theorem dX6_scan_14 : decode cX6_scan 14 = .ok (.if_icmp .ge 32, 3) := by decide +kernel
theorem dX6_scan_17 : decode cX6_scan 17 = .ok (.iload_n 3, 1) := by decide +kernel
theorem dX6_scan_18 : decode cX6_scan 18 = .ok (.iload_n 2, 1) := by decide +kernel
theorem dX6_scan_19 : decode cX6_scan 19 = .ok (.if_icmp .lt 21, 3) := by decide +kernel
theorem dX6_scan_22 : decode cX6_scan 22 = .ok (.aload_n 1, 1) := by decide +kernel
theorem dX6_scan_23 : decode cX6_scan 23 = .ok (.iload_n 3, 1) := by decide +kernel
theorem dX6_scan_24 : decode cX6_scan 24 = .ok (.invokevirtual 30, 3) := by decide +kernel
theorem dX6_scan_27 : decode cX6_scan 27 = .ok (.invokestatic 34, 3) := by decide +kernel
theorem dX6_scan_30 : decode cX6_scan 30 = .ok (.ifCond .ne 10, 3) := by decide +kernel
theorem dX6_scan_33 : decode cX6_scan 33 = .ok (.aload_n 0, 1) := by decide +kernel
theorem dX6_scan_34 : decode cX6_scan 34 = .ok (.aload_n 1, 1) := by decide +kernel
theorem dX6_scan_35 : decode cX6_scan 35 = .ok (.iload_n 3, 1) := by decide +kernel
theorem dX6_scan_36 : decode cX6_scan 36 = .ok (.invokevirtual 38, 3) := by decide +kernel
theorem dX6_scan_39 : decode cX6_scan 39 = .ok (.istore_n 2, 1) := by decide +kernel
theorem dX6_scan_40 : decode cX6_scan 40 = .ok (.iinc 3 1, 3) := by decide +kernel
theorem dX6_scan_43 : decode cX6_scan 43 = .ok (.goto (-34), 3) := by decide +kernel
theorem dX6_scan_46 : decode cX6_scan 46 = .ok (.aload_n 0, 1) := by decide +kernel
theorem dX6_scan_47 : decode cX6_scan 47 = .ok (.iconst 0, 1) := by decide +kernel
theorem dX6_scan_48 : decode cX6_scan 48 = .ok (.iconst 0, 1) := by decide +kernel
theorem dX6_scan_49 : decode cX6_scan 49 = .ok (.aload_n 1, 1) := by decide +kernel
theorem dX6_scan_50 : decode cX6_scan 50 = .ok (.getfield 25, 3) := by decide +kernel
theorem dX6_scan_53 : decode cX6_scan 53 = .ok (.invokevirtual 42, 3) := by decide +kernel
theorem dX6_scan_56 : decode cX6_scan 56 = .ok (.return_, 1) := by decide +kernel
theorem dX6_add_0 : decode cX6_add 0 = .ok (.aload_n 0, 1) := by decide +kernel
theorem dX6_add_1 : decode cX6_add 1 = .ok (.getfield 21, 3) := by decide +kernel
theorem dX6_add_4 : decode cX6_add 4 = .ok (.aload_n 0, 1) := by decide +kernel
theorem dX6_add_5 : decode cX6_add 5 = .ok (.getfield 9, 3) := by decide +kernel
theorem dX6_add_8 : decode cX6_add 8 = .ok (.arraylength, 1) := by decide +kernel
theorem dX6_add_9 : decode cX6_add 9 = .ok (.if_icmp .ge 43, 3) := by decide +kernel
theorem dX6_add_12 : decode cX6_add 12 = .ok (.aload_n 0, 1) := by decide +kernel
theorem dX6_add_13 : decode cX6_add 13 = .ok (.getfield 9, 3) := by decide +kernel
theorem dX6_add_16 : decode cX6_add 16 = .ok (.aload_n 0, 1) := by decide +kernel
theorem dX6_add_17 : decode cX6_add 17 = .ok (.getfield 21, 3) := by decide +kernel
theorem dX6_add_20 : decode cX6_add 20 = .ok (.iload_n 1, 1) := by decide +kernel
theorem dX6_add_21 : decode cX6_add 21 = .ok (.iastore, 1) := by decide +kernel
theorem dX6_add_22 : decode cX6_add 22 = .ok (.aload_n 0, 1) := by decide +kernel
theorem dX6_add_23 : decode cX6_add 23 = .ok (.getfield 15, 3) := by decide +kernel
theorem dX6_add_26 : decode cX6_add 26 = .ok (.aload_n 0, 1) := by decide +kernel
theorem dX6_add_27 : decode cX6_add 27 = .ok (.getfield 21, 3) := by decide +kernel
theorem dX6_add_30 : decode cX6_add 30 = .ok (.iload_n 2, 1) := by decide +kernel
theorem dX6_add_31 : decode cX6_add 31 = .ok (.iastore, 1) := by decide +kernel
theorem dX6_add_32 : decode cX6_add 32 = .ok (.aload_n 0, 1) := by decide +kernel
theorem dX6_add_33 : decode cX6_add 33 = .ok (.getfield 18, 3) := by decide +kernel
theorem dX6_add_36 : decode cX6_add 36 = .ok (.aload_n 0, 1) := by decide +kernel
theorem dX6_add_37 : decode cX6_add 37 = .ok (.getfield 21, 3) := by decide +kernel
theorem dX6_add_40 : decode cX6_add 40 = .ok (.iload_n 3, 1) := by decide +kernel
theorem dX6_add_41 : decode cX6_add 41 = .ok (.iastore, 1) := by decide +kernel
theorem dX6_add_42 : decode cX6_add 42 = .ok (.aload_n 0, 1) := by decide +kernel
theorem dX6_add_43 : decode cX6_add 43 = .ok (.dup, 1) := by decide +kernel
theorem dX6_add_44 : decode cX6_add 44 = .ok (.getfield 21, 3) := by decide +kernel
theorem dX6_add_47 : decode cX6_add 47 = .ok (.iconst 1, 1) := by decide +kernel
theorem dX6_add_48 : decode cX6_add 48 = .ok (.iadd, 1) := by decide +kernel
theorem dX6_add_49 : decode cX6_add 49 = .ok (.putfield 21, 3) := by decide +kernel
theorem dX6_add_52 : decode cX6_add 52 = .ok (.return_, 1) := by decide +kernel
theorem dX6_scanToken_0 : decode cX6_scanToken 0 = .ok (.aload_n 1, 1) := by decide +kernel
theorem dX6_scanToken_1 : decode cX6_scanToken 1 = .ok (.iload_n 2, 1) := by decide +kernel
theorem dX6_scanToken_2 : decode cX6_scanToken 2 = .ok (.invokevirtual 30, 3) := by decide +kernel
theorem dX6_scanToken_5 : decode cX6_scanToken 5 = .ok (.istore_n 3, 1) := by decide +kernel
theorem dX6_scanToken_6 : decode cX6_scanToken 6 = .ok (.iload_n 3, 1) := by decide +kernel
theorem dX6_scanToken_7 : decode cX6_scanToken 7 = .ok (.invokestatic 46, 3) := by decide +kernel
theorem dX6_scanToken_10 : decode cX6_scanToken 10 = .ok (.ifCond .ne 10, 3) := by decide +kernel
theorem dX6_scanToken_13 : decode cX6_scanToken 13 = .ok (.iload_n 3, 1) := by decide +kernel
theorem dX6_scanToken_14 : decode cX6_scanToken 14 = .ok (.invokestatic 49, 3) := by decide +kernel
theorem dX6_scanToken_17 : decode cX6_scanToken 17 = .ok (.ifCond .eq 10, 3) := by decide +kernel
theorem dX6_scanToken_20 : decode cX6_scanToken 20 = .ok (.aload_n 0, 1) := by decide +kernel
theorem dX6_scanToken_21 : decode cX6_scanToken 21 = .ok (.aload_n 1, 1) := by decide +kernel
theorem dX6_scanToken_22 : decode cX6_scanToken 22 = .ok (.iload_n 2, 1) := by decide +kernel
theorem dX6_scanToken_23 : decode cX6_scanToken 23 = .ok (.invokevirtual 52, 3) := by decide +kernel
theorem dX6_scanToken_26 : decode cX6_scanToken 26 = .ok (.ireturn, 1) := by decide +kernel
theorem dX6_scanToken_27 : decode cX6_scanToken 27 = .ok (.aload_n 0, 1) := by decide +kernel
theorem dX6_scanToken_28 : decode cX6_scanToken 28 = .ok (.iload_n 3, 1) := by decide +kernel
theorem dX6_scanToken_29 : decode cX6_scanToken 29 = .ok (.invokestatic 55, 3) := by decide +kernel
theorem dX6_scanToken_32 : decode cX6_scanToken 32 = .ok (.ifCond .eq 8, 3) := by decide +kernel
theorem dX6_scanToken_35 : decode cX6_scanToken 35 = .ok (.bipush 7, 2) := by decide +kernel
theorem dX6_scanToken_37 : decode cX6_scanToken 37 = .ok (.goto 4, 3) := by decide +kernel
theorem dX6_scanToken_40 : decode cX6_scanToken 40 = .ok (.iconst 1, 1) := by decide +kernel
theorem dX6_scanToken_41 : decode cX6_scanToken 41 = .ok (.iload_n 3, 1) := by decide +kernel
theorem dX6_scanToken_42 : decode cX6_scanToken 42 = .ok (.iload_n 2, 1) := by decide +kernel
theorem dX6_scanToken_43 : decode cX6_scanToken 43 = .ok (.invokevirtual 42, 3) := by decide +kernel
theorem dX6_scanToken_46 : decode cX6_scanToken 46 = .ok (.iload_n 2, 1) := by decide +kernel
theorem dX6_scanToken_47 : decode cX6_scanToken 47 = .ok (.iconst 1, 1) := by decide +kernel
theorem dX6_scanToken_48 : decode cX6_scanToken 48 = .ok (.iadd, 1) := by decide +kernel
theorem dX6_scanToken_49 : decode cX6_scanToken 49 = .ok (.ireturn, 1) := by decide +kernel
theorem dX6_scanWordOrNumber_0 : decode cX6_scanWordOrNumber 0 = .ok (.aload_n 1, 1) := by decide +kernel
theorem dX6_scanWordOrNumber_1 : decode cX6_scanWordOrNumber 1 = .ok (.iload_n 2, 1) := by decide +kernel
theorem dX6_scanWordOrNumber_2 : decode cX6_scanWordOrNumber 2 = .ok (.invokestatic 58, 3) := by decide +kernel
theorem dX6_scanWordOrNumber_5 : decode cX6_scanWordOrNumber 5 = .ok (.istore_n 3, 1) := by decide +kernel
theorem dX6_scanWordOrNumber_6 : decode cX6_scanWordOrNumber 6 = .ok (.aload_n 1, 1) := by decide +kernel
theorem dX6_scanWordOrNumber_7 : decode cX6_scanWordOrNumber 7 = .ok (.iload_n 3, 1) := by decide +kernel
theorem dX6_scanWordOrNumber_8 : decode cX6_scanWordOrNumber 8 = .ok (.invokestatic 61, 3) := by decide +kernel
theorem dX6_scanWordOrNumber_11 : decode cX6_scanWordOrNumber 11 = .ok (.istore 4, 2) := by decide +kernel
theorem dX6_scanWordOrNumber_13 : decode cX6_scanWordOrNumber 13 = .ok (.aload_n 1, 1) := by decide +kernel
theorem dX6_scanWordOrNumber_14 : decode cX6_scanWordOrNumber 14 = .ok (.iload 4, 2) := by decide +kernel
theorem dX6_scanWordOrNumber_16 : decode cX6_scanWordOrNumber 16 = .ok (.invokestatic 64, 3) := by decide +kernel
theorem dX6_scanWordOrNumber_19 : decode cX6_scanWordOrNumber 19 = .ok (.istore 5, 2) := by decide +kernel
theorem dX6_scanWordOrNumber_21 : decode cX6_scanWordOrNumber 21 = .ok (.iload_n 3, 1) := by decide +kernel
theorem dX6_scanWordOrNumber_22 : decode cX6_scanWordOrNumber 22 = .ok (.iload_n 2, 1) := by decide +kernel
theorem dX6_scanWordOrNumber_23 : decode cX6_scanWordOrNumber 23 = .ok (.if_icmp .ne 7, 3) := by decide +kernel
theorem dX6_scanWordOrNumber_26 : decode cX6_scanWordOrNumber 26 = .ok (.iconst 1, 1) := by decide +kernel
theorem dX6_scanWordOrNumber_27 : decode cX6_scanWordOrNumber 27 = .ok (.goto 4, 3) := by decide +kernel
theorem dX6_scanWordOrNumber_30 : decode cX6_scanWordOrNumber 30 = .ok (.iconst 0, 1) := by decide +kernel
theorem dX6_scanWordOrNumber_31 : decode cX6_scanWordOrNumber 31 = .ok (.istore 6, 2) := by decide +kernel
theorem dX6_scanWordOrNumber_33 : decode cX6_scanWordOrNumber 33 = .ok (.iload 5, 2) := by decide +kernel
theorem dX6_scanWordOrNumber_35 : decode cX6_scanWordOrNumber 35 = .ok (.iload 4, 2) := by decide +kernel
theorem dX6_scanWordOrNumber_37 : decode cX6_scanWordOrNumber 37 = .ok (.if_icmp .ne 22, 3) := by decide +kernel
theorem dX6_scanWordOrNumber_40 : decode cX6_scanWordOrNumber 40 = .ok (.iload 5, 2) := by decide +kernel
theorem dX6_scanWordOrNumber_42 : decode cX6_scanWordOrNumber 42 = .ok (.iload_n 2, 1) := by decide +kernel
theorem dX6_scanWordOrNumber_43 : decode cX6_scanWordOrNumber 43 = .ok (.isub, 1) := by decide +kernel
theorem dX6_scanWordOrNumber_44 : decode cX6_scanWordOrNumber 44 = .ok (.iload 6, 2) := by decide +kernel
theorem dX6_scanWordOrNumber_46 : decode cX6_scanWordOrNumber 46 = .ok (.ifCond .eq 8, 3) := by decide +kernel
theorem dX6_scanWordOrNumber_49 : decode cX6_scanWordOrNumber 49 = .ok (.bipush 9, 2) := by decide +kernel
theorem dX6_scanWordOrNumber_51 : decode cX6_scanWordOrNumber 51 = .ok (.goto 5, 3) := by decide +kernel
theorem dX6_scanWordOrNumber_54 : decode cX6_scanWordOrNumber 54 = .ok (.bipush 8, 2) := by decide +kernel
theorem dX6_scanWordOrNumber_56 : decode cX6_scanWordOrNumber 56 = .ok (.if_icmp .le 13, 3) := by decide +kernel
theorem dX6_scanWordOrNumber_59 : decode cX6_scanWordOrNumber 59 = .ok (.aload_n 0, 1) := by decide +kernel
theorem dX6_scanWordOrNumber_60 : decode cX6_scanWordOrNumber 60 = .ok (.iconst 1, 1) := by decide +kernel
theorem dX6_scanWordOrNumber_61 : decode cX6_scanWordOrNumber 61 = .ok (.iconst 0, 1) := by decide +kernel
theorem dX6_scanWordOrNumber_62 : decode cX6_scanWordOrNumber 62 = .ok (.iload_n 2, 1) := by decide +kernel
theorem dX6_scanWordOrNumber_63 : decode cX6_scanWordOrNumber 63 = .ok (.invokevirtual 42, 3) := by decide +kernel
theorem dX6_scanWordOrNumber_66 : decode cX6_scanWordOrNumber 66 = .ok (.goto 51, 3) := by decide +kernel
theorem dX6_scanWordOrNumber_69 : decode cX6_scanWordOrNumber 69 = .ok (.iload 6, 2) := by decide +kernel
theorem dX6_scanWordOrNumber_71 : decode cX6_scanWordOrNumber 71 = .ok (.ifCond .eq 20, 3) := by decide +kernel
theorem dX6_scanWordOrNumber_74 : decode cX6_scanWordOrNumber 74 = .ok (.aload_n 0, 1) := by decide +kernel
theorem dX6_scanWordOrNumber_75 : decode cX6_scanWordOrNumber 75 = .ok (.bipush 6, 2) := by decide +kernel
theorem dX6_scanWordOrNumber_77 : decode cX6_scanWordOrNumber 77 = .ok (.aload_n 1, 1) := by decide +kernel
theorem dX6_scanWordOrNumber_78 : decode cX6_scanWordOrNumber 78 = .ok (.iload_n 2, 1) := by decide +kernel
theorem dX6_scanWordOrNumber_79 : decode cX6_scanWordOrNumber 79 = .ok (.iload 5, 2) := by decide +kernel
theorem dX6_scanWordOrNumber_81 : decode cX6_scanWordOrNumber 81 = .ok (.invokestatic 67, 3) := by decide +kernel
theorem dX6_scanWordOrNumber_84 : decode cX6_scanWordOrNumber 84 = .ok (.iload_n 2, 1) := by decide +kernel
theorem dX6_scanWordOrNumber_85 : decode cX6_scanWordOrNumber 85 = .ok (.invokevirtual 42, 3) := by decide +kernel
theorem dX6_scanWordOrNumber_88 : decode cX6_scanWordOrNumber 88 = .ok (.goto 29, 3) := by decide +kernel
theorem dX6_scanWordOrNumber_91 : decode cX6_scanWordOrNumber 91 = .ok (.iload_n 3, 1) := by decide +kernel
theorem dX6_scanWordOrNumber_92 : decode cX6_scanWordOrNumber 92 = .ok (.iload 5, 2) := by decide +kernel
theorem dX6_scanWordOrNumber_94 : decode cX6_scanWordOrNumber 94 = .ok (.if_icmp .ne 14, 3) := by decide +kernel
theorem dX6_scanWordOrNumber_97 : decode cX6_scanWordOrNumber 97 = .ok (.aload_n 0, 1) := by decide +kernel
theorem dX6_scanWordOrNumber_98 : decode cX6_scanWordOrNumber 98 = .ok (.aload_n 1, 1) := by decide +kernel
theorem dX6_scanWordOrNumber_99 : decode cX6_scanWordOrNumber 99 = .ok (.iload_n 2, 1) := by decide +kernel
theorem dX6_scanWordOrNumber_100 : decode cX6_scanWordOrNumber 100 = .ok (.iload 5, 2) := by decide +kernel
theorem dX6_scanWordOrNumber_102 : decode cX6_scanWordOrNumber 102 = .ok (.invokevirtual 71, 3) := by decide +kernel
theorem dX6_scanWordOrNumber_105 : decode cX6_scanWordOrNumber 105 = .ok (.goto 12, 3) := by decide +kernel
theorem dX6_scanWordOrNumber_108 : decode cX6_scanWordOrNumber 108 = .ok (.aload_n 0, 1) := by decide +kernel
theorem dX6_scanWordOrNumber_109 : decode cX6_scanWordOrNumber 109 = .ok (.aload_n 1, 1) := by decide +kernel
theorem dX6_scanWordOrNumber_110 : decode cX6_scanWordOrNumber 110 = .ok (.iload_n 2, 1) := by decide +kernel
theorem dX6_scanWordOrNumber_111 : decode cX6_scanWordOrNumber 111 = .ok (.iload_n 3, 1) := by decide +kernel
theorem dX6_scanWordOrNumber_112 : decode cX6_scanWordOrNumber 112 = .ok (.iload 5, 2) := by decide +kernel
theorem dX6_scanWordOrNumber_114 : decode cX6_scanWordOrNumber 114 = .ok (.invokevirtual 75, 3) := by decide +kernel
theorem dX6_scanWordOrNumber_117 : decode cX6_scanWordOrNumber 117 = .ok (.iload 5, 2) := by decide +kernel
theorem dX6_scanWordOrNumber_119 : decode cX6_scanWordOrNumber 119 = .ok (.ireturn, 1) := by decide +kernel
theorem dX6_addLetters_0 : decode cX6_addLetters 0 = .ok (.aload_n 1, 1) := by decide +kernel
theorem dX6_addLetters_1 : decode cX6_addLetters 1 = .ok (.iload_n 2, 1) := by decide +kernel
theorem dX6_addLetters_2 : decode cX6_addLetters 2 = .ok (.iload_n 3, 1) := by decide +kernel
theorem dX6_addLetters_3 : decode cX6_addLetters 3 = .ok (.ldc 79, 2) := by decide +kernel
theorem dX6_addLetters_5 : decode cX6_addLetters 5 = .ok (.invokestatic 81, 3) := by decide +kernel
theorem dX6_addLetters_8 : decode cX6_addLetters 8 = .ok (.ifCond .eq 14, 3) := by decide +kernel
theorem dX6_addLetters_11 : decode cX6_addLetters 11 = .ok (.aload_n 0, 1) := by decide +kernel
theorem dX6_addLetters_12 : decode cX6_addLetters 12 = .ok (.bipush 8, 2) := by decide +kernel
theorem dX6_addLetters_14 : decode cX6_addLetters 14 = .ok (.iconst 3, 1) := by decide +kernel
theorem dX6_addLetters_15 : decode cX6_addLetters 15 = .ok (.iload_n 2, 1) := by decide +kernel
theorem dX6_addLetters_16 : decode cX6_addLetters 16 = .ok (.invokevirtual 42, 3) := by decide +kernel
theorem dX6_addLetters_19 : decode cX6_addLetters 19 = .ok (.goto 77, 3) := by decide +kernel
theorem dX6_addLetters_22 : decode cX6_addLetters 22 = .ok (.aload_n 1, 1) := by decide +kernel
theorem dX6_addLetters_23 : decode cX6_addLetters 23 = .ok (.iload_n 2, 1) := by decide +kernel
theorem dX6_addLetters_24 : decode cX6_addLetters 24 = .ok (.iload_n 3, 1) := by decide +kernel
theorem dX6_addLetters_25 : decode cX6_addLetters 25 = .ok (.ldc 85, 2) := by decide +kernel
theorem dX6_addLetters_27 : decode cX6_addLetters 27 = .ok (.invokestatic 81, 3) := by decide +kernel
theorem dX6_addLetters_30 : decode cX6_addLetters 30 = .ok (.ifCond .eq 14, 3) := by decide +kernel
theorem dX6_addLetters_33 : decode cX6_addLetters 33 = .ok (.aload_n 0, 1) := by decide +kernel
theorem dX6_addLetters_34 : decode cX6_addLetters 34 = .ok (.bipush 8, 2) := by decide +kernel
theorem dX6_addLetters_36 : decode cX6_addLetters 36 = .ok (.iconst 4, 1) := by decide +kernel
theorem dX6_addLetters_37 : decode cX6_addLetters 37 = .ok (.iload_n 2, 1) := by decide +kernel
theorem dX6_addLetters_38 : decode cX6_addLetters 38 = .ok (.invokevirtual 42, 3) := by decide +kernel
theorem dX6_addLetters_41 : decode cX6_addLetters 41 = .ok (.goto 55, 3) := by decide +kernel
theorem dX6_addLetters_44 : decode cX6_addLetters 44 = .ok (.aload_n 1, 1) := by decide +kernel
theorem dX6_addLetters_45 : decode cX6_addLetters 45 = .ok (.iload_n 2, 1) := by decide +kernel
theorem dX6_addLetters_46 : decode cX6_addLetters 46 = .ok (.iload_n 3, 1) := by decide +kernel
theorem dX6_addLetters_47 : decode cX6_addLetters 47 = .ok (.ldc 87, 2) := by decide +kernel
theorem dX6_addLetters_49 : decode cX6_addLetters 49 = .ok (.invokestatic 81, 3) := by decide +kernel
theorem dX6_addLetters_52 : decode cX6_addLetters 52 = .ok (.ifCond .eq 14, 3) := by decide +kernel
theorem dX6_addLetters_55 : decode cX6_addLetters 55 = .ok (.aload_n 0, 1) := by decide +kernel
theorem dX6_addLetters_56 : decode cX6_addLetters 56 = .ok (.bipush 8, 2) := by decide +kernel
theorem dX6_addLetters_58 : decode cX6_addLetters 58 = .ok (.iconst 5, 1) := by decide +kernel
theorem dX6_addLetters_59 : decode cX6_addLetters 59 = .ok (.iload_n 2, 1) := by decide +kernel
theorem dX6_addLetters_60 : decode cX6_addLetters 60 = .ok (.invokevirtual 42, 3) := by decide +kernel
theorem dX6_addLetters_63 : decode cX6_addLetters 63 = .ok (.goto 33, 3) := by decide +kernel
theorem dX6_addLetters_66 : decode cX6_addLetters 66 = .ok (.aload_n 1, 1) := by decide +kernel
theorem dX6_addLetters_67 : decode cX6_addLetters 67 = .ok (.iload_n 2, 1) := by decide +kernel
theorem dX6_addLetters_68 : decode cX6_addLetters 68 = .ok (.iload_n 3, 1) := by decide +kernel
theorem dX6_addLetters_69 : decode cX6_addLetters 69 = .ok (.ldc 89, 2) := by decide +kernel
theorem dX6_addLetters_71 : decode cX6_addLetters 71 = .ok (.invokestatic 81, 3) := by decide +kernel
theorem dX6_addLetters_74 : decode cX6_addLetters 74 = .ok (.ifCond .eq 15, 3) := by decide +kernel
theorem dX6_addLetters_77 : decode cX6_addLetters 77 = .ok (.aload_n 0, 1) := by decide +kernel
theorem dX6_addLetters_78 : decode cX6_addLetters 78 = .ok (.bipush 8, 2) := by decide +kernel
theorem dX6_addLetters_80 : decode cX6_addLetters 80 = .ok (.bipush 6, 2) := by decide +kernel
theorem dX6_addLetters_82 : decode cX6_addLetters 82 = .ok (.iload_n 2, 1) := by decide +kernel
theorem dX6_addLetters_83 : decode cX6_addLetters 83 = .ok (.invokevirtual 42, 3) := by decide +kernel
theorem dX6_addLetters_86 : decode cX6_addLetters 86 = .ok (.goto 10, 3) := by decide +kernel
theorem dX6_addLetters_89 : decode cX6_addLetters 89 = .ok (.aload_n 0, 1) := by decide +kernel
theorem dX6_addLetters_90 : decode cX6_addLetters 90 = .ok (.iconst 2, 1) := by decide +kernel
theorem dX6_addLetters_91 : decode cX6_addLetters 91 = .ok (.iconst 0, 1) := by decide +kernel
theorem dX6_addLetters_92 : decode cX6_addLetters 92 = .ok (.iload_n 2, 1) := by decide +kernel
theorem dX6_addLetters_93 : decode cX6_addLetters 93 = .ok (.invokevirtual 42, 3) := by decide +kernel
theorem dX6_addLetters_96 : decode cX6_addLetters 96 = .ok (.return_, 1) := by decide +kernel
theorem dX6_addNumbered_0 : decode cX6_addNumbered 0 = .ok (.aload_n 1, 1) := by decide +kernel
theorem dX6_addNumbered_1 : decode cX6_addNumbered 1 = .ok (.iload_n 3, 1) := by decide +kernel
theorem dX6_addNumbered_2 : decode cX6_addNumbered 2 = .ok (.iload 4, 2) := by decide +kernel
theorem dX6_addNumbered_4 : decode cX6_addNumbered 4 = .ok (.invokestatic 67, 3) := by decide +kernel
theorem dX6_addNumbered_7 : decode cX6_addNumbered 7 = .ok (.istore 5, 2) := by decide +kernel
theorem dX6_addNumbered_9 : decode cX6_addNumbered 9 = .ok (.aload_n 1, 1) := by decide +kernel
theorem dX6_addNumbered_10 : decode cX6_addNumbered 10 = .ok (.iload_n 3, 1) := by decide +kernel
theorem dX6_addNumbered_11 : decode cX6_addNumbered 11 = .ok (.invokevirtual 30, 3) := by decide +kernel
theorem dX6_addNumbered_14 : decode cX6_addNumbered 14 = .ok (.bipush 48, 2) := by decide +kernel
theorem dX6_addNumbered_16 : decode cX6_addNumbered 16 = .ok (.if_icmp .ne 15, 3) := by decide +kernel
theorem dX6_addNumbered_19 : decode cX6_addNumbered 19 = .ok (.iload 4, 2) := by decide +kernel
theorem dX6_addNumbered_21 : decode cX6_addNumbered 21 = .ok (.iload_n 3, 1) := by decide +kernel
theorem dX6_addNumbered_22 : decode cX6_addNumbered 22 = .ok (.isub, 1) := by decide +kernel
theorem dX6_addNumbered_23 : decode cX6_addNumbered 23 = .ok (.iconst 1, 1) := by decide +kernel
theorem dX6_addNumbered_24 : decode cX6_addNumbered 24 = .ok (.if_icmp .le 7, 3) := by decide +kernel
theorem dX6_addNumbered_27 : decode cX6_addNumbered 27 = .ok (.iconst 1, 1) := by decide +kernel
theorem dX6_addNumbered_28 : decode cX6_addNumbered 28 = .ok (.goto 4, 3) := by decide +kernel
theorem dX6_addNumbered_31 : decode cX6_addNumbered 31 = .ok (.iconst 0, 1) := by decide +kernel
theorem dX6_addNumbered_32 : decode cX6_addNumbered 32 = .ok (.istore 6, 2) := by decide +kernel
theorem dX6_addNumbered_34 : decode cX6_addNumbered 34 = .ok (.iload 6, 2) := by decide +kernel
theorem dX6_addNumbered_36 : decode cX6_addNumbered 36 = .ok (.ifCond .ne 10, 3) := by decide +kernel
theorem dX6_addNumbered_39 : decode cX6_addNumbered 39 = .ok (.iload_n 3, 1) := by decide +kernel
theorem dX6_addNumbered_40 : decode cX6_addNumbered 40 = .ok (.iload_n 2, 1) := by decide +kernel
theorem dX6_addNumbered_41 : decode cX6_addNumbered 41 = .ok (.isub, 1) := by decide +kernel
theorem dX6_addNumbered_42 : decode cX6_addNumbered 42 = .ok (.iconst 1, 1) := by decide +kernel
theorem dX6_addNumbered_43 : decode cX6_addNumbered 43 = .ok (.if_icmp .eq 7, 3) := by decide +kernel
theorem dX6_addNumbered_46 : decode cX6_addNumbered 46 = .ok (.iconst 0, 1) := by decide +kernel
theorem dX6_addNumbered_47 : decode cX6_addNumbered 47 = .ok (.goto 8, 3) := by decide +kernel
theorem dX6_addNumbered_50 : decode cX6_addNumbered 50 = .ok (.aload_n 1, 1) := by decide +kernel
theorem dX6_addNumbered_51 : decode cX6_addNumbered 51 = .ok (.iload_n 2, 1) := by decide +kernel
theorem dX6_addNumbered_52 : decode cX6_addNumbered 52 = .ok (.invokevirtual 30, 3) := by decide +kernel
theorem dX6_addNumbered_55 : decode cX6_addNumbered 55 = .ok (.istore 7, 2) := by decide +kernel
theorem dX6_addNumbered_57 : decode cX6_addNumbered 57 = .ok (.iload 7, 2) := by decide +kernel
theorem dX6_addNumbered_59 : decode cX6_addNumbered 59 = .ok (.bipush 118, 2) := by decide +kernel
theorem dX6_addNumbered_61 : decode cX6_addNumbered 61 = .ok (.if_icmp .ne 21, 3) := by decide +kernel
theorem dX6_addNumbered_64 : decode cX6_addNumbered 64 = .ok (.iload 5, 2) := by decide +kernel
theorem dX6_addNumbered_66 : decode cX6_addNumbered 66 = .ok (.bipush 16, 2) := by decide +kernel
theorem dX6_addNumbered_68 : decode cX6_addNumbered 68 = .ok (.if_icmp .ge 14, 3) := by decide +kernel
theorem dX6_addNumbered_71 : decode cX6_addNumbered 71 = .ok (.aload_n 0, 1) := by decide +kernel
theorem dX6_addNumbered_72 : decode cX6_addNumbered 72 = .ok (.iconst 3, 1) := by decide +kernel
theorem dX6_addNumbered_73 : decode cX6_addNumbered 73 = .ok (.iload 5, 2) := by decide +kernel
theorem dX6_addNumbered_75 : decode cX6_addNumbered 75 = .ok (.iload_n 2, 1) := by decide +kernel
theorem dX6_addNumbered_76 : decode cX6_addNumbered 76 = .ok (.invokevirtual 42, 3) := by decide +kernel
theorem dX6_addNumbered_79 : decode cX6_addNumbered 79 = .ok (.goto 87, 3) := by decide +kernel
theorem dX6_addNumbered_82 : decode cX6_addNumbered 82 = .ok (.iload 7, 2) := by decide +kernel
theorem dX6_addNumbered_84 : decode cX6_addNumbered 84 = .ok (.bipush 116, 2) := by decide +kernel
theorem dX6_addNumbered_86 : decode cX6_addNumbered 86 = .ok (.if_icmp .ne 24, 3) := by decide +kernel
theorem dX6_addNumbered_89 : decode cX6_addNumbered 89 = .ok (.iload 5, 2) := by decide +kernel
theorem dX6_addNumbered_91 : decode cX6_addNumbered 91 = .ok (.bipush 32, 2) := by decide +kernel
theorem dX6_addNumbered_93 : decode cX6_addNumbered 93 = .ok (.if_icmp .ge 17, 3) := by decide +kernel
theorem dX6_addNumbered_96 : decode cX6_addNumbered 96 = .ok (.aload_n 0, 1) := by decide +kernel
theorem dX6_addNumbered_97 : decode cX6_addNumbered 97 = .ok (.iconst 3, 1) := by decide +kernel
theorem dX6_addNumbered_98 : decode cX6_addNumbered 98 = .ok (.bipush 16, 2) := by decide +kernel
theorem dX6_addNumbered_100 : decode cX6_addNumbered 100 = .ok (.iload 5, 2) := by decide +kernel
theorem dX6_addNumbered_102 : decode cX6_addNumbered 102 = .ok (.iadd, 1) := by decide +kernel
theorem dX6_addNumbered_103 : decode cX6_addNumbered 103 = .ok (.iload_n 2, 1) := by decide +kernel
theorem dX6_addNumbered_104 : decode cX6_addNumbered 104 = .ok (.invokevirtual 42, 3) := by decide +kernel
theorem dX6_addNumbered_107 : decode cX6_addNumbered 107 = .ok (.goto 59, 3) := by decide +kernel
theorem dX6_addNumbered_110 : decode cX6_addNumbered 110 = .ok (.iload 7, 2) := by decide +kernel
theorem dX6_addNumbered_112 : decode cX6_addNumbered 112 = .ok (.bipush 114, 2) := by decide +kernel
theorem dX6_addNumbered_114 : decode cX6_addNumbered 114 = .ok (.if_icmp .ne 20, 3) := by decide +kernel
theorem dX6_addNumbered_117 : decode cX6_addNumbered 117 = .ok (.iload 5, 2) := by decide +kernel
theorem dX6_addNumbered_119 : decode cX6_addNumbered 119 = .ok (.iconst 2, 1) := by decide +kernel
theorem dX6_addNumbered_120 : decode cX6_addNumbered 120 = .ok (.if_icmp .ge 14, 3) := by decide +kernel
theorem dX6_addNumbered_123 : decode cX6_addNumbered 123 = .ok (.aload_n 0, 1) := by decide +kernel
theorem dX6_addNumbered_124 : decode cX6_addNumbered 124 = .ok (.iconst 4, 1) := by decide +kernel
theorem dX6_addNumbered_125 : decode cX6_addNumbered 125 = .ok (.iload 5, 2) := by decide +kernel
theorem dX6_addNumbered_127 : decode cX6_addNumbered 127 = .ok (.iload_n 2, 1) := by decide +kernel
theorem dX6_addNumbered_128 : decode cX6_addNumbered 128 = .ok (.invokevirtual 42, 3) := by decide +kernel
theorem dX6_addNumbered_131 : decode cX6_addNumbered 131 = .ok (.goto 35, 3) := by decide +kernel
theorem dX6_addNumbered_134 : decode cX6_addNumbered 134 = .ok (.iload 7, 2) := by decide +kernel
theorem dX6_addNumbered_136 : decode cX6_addNumbered 136 = .ok (.bipush 98, 2) := by decide +kernel
theorem dX6_addNumbered_138 : decode cX6_addNumbered 138 = .ok (.if_icmp .ne 21, 3) := by decide +kernel
theorem dX6_addNumbered_141 : decode cX6_addNumbered 141 = .ok (.iload 5, 2) := by decide +kernel
theorem dX6_addNumbered_143 : decode cX6_addNumbered 143 = .ok (.bipush 40, 2) := by decide +kernel
theorem dX6_addNumbered_145 : decode cX6_addNumbered 145 = .ok (.if_icmp .ge 14, 3) := by decide +kernel
theorem dX6_addNumbered_148 : decode cX6_addNumbered 148 = .ok (.aload_n 0, 1) := by decide +kernel
theorem dX6_addNumbered_149 : decode cX6_addNumbered 149 = .ok (.iconst 5, 1) := by decide +kernel
theorem dX6_addNumbered_150 : decode cX6_addNumbered 150 = .ok (.iload 5, 2) := by decide +kernel
theorem dX6_addNumbered_152 : decode cX6_addNumbered 152 = .ok (.iload_n 2, 1) := by decide +kernel
theorem dX6_addNumbered_153 : decode cX6_addNumbered 153 = .ok (.invokevirtual 42, 3) := by decide +kernel
theorem dX6_addNumbered_156 : decode cX6_addNumbered 156 = .ok (.goto 10, 3) := by decide +kernel
theorem dX6_addNumbered_159 : decode cX6_addNumbered 159 = .ok (.aload_n 0, 1) := by decide +kernel
theorem dX6_addNumbered_160 : decode cX6_addNumbered 160 = .ok (.iconst 2, 1) := by decide +kernel
theorem dX6_addNumbered_161 : decode cX6_addNumbered 161 = .ok (.iconst 0, 1) := by decide +kernel
theorem dX6_addNumbered_162 : decode cX6_addNumbered 162 = .ok (.iload_n 2, 1) := by decide +kernel
theorem dX6_addNumbered_163 : decode cX6_addNumbered 163 = .ok (.invokevirtual 42, 3) := by decide +kernel
theorem dX6_addNumbered_166 : decode cX6_addNumbered 166 = .ok (.return_, 1) := by decide +kernel
theorem dX6_endOfLetters_0 : decode cX6_endOfLetters 0 = .ok (.iload_n 1, 1) := by decide +kernel
theorem dX6_endOfLetters_1 : decode cX6_endOfLetters 1 = .ok (.istore_n 2, 1) := by decide +kernel
theorem dX6_endOfLetters_2 : decode cX6_endOfLetters 2 = .ok (.iload_n 2, 1) := by decide +kernel
theorem dX6_endOfLetters_3 : decode cX6_endOfLetters 3 = .ok (.aload_n 0, 1) := by decide +kernel
theorem dX6_endOfLetters_4 : decode cX6_endOfLetters 4 = .ok (.getfield 25, 3) := by decide +kernel
theorem dX6_endOfLetters_7 : decode cX6_endOfLetters 7 = .ok (.if_icmp .ge 20, 3) := by decide +kernel
theorem dX6_endOfLetters_10 : decode cX6_endOfLetters 10 = .ok (.aload_n 0, 1) := by decide +kernel
theorem dX6_endOfLetters_11 : decode cX6_endOfLetters 11 = .ok (.iload_n 2, 1) := by decide +kernel
theorem dX6_endOfLetters_12 : decode cX6_endOfLetters 12 = .ok (.invokevirtual 30, 3) := by decide +kernel
theorem dX6_endOfLetters_15 : decode cX6_endOfLetters 15 = .ok (.invokestatic 46, 3) := by decide +kernel
theorem dX6_endOfLetters_18 : decode cX6_endOfLetters 18 = .ok (.ifCond .eq 9, 3) := by decide +kernel
theorem dX6_endOfLetters_21 : decode cX6_endOfLetters 21 = .ok (.iinc 2 1, 3) := by decide +kernel
theorem dX6_endOfLetters_24 : decode cX6_endOfLetters 24 = .ok (.goto (-22), 3) := by decide +kernel
theorem dX6_endOfLetters_27 : decode cX6_endOfLetters 27 = .ok (.iload_n 2, 1) := by decide +kernel
theorem dX6_endOfLetters_28 : decode cX6_endOfLetters 28 = .ok (.ireturn, 1) := by decide +kernel
theorem dX6_endOfDigits_0 : decode cX6_endOfDigits 0 = .ok (.iload_n 1, 1) := by decide +kernel
theorem dX6_endOfDigits_1 : decode cX6_endOfDigits 1 = .ok (.istore_n 2, 1) := by decide +kernel
theorem dX6_endOfDigits_2 : decode cX6_endOfDigits 2 = .ok (.iload_n 2, 1) := by decide +kernel
theorem dX6_endOfDigits_3 : decode cX6_endOfDigits 3 = .ok (.aload_n 0, 1) := by decide +kernel
theorem dX6_endOfDigits_4 : decode cX6_endOfDigits 4 = .ok (.getfield 25, 3) := by decide +kernel
theorem dX6_endOfDigits_7 : decode cX6_endOfDigits 7 = .ok (.if_icmp .ge 20, 3) := by decide +kernel
theorem dX6_endOfDigits_10 : decode cX6_endOfDigits 10 = .ok (.aload_n 0, 1) := by decide +kernel
theorem dX6_endOfDigits_11 : decode cX6_endOfDigits 11 = .ok (.iload_n 2, 1) := by decide +kernel
theorem dX6_endOfDigits_12 : decode cX6_endOfDigits 12 = .ok (.invokevirtual 30, 3) := by decide +kernel
theorem dX6_endOfDigits_15 : decode cX6_endOfDigits 15 = .ok (.invokestatic 49, 3) := by decide +kernel
theorem dX6_endOfDigits_18 : decode cX6_endOfDigits 18 = .ok (.ifCond .eq 9, 3) := by decide +kernel
theorem dX6_endOfDigits_21 : decode cX6_endOfDigits 21 = .ok (.iinc 2 1, 3) := by decide +kernel
theorem dX6_endOfDigits_24 : decode cX6_endOfDigits 24 = .ok (.goto (-22), 3) := by decide +kernel
theorem dX6_endOfDigits_27 : decode cX6_endOfDigits 27 = .ok (.iload_n 2, 1) := by decide +kernel
theorem dX6_endOfDigits_28 : decode cX6_endOfDigits 28 = .ok (.ireturn, 1) := by decide +kernel
theorem dX6_endOfBoth_0 : decode cX6_endOfBoth 0 = .ok (.iload_n 1, 1) := by decide +kernel
theorem dX6_endOfBoth_1 : decode cX6_endOfBoth 1 = .ok (.istore_n 2, 1) := by decide +kernel
theorem dX6_endOfBoth_2 : decode cX6_endOfBoth 2 = .ok (.iload_n 2, 1) := by decide +kernel
theorem dX6_endOfBoth_3 : decode cX6_endOfBoth 3 = .ok (.aload_n 0, 1) := by decide +kernel
theorem dX6_endOfBoth_4 : decode cX6_endOfBoth 4 = .ok (.getfield 25, 3) := by decide +kernel
theorem dX6_endOfBoth_7 : decode cX6_endOfBoth 7 = .ok (.if_icmp .ge 31, 3) := by decide +kernel
theorem dX6_endOfBoth_10 : decode cX6_endOfBoth 10 = .ok (.aload_n 0, 1) := by decide +kernel
theorem dX6_endOfBoth_11 : decode cX6_endOfBoth 11 = .ok (.iload_n 2, 1) := by decide +kernel
theorem dX6_endOfBoth_12 : decode cX6_endOfBoth 12 = .ok (.invokevirtual 30, 3) := by decide +kernel
theorem dX6_endOfBoth_15 : decode cX6_endOfBoth 15 = .ok (.invokestatic 46, 3) := by decide +kernel
theorem dX6_endOfBoth_18 : decode cX6_endOfBoth 18 = .ok (.ifCond .ne 14, 3) := by decide +kernel
theorem dX6_endOfBoth_21 : decode cX6_endOfBoth 21 = .ok (.aload_n 0, 1) := by decide +kernel
theorem dX6_endOfBoth_22 : decode cX6_endOfBoth 22 = .ok (.iload_n 2, 1) := by decide +kernel
theorem dX6_endOfBoth_23 : decode cX6_endOfBoth 23 = .ok (.invokevirtual 30, 3) := by decide +kernel
theorem dX6_endOfBoth_26 : decode cX6_endOfBoth 26 = .ok (.invokestatic 49, 3) := by decide +kernel
theorem dX6_endOfBoth_29 : decode cX6_endOfBoth 29 = .ok (.ifCond .eq 9, 3) := by decide +kernel
theorem dX6_endOfBoth_32 : decode cX6_endOfBoth 32 = .ok (.iinc 2 1, 3) := by decide +kernel
theorem dX6_endOfBoth_35 : decode cX6_endOfBoth 35 = .ok (.goto (-33), 3) := by decide +kernel
theorem dX6_endOfBoth_38 : decode cX6_endOfBoth 38 = .ok (.iload_n 2, 1) := by decide +kernel
theorem dX6_endOfBoth_39 : decode cX6_endOfBoth 39 = .ok (.ireturn, 1) := by decide +kernel
theorem dX6_numberOf_0 : decode cX6_numberOf 0 = .ok (.iconst 0, 1) := by decide +kernel
theorem dX6_numberOf_1 : decode cX6_numberOf 1 = .ok (.istore_n 3, 1) := by decide +kernel
theorem dX6_numberOf_2 : decode cX6_numberOf 2 = .ok (.iload_n 1, 1) := by decide +kernel
theorem dX6_numberOf_3 : decode cX6_numberOf 3 = .ok (.istore 4, 2) := by decide +kernel
theorem dX6_numberOf_5 : decode cX6_numberOf 5 = .ok (.iload 4, 2) := by decide +kernel
theorem dX6_numberOf_7 : decode cX6_numberOf 7 = .ok (.iload_n 2, 1) := by decide +kernel
theorem dX6_numberOf_8 : decode cX6_numberOf 8 = .ok (.if_icmp .ge 24, 3) := by decide +kernel
theorem dX6_numberOf_11 : decode cX6_numberOf 11 = .ok (.bipush 10, 2) := by decide +kernel
theorem dX6_numberOf_13 : decode cX6_numberOf 13 = .ok (.iload_n 3, 1) := by decide +kernel
theorem dX6_numberOf_14 : decode cX6_numberOf 14 = .ok (.imul, 1) := by decide +kernel
theorem dX6_numberOf_15 : decode cX6_numberOf 15 = .ok (.aload_n 0, 1) := by decide +kernel
theorem dX6_numberOf_16 : decode cX6_numberOf 16 = .ok (.iload 4, 2) := by decide +kernel
theorem dX6_numberOf_18 : decode cX6_numberOf 18 = .ok (.invokevirtual 30, 3) := by decide +kernel
theorem dX6_numberOf_21 : decode cX6_numberOf 21 = .ok (.iadd, 1) := by decide +kernel
theorem dX6_numberOf_22 : decode cX6_numberOf 22 = .ok (.bipush 48, 2) := by decide +kernel
theorem dX6_numberOf_24 : decode cX6_numberOf 24 = .ok (.isub, 1) := by decide +kernel
theorem dX6_numberOf_25 : decode cX6_numberOf 25 = .ok (.istore_n 3, 1) := by decide +kernel
theorem dX6_numberOf_26 : decode cX6_numberOf 26 = .ok (.iinc 4 1, 3) := by decide +kernel
theorem dX6_numberOf_29 : decode cX6_numberOf 29 = .ok (.goto (-24), 3) := by decide +kernel
theorem dX6_numberOf_32 : decode cX6_numberOf 32 = .ok (.iload_n 3, 1) := by decide +kernel
theorem dX6_numberOf_33 : decode cX6_numberOf 33 = .ok (.ireturn, 1) := by decide +kernel
theorem dX6_isText_0 : decode cX6_isText 0 = .ok (.iload_n 2, 1) := by decide +kernel
theorem dX6_isText_1 : decode cX6_isText 1 = .ok (.iload_n 1, 1) := by decide +kernel
theorem dX6_isText_2 : decode cX6_isText 2 = .ok (.isub, 1) := by decide +kernel
theorem dX6_isText_3 : decode cX6_isText 3 = .ok (.aload_n 3, 1) := by decide +kernel
theorem dX6_isText_4 : decode cX6_isText 4 = .ok (.invokevirtual 91, 3) := by decide +kernel
theorem dX6_isText_7 : decode cX6_isText 7 = .ok (.if_icmp .ne 7, 3) := by decide +kernel
theorem dX6_isText_10 : decode cX6_isText 10 = .ok (.iconst 1, 1) := by decide +kernel
theorem dX6_isText_11 : decode cX6_isText 11 = .ok (.goto 4, 3) := by decide +kernel
theorem dX6_isText_14 : decode cX6_isText 14 = .ok (.iconst 0, 1) := by decide +kernel
theorem dX6_isText_15 : decode cX6_isText 15 = .ok (.istore 4, 2) := by decide +kernel
theorem dX6_isText_17 : decode cX6_isText 17 = .ok (.iconst 0, 1) := by decide +kernel
theorem dX6_isText_18 : decode cX6_isText 18 = .ok (.istore 5, 2) := by decide +kernel
theorem dX6_isText_20 : decode cX6_isText 20 = .ok (.iload 4, 2) := by decide +kernel
theorem dX6_isText_22 : decode cX6_isText 22 = .ok (.ifCond .eq 42, 3) := by decide +kernel
theorem dX6_isText_25 : decode cX6_isText 25 = .ok (.iload 5, 2) := by decide +kernel
theorem dX6_isText_27 : decode cX6_isText 27 = .ok (.aload_n 3, 1) := by decide +kernel
theorem dX6_isText_28 : decode cX6_isText 28 = .ok (.invokevirtual 91, 3) := by decide +kernel
theorem dX6_isText_31 : decode cX6_isText 31 = .ok (.if_icmp .ge 33, 3) := by decide +kernel
theorem dX6_isText_34 : decode cX6_isText 34 = .ok (.aload_n 0, 1) := by decide +kernel
theorem dX6_isText_35 : decode cX6_isText 35 = .ok (.iload_n 1, 1) := by decide +kernel
theorem dX6_isText_36 : decode cX6_isText 36 = .ok (.iload 5, 2) := by decide +kernel
theorem dX6_isText_38 : decode cX6_isText 38 = .ok (.iadd, 1) := by decide +kernel
theorem dX6_isText_39 : decode cX6_isText 39 = .ok (.invokevirtual 30, 3) := by decide +kernel
theorem dX6_isText_42 : decode cX6_isText 42 = .ok (.aload_n 3, 1) := by decide +kernel
theorem dX6_isText_43 : decode cX6_isText 43 = .ok (.iload 5, 2) := by decide +kernel
theorem dX6_isText_45 : decode cX6_isText 45 = .ok (.invokevirtual 96, 3) := by decide +kernel
theorem dX6_isText_48 : decode cX6_isText 48 = .ok (.if_icmp .ne 7, 3) := by decide +kernel
theorem dX6_isText_51 : decode cX6_isText 51 = .ok (.iconst 1, 1) := by decide +kernel
theorem dX6_isText_52 : decode cX6_isText 52 = .ok (.goto 4, 3) := by decide +kernel
theorem dX6_isText_55 : decode cX6_isText 55 = .ok (.iconst 0, 1) := by decide +kernel
theorem dX6_isText_56 : decode cX6_isText 56 = .ok (.istore 4, 2) := by decide +kernel
theorem dX6_isText_58 : decode cX6_isText 58 = .ok (.iinc 5 1, 3) := by decide +kernel
theorem dX6_isText_61 : decode cX6_isText 61 = .ok (.goto (-41), 3) := by decide +kernel
theorem dX6_isText_64 : decode cX6_isText 64 = .ok (.iload 4, 2) := by decide +kernel
theorem dX6_isText_66 : decode cX6_isText 66 = .ok (.ireturn, 1) := by decide +kernel
theorem dX6_isBlank_0 : decode cX6_isBlank 0 = .ok (.iload_n 0, 1) := by decide +kernel
theorem dX6_isBlank_1 : decode cX6_isBlank 1 = .ok (.bipush 32, 2) := by decide +kernel
theorem dX6_isBlank_3 : decode cX6_isBlank 3 = .ok (.if_icmp .eq 9, 3) := by decide +kernel
theorem dX6_isBlank_6 : decode cX6_isBlank 6 = .ok (.iload_n 0, 1) := by decide +kernel
theorem dX6_isBlank_7 : decode cX6_isBlank 7 = .ok (.bipush 10, 2) := by decide +kernel
theorem dX6_isBlank_9 : decode cX6_isBlank 9 = .ok (.if_icmp .ne 7, 3) := by decide +kernel
theorem dX6_isBlank_12 : decode cX6_isBlank 12 = .ok (.iconst 1, 1) := by decide +kernel
theorem dX6_isBlank_13 : decode cX6_isBlank 13 = .ok (.goto 4, 3) := by decide +kernel
theorem dX6_isBlank_16 : decode cX6_isBlank 16 = .ok (.iconst 0, 1) := by decide +kernel
theorem dX6_isBlank_17 : decode cX6_isBlank 17 = .ok (.ireturn, 1) := by decide +kernel
theorem dX6_isLetter_0 : decode cX6_isLetter 0 = .ok (.iload_n 0, 1) := by decide +kernel
theorem dX6_isLetter_1 : decode cX6_isLetter 1 = .ok (.bipush 97, 2) := by decide +kernel
theorem dX6_isLetter_3 : decode cX6_isLetter 3 = .ok (.if_icmp .lt 13, 3) := by decide +kernel
theorem dX6_isLetter_6 : decode cX6_isLetter 6 = .ok (.iload_n 0, 1) := by decide +kernel
theorem dX6_isLetter_7 : decode cX6_isLetter 7 = .ok (.bipush 122, 2) := by decide +kernel
theorem dX6_isLetter_9 : decode cX6_isLetter 9 = .ok (.if_icmp .gt 7, 3) := by decide +kernel
theorem dX6_isLetter_12 : decode cX6_isLetter 12 = .ok (.iconst 1, 1) := by decide +kernel
theorem dX6_isLetter_13 : decode cX6_isLetter 13 = .ok (.goto 4, 3) := by decide +kernel
theorem dX6_isLetter_16 : decode cX6_isLetter 16 = .ok (.iconst 0, 1) := by decide +kernel
theorem dX6_isLetter_17 : decode cX6_isLetter 17 = .ok (.ireturn, 1) := by decide +kernel
theorem dX6_isDigit_0 : decode cX6_isDigit 0 = .ok (.iload_n 0, 1) := by decide +kernel
theorem dX6_isDigit_1 : decode cX6_isDigit 1 = .ok (.bipush 48, 2) := by decide +kernel
theorem dX6_isDigit_3 : decode cX6_isDigit 3 = .ok (.if_icmp .lt 13, 3) := by decide +kernel
theorem dX6_isDigit_6 : decode cX6_isDigit 6 = .ok (.iload_n 0, 1) := by decide +kernel
theorem dX6_isDigit_7 : decode cX6_isDigit 7 = .ok (.bipush 57, 2) := by decide +kernel
theorem dX6_isDigit_9 : decode cX6_isDigit 9 = .ok (.if_icmp .gt 7, 3) := by decide +kernel
theorem dX6_isDigit_12 : decode cX6_isDigit 12 = .ok (.iconst 1, 1) := by decide +kernel
theorem dX6_isDigit_13 : decode cX6_isDigit 13 = .ok (.goto 4, 3) := by decide +kernel
theorem dX6_isDigit_16 : decode cX6_isDigit 16 = .ok (.iconst 0, 1) := by decide +kernel
theorem dX6_isDigit_17 : decode cX6_isDigit 17 = .ok (.ireturn, 1) := by decide +kernel
theorem dX6_isSign_0 : decode cX6_isSign 0 = .ok (.ldc 100, 2) := by decide +kernel
theorem dX6_isSign_2 : decode cX6_isSign 2 = .ok (.iload_n 0, 1) := by decide +kernel
theorem dX6_isSign_3 : decode cX6_isSign 3 = .ok (.i2c, 1) := by decide +kernel
theorem dX6_isSign_4 : decode cX6_isSign 4 = .ok (.invokevirtual 102, 3) := by decide +kernel
theorem dX6_isSign_7 : decode cX6_isSign 7 = .ok (.ifCond .ge 10, 3) := by decide +kernel
theorem dX6_isSign_10 : decode cX6_isSign 10 = .ok (.iload_n 0, 1) := by decide +kernel
theorem dX6_isSign_11 : decode cX6_isSign 11 = .ok (.invokestatic 105, 3) := by decide +kernel
theorem dX6_isSign_14 : decode cX6_isSign 14 = .ok (.ifCond .eq 7, 3) := by decide +kernel
theorem dX6_isSign_17 : decode cX6_isSign 17 = .ok (.iconst 1, 1) := by decide +kernel
theorem dX6_isSign_18 : decode cX6_isSign 18 = .ok (.goto 4, 3) := by decide +kernel
theorem dX6_isSign_21 : decode cX6_isSign 21 = .ok (.iconst 0, 1) := by decide +kernel
theorem dX6_isSign_22 : decode cX6_isSign 22 = .ok (.ireturn, 1) := by decide +kernel
theorem dX6_isSumSign_0 : decode cX6_isSumSign 0 = .ok (.ldc 108, 2) := by decide +kernel
theorem dX6_isSumSign_2 : decode cX6_isSumSign 2 = .ok (.iload_n 0, 1) := by decide +kernel
theorem dX6_isSumSign_3 : decode cX6_isSumSign 3 = .ok (.i2c, 1) := by decide +kernel
theorem dX6_isSumSign_4 : decode cX6_isSumSign 4 = .ok (.invokevirtual 102, 3) := by decide +kernel
theorem dX6_isSumSign_7 : decode cX6_isSumSign 7 = .ok (.ifCond .lt 7, 3) := by decide +kernel
theorem dX6_isSumSign_10 : decode cX6_isSumSign 10 = .ok (.iconst 1, 1) := by decide +kernel
theorem dX6_isSumSign_11 : decode cX6_isSumSign 11 = .ok (.goto 4, 3) := by decide +kernel
theorem dX6_isSumSign_14 : decode cX6_isSumSign 14 = .ok (.iconst 0, 1) := by decide +kernel
theorem dX6_isSumSign_15 : decode cX6_isSumSign 15 = .ok (.ireturn, 1) := by decide +kernel
theorem dX7_init_0 : decode cX7_init 0 = .ok (.aload_n 0, 1) := by decide +kernel
theorem dX7_init_1 : decode cX7_init 1 = .ok (.invokespecial 3, 3) := by decide +kernel
theorem dX7_init_4 : decode cX7_init 4 = .ok (.aload_n 0, 1) := by decide +kernel
theorem dX7_init_5 : decode cX7_init 5 = .ok (.sipush 3000, 3) := by decide +kernel
theorem dX7_init_8 : decode cX7_init 8 = .ok (.newarray .byte, 2) := by decide +kernel
theorem dX7_init_10 : decode cX7_init 10 = .ok (.putfield 9, 3) := by decide +kernel
theorem dX7_init_13 : decode cX7_init 13 = .ok (.aload_n 0, 1) := by decide +kernel
theorem dX7_init_14 : decode cX7_init 14 = .ok (.sipush 240, 3) := by decide +kernel
theorem dX7_init_17 : decode cX7_init 17 = .ok (.newarray .int, 2) := by decide +kernel
theorem dX7_init_19 : decode cX7_init 19 = .ok (.putfield 15, 3) := by decide +kernel
theorem dX7_init_22 : decode cX7_init 22 = .ok (.return_, 1) := by decide +kernel
theorem dX7_writeRoutine_0 : decode cX7_writeRoutine 0 = .ok (.aload_n 0, 1) := by decide +kernel
theorem dX7_writeRoutine_1 : decode cX7_writeRoutine 1 = .ok (.iconst 0, 1) := by decide +kernel
theorem dX7_writeRoutine_2 : decode cX7_writeRoutine 2 = .ok (.putfield 19, 3) := by decide +kernel
theorem dX7_writeRoutine_5 : decode cX7_writeRoutine 5 = .ok (.aload_n 0, 1) := by decide +kernel
theorem dX7_writeRoutine_6 : decode cX7_writeRoutine 6 = .ok (.iconst 0, 1) := by decide +kernel
theorem dX7_writeRoutine_7 : decode cX7_writeRoutine 7 = .ok (.putfield 23, 3) := by decide +kernel
theorem dX7_writeRoutine_10 : decode cX7_writeRoutine 10 = .ok (.aload_n 0, 1) := by decide +kernel
theorem dX7_writeRoutine_11 : decode cX7_writeRoutine 11 = .ok (.aload_n 1, 1) := by decide +kernel
theorem dX7_writeRoutine_12 : decode cX7_writeRoutine 12 = .ok (.iload_n 2, 1) := by decide +kernel
theorem dX7_writeRoutine_13 : decode cX7_writeRoutine 13 = .ok (.invokevirtual 27, 3) := by decide +kernel
theorem dX7_writeRoutine_16 : decode cX7_writeRoutine 16 = .ok (.iconst 0, 1) := by decide +kernel
theorem dX7_writeRoutine_17 : decode cX7_writeRoutine 17 = .ok (.istore_n 3, 1) := by decide +kernel
theorem dX7_writeRoutine_18 : decode cX7_writeRoutine 18 = .ok (.iload_n 3, 1) := by decide +kernel
theorem dX7_writeRoutine_19 : decode cX7_writeRoutine 19 = .ok (.aload_n 1, 1) := by decide +kernel
theorem dX7_writeRoutine_20 : decode cX7_writeRoutine 20 = .ok (.getfield 31, 3) := by decide +kernel
theorem dX7_writeRoutine_23 : decode cX7_writeRoutine 23 = .ok (.if_icmp .ge 71, 3) := by decide +kernel
theorem dX7_writeRoutine_26 : decode cX7_writeRoutine 26 = .ok (.aload_n 0, 1) := by decide +kernel
theorem dX7_writeRoutine_27 : decode cX7_writeRoutine 27 = .ok (.getfield 23, 3) := by decide +kernel
theorem dX7_writeRoutine_30 : decode cX7_writeRoutine 30 = .ok (.ifCond .ne 64, 3) := by decide +kernel
theorem dX7_writeRoutine_33 : decode cX7_writeRoutine 33 = .ok (.aload_n 0, 1) := by decide +kernel
theorem dX7_writeRoutine_34 : decode cX7_writeRoutine 34 = .ok (.iload_n 3, 1) := by decide +kernel
theorem dX7_writeRoutine_35 : decode cX7_writeRoutine 35 = .ok (.invokevirtual 36, 3) := by decide +kernel
theorem dX7_writeRoutine_38 : decode cX7_writeRoutine 38 = .ok (.aload_n 1, 1) := by decide +kernel
theorem dX7_writeRoutine_39 : decode cX7_writeRoutine 39 = .ok (.getfield 40, 3) := by decide +kernel
theorem dX7_writeRoutine_42 : decode cX7_writeRoutine 42 = .ok (.iload_n 3, 1) := by decide +kernel
theorem dX7_writeRoutine_43 : decode cX7_writeRoutine 43 = .ok (.iaload, 1) := by decide +kernel
theorem dX7_writeRoutine_44 : decode cX7_writeRoutine 44 = .ok (.istore 4, 2) := by decide +kernel
theorem dX7_writeRoutine_46 : decode cX7_writeRoutine 46 = .ok (.iload 4, 2) := by decide +kernel
theorem dX7_writeRoutine_48 : decode cX7_writeRoutine 48 = .ok (.aload_n 1, 1) := by decide +kernel
theorem dX7_writeRoutine_49 : decode cX7_writeRoutine 49 = .ok (.getfield 40, 3) := by decide +kernel
theorem dX7_writeRoutine_52 : decode cX7_writeRoutine 52 = .ok (.iload_n 3, 1) := by decide +kernel
theorem dX7_writeRoutine_53 : decode cX7_writeRoutine 53 = .ok (.iconst 1, 1) := by decide +kernel
theorem dX7_writeRoutine_54 : decode cX7_writeRoutine 54 = .ok (.iadd, 1) := by decide +kernel
theorem dX7_writeRoutine_55 : decode cX7_writeRoutine 55 = .ok (.iaload, 1) := by decide +kernel
theorem dX7_writeRoutine_56 : decode cX7_writeRoutine 56 = .ok (.if_icmp .ge 32, 3) := by decide +kernel
theorem dX7_writeRoutine_59 : decode cX7_writeRoutine 59 = .ok (.aload_n 0, 1) := by decide +kernel
theorem dX7_writeRoutine_60 : decode cX7_writeRoutine 60 = .ok (.getfield 23, 3) := by decide +kernel
theorem dX7_writeRoutine_63 : decode cX7_writeRoutine 63 = .ok (.ifCond .ne 25, 3) := by decide +kernel
theorem dX7_writeRoutine_66 : decode cX7_writeRoutine 66 = .ok (.aload_n 0, 1) := by decide +kernel
theorem dX7_writeRoutine_67 : decode cX7_writeRoutine 67 = .ok (.aload_n 1, 1) := by decide +kernel
theorem dX7_writeRoutine_68 : decode cX7_writeRoutine 68 = .ok (.iload_n 2, 1) := by decide +kernel
theorem dX7_writeRoutine_69 : decode cX7_writeRoutine 69 = .ok (.iload 4, 2) := by decide +kernel
theorem dX7_writeRoutine_71 : decode cX7_writeRoutine 71 = .ok (.invokevirtual 43, 3) := by decide +kernel
theorem dX7_writeRoutine_74 : decode cX7_writeRoutine 74 = .ok (.aload_n 0, 1) := by decide +kernel
theorem dX7_writeRoutine_75 : decode cX7_writeRoutine 75 = .ok (.aload_n 1, 1) := by decide +kernel
theorem dX7_writeRoutine_76 : decode cX7_writeRoutine 76 = .ok (.iload_n 2, 1) := by decide +kernel
theorem dX7_writeRoutine_77 : decode cX7_writeRoutine 77 = .ok (.iload 4, 2) := by decide +kernel
theorem dX7_writeRoutine_79 : decode cX7_writeRoutine 79 = .ok (.invokevirtual 47, 3) := by decide +kernel
theorem dX7_writeRoutine_82 : decode cX7_writeRoutine 82 = .ok (.iinc 4 1, 3) := by decide +kernel
theorem dX7_writeRoutine_85 : decode cX7_writeRoutine 85 = .ok (.goto (-39), 3) := by decide +kernel
theorem dX7_writeRoutine_88 : decode cX7_writeRoutine 88 = .ok (.iinc 3 1, 3) := by decide +kernel
theorem dX7_writeRoutine_91 : decode cX7_writeRoutine 91 = .ok (.goto (-73), 3) := by decide +kernel
theorem dX7_writeRoutine_94 : decode cX7_writeRoutine 94 = .ok (.aload_n 1, 1) := by decide +kernel
theorem dX7_writeRoutine_95 : decode cX7_writeRoutine 95 = .ok (.getfield 50, 3) := by decide +kernel
theorem dX7_writeRoutine_98 : decode cX7_writeRoutine 98 = .ok (.istore_n 3, 1) := by decide +kernel
theorem dX7_writeRoutine_99 : decode cX7_writeRoutine 99 = .ok (.iload_n 3, 1) := by decide +kernel
theorem dX7_writeRoutine_100 : decode cX7_writeRoutine 100 = .ok (.aload_n 1, 1) := by decide +kernel
theorem dX7_writeRoutine_101 : decode cX7_writeRoutine 101 = .ok (.getfield 53, 3) := by decide +kernel
theorem dX7_writeRoutine_104 : decode cX7_writeRoutine 104 = .ok (.if_icmp .ge 49, 3) := by decide +kernel
theorem dX7_writeRoutine_107 : decode cX7_writeRoutine 107 = .ok (.aload_n 0, 1) := by decide +kernel
theorem dX7_writeRoutine_108 : decode cX7_writeRoutine 108 = .ok (.getfield 23, 3) := by decide +kernel
theorem dX7_writeRoutine_111 : decode cX7_writeRoutine 111 = .ok (.ifCond .ne 42, 3) := by decide +kernel
theorem dX7_writeRoutine_114 : decode cX7_writeRoutine 114 = .ok (.aload_n 0, 1) := by decide +kernel
theorem dX7_writeRoutine_115 : decode cX7_writeRoutine 115 = .ok (.getfield 15, 3) := by decide +kernel
theorem dX7_writeRoutine_118 : decode cX7_writeRoutine 118 = .ok (.iload_n 3, 1) := by decide +kernel
theorem dX7_writeRoutine_119 : decode cX7_writeRoutine 119 = .ok (.iaload, 1) := by decide +kernel
theorem dX7_writeRoutine_120 : decode cX7_writeRoutine 120 = .ok (.ifCond .lt 27, 3) := by decide +kernel
theorem dX7_writeRoutine_123 : decode cX7_writeRoutine 123 = .ok (.aload_n 0, 1) := by decide +kernel
theorem dX7_writeRoutine_124 : decode cX7_writeRoutine 124 = .ok (.aload_n 0, 1) := by decide +kernel
theorem dX7_writeRoutine_125 : decode cX7_writeRoutine 125 = .ok (.getfield 15, 3) := by decide +kernel
theorem dX7_writeRoutine_128 : decode cX7_writeRoutine 128 = .ok (.iload_n 3, 1) := by decide +kernel
theorem dX7_writeRoutine_129 : decode cX7_writeRoutine 129 = .ok (.iaload, 1) := by decide +kernel
theorem dX7_writeRoutine_130 : decode cX7_writeRoutine 130 = .ok (.invokevirtual 36, 3) := by decide +kernel
theorem dX7_writeRoutine_133 : decode cX7_writeRoutine 133 = .ok (.aload_n 0, 1) := by decide +kernel
theorem dX7_writeRoutine_134 : decode cX7_writeRoutine 134 = .ok (.aload_n 1, 1) := by decide +kernel
theorem dX7_writeRoutine_135 : decode cX7_writeRoutine 135 = .ok (.iload_n 2, 1) := by decide +kernel
theorem dX7_writeRoutine_136 : decode cX7_writeRoutine 136 = .ok (.iload_n 3, 1) := by decide +kernel
theorem dX7_writeRoutine_137 : decode cX7_writeRoutine 137 = .ok (.invokevirtual 43, 3) := by decide +kernel
theorem dX7_writeRoutine_140 : decode cX7_writeRoutine 140 = .ok (.aload_n 0, 1) := by decide +kernel
theorem dX7_writeRoutine_141 : decode cX7_writeRoutine 141 = .ok (.aload_n 1, 1) := by decide +kernel
theorem dX7_writeRoutine_142 : decode cX7_writeRoutine 142 = .ok (.iload_n 2, 1) := by decide +kernel
theorem dX7_writeRoutine_143 : decode cX7_writeRoutine 143 = .ok (.iload_n 3, 1) := by decide +kernel
theorem dX7_writeRoutine_144 : decode cX7_writeRoutine 144 = .ok (.invokevirtual 47, 3) := by decide +kernel
theorem dX7_writeRoutine_147 : decode cX7_writeRoutine 147 = .ok (.iinc 3 1, 3) := by decide +kernel
theorem dX7_writeRoutine_150 : decode cX7_writeRoutine 150 = .ok (.goto (-51), 3) := by decide +kernel
theorem dX7_writeRoutine_153 : decode cX7_writeRoutine 153 = .ok (.return_, 1) := by decide +kernel
theorem dX7_numberOwnBlocks_0 : decode cX7_numberOwnBlocks 0 = .ok (.aload_n 1, 1) := by decide +kernel
theorem dX7_numberOwnBlocks_1 : decode cX7_numberOwnBlocks 1 = .ok (.getfield 31, 3) := by decide +kernel
theorem dX7_numberOwnBlocks_4 : decode cX7_numberOwnBlocks 4 = .ok (.istore_n 3, 1) := by decide +kernel
theorem dX7_numberOwnBlocks_5 : decode cX7_numberOwnBlocks 5 = .ok (.aload_n 1, 1) := by decide +kernel
theorem dX7_numberOwnBlocks_6 : decode cX7_numberOwnBlocks 6 = .ok (.getfield 50, 3) := by decide +kernel
theorem dX7_numberOwnBlocks_9 : decode cX7_numberOwnBlocks 9 = .ok (.istore 4, 2) := by decide +kernel
theorem dX7_numberOwnBlocks_11 : decode cX7_numberOwnBlocks 11 = .ok (.iload 4, 2) := by decide +kernel
theorem dX7_numberOwnBlocks_13 : decode cX7_numberOwnBlocks 13 = .ok (.aload_n 1, 1) := by decide +kernel
theorem dX7_numberOwnBlocks_14 : decode cX7_numberOwnBlocks 14 = .ok (.getfield 53, 3) := by decide +kernel
theorem dX7_numberOwnBlocks_17 : decode cX7_numberOwnBlocks 17 = .ok (.if_icmp .ge 37, 3) := by decide +kernel
theorem dX7_numberOwnBlocks_20 : decode cX7_numberOwnBlocks 20 = .ok (.aload_n 0, 1) := by decide +kernel
theorem dX7_numberOwnBlocks_21 : decode cX7_numberOwnBlocks 21 = .ok (.getfield 15, 3) := by decide +kernel
theorem dX7_numberOwnBlocks_24 : decode cX7_numberOwnBlocks 24 = .ok (.iload 4, 2) := by decide +kernel
theorem dX7_numberOwnBlocks_26 : decode cX7_numberOwnBlocks 26 = .ok (.aload_n 1, 1) := by decide +kernel
theorem dX7_numberOwnBlocks_27 : decode cX7_numberOwnBlocks 27 = .ok (.getfield 56, 3) := by decide +kernel
theorem dX7_numberOwnBlocks_30 : decode cX7_numberOwnBlocks 30 = .ok (.iload_n 2, 1) := by decide +kernel
theorem dX7_numberOwnBlocks_31 : decode cX7_numberOwnBlocks 31 = .ok (.iload 4, 2) := by decide +kernel
theorem dX7_numberOwnBlocks_33 : decode cX7_numberOwnBlocks 33 = .ok (.invokevirtual 60, 3) := by decide +kernel
theorem dX7_numberOwnBlocks_36 : decode cX7_numberOwnBlocks 36 = .ok (.ifCond .eq 10, 3) := by decide +kernel
theorem dX7_numberOwnBlocks_39 : decode cX7_numberOwnBlocks 39 = .ok (.iload_n 3, 1) := by decide +kernel
theorem dX7_numberOwnBlocks_40 : decode cX7_numberOwnBlocks 40 = .ok (.iinc 3 1, 3) := by decide +kernel
theorem dX7_numberOwnBlocks_43 : decode cX7_numberOwnBlocks 43 = .ok (.goto 4, 3) := by decide +kernel
theorem dX7_numberOwnBlocks_46 : decode cX7_numberOwnBlocks 46 = .ok (.iconst (-1), 1) := by decide +kernel
theorem dX7_numberOwnBlocks_47 : decode cX7_numberOwnBlocks 47 = .ok (.iastore, 1) := by decide +kernel
theorem dX7_numberOwnBlocks_48 : decode cX7_numberOwnBlocks 48 = .ok (.iinc 4 1, 3) := by decide +kernel
theorem dX7_numberOwnBlocks_51 : decode cX7_numberOwnBlocks 51 = .ok (.goto (-40), 3) := by decide +kernel
theorem dX7_numberOwnBlocks_54 : decode cX7_numberOwnBlocks 54 = .ok (.return_, 1) := by decide +kernel
theorem dX7_putHead_0 : decode cX7_putHead 0 = .ok (.aload_n 0, 1) := by decide +kernel
theorem dX7_putHead_1 : decode cX7_putHead 1 = .ok (.bipush 98, 2) := by decide +kernel
theorem dX7_putHead_3 : decode cX7_putHead 3 = .ok (.iload_n 1, 1) := by decide +kernel
theorem dX7_putHead_4 : decode cX7_putHead 4 = .ok (.invokevirtual 66, 3) := by decide +kernel
theorem dX7_putHead_7 : decode cX7_putHead 7 = .ok (.aload_n 0, 1) := by decide +kernel
theorem dX7_putHead_8 : decode cX7_putHead 8 = .ok (.ldc 70, 2) := by decide +kernel
theorem dX7_putHead_10 : decode cX7_putHead 10 = .ok (.invokevirtual 72, 3) := by decide +kernel
theorem dX7_putHead_13 : decode cX7_putHead 13 = .ok (.return_, 1) := by decide +kernel
theorem dX7_putSetAhead_0 : decode cX7_putSetAhead 0 = .ok (.aload_n 1, 1) := by decide +kernel
theorem dX7_putSetAhead_1 : decode cX7_putSetAhead 1 = .ok (.getfield 56, 3) := by decide +kernel
theorem dX7_putSetAhead_4 : decode cX7_putSetAhead 4 = .ok (.iload_n 2, 1) := by decide +kernel
theorem dX7_putSetAhead_5 : decode cX7_putSetAhead 5 = .ok (.iload_n 3, 1) := by decide +kernel
theorem dX7_putSetAhead_6 : decode cX7_putSetAhead 6 = .ok (.invokevirtual 60, 3) := by decide +kernel
theorem dX7_putSetAhead_9 : decode cX7_putSetAhead 9 = .ok (.istore 4, 2) := by decide +kernel
theorem dX7_putSetAhead_11 : decode cX7_putSetAhead 11 = .ok (.iconst 0, 1) := by decide +kernel
theorem dX7_putSetAhead_12 : decode cX7_putSetAhead 12 = .ok (.istore 5, 2) := by decide +kernel
theorem dX7_putSetAhead_14 : decode cX7_putSetAhead 14 = .ok (.iload 4, 2) := by decide +kernel
theorem dX7_putSetAhead_16 : decode cX7_putSetAhead 16 = .ok (.ifCond .eq 75, 3) := by decide +kernel
theorem dX7_putSetAhead_19 : decode cX7_putSetAhead 19 = .ok (.iload 5, 2) := by decide +kernel
theorem dX7_putSetAhead_21 : decode cX7_putSetAhead 21 = .ok (.aload_n 1, 1) := by decide +kernel
theorem dX7_putSetAhead_22 : decode cX7_putSetAhead 22 = .ok (.getfield 76, 3) := by decide +kernel
theorem dX7_putSetAhead_25 : decode cX7_putSetAhead 25 = .ok (.getfield 80, 3) := by decide +kernel
theorem dX7_putSetAhead_28 : decode cX7_putSetAhead 28 = .ok (.if_icmp .ge 63, 3) := by decide +kernel
theorem dX7_putSetAhead_31 : decode cX7_putSetAhead 31 = .ok (.aload_n 0, 1) := by decide +kernel
theorem dX7_putSetAhead_32 : decode cX7_putSetAhead 32 = .ok (.getfield 23, 3) := by decide +kernel
theorem dX7_putSetAhead_35 : decode cX7_putSetAhead 35 = .ok (.ifCond .ne 56, 3) := by decide +kernel
theorem dX7_putSetAhead_38 : decode cX7_putSetAhead 38 = .ok (.iload 4, 2) := by decide +kernel
theorem dX7_putSetAhead_40 : decode cX7_putSetAhead 40 = .ok (.iload 5, 2) := by decide +kernel
theorem dX7_putSetAhead_42 : decode cX7_putSetAhead 42 = .ok (.iushr, 1) := by decide +kernel
theorem dX7_putSetAhead_43 : decode cX7_putSetAhead 43 = .ok (.iconst 1, 1) := by decide +kernel
theorem dX7_putSetAhead_44 : decode cX7_putSetAhead 44 = .ok (.iand, 1) := by decide +kernel
theorem dX7_putSetAhead_45 : decode cX7_putSetAhead 45 = .ok (.iconst 1, 1) := by decide +kernel
theorem dX7_putSetAhead_46 : decode cX7_putSetAhead 46 = .ok (.if_icmp .ne 39, 3) := by decide +kernel
theorem dX7_putSetAhead_49 : decode cX7_putSetAhead 49 = .ok (.aload_n 0, 1) := by decide +kernel
theorem dX7_putSetAhead_50 : decode cX7_putSetAhead 50 = .ok (.ldc 85, 2) := by decide +kernel
theorem dX7_putSetAhead_52 : decode cX7_putSetAhead 52 = .ok (.invokevirtual 72, 3) := by decide +kernel
theorem dX7_putSetAhead_55 : decode cX7_putSetAhead 55 = .ok (.aload_n 0, 1) := by decide +kernel
theorem dX7_putSetAhead_56 : decode cX7_putSetAhead 56 = .ok (.bipush 116, 2) := by decide +kernel
theorem dX7_putSetAhead_58 : decode cX7_putSetAhead 58 = .ok (.iload 5, 2) := by decide +kernel
theorem dX7_putSetAhead_60 : decode cX7_putSetAhead 60 = .ok (.invokevirtual 66, 3) := by decide +kernel
theorem dX7_putSetAhead_63 : decode cX7_putSetAhead 63 = .ok (.aload_n 0, 1) := by decide +kernel
theorem dX7_putSetAhead_64 : decode cX7_putSetAhead 64 = .ok (.ldc 87, 2) := by decide +kernel
theorem dX7_putSetAhead_66 : decode cX7_putSetAhead 66 = .ok (.invokevirtual 72, 3) := by decide +kernel
theorem dX7_putSetAhead_69 : decode cX7_putSetAhead 69 = .ok (.aload_n 0, 1) := by decide +kernel
theorem dX7_putSetAhead_70 : decode cX7_putSetAhead 70 = .ok (.aload_n 1, 1) := by decide +kernel
theorem dX7_putSetAhead_71 : decode cX7_putSetAhead 71 = .ok (.getfield 76, 3) := by decide +kernel
theorem dX7_putSetAhead_74 : decode cX7_putSetAhead 74 = .ok (.iload 5, 2) := by decide +kernel
theorem dX7_putSetAhead_76 : decode cX7_putSetAhead 76 = .ok (.invokevirtual 89, 3) := by decide +kernel
theorem dX7_putSetAhead_79 : decode cX7_putSetAhead 79 = .ok (.aload_n 0, 1) := by decide +kernel
theorem dX7_putSetAhead_80 : decode cX7_putSetAhead 80 = .ok (.ldc 93, 2) := by decide +kernel
theorem dX7_putSetAhead_82 : decode cX7_putSetAhead 82 = .ok (.invokevirtual 72, 3) := by decide +kernel
theorem dX7_putSetAhead_85 : decode cX7_putSetAhead 85 = .ok (.iinc 5 1, 3) := by decide +kernel
theorem dX7_putSetAhead_88 : decode cX7_putSetAhead 88 = .ok (.goto (-74), 3) := by decide +kernel
theorem dX7_putSetAhead_91 : decode cX7_putSetAhead 91 = .ok (.return_, 1) := by decide +kernel
theorem dX7_putNode_0 : decode cX7_putNode 0 = .ok (.aload_n 0, 1) := by decide +kernel
theorem dX7_putNode_1 : decode cX7_putNode 1 = .ok (.ldc 85, 2) := by decide +kernel
theorem dX7_putNode_3 : decode cX7_putNode 3 = .ok (.invokevirtual 72, 3) := by decide +kernel
theorem dX7_putNode_6 : decode cX7_putNode 6 = .ok (.aload_n 1, 1) := by decide +kernel
theorem dX7_putNode_7 : decode cX7_putNode 7 = .ok (.getfield 95, 3) := by decide +kernel
theorem dX7_putNode_10 : decode cX7_putNode 10 = .ok (.iload_n 3, 1) := by decide +kernel
theorem dX7_putNode_11 : decode cX7_putNode 11 = .ok (.iaload, 1) := by decide +kernel
theorem dX7_putNode_12 : decode cX7_putNode 12 = .ok (.tableswitch 203 0 6 #[44, 104, 125, 164, 203, 185, 194], 44) := by decide +kernel
theorem dX7_putNode_56 : decode cX7_putNode 56 = .ok (.aload_n 0, 1) := by decide +kernel
theorem dX7_putNode_57 : decode cX7_putNode 57 = .ok (.aload_n 1, 1) := by decide +kernel
theorem dX7_putNode_58 : decode cX7_putNode 58 = .ok (.iload_n 3, 1) := by decide +kernel
theorem dX7_putNode_59 : decode cX7_putNode 59 = .ok (.invokevirtual 98, 3) := by decide +kernel
theorem dX7_putNode_62 : decode cX7_putNode 62 = .ok (.aload_n 1, 1) := by decide +kernel
theorem dX7_putNode_63 : decode cX7_putNode 63 = .ok (.getfield 56, 3) := by decide +kernel
theorem dX7_putNode_66 : decode cX7_putNode 66 = .ok (.iload_n 2, 1) := by decide +kernel
theorem dX7_putNode_67 : decode cX7_putNode 67 = .ok (.iload_n 3, 1) := by decide +kernel
theorem dX7_putNode_68 : decode cX7_putNode 68 = .ok (.invokevirtual 101, 3) := by decide +kernel
theorem dX7_putNode_71 : decode cX7_putNode 71 = .ok (.aload_n 1, 1) := by decide +kernel
theorem dX7_putNode_72 : decode cX7_putNode 72 = .ok (.getfield 104, 3) := by decide +kernel
theorem dX7_putNode_75 : decode cX7_putNode 75 = .ok (.iload_n 3, 1) := by decide +kernel
theorem dX7_putNode_76 : decode cX7_putNode 76 = .ok (.iaload, 1) := by decide +kernel
theorem dX7_putNode_77 : decode cX7_putNode 77 = .ok (.iushr, 1) := by decide +kernel
theorem dX7_putNode_78 : decode cX7_putNode 78 = .ok (.iconst 1, 1) := by decide +kernel
theorem dX7_putNode_79 : decode cX7_putNode 79 = .ok (.iand, 1) := by decide +kernel
theorem dX7_putNode_80 : decode cX7_putNode 80 = .ok (.iconst 1, 1) := by decide +kernel
theorem dX7_putNode_81 : decode cX7_putNode 81 = .ok (.if_icmp .ne 18, 3) := by decide +kernel
theorem dX7_putNode_84 : decode cX7_putNode 84 = .ok (.aload_n 0, 1) := by decide +kernel
theorem dX7_putNode_85 : decode cX7_putNode 85 = .ok (.bipush 116, 2) := by decide +kernel
theorem dX7_putNode_87 : decode cX7_putNode 87 = .ok (.aload_n 1, 1) := by decide +kernel
theorem dX7_putNode_88 : decode cX7_putNode 88 = .ok (.getfield 104, 3) := by decide +kernel
theorem dX7_putNode_91 : decode cX7_putNode 91 = .ok (.iload_n 3, 1) := by decide +kernel
theorem dX7_putNode_92 : decode cX7_putNode 92 = .ok (.iaload, 1) := by decide +kernel
theorem dX7_putNode_93 : decode cX7_putNode 93 = .ok (.invokevirtual 66, 3) := by decide +kernel
theorem dX7_putNode_96 : decode cX7_putNode 96 = .ok (.goto 138, 3) := by decide +kernel
theorem dX7_putNode_99 : decode cX7_putNode 99 = .ok (.aload_n 0, 1) := by decide +kernel
theorem dX7_putNode_100 : decode cX7_putNode 100 = .ok (.aload_n 1, 1) := by decide +kernel
theorem dX7_putNode_101 : decode cX7_putNode 101 = .ok (.getfield 76, 3) := by decide +kernel
theorem dX7_putNode_104 : decode cX7_putNode 104 = .ok (.aload_n 1, 1) := by decide +kernel
theorem dX7_putNode_105 : decode cX7_putNode 105 = .ok (.getfield 104, 3) := by decide +kernel
theorem dX7_putNode_108 : decode cX7_putNode 108 = .ok (.iload_n 3, 1) := by decide +kernel
theorem dX7_putNode_109 : decode cX7_putNode 109 = .ok (.iaload, 1) := by decide +kernel
theorem dX7_putNode_110 : decode cX7_putNode 110 = .ok (.invokevirtual 89, 3) := by decide +kernel
theorem dX7_putNode_113 : decode cX7_putNode 113 = .ok (.goto 121, 3) := by decide +kernel
theorem dX7_putNode_116 : decode cX7_putNode 116 = .ok (.aload_n 0, 1) := by decide +kernel
theorem dX7_putNode_117 : decode cX7_putNode 117 = .ok (.aload_n 1, 1) := by decide +kernel
theorem dX7_putNode_118 : decode cX7_putNode 118 = .ok (.iload_n 3, 1) := by decide +kernel
theorem dX7_putNode_119 : decode cX7_putNode 119 = .ok (.invokevirtual 98, 3) := by decide +kernel
theorem dX7_putNode_122 : decode cX7_putNode 122 = .ok (.aload_n 0, 1) := by decide +kernel
theorem dX7_putNode_123 : decode cX7_putNode 123 = .ok (.aload_n 1, 1) := by decide +kernel
theorem dX7_putNode_124 : decode cX7_putNode 124 = .ok (.getfield 107, 3) := by decide +kernel
theorem dX7_putNode_127 : decode cX7_putNode 127 = .ok (.iconst 0, 1) := by decide +kernel
theorem dX7_putNode_128 : decode cX7_putNode 128 = .ok (.aaload, 1) := by decide +kernel
theorem dX7_putNode_129 : decode cX7_putNode 129 = .ok (.iload_n 3, 1) := by decide +kernel
theorem dX7_putNode_130 : decode cX7_putNode 130 = .ok (.iaload, 1) := by decide +kernel
theorem dX7_putNode_131 : decode cX7_putNode 131 = .ok (.invokevirtual 111, 3) := by decide +kernel
theorem dX7_putNode_134 : decode cX7_putNode 134 = .ok (.goto 100, 3) := by decide +kernel
theorem dX7_putNode_137 : decode cX7_putNode 137 = .ok (.aload_n 0, 1) := by decide +kernel
theorem dX7_putNode_138 : decode cX7_putNode 138 = .ok (.aload_n 1, 1) := by decide +kernel
theorem dX7_putNode_139 : decode cX7_putNode 139 = .ok (.getfield 114, 3) := by decide +kernel
theorem dX7_putNode_142 : decode cX7_putNode 142 = .ok (.iload_n 3, 1) := by decide +kernel
theorem dX7_putNode_143 : decode cX7_putNode 143 = .ok (.iaload, 1) := by decide +kernel
theorem dX7_putNode_144 : decode cX7_putNode 144 = .ok (.aload_n 1, 1) := by decide +kernel
theorem dX7_putNode_145 : decode cX7_putNode 145 = .ok (.getfield 107, 3) := by decide +kernel
theorem dX7_putNode_148 : decode cX7_putNode 148 = .ok (.iconst 0, 1) := by decide +kernel
theorem dX7_putNode_149 : decode cX7_putNode 149 = .ok (.aaload, 1) := by decide +kernel
theorem dX7_putNode_150 : decode cX7_putNode 150 = .ok (.iload_n 3, 1) := by decide +kernel
theorem dX7_putNode_151 : decode cX7_putNode 151 = .ok (.iaload, 1) := by decide +kernel
theorem dX7_putNode_152 : decode cX7_putNode 152 = .ok (.invokevirtual 117, 3) := by decide +kernel
theorem dX7_putNode_155 : decode cX7_putNode 155 = .ok (.aload_n 0, 1) := by decide +kernel
theorem dX7_putNode_156 : decode cX7_putNode 156 = .ok (.ldc 87, 2) := by decide +kernel
theorem dX7_putNode_158 : decode cX7_putNode 158 = .ok (.invokevirtual 72, 3) := by decide +kernel
theorem dX7_putNode_161 : decode cX7_putNode 161 = .ok (.aload_n 0, 1) := by decide +kernel
theorem dX7_putNode_162 : decode cX7_putNode 162 = .ok (.aload_n 1, 1) := by decide +kernel
theorem dX7_putNode_163 : decode cX7_putNode 163 = .ok (.getfield 107, 3) := by decide +kernel
theorem dX7_putNode_166 : decode cX7_putNode 166 = .ok (.iconst 1, 1) := by decide +kernel
theorem dX7_putNode_167 : decode cX7_putNode 167 = .ok (.aaload, 1) := by decide +kernel
theorem dX7_putNode_168 : decode cX7_putNode 168 = .ok (.iload_n 3, 1) := by decide +kernel
theorem dX7_putNode_169 : decode cX7_putNode 169 = .ok (.iaload, 1) := by decide +kernel
theorem dX7_putNode_170 : decode cX7_putNode 170 = .ok (.invokevirtual 111, 3) := by decide +kernel
theorem dX7_putNode_173 : decode cX7_putNode 173 = .ok (.goto 61, 3) := by decide +kernel
theorem dX7_putNode_176 : decode cX7_putNode 176 = .ok (.aload_n 0, 1) := by decide +kernel
theorem dX7_putNode_177 : decode cX7_putNode 177 = .ok (.ldc 120, 2) := by decide +kernel
theorem dX7_putNode_179 : decode cX7_putNode 179 = .ok (.invokevirtual 72, 3) := by decide +kernel
theorem dX7_putNode_182 : decode cX7_putNode 182 = .ok (.aload_n 0, 1) := by decide +kernel
theorem dX7_putNode_183 : decode cX7_putNode 183 = .ok (.aload_n 1, 1) := by decide +kernel
theorem dX7_putNode_184 : decode cX7_putNode 184 = .ok (.getfield 107, 3) := by decide +kernel
theorem dX7_putNode_187 : decode cX7_putNode 187 = .ok (.iconst 0, 1) := by decide +kernel
theorem dX7_putNode_188 : decode cX7_putNode 188 = .ok (.aaload, 1) := by decide +kernel
theorem dX7_putNode_189 : decode cX7_putNode 189 = .ok (.iload_n 3, 1) := by decide +kernel
theorem dX7_putNode_190 : decode cX7_putNode 190 = .ok (.iaload, 1) := by decide +kernel
theorem dX7_putNode_191 : decode cX7_putNode 191 = .ok (.invokevirtual 111, 3) := by decide +kernel
theorem dX7_putNode_194 : decode cX7_putNode 194 = .ok (.goto 40, 3) := by decide +kernel
theorem dX7_putNode_197 : decode cX7_putNode 197 = .ok (.aload_n 0, 1) := by decide +kernel
theorem dX7_putNode_198 : decode cX7_putNode 198 = .ok (.aload_n 1, 1) := by decide +kernel
theorem dX7_putNode_199 : decode cX7_putNode 199 = .ok (.iload_n 3, 1) := by decide +kernel
theorem dX7_putNode_200 : decode cX7_putNode 200 = .ok (.invokevirtual 122, 3) := by decide +kernel
theorem dX7_putNode_203 : decode cX7_putNode 203 = .ok (.goto 31, 3) := by decide +kernel
theorem dX7_putNode_206 : decode cX7_putNode 206 = .ok (.aload_n 0, 1) := by decide +kernel
theorem dX7_putNode_207 : decode cX7_putNode 207 = .ok (.ldc 125, 2) := by decide +kernel
theorem dX7_putNode_209 : decode cX7_putNode 209 = .ok (.invokevirtual 72, 3) := by decide +kernel
theorem dX7_putNode_212 : decode cX7_putNode 212 = .ok (.goto 22, 3) := by decide +kernel
theorem dX7_putNode_215 : decode cX7_putNode 215 = .ok (.aload_n 0, 1) := by decide +kernel
theorem dX7_putNode_216 : decode cX7_putNode 216 = .ok (.ldc 127, 2) := by decide +kernel
theorem dX7_putNode_218 : decode cX7_putNode 218 = .ok (.invokevirtual 72, 3) := by decide +kernel
theorem dX7_putNode_221 : decode cX7_putNode 221 = .ok (.aload_n 0, 1) := by decide +kernel
theorem dX7_putNode_222 : decode cX7_putNode 222 = .ok (.bipush 98, 2) := by decide +kernel
theorem dX7_putNode_224 : decode cX7_putNode 224 = .ok (.aload_n 0, 1) := by decide +kernel
theorem dX7_putNode_225 : decode cX7_putNode 225 = .ok (.aload_n 1, 1) := by decide +kernel
theorem dX7_putNode_226 : decode cX7_putNode 226 = .ok (.iload_n 3, 1) := by decide +kernel
theorem dX7_putNode_227 : decode cX7_putNode 227 = .ok (.iconst 0, 1) := by decide +kernel
theorem dX7_putNode_228 : decode cX7_putNode 228 = .ok (.invokevirtual 129, 3) := by decide +kernel
theorem dX7_putNode_231 : decode cX7_putNode 231 = .ok (.invokevirtual 66, 3) := by decide +kernel
theorem dX7_putNode_234 : decode cX7_putNode 234 = .ok (.aload_n 0, 1) := by decide +kernel
theorem dX7_putNode_235 : decode cX7_putNode 235 = .ok (.ldc 93, 2) := by decide +kernel
theorem dX7_putNode_237 : decode cX7_putNode 237 = .ok (.invokevirtual 72, 3) := by decide +kernel
theorem dX7_putNode_240 : decode cX7_putNode 240 = .ok (.return_, 1) := by decide +kernel
theorem dX7_putGive_0 : decode cX7_putGive 0 = .ok (.aload_n 0, 1) := by decide +kernel
theorem dX7_putGive_1 : decode cX7_putGive 1 = .ok (.ldc 133, 2) := by decide +kernel
theorem dX7_putGive_3 : decode cX7_putGive 3 = .ok (.aload_n 1, 1) := by decide +kernel
theorem dX7_putGive_4 : decode cX7_putGive 4 = .ok (.getfield 114, 3) := by decide +kernel
theorem dX7_putGive_7 : decode cX7_putGive 7 = .ok (.iload_n 2, 1) := by decide +kernel
theorem dX7_putGive_8 : decode cX7_putGive 8 = .ok (.iaload, 1) := by decide +kernel
theorem dX7_putGive_9 : decode cX7_putGive 9 = .ok (.iadd, 1) := by decide +kernel
theorem dX7_putGive_10 : decode cX7_putGive 10 = .ok (.invokevirtual 111, 3) := by decide +kernel
theorem dX7_putGive_13 : decode cX7_putGive 13 = .ok (.aload_n 0, 1) := by decide +kernel
theorem dX7_putGive_14 : decode cX7_putGive 14 = .ok (.ldc 87, 2) := by decide +kernel
theorem dX7_putGive_16 : decode cX7_putGive 16 = .ok (.invokevirtual 72, 3) := by decide +kernel
theorem dX7_putGive_19 : decode cX7_putGive 19 = .ok (.return_, 1) := by decide +kernel
theorem dX7_putIf_0 : decode cX7_putIf 0 = .ok (.aload_n 0, 1) := by decide +kernel
theorem dX7_putIf_1 : decode cX7_putIf 1 = .ok (.ldc 134, 2) := by decide +kernel
theorem dX7_putIf_3 : decode cX7_putIf 3 = .ok (.invokevirtual 72, 3) := by decide +kernel
theorem dX7_putIf_6 : decode cX7_putIf 6 = .ok (.aload_n 0, 1) := by decide +kernel
theorem dX7_putIf_7 : decode cX7_putIf 7 = .ok (.aload_n 1, 1) := by decide +kernel
theorem dX7_putIf_8 : decode cX7_putIf 8 = .ok (.getfield 107, 3) := by decide +kernel
theorem dX7_putIf_11 : decode cX7_putIf 11 = .ok (.iconst 0, 1) := by decide +kernel
theorem dX7_putIf_12 : decode cX7_putIf 12 = .ok (.aaload, 1) := by decide +kernel
theorem dX7_putIf_13 : decode cX7_putIf 13 = .ok (.iload_n 2, 1) := by decide +kernel
theorem dX7_putIf_14 : decode cX7_putIf 14 = .ok (.iaload, 1) := by decide +kernel
theorem dX7_putIf_15 : decode cX7_putIf 15 = .ok (.invokevirtual 111, 3) := by decide +kernel
theorem dX7_putIf_18 : decode cX7_putIf 18 = .ok (.aload_n 0, 1) := by decide +kernel
theorem dX7_putIf_19 : decode cX7_putIf 19 = .ok (.ldc 136, 2) := by decide +kernel
theorem dX7_putIf_21 : decode cX7_putIf 21 = .ok (.invokevirtual 72, 3) := by decide +kernel
theorem dX7_putIf_24 : decode cX7_putIf 24 = .ok (.aload_n 0, 1) := by decide +kernel
theorem dX7_putIf_25 : decode cX7_putIf 25 = .ok (.aload_n 1, 1) := by decide +kernel
theorem dX7_putIf_26 : decode cX7_putIf 26 = .ok (.getfield 107, 3) := by decide +kernel
theorem dX7_putIf_29 : decode cX7_putIf 29 = .ok (.iconst 1, 1) := by decide +kernel
theorem dX7_putIf_30 : decode cX7_putIf 30 = .ok (.aaload, 1) := by decide +kernel
theorem dX7_putIf_31 : decode cX7_putIf 31 = .ok (.iload_n 2, 1) := by decide +kernel
theorem dX7_putIf_32 : decode cX7_putIf 32 = .ok (.iaload, 1) := by decide +kernel
theorem dX7_putIf_33 : decode cX7_putIf 33 = .ok (.invokevirtual 111, 3) := by decide +kernel
theorem dX7_putIf_36 : decode cX7_putIf 36 = .ok (.iconst 0, 1) := by decide +kernel
theorem dX7_putIf_37 : decode cX7_putIf 37 = .ok (.istore_n 3, 1) := by decide +kernel
theorem dX7_putIf_38 : decode cX7_putIf 38 = .ok (.iload_n 3, 1) := by decide +kernel
theorem dX7_putIf_39 : decode cX7_putIf 39 = .ok (.iconst 2, 1) := by decide +kernel
theorem dX7_putIf_40 : decode cX7_putIf 40 = .ok (.if_icmp .ge 28, 3) := by decide +kernel
theorem dX7_putIf_43 : decode cX7_putIf 43 = .ok (.aload_n 0, 1) := by decide +kernel
theorem dX7_putIf_44 : decode cX7_putIf 44 = .ok (.bipush 32, 2) := by decide +kernel
theorem dX7_putIf_46 : decode cX7_putIf 46 = .ok (.invokevirtual 138, 3) := by decide +kernel
theorem dX7_putIf_49 : decode cX7_putIf 49 = .ok (.aload_n 0, 1) := by decide +kernel
theorem dX7_putIf_50 : decode cX7_putIf 50 = .ok (.bipush 98, 2) := by decide +kernel
theorem dX7_putIf_52 : decode cX7_putIf 52 = .ok (.aload_n 0, 1) := by decide +kernel
theorem dX7_putIf_53 : decode cX7_putIf 53 = .ok (.aload_n 1, 1) := by decide +kernel
theorem dX7_putIf_54 : decode cX7_putIf 54 = .ok (.iload_n 2, 1) := by decide +kernel
theorem dX7_putIf_55 : decode cX7_putIf 55 = .ok (.iload_n 3, 1) := by decide +kernel
theorem dX7_putIf_56 : decode cX7_putIf 56 = .ok (.invokevirtual 129, 3) := by decide +kernel
theorem dX7_putIf_59 : decode cX7_putIf 59 = .ok (.invokevirtual 66, 3) := by decide +kernel
theorem dX7_putIf_62 : decode cX7_putIf 62 = .ok (.iinc 3 1, 3) := by decide +kernel
theorem dX7_putIf_65 : decode cX7_putIf 65 = .ok (.goto (-27), 3) := by decide +kernel
theorem dX7_putIf_68 : decode cX7_putIf 68 = .ok (.return_, 1) := by decide +kernel
theorem dX7_wayOf_0 : decode cX7_wayOf 0 = .ok (.aload_n 1, 1) := by decide +kernel
theorem dX7_wayOf_1 : decode cX7_wayOf 1 = .ok (.getfield 141, 3) := by decide +kernel
theorem dX7_wayOf_4 : decode cX7_wayOf 4 = .ok (.iload_n 3, 1) := by decide +kernel
theorem dX7_wayOf_5 : decode cX7_wayOf 5 = .ok (.aaload, 1) := by decide +kernel
theorem dX7_wayOf_6 : decode cX7_wayOf 6 = .ok (.iload_n 2, 1) := by decide +kernel
theorem dX7_wayOf_7 : decode cX7_wayOf 7 = .ok (.iaload, 1) := by decide +kernel
theorem dX7_wayOf_8 : decode cX7_wayOf 8 = .ok (.istore 4, 2) := by decide +kernel
theorem dX7_wayOf_10 : decode cX7_wayOf 10 = .ok (.iload 4, 2) := by decide +kernel
theorem dX7_wayOf_12 : decode cX7_wayOf 12 = .ok (.aload_n 1, 1) := by decide +kernel
theorem dX7_wayOf_13 : decode cX7_wayOf 13 = .ok (.getfield 50, 3) := by decide +kernel
theorem dX7_wayOf_16 : decode cX7_wayOf 16 = .ok (.if_icmp .lt 23, 3) := by decide +kernel
theorem dX7_wayOf_19 : decode cX7_wayOf 19 = .ok (.aload_n 0, 1) := by decide +kernel
theorem dX7_wayOf_20 : decode cX7_wayOf 20 = .ok (.getfield 15, 3) := by decide +kernel
theorem dX7_wayOf_23 : decode cX7_wayOf 23 = .ok (.iload 4, 2) := by decide +kernel
theorem dX7_wayOf_25 : decode cX7_wayOf 25 = .ok (.iaload, 1) := by decide +kernel
theorem dX7_wayOf_26 : decode cX7_wayOf 26 = .ok (.ifCond .lt 13, 3) := by decide +kernel
theorem dX7_wayOf_29 : decode cX7_wayOf 29 = .ok (.aload_n 0, 1) := by decide +kernel
theorem dX7_wayOf_30 : decode cX7_wayOf 30 = .ok (.getfield 15, 3) := by decide +kernel
theorem dX7_wayOf_33 : decode cX7_wayOf 33 = .ok (.iload 4, 2) := by decide +kernel
theorem dX7_wayOf_35 : decode cX7_wayOf 35 = .ok (.iaload, 1) := by decide +kernel
theorem dX7_wayOf_36 : decode cX7_wayOf 36 = .ok (.goto 11, 3) := by decide +kernel
theorem dX7_wayOf_39 : decode cX7_wayOf 39 = .ok (.aload_n 1, 1) := by decide +kernel
theorem dX7_wayOf_40 : decode cX7_wayOf 40 = .ok (.getfield 144, 3) := by decide +kernel
theorem dX7_wayOf_43 : decode cX7_wayOf 43 = .ok (.iload_n 3, 1) := by decide +kernel
theorem dX7_wayOf_44 : decode cX7_wayOf 44 = .ok (.aaload, 1) := by decide +kernel
theorem dX7_wayOf_45 : decode cX7_wayOf 45 = .ok (.iload_n 2, 1) := by decide +kernel
theorem dX7_wayOf_46 : decode cX7_wayOf 46 = .ok (.iaload, 1) := by decide +kernel
theorem dX7_wayOf_47 : decode cX7_wayOf 47 = .ok (.ireturn, 1) := by decide +kernel
theorem dX7_putSum_0 : decode cX7_putSum 0 = .ok (.aload_n 1, 1) := by decide +kernel
theorem dX7_putSum_1 : decode cX7_putSum 1 = .ok (.iload_n 2, 1) := by decide +kernel
theorem dX7_putSum_2 : decode cX7_putSum 2 = .ok (.invokevirtual 147, 3) := by decide +kernel
theorem dX7_putSum_5 : decode cX7_putSum 5 = .ok (.ifCond .ne 4, 3) := by decide +kernel
theorem dX7_putSum_8 : decode cX7_putSum 8 = .ok (.return_, 1) := by decide +kernel
theorem dX7_putSum_9 : decode cX7_putSum 9 = .ok (.aload_n 1, 1) := by decide +kernel
theorem dX7_putSum_10 : decode cX7_putSum 10 = .ok (.getfield 151, 3) := by decide +kernel
theorem dX7_putSum_13 : decode cX7_putSum 13 = .ok (.iload_n 2, 1) := by decide +kernel
theorem dX7_putSum_14 : decode cX7_putSum 14 = .ok (.iaload, 1) := by decide +kernel
theorem dX7_putSum_15 : decode cX7_putSum 15 = .ok (.bipush 114, 2) := by decide +kernel
theorem dX7_putSum_17 : decode cX7_putSum 17 = .ok (.if_icmp .ne 20, 3) := by decide +kernel
theorem dX7_putSum_20 : decode cX7_putSum 20 = .ok (.aload_n 0, 1) := by decide +kernel
theorem dX7_putSum_21 : decode cX7_putSum 21 = .ok (.aload_n 1, 1) := by decide +kernel
theorem dX7_putSum_22 : decode cX7_putSum 22 = .ok (.getfield 154, 3) := by decide +kernel
theorem dX7_putSum_25 : decode cX7_putSum 25 = .ok (.iload_n 2, 1) := by decide +kernel
theorem dX7_putSum_26 : decode cX7_putSum 26 = .ok (.iaload, 1) := by decide +kernel
theorem dX7_putSum_27 : decode cX7_putSum 27 = .ok (.aload_n 1, 1) := by decide +kernel
theorem dX7_putSum_28 : decode cX7_putSum 28 = .ok (.getfield 157, 3) := by decide +kernel
theorem dX7_putSum_31 : decode cX7_putSum 31 = .ok (.iload_n 2, 1) := by decide +kernel
theorem dX7_putSum_32 : decode cX7_putSum 32 = .ok (.iaload, 1) := by decide +kernel
theorem dX7_putSum_33 : decode cX7_putSum 33 = .ok (.invokevirtual 117, 3) := by decide +kernel
theorem dX7_putSum_36 : decode cX7_putSum 36 = .ok (.return_, 1) := by decide +kernel
theorem dX7_putSum_37 : decode cX7_putSum 37 = .ok (.aload_n 0, 1) := by decide +kernel
theorem dX7_putSum_38 : decode cX7_putSum 38 = .ok (.aload_n 1, 1) := by decide +kernel
theorem dX7_putSum_39 : decode cX7_putSum 39 = .ok (.getfield 154, 3) := by decide +kernel
theorem dX7_putSum_42 : decode cX7_putSum 42 = .ok (.iload_n 2, 1) := by decide +kernel
theorem dX7_putSum_43 : decode cX7_putSum 43 = .ok (.iaload, 1) := by decide +kernel
theorem dX7_putSum_44 : decode cX7_putSum 44 = .ok (.invokevirtual 111, 3) := by decide +kernel
theorem dX7_putSum_47 : decode cX7_putSum 47 = .ok (.aload_n 0, 1) := by decide +kernel
theorem dX7_putSum_48 : decode cX7_putSum 48 = .ok (.bipush 32, 2) := by decide +kernel
theorem dX7_putSum_50 : decode cX7_putSum 50 = .ok (.invokevirtual 138, 3) := by decide +kernel
theorem dX7_putSum_53 : decode cX7_putSum 53 = .ok (.aload_n 0, 1) := by decide +kernel
theorem dX7_putSum_54 : decode cX7_putSum 54 = .ok (.aload_n 1, 1) := by decide +kernel
theorem dX7_putSum_55 : decode cX7_putSum 55 = .ok (.getfield 151, 3) := by decide +kernel
theorem dX7_putSum_58 : decode cX7_putSum 58 = .ok (.iload_n 2, 1) := by decide +kernel
theorem dX7_putSum_59 : decode cX7_putSum 59 = .ok (.iaload, 1) := by decide +kernel
theorem dX7_putSum_60 : decode cX7_putSum 60 = .ok (.invokevirtual 138, 3) := by decide +kernel
theorem dX7_putSum_63 : decode cX7_putSum 63 = .ok (.aload_n 0, 1) := by decide +kernel
theorem dX7_putSum_64 : decode cX7_putSum 64 = .ok (.bipush 32, 2) := by decide +kernel
theorem dX7_putSum_66 : decode cX7_putSum 66 = .ok (.invokevirtual 138, 3) := by decide +kernel
theorem dX7_putSum_69 : decode cX7_putSum 69 = .ok (.aload_n 0, 1) := by decide +kernel
theorem dX7_putSum_70 : decode cX7_putSum 70 = .ok (.aload_n 1, 1) := by decide +kernel
theorem dX7_putSum_71 : decode cX7_putSum 71 = .ok (.getfield 157, 3) := by decide +kernel
theorem dX7_putSum_74 : decode cX7_putSum 74 = .ok (.iload_n 2, 1) := by decide +kernel
theorem dX7_putSum_75 : decode cX7_putSum 75 = .ok (.iaload, 1) := by decide +kernel
theorem dX7_putSum_76 : decode cX7_putSum 76 = .ok (.invokevirtual 111, 3) := by decide +kernel
theorem dX7_putSum_79 : decode cX7_putSum 79 = .ok (.return_, 1) := by decide +kernel
theorem dX7_putPlace_0 : decode cX7_putPlace 0 = .ok (.aload_n 0, 1) := by decide +kernel
theorem dX7_putPlace_1 : decode cX7_putPlace 1 = .ok (.bipush 114, 2) := by decide +kernel
theorem dX7_putPlace_3 : decode cX7_putPlace 3 = .ok (.iload_n 1, 1) := by decide +kernel
theorem dX7_putPlace_4 : decode cX7_putPlace 4 = .ok (.invokevirtual 66, 3) := by decide +kernel
theorem dX7_putPlace_7 : decode cX7_putPlace 7 = .ok (.aload_n 0, 1) := by decide +kernel
theorem dX7_putPlace_8 : decode cX7_putPlace 8 = .ok (.ldc 160, 2) := by decide +kernel
theorem dX7_putPlace_10 : decode cX7_putPlace 10 = .ok (.invokevirtual 72, 3) := by decide +kernel
theorem dX7_putPlace_13 : decode cX7_putPlace 13 = .ok (.aload_n 0, 1) := by decide +kernel
theorem dX7_putPlace_14 : decode cX7_putPlace 14 = .ok (.iload_n 2, 1) := by decide +kernel
theorem dX7_putPlace_15 : decode cX7_putPlace 15 = .ok (.invokevirtual 111, 3) := by decide +kernel
theorem dX7_putPlace_18 : decode cX7_putPlace 18 = .ok (.aload_n 0, 1) := by decide +kernel
theorem dX7_putPlace_19 : decode cX7_putPlace 19 = .ok (.ldc 162, 2) := by decide +kernel
theorem dX7_putPlace_21 : decode cX7_putPlace 21 = .ok (.invokevirtual 72, 3) := by decide +kernel
theorem dX7_putPlace_24 : decode cX7_putPlace 24 = .ok (.return_, 1) := by decide +kernel
theorem dX7_putOperand_0 : decode cX7_putOperand 0 = .ok (.iload_n 1, 1) := by decide +kernel
theorem dX7_putOperand_1 : decode cX7_putOperand 1 = .ok (.istore_n 2, 1) := by decide +kernel
theorem dX7_putOperand_2 : decode cX7_putOperand 2 = .ok (.iload_n 1, 1) := by decide +kernel
theorem dX7_putOperand_3 : decode cX7_putOperand 3 = .ok (.ldc 164, 2) := by decide +kernel
theorem dX7_putOperand_5 : decode cX7_putOperand 5 = .ok (.if_icmp .lt 20, 3) := by decide +kernel
theorem dX7_putOperand_8 : decode cX7_putOperand 8 = .ok (.aload_n 0, 1) := by decide +kernel
theorem dX7_putOperand_9 : decode cX7_putOperand 9 = .ok (.bipush 116, 2) := by decide +kernel
theorem dX7_putOperand_11 : decode cX7_putOperand 11 = .ok (.invokevirtual 138, 3) := by decide +kernel
theorem dX7_putOperand_14 : decode cX7_putOperand 14 = .ok (.iload_n 1, 1) := by decide +kernel
theorem dX7_putOperand_15 : decode cX7_putOperand 15 = .ok (.ldc 133, 2) := by decide +kernel
theorem dX7_putOperand_17 : decode cX7_putOperand 17 = .ok (.isub, 1) := by decide +kernel
theorem dX7_putOperand_18 : decode cX7_putOperand 18 = .ok (.bipush 16, 2) := by decide +kernel
theorem dX7_putOperand_20 : decode cX7_putOperand 20 = .ok (.isub, 1) := by decide +kernel
theorem dX7_putOperand_21 : decode cX7_putOperand 21 = .ok (.istore_n 2, 1) := by decide +kernel
theorem dX7_putOperand_22 : decode cX7_putOperand 22 = .ok (.goto 37, 3) := by decide +kernel
theorem dX7_putOperand_25 : decode cX7_putOperand 25 = .ok (.iload_n 1, 1) := by decide +kernel
theorem dX7_putOperand_26 : decode cX7_putOperand 26 = .ok (.invokestatic 165, 3) := by decide +kernel
theorem dX7_putOperand_29 : decode cX7_putOperand 29 = .ok (.ifCond .eq 17, 3) := by decide +kernel
theorem dX7_putOperand_32 : decode cX7_putOperand 32 = .ok (.aload_n 0, 1) := by decide +kernel
theorem dX7_putOperand_33 : decode cX7_putOperand 33 = .ok (.bipush 118, 2) := by decide +kernel
theorem dX7_putOperand_35 : decode cX7_putOperand 35 = .ok (.invokevirtual 138, 3) := by decide +kernel
theorem dX7_putOperand_38 : decode cX7_putOperand 38 = .ok (.iload_n 1, 1) := by decide +kernel
theorem dX7_putOperand_39 : decode cX7_putOperand 39 = .ok (.ldc 133, 2) := by decide +kernel
theorem dX7_putOperand_41 : decode cX7_putOperand 41 = .ok (.isub, 1) := by decide +kernel
theorem dX7_putOperand_42 : decode cX7_putOperand 42 = .ok (.istore_n 2, 1) := by decide +kernel
theorem dX7_putOperand_43 : decode cX7_putOperand 43 = .ok (.goto 16, 3) := by decide +kernel
theorem dX7_putOperand_46 : decode cX7_putOperand 46 = .ok (.iload_n 1, 1) := by decide +kernel
theorem dX7_putOperand_47 : decode cX7_putOperand 47 = .ok (.ifCond .ge 12, 3) := by decide +kernel
theorem dX7_putOperand_50 : decode cX7_putOperand 50 = .ok (.aload_n 0, 1) := by decide +kernel
theorem dX7_putOperand_51 : decode cX7_putOperand 51 = .ok (.bipush 45, 2) := by decide +kernel
theorem dX7_putOperand_53 : decode cX7_putOperand 53 = .ok (.invokevirtual 138, 3) := by decide +kernel
theorem dX7_putOperand_56 : decode cX7_putOperand 56 = .ok (.iload_n 1, 1) := by decide +kernel
theorem dX7_putOperand_57 : decode cX7_putOperand 57 = .ok (.ineg, 1) := by decide +kernel
theorem dX7_putOperand_58 : decode cX7_putOperand 58 = .ok (.istore_n 2, 1) := by decide +kernel
theorem dX7_putOperand_59 : decode cX7_putOperand 59 = .ok (.aload_n 0, 1) := by decide +kernel
theorem dX7_putOperand_60 : decode cX7_putOperand 60 = .ok (.iload_n 2, 1) := by decide +kernel
theorem dX7_putOperand_61 : decode cX7_putOperand 61 = .ok (.invokevirtual 168, 3) := by decide +kernel
theorem dX7_putOperand_64 : decode cX7_putOperand 64 = .ok (.return_, 1) := by decide +kernel
theorem dX7_putNumbered_0 : decode cX7_putNumbered 0 = .ok (.aload_n 0, 1) := by decide +kernel
theorem dX7_putNumbered_1 : decode cX7_putNumbered 1 = .ok (.iload_n 1, 1) := by decide +kernel
theorem dX7_putNumbered_2 : decode cX7_putNumbered 2 = .ok (.invokevirtual 138, 3) := by decide +kernel
theorem dX7_putNumbered_5 : decode cX7_putNumbered 5 = .ok (.aload_n 0, 1) := by decide +kernel
theorem dX7_putNumbered_6 : decode cX7_putNumbered 6 = .ok (.iload_n 2, 1) := by decide +kernel
theorem dX7_putNumbered_7 : decode cX7_putNumbered 7 = .ok (.invokevirtual 168, 3) := by decide +kernel
theorem dX7_putNumbered_10 : decode cX7_putNumbered 10 = .ok (.return_, 1) := by decide +kernel
theorem dX7_putDigits_0 : decode cX7_putDigits 0 = .ok (.iconst 1, 1) := by decide +kernel
theorem dX7_putDigits_1 : decode cX7_putDigits 1 = .ok (.istore_n 2, 1) := by decide +kernel
theorem dX7_putDigits_2 : decode cX7_putDigits 2 = .ok (.iconst 0, 1) := by decide +kernel
theorem dX7_putDigits_3 : decode cX7_putDigits 3 = .ok (.istore_n 3, 1) := by decide +kernel
theorem dX7_putDigits_4 : decode cX7_putDigits 4 = .ok (.iload_n 3, 1) := by decide +kernel
theorem dX7_putDigits_5 : decode cX7_putDigits 5 = .ok (.bipush 9, 2) := by decide +kernel
theorem dX7_putDigits_7 : decode cX7_putDigits 7 = .ok (.if_icmp .ge 22, 3) := by decide +kernel
theorem dX7_putDigits_10 : decode cX7_putDigits 10 = .ok (.iload_n 1, 1) := by decide +kernel
theorem dX7_putDigits_11 : decode cX7_putDigits 11 = .ok (.iload_n 2, 1) := by decide +kernel
theorem dX7_putDigits_12 : decode cX7_putDigits 12 = .ok (.idiv, 1) := by decide +kernel
theorem dX7_putDigits_13 : decode cX7_putDigits 13 = .ok (.bipush 9, 2) := by decide +kernel
theorem dX7_putDigits_15 : decode cX7_putDigits 15 = .ok (.if_icmp .le 14, 3) := by decide +kernel
theorem dX7_putDigits_18 : decode cX7_putDigits 18 = .ok (.iload_n 2, 1) := by decide +kernel
theorem dX7_putDigits_19 : decode cX7_putDigits 19 = .ok (.bipush 10, 2) := by decide +kernel
theorem dX7_putDigits_21 : decode cX7_putDigits 21 = .ok (.imul, 1) := by decide +kernel
theorem dX7_putDigits_22 : decode cX7_putDigits 22 = .ok (.istore_n 2, 1) := by decide +kernel
theorem dX7_putDigits_23 : decode cX7_putDigits 23 = .ok (.iinc 3 1, 3) := by decide +kernel
theorem dX7_putDigits_26 : decode cX7_putDigits 26 = .ok (.goto (-22), 3) := by decide +kernel
theorem dX7_putDigits_29 : decode cX7_putDigits 29 = .ok (.iconst 0, 1) := by decide +kernel
theorem dX7_putDigits_30 : decode cX7_putDigits 30 = .ok (.istore_n 3, 1) := by decide +kernel
theorem dX7_putDigits_31 : decode cX7_putDigits 31 = .ok (.iload_n 3, 1) := by decide +kernel
theorem dX7_putDigits_32 : decode cX7_putDigits 32 = .ok (.bipush 10, 2) := by decide +kernel
theorem dX7_putDigits_34 : decode cX7_putDigits 34 = .ok (.if_icmp .ge 31, 3) := by decide +kernel
theorem dX7_putDigits_37 : decode cX7_putDigits 37 = .ok (.iload_n 2, 1) := by decide +kernel
theorem dX7_putDigits_38 : decode cX7_putDigits 38 = .ok (.ifCond .le 27, 3) := by decide +kernel
theorem dX7_putDigits_41 : decode cX7_putDigits 41 = .ok (.aload_n 0, 1) := by decide +kernel
theorem dX7_putDigits_42 : decode cX7_putDigits 42 = .ok (.bipush 48, 2) := by decide +kernel
theorem dX7_putDigits_44 : decode cX7_putDigits 44 = .ok (.iload_n 1, 1) := by decide +kernel
theorem dX7_putDigits_45 : decode cX7_putDigits 45 = .ok (.iload_n 2, 1) := by decide +kernel
theorem dX7_putDigits_46 : decode cX7_putDigits 46 = .ok (.idiv, 1) := by decide +kernel
theorem dX7_putDigits_47 : decode cX7_putDigits 47 = .ok (.bipush 10, 2) := by decide +kernel
theorem dX7_putDigits_49 : decode cX7_putDigits 49 = .ok (.irem, 1) := by decide +kernel
theorem dX7_putDigits_50 : decode cX7_putDigits 50 = .ok (.iadd, 1) := by decide +kernel
theorem dX7_putDigits_51 : decode cX7_putDigits 51 = .ok (.invokevirtual 138, 3) := by decide +kernel
theorem dX7_putDigits_54 : decode cX7_putDigits 54 = .ok (.iload_n 2, 1) := by decide +kernel
theorem dX7_putDigits_55 : decode cX7_putDigits 55 = .ok (.bipush 10, 2) := by decide +kernel
theorem dX7_putDigits_57 : decode cX7_putDigits 57 = .ok (.idiv, 1) := by decide +kernel
theorem dX7_putDigits_58 : decode cX7_putDigits 58 = .ok (.istore_n 2, 1) := by decide +kernel
theorem dX7_putDigits_59 : decode cX7_putDigits 59 = .ok (.iinc 3 1, 3) := by decide +kernel
theorem dX7_putDigits_62 : decode cX7_putDigits 62 = .ok (.goto (-31), 3) := by decide +kernel
theorem dX7_putDigits_65 : decode cX7_putDigits 65 = .ok (.return_, 1) := by decide +kernel
theorem dX7_putText_0 : decode cX7_putText 0 = .ok (.iconst 0, 1) := by decide +kernel
theorem dX7_putText_1 : decode cX7_putText 1 = .ok (.istore_n 2, 1) := by decide +kernel
theorem dX7_putText_2 : decode cX7_putText 2 = .ok (.iload_n 2, 1) := by decide +kernel
theorem dX7_putText_3 : decode cX7_putText 3 = .ok (.aload_n 1, 1) := by decide +kernel
theorem dX7_putText_4 : decode cX7_putText 4 = .ok (.invokevirtual 171, 3) := by decide +kernel
theorem dX7_putText_7 : decode cX7_putText 7 = .ok (.if_icmp .ge 18, 3) := by decide +kernel
theorem dX7_putText_10 : decode cX7_putText 10 = .ok (.aload_n 0, 1) := by decide +kernel
theorem dX7_putText_11 : decode cX7_putText 11 = .ok (.aload_n 1, 1) := by decide +kernel
theorem dX7_putText_12 : decode cX7_putText 12 = .ok (.iload_n 2, 1) := by decide +kernel
theorem dX7_putText_13 : decode cX7_putText 13 = .ok (.invokevirtual 176, 3) := by decide +kernel
theorem dX7_putText_16 : decode cX7_putText 16 = .ok (.invokevirtual 138, 3) := by decide +kernel
theorem dX7_putText_19 : decode cX7_putText 19 = .ok (.iinc 2 1, 3) := by decide +kernel
theorem dX7_putText_22 : decode cX7_putText 22 = .ok (.goto (-20), 3) := by decide +kernel
theorem dX7_putText_25 : decode cX7_putText 25 = .ok (.return_, 1) := by decide +kernel
theorem dX7_put_0 : decode cX7_put 0 = .ok (.aload_n 0, 1) := by decide +kernel
theorem dX7_put_1 : decode cX7_put 1 = .ok (.getfield 19, 3) := by decide +kernel
theorem dX7_put_4 : decode cX7_put 4 = .ok (.aload_n 0, 1) := by decide +kernel
theorem dX7_put_5 : decode cX7_put 5 = .ok (.getfield 9, 3) := by decide +kernel
theorem dX7_put_8 : decode cX7_put 8 = .ok (.arraylength, 1) := by decide +kernel
theorem dX7_put_9 : decode cX7_put 9 = .ok (.if_icmp .lt 9, 3) := by decide +kernel
theorem dX7_put_12 : decode cX7_put 12 = .ok (.aload_n 0, 1) := by decide +kernel
theorem dX7_put_13 : decode cX7_put 13 = .ok (.iconst 1, 1) := by decide +kernel
theorem dX7_put_14 : decode cX7_put 14 = .ok (.putfield 23, 3) := by decide +kernel
theorem dX7_put_17 : decode cX7_put 17 = .ok (.return_, 1) := by decide +kernel
theorem dX7_put_18 : decode cX7_put 18 = .ok (.aload_n 0, 1) := by decide +kernel
theorem dX7_put_19 : decode cX7_put 19 = .ok (.getfield 9, 3) := by decide +kernel
theorem dX7_put_22 : decode cX7_put 22 = .ok (.aload_n 0, 1) := by decide +kernel
theorem dX7_put_23 : decode cX7_put 23 = .ok (.dup, 1) := by decide +kernel
theorem dX7_put_24 : decode cX7_put 24 = .ok (.getfield 19, 3) := by decide +kernel
theorem dX7_put_27 : decode cX7_put 27 = .ok (.dup_x1, 1) := by decide +kernel
theorem dX7_put_28 : decode cX7_put 28 = .ok (.iconst 1, 1) := by decide +kernel
theorem dX7_put_29 : decode cX7_put 29 = .ok (.iadd, 1) := by decide +kernel
theorem dX7_put_30 : decode cX7_put 30 = .ok (.putfield 19, 3) := by decide +kernel
theorem dX7_put_33 : decode cX7_put 33 = .ok (.iload_n 1, 1) := by decide +kernel
theorem dX7_put_34 : decode cX7_put 34 = .ok (.i2b, 1) := by decide +kernel
theorem dX7_put_35 : decode cX7_put 35 = .ok (.bastore, 1) := by decide +kernel
theorem dX7_put_36 : decode cX7_put 36 = .ok (.return_, 1) := by decide +kernel
theorem dX8_init_0 : decode cX8_init 0 = .ok (.aload_n 0, 1) := by decide +kernel
theorem dX8_init_1 : decode cX8_init 1 = .ok (.invokespecial 3, 3) := by decide +kernel
theorem dX8_init_4 : decode cX8_init 4 = .ok (.aload_n 0, 1) := by decide +kernel
theorem dX8_init_5 : decode cX8_init 5 = .ok (.new 9, 3) := by decide +kernel
theorem dX8_init_8 : decode cX8_init 8 = .ok (.dup, 1) := by decide +kernel
theorem dX8_init_9 : decode cX8_init 9 = .ok (.invokespecial 11, 3) := by decide +kernel
theorem dX8_init_12 : decode cX8_init 12 = .ok (.putfield 12, 3) := by decide +kernel
theorem dX8_init_15 : decode cX8_init 15 = .ok (.aload_n 0, 1) := by decide +kernel
theorem dX8_init_16 : decode cX8_init 16 = .ok (.iconst 4, 1) := by decide +kernel
theorem dX8_init_17 : decode cX8_init 17 = .ok (.anewarray 16, 3) := by decide +kernel
theorem dX8_init_20 : decode cX8_init 20 = .ok (.putfield 18, 3) := by decide +kernel
theorem dX8_init_23 : decode cX8_init 23 = .ok (.aload_n 0, 1) := by decide +kernel
theorem dX8_init_24 : decode cX8_init 24 = .ok (.new 22, 3) := by decide +kernel
theorem dX8_init_27 : decode cX8_init 27 = .ok (.dup, 1) := by decide +kernel
theorem dX8_init_28 : decode cX8_init 28 = .ok (.invokespecial 24, 3) := by decide +kernel
theorem dX8_init_31 : decode cX8_init 31 = .ok (.putfield 25, 3) := by decide +kernel
theorem dX8_init_34 : decode cX8_init 34 = .ok (.aload_n 0, 1) := by decide +kernel
theorem dX8_init_35 : decode cX8_init 35 = .ok (.new 29, 3) := by decide +kernel
theorem dX8_init_38 : decode cX8_init 38 = .ok (.dup, 1) := by decide +kernel
theorem dX8_init_39 : decode cX8_init 39 = .ok (.invokespecial 31, 3) := by decide +kernel
theorem dX8_init_42 : decode cX8_init 42 = .ok (.putfield 32, 3) := by decide +kernel
theorem dX8_init_45 : decode cX8_init 45 = .ok (.aload_n 0, 1) := by decide +kernel
theorem dX8_init_46 : decode cX8_init 46 = .ok (.new 36, 3) := by decide +kernel
theorem dX8_init_49 : decode cX8_init 49 = .ok (.dup, 1) := by decide +kernel
theorem dX8_init_50 : decode cX8_init 50 = .ok (.invokespecial 38, 3) := by decide +kernel
theorem dX8_init_53 : decode cX8_init 53 = .ok (.putfield 39, 3) := by decide +kernel
theorem dX8_init_56 : decode cX8_init 56 = .ok (.return_, 1) := by decide +kernel
theorem dX8_feed_0 : decode cX8_feed 0 = .ok (.iload_n 3, 1) := by decide +kernel
theorem dX8_feed_1 : decode cX8_feed 1 = .ok (.iconst 1, 1) := by decide +kernel
theorem dX8_feed_2 : decode cX8_feed 2 = .ok (.if_icmp .lt 9, 3) := by decide +kernel
theorem dX8_feed_5 : decode cX8_feed 5 = .ok (.iload_n 3, 1) := by decide +kernel
theorem dX8_feed_6 : decode cX8_feed 6 = .ok (.bipush 8, 2) := by decide +kernel
theorem dX8_feed_8 : decode cX8_feed 8 = .ok (.if_icmp .le 6, 3) := by decide +kernel
theorem dX8_feed_11 : decode cX8_feed 11 = .ok (.bipush (-2), 2) := by decide +kernel
theorem dX8_feed_13 : decode cX8_feed 13 = .ok (.ireturn, 1) := by decide +kernel
theorem dX8_feed_14 : decode cX8_feed 14 = .ok (.aload_n 0, 1) := by decide +kernel
theorem dX8_feed_15 : decode cX8_feed 15 = .ok (.getfield 12, 3) := by decide +kernel
theorem dX8_feed_18 : decode cX8_feed 18 = .ok (.getfield 43, 3) := by decide +kernel
theorem dX8_feed_21 : decode cX8_feed 21 = .ok (.iload_n 3, 1) := by decide +kernel
theorem dX8_feed_22 : decode cX8_feed 22 = .ok (.iadd, 1) := by decide +kernel
theorem dX8_feed_23 : decode cX8_feed 23 = .ok (.sipush 3000, 3) := by decide +kernel
theorem dX8_feed_26 : decode cX8_feed 26 = .ok (.if_icmp .le 6, 3) := by decide +kernel
theorem dX8_feed_29 : decode cX8_feed 29 = .ok (.bipush (-3), 2) := by decide +kernel
theorem dX8_feed_31 : decode cX8_feed 31 = .ok (.ireturn, 1) := by decide +kernel
theorem dX8_feed_32 : decode cX8_feed 32 = .ok (.iload_n 3, 1) := by decide +kernel
theorem dX8_feed_33 : decode cX8_feed 33 = .ok (.iconst 1, 1) := by decide +kernel
theorem dX8_feed_34 : decode cX8_feed 34 = .ok (.isub, 1) := by decide +kernel
theorem dX8_feed_35 : decode cX8_feed 35 = .ok (.istore 4, 2) := by decide +kernel
theorem dX8_feed_37 : decode cX8_feed 37 = .ok (.iload 4, 2) := by decide +kernel
theorem dX8_feed_39 : decode cX8_feed 39 = .ok (.ifCond .lt 28, 3) := by decide +kernel
theorem dX8_feed_42 : decode cX8_feed 42 = .ok (.aload_n 0, 1) := by decide +kernel
theorem dX8_feed_43 : decode cX8_feed 43 = .ok (.getfield 12, 3) := by decide +kernel
theorem dX8_feed_46 : decode cX8_feed 46 = .ok (.lload_n 1, 1) := by decide +kernel
theorem dX8_feed_47 : decode cX8_feed 47 = .ok (.bipush 8, 2) := by decide +kernel
theorem dX8_feed_49 : decode cX8_feed 49 = .ok (.iload 4, 2) := by decide +kernel
theorem dX8_feed_51 : decode cX8_feed 51 = .ok (.imul, 1) := by decide +kernel
theorem dX8_feed_52 : decode cX8_feed 52 = .ok (.lushr, 1) := by decide +kernel
theorem dX8_feed_53 : decode cX8_feed 53 = .ok (.l2i, 1) := by decide +kernel
theorem dX8_feed_54 : decode cX8_feed 54 = .ok (.sipush 255, 3) := by decide +kernel
theorem dX8_feed_57 : decode cX8_feed 57 = .ok (.iand, 1) := by decide +kernel
theorem dX8_feed_58 : decode cX8_feed 58 = .ok (.invokevirtual 47, 3) := by decide +kernel
theorem dX8_feed_61 : decode cX8_feed 61 = .ok (.iinc 4 (-1), 3) := by decide +kernel
theorem dX8_feed_64 : decode cX8_feed 64 = .ok (.goto (-27), 3) := by decide +kernel
theorem dX8_feed_67 : decode cX8_feed 67 = .ok (.aload_n 0, 1) := by decide +kernel
theorem dX8_feed_68 : decode cX8_feed 68 = .ok (.getfield 12, 3) := by decide +kernel
theorem dX8_feed_71 : decode cX8_feed 71 = .ok (.getfield 43, 3) := by decide +kernel
theorem dX8_feed_74 : decode cX8_feed 74 = .ok (.ireturn, 1) := by decide +kernel
theorem dX8_cut_0 : decode cX8_cut 0 = .ok (.iload_n 1, 1) := by decide +kernel
theorem dX8_cut_1 : decode cX8_cut 1 = .ok (.ifCond .lt 14, 3) := by decide +kernel
theorem dX8_cut_4 : decode cX8_cut 4 = .ok (.iload_n 1, 1) := by decide +kernel
theorem dX8_cut_5 : decode cX8_cut 5 = .ok (.aload_n 0, 1) := by decide +kernel
theorem dX8_cut_6 : decode cX8_cut 6 = .ok (.getfield 12, 3) := by decide +kernel
theorem dX8_cut_9 : decode cX8_cut 9 = .ok (.getfield 43, 3) := by decide +kernel
theorem dX8_cut_12 : decode cX8_cut 12 = .ok (.if_icmp .le 6, 3) := by decide +kernel
theorem dX8_cut_15 : decode cX8_cut 15 = .ok (.bipush (-2), 2) := by decide +kernel
theorem dX8_cut_17 : decode cX8_cut 17 = .ok (.ireturn, 1) := by decide +kernel
theorem dX8_cut_18 : decode cX8_cut 18 = .ok (.aload_n 0, 1) := by decide +kernel
theorem dX8_cut_19 : decode cX8_cut 19 = .ok (.getfield 12, 3) := by decide +kernel
theorem dX8_cut_22 : decode cX8_cut 22 = .ok (.iload_n 1, 1) := by decide +kernel
theorem dX8_cut_23 : decode cX8_cut 23 = .ok (.putfield 43, 3) := by decide +kernel
theorem dX8_cut_26 : decode cX8_cut 26 = .ok (.iload_n 1, 1) := by decide +kernel
theorem dX8_cut_27 : decode cX8_cut 27 = .ok (.ireturn, 1) := by decide +kernel
theorem dX8_tape_0 : decode cX8_tape 0 = .ok (.aload_n 0, 1) := by decide +kernel
theorem dX8_tape_1 : decode cX8_tape 1 = .ok (.getfield 12, 3) := by decide +kernel
theorem dX8_tape_4 : decode cX8_tape 4 = .ok (.iload_n 1, 1) := by decide +kernel
theorem dX8_tape_5 : decode cX8_tape 5 = .ok (.invokevirtual 51, 3) := by decide +kernel
theorem dX8_tape_8 : decode cX8_tape 8 = .ok (.istore_n 2, 1) := by decide +kernel
theorem dX8_tape_9 : decode cX8_tape 9 = .ok (.iload_n 2, 1) := by decide +kernel
theorem dX8_tape_10 : decode cX8_tape 10 = .ok (.ifCond .ge 7, 3) := by decide +kernel
theorem dX8_tape_13 : decode cX8_tape 13 = .ok (.iconst (-1), 1) := by decide +kernel
theorem dX8_tape_14 : decode cX8_tape 14 = .ok (.goto 4, 3) := by decide +kernel
theorem dX8_tape_17 : decode cX8_tape 17 = .ok (.iload_n 2, 1) := by decide +kernel
theorem dX8_tape_18 : decode cX8_tape 18 = .ok (.ireturn, 1) := by decide +kernel
theorem dX8_parse_0 : decode cX8_parse 0 = .ok (.iload_n 1, 1) := by decide +kernel
theorem dX8_parse_1 : decode cX8_parse 1 = .ok (.ifCond .lt 8, 3) := by decide +kernel
theorem dX8_parse_4 : decode cX8_parse 4 = .ok (.iload_n 1, 1) := by decide +kernel
theorem dX8_parse_5 : decode cX8_parse 5 = .ok (.iconst 4, 1) := by decide +kernel
theorem dX8_parse_6 : decode cX8_parse 6 = .ok (.if_icmp .lt 5, 3) := by decide +kernel
theorem dX8_parse_9 : decode cX8_parse 9 = .ok (.iconst (-1), 1) := by decide +kernel
theorem dX8_parse_10 : decode cX8_parse 10 = .ok (.ireturn, 1) := by decide +kernel
theorem dX8_parse_11 : decode cX8_parse 11 = .ok (.aload_n 0, 1) := by decide +kernel
theorem dX8_parse_12 : decode cX8_parse 12 = .ok (.getfield 25, 3) := by decide +kernel
theorem dX8_parse_15 : decode cX8_parse 15 = .ok (.aload_n 0, 1) := by decide +kernel
theorem dX8_parse_16 : decode cX8_parse 16 = .ok (.getfield 12, 3) := by decide +kernel
theorem dX8_parse_19 : decode cX8_parse 19 = .ok (.invokevirtual 55, 3) := by decide +kernel
theorem dX8_parse_22 : decode cX8_parse 22 = .ok (.istore_n 2, 1) := by decide +kernel
theorem dX8_parse_23 : decode cX8_parse 23 = .ok (.aload_n 0, 1) := by decide +kernel
theorem dX8_parse_24 : decode cX8_parse 24 = .ok (.getfield 12, 3) := by decide +kernel
theorem dX8_parse_27 : decode cX8_parse 27 = .ok (.iconst 0, 1) := by decide +kernel
theorem dX8_parse_28 : decode cX8_parse 28 = .ok (.putfield 43, 3) := by decide +kernel
theorem dX8_parse_31 : decode cX8_parse 31 = .ok (.aload_n 0, 1) := by decide +kernel
theorem dX8_parse_32 : decode cX8_parse 32 = .ok (.aload_n 0, 1) := by decide +kernel
theorem dX8_parse_33 : decode cX8_parse 33 = .ok (.getfield 25, 3) := by decide +kernel
theorem dX8_parse_36 : decode cX8_parse 36 = .ok (.getfield 59, 3) := by decide +kernel
theorem dX8_parse_39 : decode cX8_parse 39 = .ok (.putfield 62, 3) := by decide +kernel
theorem dX8_parse_42 : decode cX8_parse 42 = .ok (.iload_n 2, 1) := by decide +kernel
theorem dX8_parse_43 : decode cX8_parse 43 = .ok (.ifCond .ne 14, 3) := by decide +kernel
theorem dX8_parse_46 : decode cX8_parse 46 = .ok (.bipush (-10), 2) := by decide +kernel
theorem dX8_parse_48 : decode cX8_parse 48 = .ok (.aload_n 0, 1) := by decide +kernel
theorem dX8_parse_49 : decode cX8_parse 49 = .ok (.getfield 25, 3) := by decide +kernel
theorem dX8_parse_52 : decode cX8_parse 52 = .ok (.getfield 65, 3) := by decide +kernel
theorem dX8_parse_55 : decode cX8_parse 55 = .ok (.isub, 1) := by decide +kernel
theorem dX8_parse_56 : decode cX8_parse 56 = .ok (.ireturn, 1) := by decide +kernel
theorem dX8_parse_57 : decode cX8_parse 57 = .ok (.aload_n 0, 1) := by decide +kernel
theorem dX8_parse_58 : decode cX8_parse 58 = .ok (.getfield 25, 3) := by decide +kernel
theorem dX8_parse_61 : decode cX8_parse 61 = .ok (.getfield 68, 3) := by decide +kernel
theorem dX8_parse_64 : decode cX8_parse 64 = .ok (.astore_n 3, 1) := by decide +kernel
theorem dX8_parse_65 : decode cX8_parse 65 = .ok (.aload_n 3, 1) := by decide +kernel
theorem dX8_parse_66 : decode cX8_parse 66 = .ok (.getfield 72, 3) := by decide +kernel
theorem dX8_parse_69 : decode cX8_parse 69 = .ok (.getfield 76, 3) := by decide +kernel
theorem dX8_parse_72 : decode cX8_parse 72 = .ok (.ifCond .eq 6, 3) := by decide +kernel
theorem dX8_parse_75 : decode cX8_parse 75 = .ok (.bipush (-3), 2) := by decide +kernel
theorem dX8_parse_77 : decode cX8_parse 77 = .ok (.ireturn, 1) := by decide +kernel
theorem dX8_parse_78 : decode cX8_parse 78 = .ok (.aload_n 3, 1) := by decide +kernel
theorem dX8_parse_79 : decode cX8_parse 79 = .ok (.invokevirtual 82, 3) := by decide +kernel
theorem dX8_parse_82 : decode cX8_parse 82 = .ok (.aload_n 0, 1) := by decide +kernel
theorem dX8_parse_83 : decode cX8_parse 83 = .ok (.getfield 25, 3) := by decide +kernel
theorem dX8_parse_86 : decode cX8_parse 86 = .ok (.aload_n 0, 1) := by decide +kernel
theorem dX8_parse_87 : decode cX8_parse 87 = .ok (.getfield 18, 3) := by decide +kernel
theorem dX8_parse_90 : decode cX8_parse 90 = .ok (.iload_n 1, 1) := by decide +kernel
theorem dX8_parse_91 : decode cX8_parse 91 = .ok (.aaload, 1) := by decide +kernel
theorem dX8_parse_92 : decode cX8_parse 92 = .ok (.ifnonnull 13, 3) := by decide +kernel
theorem dX8_parse_95 : decode cX8_parse 95 = .ok (.new 16, 3) := by decide +kernel
theorem dX8_parse_98 : decode cX8_parse 98 = .ok (.dup, 1) := by decide +kernel
theorem dX8_parse_99 : decode cX8_parse 99 = .ok (.invokespecial 85, 3) := by decide +kernel
theorem dX8_parse_102 : decode cX8_parse 102 = .ok (.goto 9, 3) := by decide +kernel
theorem dX8_parse_105 : decode cX8_parse 105 = .ok (.aload_n 0, 1) := by decide +kernel
theorem dX8_parse_106 : decode cX8_parse 106 = .ok (.getfield 18, 3) := by decide +kernel
theorem dX8_parse_109 : decode cX8_parse 109 = .ok (.iload_n 1, 1) := by decide +kernel
theorem dX8_parse_110 : decode cX8_parse 110 = .ok (.aaload, 1) := by decide +kernel
theorem dX8_parse_111 : decode cX8_parse 111 = .ok (.putfield 68, 3) := by decide +kernel
theorem dX8_parse_114 : decode cX8_parse 114 = .ok (.aload_n 0, 1) := by decide +kernel
theorem dX8_parse_115 : decode cX8_parse 115 = .ok (.getfield 18, 3) := by decide +kernel
theorem dX8_parse_118 : decode cX8_parse 118 = .ok (.iload_n 1, 1) := by decide +kernel
theorem dX8_parse_119 : decode cX8_parse 119 = .ok (.aload_n 3, 1) := by decide +kernel
theorem dX8_parse_120 : decode cX8_parse 120 = .ok (.aastore, 1) := by decide +kernel
theorem dX8_parse_121 : decode cX8_parse 121 = .ok (.aload_n 3, 1) := by decide +kernel
theorem dX8_parse_122 : decode cX8_parse 122 = .ok (.getfield 86, 3) := by decide +kernel
theorem dX8_parse_125 : decode cX8_parse 125 = .ok (.ireturn, 1) := by decide +kernel
theorem dX8_wrong_0 : decode cX8_wrong 0 = .ok (.aload_n 0, 1) := by decide +kernel
theorem dX8_wrong_1 : decode cX8_wrong 1 = .ok (.getfield 62, 3) := by decide +kernel
theorem dX8_wrong_4 : decode cX8_wrong 4 = .ok (.ireturn, 1) := by decide +kernel
theorem dX8_about_0 : decode cX8_about 0 = .ok (.aload_n 0, 1) := by decide +kernel
theorem dX8_about_1 : decode cX8_about 1 = .ok (.iload_n 1, 1) := by decide +kernel
theorem dX8_about_2 : decode cX8_about 2 = .ok (.invokevirtual 89, 3) := by decide +kernel
theorem dX8_about_5 : decode cX8_about 5 = .ok (.astore_n 3, 1) := by decide +kernel
theorem dX8_about_6 : decode cX8_about 6 = .ok (.aload_n 3, 1) := by decide +kernel
theorem dX8_about_7 : decode cX8_about 7 = .ok (.ifnonnull 5, 3) := by decide +kernel
theorem dX8_about_10 : decode cX8_about 10 = .ok (.iconst (-1), 1) := by decide +kernel
theorem dX8_about_11 : decode cX8_about 11 = .ok (.ireturn, 1) := by decide +kernel
theorem dX8_about_12 : decode cX8_about 12 = .ok (.iload_n 2, 1) := by decide +kernel
theorem dX8_about_13 : decode cX8_about 13 = .ok (.tableswitch 68 0 4 #[35, 40, 45, 53, 63], 35) := by decide +kernel
theorem dX8_about_48 : decode cX8_about 48 = .ok (.aload_n 3, 1) := by decide +kernel
theorem dX8_about_49 : decode cX8_about 49 = .ok (.getfield 93, 3) := by decide +kernel
theorem dX8_about_52 : decode cX8_about 52 = .ok (.ireturn, 1) := by decide +kernel
theorem dX8_about_53 : decode cX8_about 53 = .ok (.aload_n 3, 1) := by decide +kernel
theorem dX8_about_54 : decode cX8_about 54 = .ok (.getfield 86, 3) := by decide +kernel
theorem dX8_about_57 : decode cX8_about 57 = .ok (.ireturn, 1) := by decide +kernel
theorem dX8_about_58 : decode cX8_about 58 = .ok (.aload_n 3, 1) := by decide +kernel
theorem dX8_about_59 : decode cX8_about 59 = .ok (.getfield 72, 3) := by decide +kernel
theorem dX8_about_62 : decode cX8_about 62 = .ok (.getfield 96, 3) := by decide +kernel
theorem dX8_about_65 : decode cX8_about 65 = .ok (.ireturn, 1) := by decide +kernel
theorem dX8_about_66 : decode cX8_about 66 = .ok (.aload_n 3, 1) := by decide +kernel
theorem dX8_about_67 : decode cX8_about 67 = .ok (.getfield 86, 3) := by decide +kernel
theorem dX8_about_70 : decode cX8_about 70 = .ok (.aload_n 3, 1) := by decide +kernel
theorem dX8_about_71 : decode cX8_about 71 = .ok (.getfield 99, 3) := by decide +kernel
theorem dX8_about_74 : decode cX8_about 74 = .ok (.isub, 1) := by decide +kernel
theorem dX8_about_75 : decode cX8_about 75 = .ok (.ireturn, 1) := by decide +kernel
theorem dX8_about_76 : decode cX8_about 76 = .ok (.aload_n 3, 1) := by decide +kernel
theorem dX8_about_77 : decode cX8_about 77 = .ok (.getfield 99, 3) := by decide +kernel
theorem dX8_about_80 : decode cX8_about 80 = .ok (.ireturn, 1) := by decide +kernel
theorem dX8_about_81 : decode cX8_about 81 = .ok (.iconst (-1), 1) := by decide +kernel
theorem dX8_about_82 : decode cX8_about 82 = .ok (.ireturn, 1) := by decide +kernel
theorem dX8_node_0 : decode cX8_node 0 = .ok (.aload_n 0, 1) := by decide +kernel
theorem dX8_node_1 : decode cX8_node 1 = .ok (.iload_n 1, 1) := by decide +kernel
theorem dX8_node_2 : decode cX8_node 2 = .ok (.invokevirtual 89, 3) := by decide +kernel
theorem dX8_node_5 : decode cX8_node 5 = .ok (.astore 4, 2) := by decide +kernel
theorem dX8_node_7 : decode cX8_node 7 = .ok (.aload 4, 2) := by decide +kernel
theorem dX8_node_9 : decode cX8_node 9 = .ok (.ifnull 12, 3) := by decide +kernel
theorem dX8_node_12 : decode cX8_node 12 = .ok (.aload 4, 2) := by decide +kernel
theorem dX8_node_14 : decode cX8_node 14 = .ok (.iload_n 2, 1) := by decide +kernel
theorem dX8_node_15 : decode cX8_node 15 = .ok (.invokevirtual 102, 3) := by decide +kernel
theorem dX8_node_18 : decode cX8_node 18 = .ok (.ifCond .ne 5, 3) := by decide +kernel
theorem dX8_node_21 : decode cX8_node 21 = .ok (.iconst (-1), 1) := by decide +kernel
theorem dX8_node_22 : decode cX8_node 22 = .ok (.ireturn, 1) := by decide +kernel
theorem dX8_node_23 : decode cX8_node 23 = .ok (.iload_n 3, 1) := by decide +kernel
theorem dX8_node_24 : decode cX8_node 24 = .ok (.tableswitch 92 0 5 #[40, 48, 56, 64, 74, 84], 40) := by decide +kernel
theorem dX8_node_64 : decode cX8_node 64 = .ok (.aload 4, 2) := by decide +kernel
theorem dX8_node_66 : decode cX8_node 66 = .ok (.getfield 106, 3) := by decide +kernel
theorem dX8_node_69 : decode cX8_node 69 = .ok (.iload_n 2, 1) := by decide +kernel
theorem dX8_node_70 : decode cX8_node 70 = .ok (.iaload, 1) := by decide +kernel
theorem dX8_node_71 : decode cX8_node 71 = .ok (.ireturn, 1) := by decide +kernel
theorem dX8_node_72 : decode cX8_node 72 = .ok (.aload 4, 2) := by decide +kernel
theorem dX8_node_74 : decode cX8_node 74 = .ok (.getfield 110, 3) := by decide +kernel
theorem dX8_node_77 : decode cX8_node 77 = .ok (.iload_n 2, 1) := by decide +kernel
theorem dX8_node_78 : decode cX8_node 78 = .ok (.iaload, 1) := by decide +kernel
theorem dX8_node_79 : decode cX8_node 79 = .ok (.ireturn, 1) := by decide +kernel
theorem dX8_node_80 : decode cX8_node 80 = .ok (.aload 4, 2) := by decide +kernel
theorem dX8_node_82 : decode cX8_node 82 = .ok (.getfield 113, 3) := by decide +kernel
theorem dX8_node_85 : decode cX8_node 85 = .ok (.iload_n 2, 1) := by decide +kernel
theorem dX8_node_86 : decode cX8_node 86 = .ok (.iaload, 1) := by decide +kernel
theorem dX8_node_87 : decode cX8_node 87 = .ok (.ireturn, 1) := by decide +kernel
theorem dX8_node_88 : decode cX8_node 88 = .ok (.aload 4, 2) := by decide +kernel
theorem dX8_node_90 : decode cX8_node 90 = .ok (.getfield 116, 3) := by decide +kernel
theorem dX8_node_93 : decode cX8_node 93 = .ok (.iconst 0, 1) := by decide +kernel
theorem dX8_node_94 : decode cX8_node 94 = .ok (.aaload, 1) := by decide +kernel
theorem dX8_node_95 : decode cX8_node 95 = .ok (.iload_n 2, 1) := by decide +kernel
theorem dX8_node_96 : decode cX8_node 96 = .ok (.iaload, 1) := by decide +kernel
theorem dX8_node_97 : decode cX8_node 97 = .ok (.ireturn, 1) := by decide +kernel
theorem dX8_node_98 : decode cX8_node 98 = .ok (.aload 4, 2) := by decide +kernel
theorem dX8_node_100 : decode cX8_node 100 = .ok (.getfield 116, 3) := by decide +kernel
theorem dX8_node_103 : decode cX8_node 103 = .ok (.iconst 1, 1) := by decide +kernel
theorem dX8_node_104 : decode cX8_node 104 = .ok (.aaload, 1) := by decide +kernel
theorem dX8_node_105 : decode cX8_node 105 = .ok (.iload_n 2, 1) := by decide +kernel
theorem dX8_node_106 : decode cX8_node 106 = .ok (.iaload, 1) := by decide +kernel
theorem dX8_node_107 : decode cX8_node 107 = .ok (.ireturn, 1) := by decide +kernel
theorem dX8_node_108 : decode cX8_node 108 = .ok (.aload 4, 2) := by decide +kernel
theorem dX8_node_110 : decode cX8_node 110 = .ok (.getfield 120, 3) := by decide +kernel
theorem dX8_node_113 : decode cX8_node 113 = .ok (.iload_n 2, 1) := by decide +kernel
theorem dX8_node_114 : decode cX8_node 114 = .ok (.iaload, 1) := by decide +kernel
theorem dX8_node_115 : decode cX8_node 115 = .ok (.ireturn, 1) := by decide +kernel
theorem dX8_node_116 : decode cX8_node 116 = .ok (.iconst (-1), 1) := by decide +kernel
theorem dX8_node_117 : decode cX8_node 117 = .ok (.ireturn, 1) := by decide +kernel
theorem dX8_sum_0 : decode cX8_sum 0 = .ok (.aload_n 0, 1) := by decide +kernel
theorem dX8_sum_1 : decode cX8_sum 1 = .ok (.iload_n 1, 1) := by decide +kernel
theorem dX8_sum_2 : decode cX8_sum 2 = .ok (.invokevirtual 89, 3) := by decide +kernel
theorem dX8_sum_5 : decode cX8_sum 5 = .ok (.astore 4, 2) := by decide +kernel
theorem dX8_sum_7 : decode cX8_sum 7 = .ok (.aload 4, 2) := by decide +kernel
theorem dX8_sum_9 : decode cX8_sum 9 = .ok (.ifnull 15, 3) := by decide +kernel
theorem dX8_sum_12 : decode cX8_sum 12 = .ok (.aload 4, 2) := by decide +kernel
theorem dX8_sum_14 : decode cX8_sum 14 = .ok (.getfield 72, 3) := by decide +kernel
theorem dX8_sum_17 : decode cX8_sum 17 = .ok (.iload_n 2, 1) := by decide +kernel
theorem dX8_sum_18 : decode cX8_sum 18 = .ok (.invokevirtual 123, 3) := by decide +kernel
theorem dX8_sum_21 : decode cX8_sum 21 = .ok (.ifCond .ne 5, 3) := by decide +kernel
theorem dX8_sum_24 : decode cX8_sum 24 = .ok (.iconst (-1), 1) := by decide +kernel
theorem dX8_sum_25 : decode cX8_sum 25 = .ok (.ireturn, 1) := by decide +kernel
theorem dX8_sum_26 : decode cX8_sum 26 = .ok (.iload_n 3, 1) := by decide +kernel
theorem dX8_sum_27 : decode cX8_sum 27 = .ok (.tableswitch 97 0 4 #[33, 44, 58, 72, 90], 33) := by decide +kernel
theorem dX8_sum_60 : decode cX8_sum 60 = .ok (.aload 4, 2) := by decide +kernel
theorem dX8_sum_62 : decode cX8_sum 62 = .ok (.getfield 72, 3) := by decide +kernel
theorem dX8_sum_65 : decode cX8_sum 65 = .ok (.getfield 126, 3) := by decide +kernel
theorem dX8_sum_68 : decode cX8_sum 68 = .ok (.iload_n 2, 1) := by decide +kernel
theorem dX8_sum_69 : decode cX8_sum 69 = .ok (.iaload, 1) := by decide +kernel
theorem dX8_sum_70 : decode cX8_sum 70 = .ok (.ireturn, 1) := by decide +kernel
theorem dX8_sum_71 : decode cX8_sum 71 = .ok (.aload 4, 2) := by decide +kernel
theorem dX8_sum_73 : decode cX8_sum 73 = .ok (.getfield 72, 3) := by decide +kernel
theorem dX8_sum_76 : decode cX8_sum 76 = .ok (.getfield 129, 3) := by decide +kernel
theorem dX8_sum_79 : decode cX8_sum 79 = .ok (.iload_n 2, 1) := by decide +kernel
theorem dX8_sum_80 : decode cX8_sum 80 = .ok (.iaload, 1) := by decide +kernel
theorem dX8_sum_81 : decode cX8_sum 81 = .ok (.invokestatic 132, 3) := by decide +kernel
theorem dX8_sum_84 : decode cX8_sum 84 = .ok (.ireturn, 1) := by decide +kernel
theorem dX8_sum_85 : decode cX8_sum 85 = .ok (.aload 4, 2) := by decide +kernel
theorem dX8_sum_87 : decode cX8_sum 87 = .ok (.getfield 72, 3) := by decide +kernel
theorem dX8_sum_90 : decode cX8_sum 90 = .ok (.getfield 135, 3) := by decide +kernel
theorem dX8_sum_93 : decode cX8_sum 93 = .ok (.iload_n 2, 1) := by decide +kernel
theorem dX8_sum_94 : decode cX8_sum 94 = .ok (.iaload, 1) := by decide +kernel
theorem dX8_sum_95 : decode cX8_sum 95 = .ok (.invokestatic 132, 3) := by decide +kernel
theorem dX8_sum_98 : decode cX8_sum 98 = .ok (.ireturn, 1) := by decide +kernel
theorem dX8_sum_99 : decode cX8_sum 99 = .ok (.aload 4, 2) := by decide +kernel
theorem dX8_sum_101 : decode cX8_sum 101 = .ok (.getfield 72, 3) := by decide +kernel
theorem dX8_sum_104 : decode cX8_sum 104 = .ok (.iload_n 2, 1) := by decide +kernel
theorem dX8_sum_105 : decode cX8_sum 105 = .ok (.invokevirtual 138, 3) := by decide +kernel
theorem dX8_sum_108 : decode cX8_sum 108 = .ok (.ifCond .eq 7, 3) := by decide +kernel
theorem dX8_sum_111 : decode cX8_sum 111 = .ok (.iconst 1, 1) := by decide +kernel
theorem dX8_sum_112 : decode cX8_sum 112 = .ok (.goto 4, 3) := by decide +kernel
theorem dX8_sum_115 : decode cX8_sum 115 = .ok (.iconst 0, 1) := by decide +kernel
theorem dX8_sum_116 : decode cX8_sum 116 = .ok (.ireturn, 1) := by decide +kernel
theorem dX8_sum_117 : decode cX8_sum 117 = .ok (.aload 4, 2) := by decide +kernel
theorem dX8_sum_119 : decode cX8_sum 119 = .ok (.iload_n 2, 1) := by decide +kernel
theorem dX8_sum_120 : decode cX8_sum 120 = .ok (.invokevirtual 141, 3) := by decide +kernel
theorem dX8_sum_123 : decode cX8_sum 123 = .ok (.ireturn, 1) := by decide +kernel
theorem dX8_sum_124 : decode cX8_sum 124 = .ok (.iconst (-1), 1) := by decide +kernel
theorem dX8_sum_125 : decode cX8_sum 125 = .ok (.ireturn, 1) := by decide +kernel
theorem dX8_at_0 : decode cX8_at 0 = .ok (.aload_n 0, 1) := by decide +kernel
theorem dX8_at_1 : decode cX8_at 1 = .ok (.iload_n 1, 1) := by decide +kernel
theorem dX8_at_2 : decode cX8_at 2 = .ok (.invokevirtual 89, 3) := by decide +kernel
theorem dX8_at_5 : decode cX8_at 5 = .ok (.astore 5, 2) := by decide +kernel
theorem dX8_at_7 : decode cX8_at 7 = .ok (.aload 5, 2) := by decide +kernel
theorem dX8_at_9 : decode cX8_at 9 = .ok (.ifnull 36, 3) := by decide +kernel
theorem dX8_at_12 : decode cX8_at 12 = .ok (.aload 5, 2) := by decide +kernel
theorem dX8_at_14 : decode cX8_at 14 = .ok (.getfield 72, 3) := by decide +kernel
theorem dX8_at_17 : decode cX8_at 17 = .ok (.iload_n 2, 1) := by decide +kernel
theorem dX8_at_18 : decode cX8_at 18 = .ok (.invokevirtual 123, 3) := by decide +kernel
theorem dX8_at_21 : decode cX8_at 21 = .ok (.ifCond .eq 24, 3) := by decide +kernel
theorem dX8_at_24 : decode cX8_at 24 = .ok (.aload 5, 2) := by decide +kernel
theorem dX8_at_26 : decode cX8_at 26 = .ok (.iload_n 3, 1) := by decide +kernel
theorem dX8_at_27 : decode cX8_at 27 = .ok (.invokevirtual 102, 3) := by decide +kernel
theorem dX8_at_30 : decode cX8_at 30 = .ok (.ifCond .eq 15, 3) := by decide +kernel
theorem dX8_at_33 : decode cX8_at 33 = .ok (.iload 4, 2) := by decide +kernel
theorem dX8_at_35 : decode cX8_at 35 = .ok (.ifCond .lt 10, 3) := by decide +kernel
theorem dX8_at_38 : decode cX8_at 38 = .ok (.iload 4, 2) := by decide +kernel
theorem dX8_at_40 : decode cX8_at 40 = .ok (.bipush 7, 2) := by decide +kernel
theorem dX8_at_42 : decode cX8_at 42 = .ok (.if_icmp .le 5, 3) := by decide +kernel
theorem dX8_at_45 : decode cX8_at 45 = .ok (.iconst (-1), 1) := by decide +kernel
theorem dX8_at_46 : decode cX8_at 46 = .ok (.ireturn, 1) := by decide +kernel
theorem dX8_at_47 : decode cX8_at 47 = .ok (.aload 5, 2) := by decide +kernel
theorem dX8_at_49 : decode cX8_at 49 = .ok (.getfield 144, 3) := by decide +kernel
theorem dX8_at_52 : decode cX8_at 52 = .ok (.iload 4, 2) := by decide +kernel
theorem dX8_at_54 : decode cX8_at 54 = .ok (.iload_n 3, 1) := by decide +kernel
theorem dX8_at_55 : decode cX8_at 55 = .ok (.invokevirtual 148, 3) := by decide +kernel
theorem dX8_at_58 : decode cX8_at 58 = .ok (.iload_n 2, 1) := by decide +kernel
theorem dX8_at_59 : decode cX8_at 59 = .ok (.iushr, 1) := by decide +kernel
theorem dX8_at_60 : decode cX8_at 60 = .ok (.iconst 1, 1) := by decide +kernel
theorem dX8_at_61 : decode cX8_at 61 = .ok (.iand, 1) := by decide +kernel
theorem dX8_at_62 : decode cX8_at 62 = .ok (.ireturn, 1) := by decide +kernel
theorem dX8_placed_0 : decode cX8_placed 0 = .ok (.aload_n 0, 1) := by decide +kernel
theorem dX8_placed_1 : decode cX8_placed 1 = .ok (.iload_n 1, 1) := by decide +kernel
theorem dX8_placed_2 : decode cX8_placed 2 = .ok (.invokevirtual 89, 3) := by decide +kernel
theorem dX8_placed_5 : decode cX8_placed 5 = .ok (.astore 6, 2) := by decide +kernel
theorem dX8_placed_7 : decode cX8_placed 7 = .ok (.aload 6, 2) := by decide +kernel
theorem dX8_placed_9 : decode cX8_placed 9 = .ok (.ifnull 32, 3) := by decide +kernel
theorem dX8_placed_12 : decode cX8_placed 12 = .ok (.iload_n 2, 1) := by decide +kernel
theorem dX8_placed_13 : decode cX8_placed 13 = .ok (.invokestatic 154, 3) := by decide +kernel
theorem dX8_placed_16 : decode cX8_placed 16 = .ok (.ifCond .eq 25, 3) := by decide +kernel
theorem dX8_placed_19 : decode cX8_placed 19 = .ok (.aload 6, 2) := by decide +kernel
theorem dX8_placed_21 : decode cX8_placed 21 = .ok (.getfield 72, 3) := by decide +kernel
theorem dX8_placed_24 : decode cX8_placed 24 = .ok (.iload_n 3, 1) := by decide +kernel
theorem dX8_placed_25 : decode cX8_placed 25 = .ok (.invokevirtual 123, 3) := by decide +kernel
theorem dX8_placed_28 : decode cX8_placed 28 = .ok (.ifCond .eq 13, 3) := by decide +kernel
theorem dX8_placed_31 : decode cX8_placed 31 = .ok (.aload 6, 2) := by decide +kernel
theorem dX8_placed_33 : decode cX8_placed 33 = .ok (.iload 4, 2) := by decide +kernel
theorem dX8_placed_35 : decode cX8_placed 35 = .ok (.invokevirtual 102, 3) := by decide +kernel
theorem dX8_placed_38 : decode cX8_placed 38 = .ok (.ifCond .ne 5, 3) := by decide +kernel
theorem dX8_placed_41 : decode cX8_placed 41 = .ok (.iconst (-1), 1) := by decide +kernel
theorem dX8_placed_42 : decode cX8_placed 42 = .ok (.ireturn, 1) := by decide +kernel
theorem dX8_placed_43 : decode cX8_placed 43 = .ok (.iload 5, 2) := by decide +kernel
theorem dX8_placed_45 : decode cX8_placed 45 = .ok (.tableswitch 75 0 2 #[27, 43, 59], 27) := by decide +kernel
theorem dX8_placed_72 : decode cX8_placed 72 = .ok (.aload 6, 2) := by decide +kernel
theorem dX8_placed_74 : decode cX8_placed 74 = .ok (.getfield 144, 3) := by decide +kernel
theorem dX8_placed_77 : decode cX8_placed 77 = .ok (.iload_n 2, 1) := by decide +kernel
theorem dX8_placed_78 : decode cX8_placed 78 = .ok (.iload 4, 2) := by decide +kernel
theorem dX8_placed_80 : decode cX8_placed 80 = .ok (.invokevirtual 157, 3) := by decide +kernel
theorem dX8_placed_83 : decode cX8_placed 83 = .ok (.iload_n 3, 1) := by decide +kernel
theorem dX8_placed_84 : decode cX8_placed 84 = .ok (.iushr, 1) := by decide +kernel
theorem dX8_placed_85 : decode cX8_placed 85 = .ok (.iconst 1, 1) := by decide +kernel
theorem dX8_placed_86 : decode cX8_placed 86 = .ok (.iand, 1) := by decide +kernel
theorem dX8_placed_87 : decode cX8_placed 87 = .ok (.ireturn, 1) := by decide +kernel
theorem dX8_placed_88 : decode cX8_placed 88 = .ok (.aload 6, 2) := by decide +kernel
theorem dX8_placed_90 : decode cX8_placed 90 = .ok (.getfield 144, 3) := by decide +kernel
theorem dX8_placed_93 : decode cX8_placed 93 = .ok (.iload_n 2, 1) := by decide +kernel
theorem dX8_placed_94 : decode cX8_placed 94 = .ok (.iload 4, 2) := by decide +kernel
theorem dX8_placed_96 : decode cX8_placed 96 = .ok (.invokevirtual 160, 3) := by decide +kernel
theorem dX8_placed_99 : decode cX8_placed 99 = .ok (.iload_n 3, 1) := by decide +kernel
theorem dX8_placed_100 : decode cX8_placed 100 = .ok (.iushr, 1) := by decide +kernel
theorem dX8_placed_101 : decode cX8_placed 101 = .ok (.iconst 1, 1) := by decide +kernel
theorem dX8_placed_102 : decode cX8_placed 102 = .ok (.iand, 1) := by decide +kernel
theorem dX8_placed_103 : decode cX8_placed 103 = .ok (.ireturn, 1) := by decide +kernel
theorem dX8_placed_104 : decode cX8_placed 104 = .ok (.aload 6, 2) := by decide +kernel
theorem dX8_placed_106 : decode cX8_placed 106 = .ok (.getfield 144, 3) := by decide +kernel
theorem dX8_placed_109 : decode cX8_placed 109 = .ok (.iload_n 2, 1) := by decide +kernel
theorem dX8_placed_110 : decode cX8_placed 110 = .ok (.iload 4, 2) := by decide +kernel
theorem dX8_placed_112 : decode cX8_placed 112 = .ok (.invokevirtual 163, 3) := by decide +kernel
theorem dX8_placed_115 : decode cX8_placed 115 = .ok (.iload_n 3, 1) := by decide +kernel
theorem dX8_placed_116 : decode cX8_placed 116 = .ok (.iushr, 1) := by decide +kernel
theorem dX8_placed_117 : decode cX8_placed 117 = .ok (.iconst 1, 1) := by decide +kernel
theorem dX8_placed_118 : decode cX8_placed 118 = .ok (.iand, 1) := by decide +kernel
theorem dX8_placed_119 : decode cX8_placed 119 = .ok (.ireturn, 1) := by decide +kernel
theorem dX8_placed_120 : decode cX8_placed 120 = .ok (.iconst (-1), 1) := by decide +kernel
theorem dX8_placed_121 : decode cX8_placed 121 = .ok (.ireturn, 1) := by decide +kernel
theorem dX8_life_0 : decode cX8_life 0 = .ok (.aload_n 0, 1) := by decide +kernel
theorem dX8_life_1 : decode cX8_life 1 = .ok (.iload_n 1, 1) := by decide +kernel
theorem dX8_life_2 : decode cX8_life 2 = .ok (.invokevirtual 89, 3) := by decide +kernel
theorem dX8_life_5 : decode cX8_life 5 = .ok (.astore 4, 2) := by decide +kernel
theorem dX8_life_7 : decode cX8_life 7 = .ok (.aload 4, 2) := by decide +kernel
theorem dX8_life_9 : decode cX8_life 9 = .ok (.ifnull 22, 3) := by decide +kernel
theorem dX8_life_12 : decode cX8_life 12 = .ok (.iload_n 2, 1) := by decide +kernel
theorem dX8_life_13 : decode cX8_life 13 = .ok (.invokestatic 154, 3) := by decide +kernel
theorem dX8_life_16 : decode cX8_life 16 = .ok (.ifCond .eq 15, 3) := by decide +kernel
theorem dX8_life_19 : decode cX8_life 19 = .ok (.aload 4, 2) := by decide +kernel
theorem dX8_life_21 : decode cX8_life 21 = .ok (.getfield 72, 3) := by decide +kernel
theorem dX8_life_24 : decode cX8_life 24 = .ok (.iload_n 3, 1) := by decide +kernel
theorem dX8_life_25 : decode cX8_life 25 = .ok (.invokevirtual 123, 3) := by decide +kernel
theorem dX8_life_28 : decode cX8_life 28 = .ok (.ifCond .ne 5, 3) := by decide +kernel
theorem dX8_life_31 : decode cX8_life 31 = .ok (.iconst (-1), 1) := by decide +kernel
theorem dX8_life_32 : decode cX8_life 32 = .ok (.ireturn, 1) := by decide +kernel
theorem dX8_life_33 : decode cX8_life 33 = .ok (.iconst 0, 1) := by decide +kernel
theorem dX8_life_34 : decode cX8_life 34 = .ok (.istore 5, 2) := by decide +kernel
theorem dX8_life_36 : decode cX8_life 36 = .ok (.iconst 0, 1) := by decide +kernel
theorem dX8_life_37 : decode cX8_life 37 = .ok (.istore 6, 2) := by decide +kernel
theorem dX8_life_39 : decode cX8_life 39 = .ok (.iload 6, 2) := by decide +kernel
theorem dX8_life_41 : decode cX8_life 41 = .ok (.aload 4, 2) := by decide +kernel
theorem dX8_life_43 : decode cX8_life 43 = .ok (.getfield 86, 3) := by decide +kernel
theorem dX8_life_46 : decode cX8_life 46 = .ok (.if_icmp .ge 29, 3) := by decide +kernel
theorem dX8_life_49 : decode cX8_life 49 = .ok (.iload 5, 2) := by decide +kernel
theorem dX8_life_51 : decode cX8_life 51 = .ok (.aload 4, 2) := by decide +kernel
theorem dX8_life_53 : decode cX8_life 53 = .ok (.getfield 144, 3) := by decide +kernel
theorem dX8_life_56 : decode cX8_life 56 = .ok (.iload_n 2, 1) := by decide +kernel
theorem dX8_life_57 : decode cX8_life 57 = .ok (.iload 6, 2) := by decide +kernel
theorem dX8_life_59 : decode cX8_life 59 = .ok (.invokevirtual 163, 3) := by decide +kernel
theorem dX8_life_62 : decode cX8_life 62 = .ok (.iload_n 3, 1) := by decide +kernel
theorem dX8_life_63 : decode cX8_life 63 = .ok (.iushr, 1) := by decide +kernel
theorem dX8_life_64 : decode cX8_life 64 = .ok (.iconst 1, 1) := by decide +kernel
theorem dX8_life_65 : decode cX8_life 65 = .ok (.iand, 1) := by decide +kernel
theorem dX8_life_66 : decode cX8_life 66 = .ok (.iadd, 1) := by decide +kernel
theorem dX8_life_67 : decode cX8_life 67 = .ok (.istore 5, 2) := by decide +kernel
theorem dX8_life_69 : decode cX8_life 69 = .ok (.iinc 6 1, 3) := by decide +kernel
theorem dX8_life_72 : decode cX8_life 72 = .ok (.goto (-33), 3) := by decide +kernel
theorem dX8_life_75 : decode cX8_life 75 = .ok (.iload 5, 2) := by decide +kernel
theorem dX8_life_77 : decode cX8_life 77 = .ok (.ireturn, 1) := by decide +kernel
theorem dX8_places_0 : decode cX8_places 0 = .ok (.aload_n 0, 1) := by decide +kernel
theorem dX8_places_1 : decode cX8_places 1 = .ok (.iload_n 1, 1) := by decide +kernel
theorem dX8_places_2 : decode cX8_places 2 = .ok (.invokevirtual 89, 3) := by decide +kernel
theorem dX8_places_5 : decode cX8_places 5 = .ok (.astore 5, 2) := by decide +kernel
theorem dX8_places_7 : decode cX8_places 7 = .ok (.aload 5, 2) := by decide +kernel
theorem dX8_places_9 : decode cX8_places 9 = .ok (.ifnull 33, 3) := by decide +kernel
theorem dX8_places_12 : decode cX8_places 12 = .ok (.iload_n 2, 1) := by decide +kernel
theorem dX8_places_13 : decode cX8_places 13 = .ok (.invokestatic 154, 3) := by decide +kernel
theorem dX8_places_16 : decode cX8_places 16 = .ok (.ifCond .eq 26, 3) := by decide +kernel
theorem dX8_places_19 : decode cX8_places 19 = .ok (.aload 5, 2) := by decide +kernel
theorem dX8_places_21 : decode cX8_places 21 = .ok (.getfield 72, 3) := by decide +kernel
theorem dX8_places_24 : decode cX8_places 24 = .ok (.iload_n 3, 1) := by decide +kernel
theorem dX8_places_25 : decode cX8_places 25 = .ok (.invokevirtual 123, 3) := by decide +kernel
theorem dX8_places_28 : decode cX8_places 28 = .ok (.ifCond .eq 14, 3) := by decide +kernel
theorem dX8_places_31 : decode cX8_places 31 = .ok (.iload 4, 2) := by decide +kernel
theorem dX8_places_33 : decode cX8_places 33 = .ok (.ifCond .lt 9, 3) := by decide +kernel
theorem dX8_places_36 : decode cX8_places 36 = .ok (.iload 4, 2) := by decide +kernel
theorem dX8_places_38 : decode cX8_places 38 = .ok (.iconst 1, 1) := by decide +kernel
theorem dX8_places_39 : decode cX8_places 39 = .ok (.if_icmp .le 5, 3) := by decide +kernel
theorem dX8_places_42 : decode cX8_places 42 = .ok (.iconst (-1), 1) := by decide +kernel
theorem dX8_places_43 : decode cX8_places 43 = .ok (.ireturn, 1) := by decide +kernel
theorem dX8_places_44 : decode cX8_places 44 = .ok (.iconst 0, 1) := by decide +kernel
theorem dX8_places_45 : decode cX8_places 45 = .ok (.istore 6, 2) := by decide +kernel
theorem dX8_places_47 : decode cX8_places 47 = .ok (.iconst 0, 1) := by decide +kernel
theorem dX8_places_48 : decode cX8_places 48 = .ok (.istore 7, 2) := by decide +kernel
theorem dX8_places_50 : decode cX8_places 50 = .ok (.iload 7, 2) := by decide +kernel
theorem dX8_places_52 : decode cX8_places 52 = .ok (.aload 5, 2) := by decide +kernel
theorem dX8_places_54 : decode cX8_places 54 = .ok (.getfield 86, 3) := by decide +kernel
theorem dX8_places_57 : decode cX8_places 57 = .ok (.if_icmp .ge 52, 3) := by decide +kernel
theorem dX8_places_60 : decode cX8_places 60 = .ok (.iload 4, 2) := by decide +kernel
theorem dX8_places_62 : decode cX8_places 62 = .ok (.ifCond .ne 17, 3) := by decide +kernel
theorem dX8_places_65 : decode cX8_places 65 = .ok (.aload 5, 2) := by decide +kernel
theorem dX8_places_67 : decode cX8_places 67 = .ok (.getfield 144, 3) := by decide +kernel
theorem dX8_places_70 : decode cX8_places 70 = .ok (.iload_n 2, 1) := by decide +kernel
theorem dX8_places_71 : decode cX8_places 71 = .ok (.iload 7, 2) := by decide +kernel
theorem dX8_places_73 : decode cX8_places 73 = .ok (.invokevirtual 157, 3) := by decide +kernel
theorem dX8_places_76 : decode cX8_places 76 = .ok (.goto 14, 3) := by decide +kernel
theorem dX8_places_79 : decode cX8_places 79 = .ok (.aload 5, 2) := by decide +kernel
theorem dX8_places_81 : decode cX8_places 81 = .ok (.getfield 144, 3) := by decide +kernel
theorem dX8_places_84 : decode cX8_places 84 = .ok (.iload_n 2, 1) := by decide +kernel
theorem dX8_places_85 : decode cX8_places 85 = .ok (.iload 7, 2) := by decide +kernel
theorem dX8_places_87 : decode cX8_places 87 = .ok (.invokevirtual 160, 3) := by decide +kernel
theorem dX8_places_90 : decode cX8_places 90 = .ok (.istore 8, 2) := by decide +kernel
theorem dX8_places_92 : decode cX8_places 92 = .ok (.iload 6, 2) := by decide +kernel
theorem dX8_places_94 : decode cX8_places 94 = .ok (.iload 8, 2) := by decide +kernel
theorem dX8_places_96 : decode cX8_places 96 = .ok (.iload_n 3, 1) := by decide +kernel
theorem dX8_places_97 : decode cX8_places 97 = .ok (.iushr, 1) := by decide +kernel
theorem dX8_places_98 : decode cX8_places 98 = .ok (.iconst 1, 1) := by decide +kernel
theorem dX8_places_99 : decode cX8_places 99 = .ok (.iand, 1) := by decide +kernel
theorem dX8_places_100 : decode cX8_places 100 = .ok (.iadd, 1) := by decide +kernel
theorem dX8_places_101 : decode cX8_places 101 = .ok (.istore 6, 2) := by decide +kernel
theorem dX8_places_103 : decode cX8_places 103 = .ok (.iinc 7 1, 3) := by decide +kernel
theorem dX8_places_106 : decode cX8_places 106 = .ok (.goto (-56), 3) := by decide +kernel
theorem dX8_places_109 : decode cX8_places 109 = .ok (.iload 6, 2) := by decide +kernel
theorem dX8_places_111 : decode cX8_places 111 = .ok (.ireturn, 1) := by decide +kernel
theorem dX8_name_0 : decode cX8_name 0 = .ok (.iload_n 1, 1) := by decide +kernel
theorem dX8_name_1 : decode cX8_name 1 = .ok (.ifCond .lt 9, 3) := by decide +kernel
theorem dX8_name_4 : decode cX8_name 4 = .ok (.iload_n 1, 1) := by decide +kernel
theorem dX8_name_5 : decode cX8_name 5 = .ok (.bipush 48, 2) := by decide +kernel
theorem dX8_name_7 : decode cX8_name 7 = .ok (.if_icmp .lt 5, 3) := by decide +kernel
theorem dX8_name_10 : decode cX8_name 10 = .ok (.iconst 0, 1) := by decide +kernel
theorem dX8_name_11 : decode cX8_name 11 = .ok (.ireturn, 1) := by decide +kernel
theorem dX8_name_12 : decode cX8_name 12 = .ok (.aload_n 0, 1) := by decide +kernel
theorem dX8_name_13 : decode cX8_name 13 = .ok (.getfield 32, 3) := by decide +kernel
theorem dX8_name_16 : decode cX8_name 16 = .ok (.getfield 166, 3) := by decide +kernel
theorem dX8_name_19 : decode cX8_name 19 = .ok (.iload_n 1, 1) := by decide +kernel
theorem dX8_name_20 : decode cX8_name 20 = .ok (.iaload, 1) := by decide +kernel
theorem dX8_name_21 : decode cX8_name 21 = .ok (.istore_n 3, 1) := by decide +kernel
theorem dX8_name_22 : decode cX8_name 22 = .ok (.aload_n 0, 1) := by decide +kernel
theorem dX8_name_23 : decode cX8_name 23 = .ok (.getfield 32, 3) := by decide +kernel
theorem dX8_name_26 : decode cX8_name 26 = .ok (.getfield 166, 3) := by decide +kernel
theorem dX8_name_29 : decode cX8_name 29 = .ok (.iload_n 1, 1) := by decide +kernel
theorem dX8_name_30 : decode cX8_name 30 = .ok (.iload_n 2, 1) := by decide +kernel
theorem dX8_name_31 : decode cX8_name 31 = .ok (.iastore, 1) := by decide +kernel
theorem dX8_name_32 : decode cX8_name 32 = .ok (.iload_n 3, 1) := by decide +kernel
theorem dX8_name_33 : decode cX8_name 33 = .ok (.ireturn, 1) := by decide +kernel
theorem dX8_run_0 : decode cX8_run 0 = .ok (.aload_n 0, 1) := by decide +kernel
theorem dX8_run_1 : decode cX8_run 1 = .ok (.iload_n 1, 1) := by decide +kernel
theorem dX8_run_2 : decode cX8_run 2 = .ok (.invokevirtual 89, 3) := by decide +kernel
theorem dX8_run_5 : decode cX8_run 5 = .ok (.astore_n 3, 1) := by decide +kernel
theorem dX8_run_6 : decode cX8_run 6 = .ok (.aload_n 3, 1) := by decide +kernel
theorem dX8_run_7 : decode cX8_run 7 = .ok (.ifnull 10, 3) := by decide +kernel
theorem dX8_run_10 : decode cX8_run 10 = .ok (.iload_n 2, 1) := by decide +kernel
theorem dX8_run_11 : decode cX8_run 11 = .ok (.invokestatic 154, 3) := by decide +kernel
theorem dX8_run_14 : decode cX8_run 14 = .ok (.ifCond .ne 5, 3) := by decide +kernel
theorem dX8_run_17 : decode cX8_run 17 = .ok (.iconst (-1), 1) := by decide +kernel
theorem dX8_run_18 : decode cX8_run 18 = .ok (.ireturn, 1) := by decide +kernel
theorem dX8_run_19 : decode cX8_run 19 = .ok (.aload_n 0, 1) := by decide +kernel
theorem dX8_run_20 : decode cX8_run 20 = .ok (.getfield 32, 3) := by decide +kernel
theorem dX8_run_23 : decode cX8_run 23 = .ok (.aload_n 3, 1) := by decide +kernel
theorem dX8_run_24 : decode cX8_run 24 = .ok (.iload_n 2, 1) := by decide +kernel
theorem dX8_run_25 : decode cX8_run 25 = .ok (.invokevirtual 169, 3) := by decide +kernel
theorem dX8_run_28 : decode cX8_run 28 = .ok (.aload_n 0, 1) := by decide +kernel
theorem dX8_run_29 : decode cX8_run 29 = .ok (.getfield 32, 3) := by decide +kernel
theorem dX8_run_32 : decode cX8_run 32 = .ok (.getfield 173, 3) := by decide +kernel
theorem dX8_run_35 : decode cX8_run 35 = .ok (.ireturn, 1) := by decide +kernel
theorem dX8_ran_0 : decode cX8_ran 0 = .ok (.iload_n 1, 1) := by decide +kernel
theorem dX8_ran_1 : decode cX8_ran 1 = .ok (.tableswitch 75 0 4 #[35, 43, 51, 59, 67], 35) := by decide +kernel
theorem dX8_ran_36 : decode cX8_ran 36 = .ok (.aload_n 0, 1) := by decide +kernel
theorem dX8_ran_37 : decode cX8_ran 37 = .ok (.getfield 32, 3) := by decide +kernel
theorem dX8_ran_40 : decode cX8_ran 40 = .ok (.getfield 173, 3) := by decide +kernel
theorem dX8_ran_43 : decode cX8_ran 43 = .ok (.ireturn, 1) := by decide +kernel
theorem dX8_ran_44 : decode cX8_ran 44 = .ok (.aload_n 0, 1) := by decide +kernel
theorem dX8_ran_45 : decode cX8_ran 45 = .ok (.getfield 32, 3) := by decide +kernel
theorem dX8_ran_48 : decode cX8_ran 48 = .ok (.getfield 176, 3) := by decide +kernel
theorem dX8_ran_51 : decode cX8_ran 51 = .ok (.ireturn, 1) := by decide +kernel
theorem dX8_ran_52 : decode cX8_ran 52 = .ok (.aload_n 0, 1) := by decide +kernel
theorem dX8_ran_53 : decode cX8_ran 53 = .ok (.getfield 32, 3) := by decide +kernel
theorem dX8_ran_56 : decode cX8_ran 56 = .ok (.getfield 179, 3) := by decide +kernel
theorem dX8_ran_59 : decode cX8_ran 59 = .ok (.ireturn, 1) := by decide +kernel
theorem dX8_ran_60 : decode cX8_ran 60 = .ok (.aload_n 0, 1) := by decide +kernel
theorem dX8_ran_61 : decode cX8_ran 61 = .ok (.getfield 32, 3) := by decide +kernel
theorem dX8_ran_64 : decode cX8_ran 64 = .ok (.getfield 182, 3) := by decide +kernel
theorem dX8_ran_67 : decode cX8_ran 67 = .ok (.ireturn, 1) := by decide +kernel
theorem dX8_ran_68 : decode cX8_ran 68 = .ok (.aload_n 0, 1) := by decide +kernel
theorem dX8_ran_69 : decode cX8_ran 69 = .ok (.getfield 32, 3) := by decide +kernel
theorem dX8_ran_72 : decode cX8_ran 72 = .ok (.getfield 185, 3) := by decide +kernel
theorem dX8_ran_75 : decode cX8_ran 75 = .ok (.ireturn, 1) := by decide +kernel
theorem dX8_ran_76 : decode cX8_ran 76 = .ok (.iconst (-1), 1) := by decide +kernel
theorem dX8_ran_77 : decode cX8_ran 77 = .ok (.ireturn, 1) := by decide +kernel
theorem dX8_told_0 : decode cX8_told 0 = .ok (.iload_n 1, 1) := by decide +kernel
theorem dX8_told_1 : decode cX8_told 1 = .ok (.ifCond .lt 32, 3) := by decide +kernel
theorem dX8_told_4 : decode cX8_told 4 = .ok (.iload_n 1, 1) := by decide +kernel
theorem dX8_told_5 : decode cX8_told 5 = .ok (.bipush 100, 2) := by decide +kernel
theorem dX8_told_7 : decode cX8_told 7 = .ok (.if_icmp .ge 26, 3) := by decide +kernel
theorem dX8_told_10 : decode cX8_told 10 = .ok (.iload_n 1, 1) := by decide +kernel
theorem dX8_told_11 : decode cX8_told 11 = .ok (.aload_n 0, 1) := by decide +kernel
theorem dX8_told_12 : decode cX8_told 12 = .ok (.getfield 32, 3) := by decide +kernel
theorem dX8_told_15 : decode cX8_told 15 = .ok (.getfield 179, 3) := by decide +kernel
theorem dX8_told_18 : decode cX8_told 18 = .ok (.if_icmp .ge 15, 3) := by decide +kernel
theorem dX8_told_21 : decode cX8_told 21 = .ok (.aload_n 0, 1) := by decide +kernel
theorem dX8_told_22 : decode cX8_told 22 = .ok (.getfield 32, 3) := by decide +kernel
theorem dX8_told_25 : decode cX8_told 25 = .ok (.getfield 188, 3) := by decide +kernel
theorem dX8_told_28 : decode cX8_told 28 = .ok (.iload_n 1, 1) := by decide +kernel
theorem dX8_told_29 : decode cX8_told 29 = .ok (.iaload, 1) := by decide +kernel
theorem dX8_told_30 : decode cX8_told 30 = .ok (.goto 4, 3) := by decide +kernel
theorem dX8_told_33 : decode cX8_told 33 = .ok (.iconst 0, 1) := by decide +kernel
theorem dX8_told_34 : decode cX8_told 34 = .ok (.ireturn, 1) := by decide +kernel
theorem dX8_value_0 : decode cX8_value 0 = .ok (.iload_n 1, 1) := by decide +kernel
theorem dX8_value_1 : decode cX8_value 1 = .ok (.ifCond .lt 21, 3) := by decide +kernel
theorem dX8_value_4 : decode cX8_value 4 = .ok (.iload_n 1, 1) := by decide +kernel
theorem dX8_value_5 : decode cX8_value 5 = .ok (.bipush 48, 2) := by decide +kernel
theorem dX8_value_7 : decode cX8_value 7 = .ok (.if_icmp .ge 15, 3) := by decide +kernel
theorem dX8_value_10 : decode cX8_value 10 = .ok (.aload_n 0, 1) := by decide +kernel
theorem dX8_value_11 : decode cX8_value 11 = .ok (.getfield 32, 3) := by decide +kernel
theorem dX8_value_14 : decode cX8_value 14 = .ok (.getfield 191, 3) := by decide +kernel
theorem dX8_value_17 : decode cX8_value 17 = .ok (.iload_n 1, 1) := by decide +kernel
theorem dX8_value_18 : decode cX8_value 18 = .ok (.iaload, 1) := by decide +kernel
theorem dX8_value_19 : decode cX8_value 19 = .ok (.goto 4, 3) := by decide +kernel
theorem dX8_value_22 : decode cX8_value 22 = .ok (.iconst 0, 1) := by decide +kernel
theorem dX8_value_23 : decode cX8_value 23 = .ok (.ireturn, 1) := by decide +kernel
theorem dX8_row_0 : decode cX8_row 0 = .ok (.iload_n 1, 1) := by decide +kernel
theorem dX8_row_1 : decode cX8_row 1 = .ok (.ifCond .lt 18, 3) := by decide +kernel
theorem dX8_row_4 : decode cX8_row 4 = .ok (.iload_n 1, 1) := by decide +kernel
theorem dX8_row_5 : decode cX8_row 5 = .ok (.iconst 2, 1) := by decide +kernel
theorem dX8_row_6 : decode cX8_row 6 = .ok (.if_icmp .ge 13, 3) := by decide +kernel
theorem dX8_row_9 : decode cX8_row 9 = .ok (.iload_n 2, 1) := by decide +kernel
theorem dX8_row_10 : decode cX8_row 10 = .ok (.ifCond .lt 9, 3) := by decide +kernel
theorem dX8_row_13 : decode cX8_row 13 = .ok (.iload_n 2, 1) := by decide +kernel
theorem dX8_row_14 : decode cX8_row 14 = .ok (.bipush 8, 2) := by decide +kernel
theorem dX8_row_16 : decode cX8_row 16 = .ok (.if_icmp .lt 5, 3) := by decide +kernel
theorem dX8_row_19 : decode cX8_row 19 = .ok (.iconst 0, 1) := by decide +kernel
theorem dX8_row_20 : decode cX8_row 20 = .ok (.ireturn, 1) := by decide +kernel
theorem dX8_row_21 : decode cX8_row 21 = .ok (.aload_n 0, 1) := by decide +kernel
theorem dX8_row_22 : decode cX8_row 22 = .ok (.getfield 32, 3) := by decide +kernel
theorem dX8_row_25 : decode cX8_row 25 = .ok (.getfield 194, 3) := by decide +kernel
theorem dX8_row_28 : decode cX8_row 28 = .ok (.iload_n 1, 1) := by decide +kernel
theorem dX8_row_29 : decode cX8_row 29 = .ok (.aaload, 1) := by decide +kernel
theorem dX8_row_30 : decode cX8_row 30 = .ok (.iload_n 2, 1) := by decide +kernel
theorem dX8_row_31 : decode cX8_row 31 = .ok (.iaload, 1) := by decide +kernel
theorem dX8_row_32 : decode cX8_row 32 = .ok (.ireturn, 1) := by decide +kernel
theorem dX8_worked_0 : decode cX8_worked 0 = .ok (.iload_n 1, 1) := by decide +kernel
theorem dX8_worked_1 : decode cX8_worked 1 = .ok (.ifCond .lt 21, 3) := by decide +kernel
theorem dX8_worked_4 : decode cX8_worked 4 = .ok (.iload_n 1, 1) := by decide +kernel
theorem dX8_worked_5 : decode cX8_worked 5 = .ok (.bipush 32, 2) := by decide +kernel
theorem dX8_worked_7 : decode cX8_worked 7 = .ok (.if_icmp .ge 15, 3) := by decide +kernel
theorem dX8_worked_10 : decode cX8_worked 10 = .ok (.aload_n 0, 1) := by decide +kernel
theorem dX8_worked_11 : decode cX8_worked 11 = .ok (.getfield 32, 3) := by decide +kernel
theorem dX8_worked_14 : decode cX8_worked 14 = .ok (.getfield 197, 3) := by decide +kernel
theorem dX8_worked_17 : decode cX8_worked 17 = .ok (.iload_n 1, 1) := by decide +kernel
theorem dX8_worked_18 : decode cX8_worked 18 = .ok (.iaload, 1) := by decide +kernel
theorem dX8_worked_19 : decode cX8_worked 19 = .ok (.goto 4, 3) := by decide +kernel
theorem dX8_worked_22 : decode cX8_worked 22 = .ok (.iconst (-1), 1) := by decide +kernel
theorem dX8_worked_23 : decode cX8_worked 23 = .ok (.ireturn, 1) := by decide +kernel
theorem dX8_step_0 : decode cX8_step 0 = .ok (.aload_n 0, 1) := by decide +kernel
theorem dX8_step_1 : decode cX8_step 1 = .ok (.iload_n 1, 1) := by decide +kernel
theorem dX8_step_2 : decode cX8_step 2 = .ok (.invokevirtual 89, 3) := by decide +kernel
theorem dX8_step_5 : decode cX8_step 5 = .ok (.astore_n 3, 1) := by decide +kernel
theorem dX8_step_6 : decode cX8_step 6 = .ok (.aload_n 3, 1) := by decide +kernel
theorem dX8_step_7 : decode cX8_step 7 = .ok (.ifnull 15, 3) := by decide +kernel
theorem dX8_step_10 : decode cX8_step 10 = .ok (.iload_n 2, 1) := by decide +kernel
theorem dX8_step_11 : decode cX8_step 11 = .ok (.ifCond .lt 11, 3) := by decide +kernel
theorem dX8_step_14 : decode cX8_step 14 = .ok (.iload_n 2, 1) := by decide +kernel
theorem dX8_step_15 : decode cX8_step 15 = .ok (.aload_n 3, 1) := by decide +kernel
theorem dX8_step_16 : decode cX8_step 16 = .ok (.getfield 93, 3) := by decide +kernel
theorem dX8_step_19 : decode cX8_step 19 = .ok (.if_icmp .lt 5, 3) := by decide +kernel
theorem dX8_step_22 : decode cX8_step 22 = .ok (.iconst (-1), 1) := by decide +kernel
theorem dX8_step_23 : decode cX8_step 23 = .ok (.ireturn, 1) := by decide +kernel
theorem dX8_step_24 : decode cX8_step 24 = .ok (.aload_n 3, 1) := by decide +kernel
theorem dX8_step_25 : decode cX8_step 25 = .ok (.iload_n 2, 1) := by decide +kernel
theorem dX8_step_26 : decode cX8_step 26 = .ok (.invokevirtual 200, 3) := by decide +kernel
theorem dX8_step_29 : decode cX8_step 29 = .ok (.ifCond .ne 6, 3) := by decide +kernel
theorem dX8_step_32 : decode cX8_step 32 = .ok (.bipush (-2), 2) := by decide +kernel
theorem dX8_step_34 : decode cX8_step 34 = .ok (.ireturn, 1) := by decide +kernel
theorem dX8_step_35 : decode cX8_step 35 = .ok (.aload_n 3, 1) := by decide +kernel
theorem dX8_step_36 : decode cX8_step 36 = .ok (.getfield 203, 3) := by decide +kernel
theorem dX8_step_39 : decode cX8_step 39 = .ok (.bipush 60, 2) := by decide +kernel
theorem dX8_step_41 : decode cX8_step 41 = .ok (.if_icmp .lt 6, 3) := by decide +kernel
theorem dX8_step_44 : decode cX8_step 44 = .ok (.bipush (-3), 2) := by decide +kernel
theorem dX8_step_46 : decode cX8_step 46 = .ok (.ireturn, 1) := by decide +kernel
theorem dX8_step_47 : decode cX8_step 47 = .ok (.aload_n 3, 1) := by decide +kernel
theorem dX8_step_48 : decode cX8_step 48 = .ok (.getfield 206, 3) := by decide +kernel
theorem dX8_step_51 : decode cX8_step 51 = .ok (.aload_n 3, 1) := by decide +kernel
theorem dX8_step_52 : decode cX8_step 52 = .ok (.dup, 1) := by decide +kernel
theorem dX8_step_53 : decode cX8_step 53 = .ok (.getfield 203, 3) := by decide +kernel
theorem dX8_step_56 : decode cX8_step 56 = .ok (.dup_x1, 1) := by decide +kernel
theorem dX8_step_57 : decode cX8_step 57 = .ok (.iconst 1, 1) := by decide +kernel
theorem dX8_step_58 : decode cX8_step 58 = .ok (.iadd, 1) := by decide +kernel
theorem dX8_step_59 : decode cX8_step 59 = .ok (.putfield 203, 3) := by decide +kernel
theorem dX8_step_62 : decode cX8_step 62 = .ok (.iload_n 2, 1) := by decide +kernel
theorem dX8_step_63 : decode cX8_step 63 = .ok (.iastore, 1) := by decide +kernel
theorem dX8_step_64 : decode cX8_step 64 = .ok (.aload_n 3, 1) := by decide +kernel
theorem dX8_step_65 : decode cX8_step 65 = .ok (.getfield 203, 3) := by decide +kernel
theorem dX8_step_68 : decode cX8_step 68 = .ok (.ireturn, 1) := by decide +kernel
theorem dX8_home_0 : decode cX8_home 0 = .ok (.aload_n 0, 1) := by decide +kernel
theorem dX8_home_1 : decode cX8_home 1 = .ok (.iload_n 1, 1) := by decide +kernel
theorem dX8_home_2 : decode cX8_home 2 = .ok (.invokevirtual 89, 3) := by decide +kernel
theorem dX8_home_5 : decode cX8_home 5 = .ok (.astore_n 2, 1) := by decide +kernel
theorem dX8_home_6 : decode cX8_home 6 = .ok (.aload_n 2, 1) := by decide +kernel
theorem dX8_home_7 : decode cX8_home 7 = .ok (.ifnonnull 5, 3) := by decide +kernel
theorem dX8_home_10 : decode cX8_home 10 = .ok (.iconst (-1), 1) := by decide +kernel
theorem dX8_home_11 : decode cX8_home 11 = .ok (.ireturn, 1) := by decide +kernel
theorem dX8_home_12 : decode cX8_home 12 = .ok (.aload_n 2, 1) := by decide +kernel
theorem dX8_home_13 : decode cX8_home 13 = .ok (.getfield 203, 3) := by decide +kernel
theorem dX8_home_16 : decode cX8_home 16 = .ok (.istore_n 3, 1) := by decide +kernel
theorem dX8_home_17 : decode cX8_home 17 = .ok (.aload_n 2, 1) := by decide +kernel
theorem dX8_home_18 : decode cX8_home 18 = .ok (.iconst 0, 1) := by decide +kernel
theorem dX8_home_19 : decode cX8_home 19 = .ok (.putfield 203, 3) := by decide +kernel
theorem dX8_home_22 : decode cX8_home 22 = .ok (.iload_n 3, 1) := by decide +kernel
theorem dX8_home_23 : decode cX8_home 23 = .ok (.ireturn, 1) := by decide +kernel
theorem dX8_works_0 : decode cX8_works 0 = .ok (.aload_n 0, 1) := by decide +kernel
theorem dX8_works_1 : decode cX8_works 1 = .ok (.iload_n 1, 1) := by decide +kernel
theorem dX8_works_2 : decode cX8_works 2 = .ok (.invokevirtual 89, 3) := by decide +kernel
theorem dX8_works_5 : decode cX8_works 5 = .ok (.astore 4, 2) := by decide +kernel
theorem dX8_works_7 : decode cX8_works 7 = .ok (.aload 4, 2) := by decide +kernel
theorem dX8_works_9 : decode cX8_works 9 = .ok (.ifnull 22, 3) := by decide +kernel
theorem dX8_works_12 : decode cX8_works 12 = .ok (.iload_n 2, 1) := by decide +kernel
theorem dX8_works_13 : decode cX8_works 13 = .ok (.invokestatic 154, 3) := by decide +kernel
theorem dX8_works_16 : decode cX8_works 16 = .ok (.ifCond .eq 15, 3) := by decide +kernel
theorem dX8_works_19 : decode cX8_works 19 = .ok (.aload 4, 2) := by decide +kernel
theorem dX8_works_21 : decode cX8_works 21 = .ok (.getfield 72, 3) := by decide +kernel
theorem dX8_works_24 : decode cX8_works 24 = .ok (.iload_n 3, 1) := by decide +kernel
theorem dX8_works_25 : decode cX8_works 25 = .ok (.invokevirtual 123, 3) := by decide +kernel
theorem dX8_works_28 : decode cX8_works 28 = .ok (.ifCond .ne 5, 3) := by decide +kernel
theorem dX8_works_31 : decode cX8_works 31 = .ok (.iconst (-1), 1) := by decide +kernel
theorem dX8_works_32 : decode cX8_works 32 = .ok (.ireturn, 1) := by decide +kernel
theorem dX8_works_33 : decode cX8_works 33 = .ok (.aload 4, 2) := by decide +kernel
theorem dX8_works_35 : decode cX8_works 35 = .ok (.iload_n 2, 1) := by decide +kernel
theorem dX8_works_36 : decode cX8_works 36 = .ok (.iload_n 3, 1) := by decide +kernel
theorem dX8_works_37 : decode cX8_works 37 = .ok (.invokevirtual 209, 3) := by decide +kernel
theorem dX8_works_40 : decode cX8_works 40 = .ok (.ireturn, 1) := by decide +kernel
theorem dX8_write_0 : decode cX8_write 0 = .ok (.aload_n 0, 1) := by decide +kernel
theorem dX8_write_1 : decode cX8_write 1 = .ok (.iload_n 1, 1) := by decide +kernel
theorem dX8_write_2 : decode cX8_write 2 = .ok (.invokevirtual 89, 3) := by decide +kernel
theorem dX8_write_5 : decode cX8_write 5 = .ok (.astore_n 3, 1) := by decide +kernel
theorem dX8_write_6 : decode cX8_write 6 = .ok (.aload_n 3, 1) := by decide +kernel
theorem dX8_write_7 : decode cX8_write 7 = .ok (.ifnull 10, 3) := by decide +kernel
theorem dX8_write_10 : decode cX8_write 10 = .ok (.iload_n 2, 1) := by decide +kernel
theorem dX8_write_11 : decode cX8_write 11 = .ok (.invokestatic 154, 3) := by decide +kernel
theorem dX8_write_14 : decode cX8_write 14 = .ok (.ifCond .ne 5, 3) := by decide +kernel
theorem dX8_write_17 : decode cX8_write 17 = .ok (.iconst (-1), 1) := by decide +kernel
theorem dX8_write_18 : decode cX8_write 18 = .ok (.ireturn, 1) := by decide +kernel
theorem dX8_write_19 : decode cX8_write 19 = .ok (.iload_n 2, 1) := by decide +kernel
theorem dX8_write_20 : decode cX8_write 20 = .ok (.ifCond .eq 13, 3) := by decide +kernel
theorem dX8_write_23 : decode cX8_write 23 = .ok (.aload_n 3, 1) := by decide +kernel
theorem dX8_write_24 : decode cX8_write 24 = .ok (.getfield 212, 3) := by decide +kernel
theorem dX8_write_27 : decode cX8_write 27 = .ok (.ifCond .eq 6, 3) := by decide +kernel
theorem dX8_write_30 : decode cX8_write 30 = .ok (.bipush (-4), 2) := by decide +kernel
theorem dX8_write_32 : decode cX8_write 32 = .ok (.ireturn, 1) := by decide +kernel
theorem dX8_write_33 : decode cX8_write 33 = .ok (.aload_n 0, 1) := by decide +kernel
theorem dX8_write_34 : decode cX8_write 34 = .ok (.getfield 39, 3) := by decide +kernel
theorem dX8_write_37 : decode cX8_write 37 = .ok (.aload_n 3, 1) := by decide +kernel
theorem dX8_write_38 : decode cX8_write 38 = .ok (.iload_n 2, 1) := by decide +kernel
theorem dX8_write_39 : decode cX8_write 39 = .ok (.invokevirtual 215, 3) := by decide +kernel
theorem dX8_write_42 : decode cX8_write 42 = .ok (.aload_n 0, 1) := by decide +kernel
theorem dX8_write_43 : decode cX8_write 43 = .ok (.getfield 39, 3) := by decide +kernel
theorem dX8_write_46 : decode cX8_write 46 = .ok (.getfield 218, 3) := by decide +kernel
theorem dX8_write_49 : decode cX8_write 49 = .ok (.ifCond .eq 6, 3) := by decide +kernel
theorem dX8_write_52 : decode cX8_write 52 = .ok (.bipush (-3), 2) := by decide +kernel
theorem dX8_write_54 : decode cX8_write 54 = .ok (.ireturn, 1) := by decide +kernel
theorem dX8_write_55 : decode cX8_write 55 = .ok (.aload_n 0, 1) := by decide +kernel
theorem dX8_write_56 : decode cX8_write 56 = .ok (.getfield 12, 3) := by decide +kernel
theorem dX8_write_59 : decode cX8_write 59 = .ok (.aload_n 0, 1) := by decide +kernel
theorem dX8_write_60 : decode cX8_write 60 = .ok (.getfield 39, 3) := by decide +kernel
theorem dX8_write_63 : decode cX8_write 63 = .ok (.getfield 221, 3) := by decide +kernel
theorem dX8_write_66 : decode cX8_write 66 = .ok (.aload_n 0, 1) := by decide +kernel
theorem dX8_write_67 : decode cX8_write 67 = .ok (.getfield 39, 3) := by decide +kernel
theorem dX8_write_70 : decode cX8_write 70 = .ok (.getfield 225, 3) := by decide +kernel
theorem dX8_write_73 : decode cX8_write 73 = .ok (.invokevirtual 226, 3) := by decide +kernel
theorem dX8_write_76 : decode cX8_write 76 = .ok (.aload_n 0, 1) := by decide +kernel
theorem dX8_write_77 : decode cX8_write 77 = .ok (.getfield 12, 3) := by decide +kernel
theorem dX8_write_80 : decode cX8_write 80 = .ok (.getfield 43, 3) := by decide +kernel
theorem dX8_write_83 : decode cX8_write 83 = .ok (.ireturn, 1) := by decide +kernel
theorem dX8_routineAt_0 : decode cX8_routineAt 0 = .ok (.iload_n 1, 1) := by decide +kernel
theorem dX8_routineAt_1 : decode cX8_routineAt 1 = .ok (.ifCond .lt 17, 3) := by decide +kernel
theorem dX8_routineAt_4 : decode cX8_routineAt 4 = .ok (.iload_n 1, 1) := by decide +kernel
theorem dX8_routineAt_5 : decode cX8_routineAt 5 = .ok (.iconst 4, 1) := by decide +kernel
theorem dX8_routineAt_6 : decode cX8_routineAt 6 = .ok (.if_icmp .ge 12, 3) := by decide +kernel
theorem dX8_routineAt_9 : decode cX8_routineAt 9 = .ok (.aload_n 0, 1) := by decide +kernel
theorem dX8_routineAt_10 : decode cX8_routineAt 10 = .ok (.getfield 18, 3) := by decide +kernel
theorem dX8_routineAt_13 : decode cX8_routineAt 13 = .ok (.iload_n 1, 1) := by decide +kernel
theorem dX8_routineAt_14 : decode cX8_routineAt 14 = .ok (.aaload, 1) := by decide +kernel
theorem dX8_routineAt_15 : decode cX8_routineAt 15 = .ok (.goto 4, 3) := by decide +kernel
theorem dX8_routineAt_18 : decode cX8_routineAt 18 = .ok (.aconst_null, 1) := by decide +kernel
theorem dX8_routineAt_19 : decode cX8_routineAt 19 = .ok (.areturn, 1) := by decide +kernel
theorem dX8_isPlacing_0 : decode cX8_isPlacing 0 = .ok (.iload_n 0, 1) := by decide +kernel
theorem dX8_isPlacing_1 : decode cX8_isPlacing 1 = .ok (.ifCond .lt 12, 3) := by decide +kernel
theorem dX8_isPlacing_4 : decode cX8_isPlacing 4 = .ok (.iload_n 0, 1) := by decide +kernel
theorem dX8_isPlacing_5 : decode cX8_isPlacing 5 = .ok (.iconst 3, 1) := by decide +kernel
theorem dX8_isPlacing_6 : decode cX8_isPlacing 6 = .ok (.if_icmp .ge 7, 3) := by decide +kernel
theorem dX8_isPlacing_9 : decode cX8_isPlacing 9 = .ok (.iconst 1, 1) := by decide +kernel
theorem dX8_isPlacing_10 : decode cX8_isPlacing 10 = .ok (.goto 4, 3) := by decide +kernel
theorem dX8_isPlacing_13 : decode cX8_isPlacing 13 = .ok (.iconst 0, 1) := by decide +kernel
theorem dX8_isPlacing_14 : decode cX8_isPlacing 14 = .ok (.ireturn, 1) := by decide +kernel
theorem dX8_isName_0 : decode cX8_isName 0 = .ok (.iload_n 0, 1) := by decide +kernel
theorem dX8_isName_1 : decode cX8_isName 1 = .ok (.ldc 230, 2) := by decide +kernel
theorem dX8_isName_3 : decode cX8_isName 3 = .ok (.if_icmp .lt 7, 3) := by decide +kernel
theorem dX8_isName_6 : decode cX8_isName 6 = .ok (.iconst 1, 1) := by decide +kernel
theorem dX8_isName_7 : decode cX8_isName 7 = .ok (.goto 4, 3) := by decide +kernel
theorem dX8_isName_10 : decode cX8_isName 10 = .ok (.iconst 0, 1) := by decide +kernel
theorem dX8_isName_11 : decode cX8_isName 11 = .ok (.ireturn, 1) := by decide +kernel
theorem dX8_toldOperand_0 : decode cX8_toldOperand 0 = .ok (.iload_n 0, 1) := by decide +kernel
theorem dX8_toldOperand_1 : decode cX8_toldOperand 1 = .ok (.ldc 231, 2) := by decide +kernel
theorem dX8_toldOperand_3 : decode cX8_toldOperand 3 = .ok (.if_icmp .lt 15, 3) := by decide +kernel
theorem dX8_toldOperand_6 : decode cX8_toldOperand 6 = .ok (.sipush 2000, 3) := by decide +kernel
theorem dX8_toldOperand_9 : decode cX8_toldOperand 9 = .ok (.iload_n 0, 1) := by decide +kernel
theorem dX8_toldOperand_10 : decode cX8_toldOperand 10 = .ok (.iadd, 1) := by decide +kernel
theorem dX8_toldOperand_11 : decode cX8_toldOperand 11 = .ok (.ldc 230, 2) := by decide +kernel
theorem dX8_toldOperand_13 : decode cX8_toldOperand 13 = .ok (.isub, 1) := by decide +kernel
theorem dX8_toldOperand_14 : decode cX8_toldOperand 14 = .ok (.bipush 16, 2) := by decide +kernel
theorem dX8_toldOperand_16 : decode cX8_toldOperand 16 = .ok (.isub, 1) := by decide +kernel
theorem dX8_toldOperand_17 : decode cX8_toldOperand 17 = .ok (.ireturn, 1) := by decide +kernel
theorem dX8_toldOperand_18 : decode cX8_toldOperand 18 = .ok (.iload_n 0, 1) := by decide +kernel
theorem dX8_toldOperand_19 : decode cX8_toldOperand 19 = .ok (.invokestatic 232, 3) := by decide +kernel
theorem dX8_toldOperand_22 : decode cX8_toldOperand 22 = .ok (.ifCond .eq 12, 3) := by decide +kernel
theorem dX8_toldOperand_25 : decode cX8_toldOperand 25 = .ok (.sipush 1000, 3) := by decide +kernel
theorem dX8_toldOperand_28 : decode cX8_toldOperand 28 = .ok (.iload_n 0, 1) := by decide +kernel
theorem dX8_toldOperand_29 : decode cX8_toldOperand 29 = .ok (.iadd, 1) := by decide +kernel
theorem dX8_toldOperand_30 : decode cX8_toldOperand 30 = .ok (.ldc 230, 2) := by decide +kernel
theorem dX8_toldOperand_32 : decode cX8_toldOperand 32 = .ok (.isub, 1) := by decide +kernel
theorem dX8_toldOperand_33 : decode cX8_toldOperand 33 = .ok (.ireturn, 1) := by decide +kernel
theorem dX8_toldOperand_34 : decode cX8_toldOperand 34 = .ok (.sipush (-999), 3) := by decide +kernel
theorem dX8_toldOperand_37 : decode cX8_toldOperand 37 = .ok (.sipush 999, 3) := by decide +kernel
theorem dX8_toldOperand_40 : decode cX8_toldOperand 40 = .ok (.iload_n 0, 1) := by decide +kernel
theorem dX8_toldOperand_41 : decode cX8_toldOperand 41 = .ok (.invokestatic 235, 3) := by decide +kernel
theorem dX8_toldOperand_44 : decode cX8_toldOperand 44 = .ok (.invokestatic 240, 3) := by decide +kernel
theorem dX8_toldOperand_47 : decode cX8_toldOperand 47 = .ok (.ireturn, 1) := by decide +kernel
theorem dX9_init_0 : decode cX9_init 0 = .ok (.aload_n 0, 1) := by decide +kernel
theorem dX9_init_1 : decode cX9_init 1 = .ok (.invokespecial 1, 3) := by decide +kernel
theorem dX9_init_4 : decode cX9_init 4 = .ok (.aload_n 0, 1) := by decide +kernel
theorem dX9_init_5 : decode cX9_init 5 = .ok (.sipush 3000, 3) := by decide +kernel
theorem dX9_init_8 : decode cX9_init 8 = .ok (.newarray .int, 2) := by decide +kernel
theorem dX9_init_10 : decode cX9_init 10 = .ok (.putfield 7, 3) := by decide +kernel
theorem dX9_init_13 : decode cX9_init 13 = .ok (.aload_n 0, 1) := by decide +kernel
theorem dX9_init_14 : decode cX9_init 14 = .ok (.iconst 0, 1) := by decide +kernel
theorem dX9_init_15 : decode cX9_init 15 = .ok (.putfield 13, 3) := by decide +kernel
theorem dX9_init_18 : decode cX9_init 18 = .ok (.aload_n 0, 1) := by decide +kernel
theorem dX9_init_19 : decode cX9_init 19 = .ok (.iconst 0, 1) := by decide +kernel
theorem dX9_init_20 : decode cX9_init 20 = .ok (.putfield 17, 3) := by decide +kernel
theorem dX9_init_23 : decode cX9_init 23 = .ok (.aload_n 0, 1) := by decide +kernel
theorem dX9_init_24 : decode cX9_init 24 = .ok (.iconst 0, 1) := by decide +kernel
theorem dX9_init_25 : decode cX9_init 25 = .ok (.putfield 20, 3) := by decide +kernel
theorem dX9_init_28 : decode cX9_init 28 = .ok (.aload_n 0, 1) := by decide +kernel
theorem dX9_init_29 : decode cX9_init 29 = .ok (.iconst 0, 1) := by decide +kernel
theorem dX9_init_30 : decode cX9_init 30 = .ok (.putfield 23, 3) := by decide +kernel
theorem dX9_init_33 : decode cX9_init 33 = .ok (.aload_n 0, 1) := by decide +kernel
theorem dX9_init_34 : decode cX9_init 34 = .ok (.iconst 0, 1) := by decide +kernel
theorem dX9_init_35 : decode cX9_init 35 = .ok (.putfield 26, 3) := by decide +kernel
theorem dX9_init_38 : decode cX9_init 38 = .ok (.aload_n 0, 1) := by decide +kernel
theorem dX9_init_39 : decode cX9_init 39 = .ok (.iconst 0, 1) := by decide +kernel
theorem dX9_init_40 : decode cX9_init 40 = .ok (.putfield 29, 3) := by decide +kernel
theorem dX9_init_43 : decode cX9_init 43 = .ok (.aload_n 0, 1) := by decide +kernel
theorem dX9_init_44 : decode cX9_init 44 = .ok (.lconst 0, 1) := by decide +kernel
theorem dX9_init_45 : decode cX9_init 45 = .ok (.putfield 32, 3) := by decide +kernel
theorem dX9_init_48 : decode cX9_init 48 = .ok (.aload_n 0, 1) := by decide +kernel
theorem dX9_init_49 : decode cX9_init 49 = .ok (.iconst 5, 1) := by decide +kernel
theorem dX9_init_50 : decode cX9_init 50 = .ok (.newarray .boolean, 2) := by decide +kernel
theorem dX9_init_52 : decode cX9_init 52 = .ok (.putfield 36, 3) := by decide +kernel
theorem dX9_init_55 : decode cX9_init 55 = .ok (.aload_n 0, 1) := by decide +kernel
theorem dX9_init_56 : decode cX9_init 56 = .ok (.iconst 5, 1) := by decide +kernel
theorem dX9_init_57 : decode cX9_init 57 = .ok (.newarray .int, 2) := by decide +kernel
theorem dX9_init_59 : decode cX9_init 59 = .ok (.putfield 40, 3) := by decide +kernel
theorem dX9_init_62 : decode cX9_init 62 = .ok (.aload_n 0, 1) := by decide +kernel
theorem dX9_init_63 : decode cX9_init 63 = .ok (.iconst 5, 1) := by decide +kernel
theorem dX9_init_64 : decode cX9_init 64 = .ok (.newarray .int, 2) := by decide +kernel
theorem dX9_init_66 : decode cX9_init 66 = .ok (.putfield 43, 3) := by decide +kernel
theorem dX9_init_69 : decode cX9_init 69 = .ok (.aload_n 0, 1) := by decide +kernel
theorem dX9_init_70 : decode cX9_init 70 = .ok (.iconst 5, 1) := by decide +kernel
theorem dX9_init_71 : decode cX9_init 71 = .ok (.newarray .int, 2) := by decide +kernel
theorem dX9_init_73 : decode cX9_init 73 = .ok (.putfield 46, 3) := by decide +kernel
theorem dX9_init_76 : decode cX9_init 76 = .ok (.aload_n 0, 1) := by decide +kernel
theorem dX9_init_77 : decode cX9_init 77 = .ok (.iconst 5, 1) := by decide +kernel
theorem dX9_init_78 : decode cX9_init 78 = .ok (.newarray .int, 2) := by decide +kernel
theorem dX9_init_80 : decode cX9_init 80 = .ok (.putfield 49, 3) := by decide +kernel
theorem dX9_init_83 : decode cX9_init 83 = .ok (.aload_n 0, 1) := by decide +kernel
theorem dX9_init_84 : decode cX9_init 84 = .ok (.sipush 205, 3) := by decide +kernel
theorem dX9_init_87 : decode cX9_init 87 = .ok (.newarray .int, 2) := by decide +kernel
theorem dX9_init_89 : decode cX9_init 89 = .ok (.putfield 52, 3) := by decide +kernel
theorem dX9_init_92 : decode cX9_init 92 = .ok (.aload_n 0, 1) := by decide +kernel
theorem dX9_init_93 : decode cX9_init 93 = .ok (.sipush 205, 3) := by decide +kernel
theorem dX9_init_96 : decode cX9_init 96 = .ok (.newarray .int, 2) := by decide +kernel
theorem dX9_init_98 : decode cX9_init 98 = .ok (.putfield 55, 3) := by decide +kernel
theorem dX9_init_101 : decode cX9_init 101 = .ok (.aload_n 0, 1) := by decide +kernel
theorem dX9_init_102 : decode cX9_init 102 = .ok (.sipush 1200, 3) := by decide +kernel
theorem dX9_init_105 : decode cX9_init 105 = .ok (.newarray .int, 2) := by decide +kernel
theorem dX9_init_107 : decode cX9_init 107 = .ok (.putfield 58, 3) := by decide +kernel
theorem dX9_init_110 : decode cX9_init 110 = .ok (.aload_n 0, 1) := by decide +kernel
theorem dX9_init_111 : decode cX9_init 111 = .ok (.sipush 1200, 3) := by decide +kernel
theorem dX9_init_114 : decode cX9_init 114 = .ok (.newarray .int, 2) := by decide +kernel
theorem dX9_init_116 : decode cX9_init 116 = .ok (.putfield 61, 3) := by decide +kernel
theorem dX9_init_119 : decode cX9_init 119 = .ok (.aload_n 0, 1) := by decide +kernel
theorem dX9_init_120 : decode cX9_init 120 = .ok (.sipush 1200, 3) := by decide +kernel
theorem dX9_init_123 : decode cX9_init 123 = .ok (.newarray .int, 2) := by decide +kernel
theorem dX9_init_125 : decode cX9_init 125 = .ok (.putfield 64, 3) := by decide +kernel
theorem dX9_init_128 : decode cX9_init 128 = .ok (.aload_n 0, 1) := by decide +kernel
theorem dX9_init_129 : decode cX9_init 129 = .ok (.sipush 1200, 3) := by decide +kernel
theorem dX9_init_132 : decode cX9_init 132 = .ok (.newarray .int, 2) := by decide +kernel
theorem dX9_init_134 : decode cX9_init 134 = .ok (.putfield 67, 3) := by decide +kernel
theorem dX9_init_137 : decode cX9_init 137 = .ok (.aload_n 0, 1) := by decide +kernel
theorem dX9_init_138 : decode cX9_init 138 = .ok (.sipush 1200, 3) := by decide +kernel
theorem dX9_init_141 : decode cX9_init 141 = .ok (.newarray .int, 2) := by decide +kernel
theorem dX9_init_143 : decode cX9_init 143 = .ok (.putfield 70, 3) := by decide +kernel
theorem dX9_init_146 : decode cX9_init 146 = .ok (.aload_n 0, 1) := by decide +kernel
theorem dX9_init_147 : decode cX9_init 147 = .ok (.sipush 1200, 3) := by decide +kernel
theorem dX9_init_150 : decode cX9_init 150 = .ok (.newarray .int, 2) := by decide +kernel
theorem dX9_init_152 : decode cX9_init 152 = .ok (.putfield 73, 3) := by decide +kernel
theorem dX9_init_155 : decode cX9_init 155 = .ok (.aload_n 0, 1) := by decide +kernel
theorem dX9_init_156 : decode cX9_init 156 = .ok (.sipush 1200, 3) := by decide +kernel
theorem dX9_init_159 : decode cX9_init 159 = .ok (.newarray .int, 2) := by decide +kernel
theorem dX9_init_161 : decode cX9_init 161 = .ok (.putfield 76, 3) := by decide +kernel
theorem dX9_init_164 : decode cX9_init 164 = .ok (.aload_n 0, 1) := by decide +kernel
theorem dX9_init_165 : decode cX9_init 165 = .ok (.sipush 1200, 3) := by decide +kernel
theorem dX9_init_168 : decode cX9_init 168 = .ok (.newarray .int, 2) := by decide +kernel
theorem dX9_init_170 : decode cX9_init 170 = .ok (.putfield 79, 3) := by decide +kernel
theorem dX9_init_173 : decode cX9_init 173 = .ok (.aload_n 0, 1) := by decide +kernel
theorem dX9_init_174 : decode cX9_init 174 = .ok (.sipush 1200, 3) := by decide +kernel
theorem dX9_init_177 : decode cX9_init 177 = .ok (.newarray .int, 2) := by decide +kernel
theorem dX9_init_179 : decode cX9_init 179 = .ok (.putfield 82, 3) := by decide +kernel
theorem dX9_init_182 : decode cX9_init 182 = .ok (.aload_n 0, 1) := by decide +kernel
theorem dX9_init_183 : decode cX9_init 183 = .ok (.sipush 1200, 3) := by decide +kernel
theorem dX9_init_186 : decode cX9_init 186 = .ok (.newarray .int, 2) := by decide +kernel
theorem dX9_init_188 : decode cX9_init 188 = .ok (.putfield 85, 3) := by decide +kernel
theorem dX9_init_191 : decode cX9_init 191 = .ok (.aload_n 0, 1) := by decide +kernel
theorem dX9_init_192 : decode cX9_init 192 = .ok (.sipush 1200, 3) := by decide +kernel
theorem dX9_init_195 : decode cX9_init 195 = .ok (.newarray .int, 2) := by decide +kernel
theorem dX9_init_197 : decode cX9_init 197 = .ok (.putfield 88, 3) := by decide +kernel
theorem dX9_init_200 : decode cX9_init 200 = .ok (.aload_n 0, 1) := by decide +kernel
theorem dX9_init_201 : decode cX9_init 201 = .ok (.sipush 160, 3) := by decide +kernel
theorem dX9_init_204 : decode cX9_init 204 = .ok (.newarray .int, 2) := by decide +kernel
theorem dX9_init_206 : decode cX9_init 206 = .ok (.putfield 91, 3) := by decide +kernel
theorem dX9_init_209 : decode cX9_init 209 = .ok (.aload_n 0, 1) := by decide +kernel
theorem dX9_init_210 : decode cX9_init 210 = .ok (.sipush 160, 3) := by decide +kernel
theorem dX9_init_213 : decode cX9_init 213 = .ok (.newarray .int, 2) := by decide +kernel
theorem dX9_init_215 : decode cX9_init 215 = .ok (.putfield 94, 3) := by decide +kernel
theorem dX9_init_218 : decode cX9_init 218 = .ok (.aload_n 0, 1) := by decide +kernel
theorem dX9_init_219 : decode cX9_init 219 = .ok (.sipush 160, 3) := by decide +kernel
theorem dX9_init_222 : decode cX9_init 222 = .ok (.newarray .int, 2) := by decide +kernel
theorem dX9_init_224 : decode cX9_init 224 = .ok (.putfield 97, 3) := by decide +kernel
theorem dX9_init_227 : decode cX9_init 227 = .ok (.aload_n 0, 1) := by decide +kernel
theorem dX9_init_228 : decode cX9_init 228 = .ok (.sipush 160, 3) := by decide +kernel
theorem dX9_init_231 : decode cX9_init 231 = .ok (.newarray .int, 2) := by decide +kernel
theorem dX9_init_233 : decode cX9_init 233 = .ok (.putfield 100, 3) := by decide +kernel
theorem dX9_init_236 : decode cX9_init 236 = .ok (.aload_n 0, 1) := by decide +kernel
theorem dX9_init_237 : decode cX9_init 237 = .ok (.sipush 160, 3) := by decide +kernel
theorem dX9_init_240 : decode cX9_init 240 = .ok (.newarray .int, 2) := by decide +kernel
theorem dX9_init_242 : decode cX9_init 242 = .ok (.putfield 103, 3) := by decide +kernel
theorem dX9_init_245 : decode cX9_init 245 = .ok (.aload_n 0, 1) := by decide +kernel
theorem dX9_init_246 : decode cX9_init 246 = .ok (.ldc 106, 2) := by decide +kernel
theorem dX9_init_248 : decode cX9_init 248 = .ok (.newarray .int, 2) := by decide +kernel
theorem dX9_init_250 : decode cX9_init 250 = .ok (.putfield 107, 3) := by decide +kernel
theorem dX9_init_253 : decode cX9_init 253 = .ok (.aload_n 0, 1) := by decide +kernel
theorem dX9_init_254 : decode cX9_init 254 = .ok (.iconst 0, 1) := by decide +kernel
theorem dX9_init_255 : decode cX9_init 255 = .ok (.putfield 110, 3) := by decide +kernel
theorem dX9_init_258 : decode cX9_init 258 = .ok (.aload_n 0, 1) := by decide +kernel
theorem dX9_init_259 : decode cX9_init 259 = .ok (.iconst 0, 1) := by decide +kernel
theorem dX9_init_260 : decode cX9_init 260 = .ok (.putfield 113, 3) := by decide +kernel
theorem dX9_init_263 : decode cX9_init 263 = .ok (.aload_n 0, 1) := by decide +kernel
theorem dX9_init_264 : decode cX9_init 264 = .ok (.iconst 0, 1) := by decide +kernel
theorem dX9_init_265 : decode cX9_init 265 = .ok (.putfield 116, 3) := by decide +kernel
theorem dX9_init_268 : decode cX9_init 268 = .ok (.aload_n 0, 1) := by decide +kernel
theorem dX9_init_269 : decode cX9_init 269 = .ok (.iconst 0, 1) := by decide +kernel
theorem dX9_init_270 : decode cX9_init 270 = .ok (.putfield 119, 3) := by decide +kernel
theorem dX9_init_273 : decode cX9_init 273 = .ok (.aload_n 0, 1) := by decide +kernel
theorem dX9_init_274 : decode cX9_init 274 = .ok (.iconst 0, 1) := by decide +kernel
theorem dX9_init_275 : decode cX9_init 275 = .ok (.putfield 122, 3) := by decide +kernel
theorem dX9_init_278 : decode cX9_init 278 = .ok (.aload_n 0, 1) := by decide +kernel
theorem dX9_init_279 : decode cX9_init 279 = .ok (.iconst 0, 1) := by decide +kernel
theorem dX9_init_280 : decode cX9_init 280 = .ok (.putfield 125, 3) := by decide +kernel
theorem dX9_init_283 : decode cX9_init 283 = .ok (.aload_n 0, 1) := by decide +kernel
theorem dX9_init_284 : decode cX9_init 284 = .ok (.iconst 0, 1) := by decide +kernel
theorem dX9_init_285 : decode cX9_init 285 = .ok (.putfield 128, 3) := by decide +kernel
theorem dX9_init_288 : decode cX9_init 288 = .ok (.aload_n 0, 1) := by decide +kernel
theorem dX9_init_289 : decode cX9_init 289 = .ok (.sipush 200, 3) := by decide +kernel
theorem dX9_init_292 : decode cX9_init 292 = .ok (.newarray .int, 2) := by decide +kernel
theorem dX9_init_294 : decode cX9_init 294 = .ok (.putfield 132, 3) := by decide +kernel
theorem dX9_init_297 : decode cX9_init 297 = .ok (.aload_n 0, 1) := by decide +kernel
theorem dX9_init_298 : decode cX9_init 298 = .ok (.sipush 200, 3) := by decide +kernel
theorem dX9_init_301 : decode cX9_init 301 = .ok (.newarray .int, 2) := by decide +kernel
theorem dX9_init_303 : decode cX9_init 303 = .ok (.putfield 135, 3) := by decide +kernel
theorem dX9_init_306 : decode cX9_init 306 = .ok (.aload_n 0, 1) := by decide +kernel
theorem dX9_init_307 : decode cX9_init 307 = .ok (.iconst 0, 1) := by decide +kernel
theorem dX9_init_308 : decode cX9_init 308 = .ok (.putfield 138, 3) := by decide +kernel
theorem dX9_init_311 : decode cX9_init 311 = .ok (.aload_n 0, 1) := by decide +kernel
theorem dX9_init_312 : decode cX9_init 312 = .ok (.bipush 40, 2) := by decide +kernel
theorem dX9_init_314 : decode cX9_init 314 = .ok (.newarray .boolean, 2) := by decide +kernel
theorem dX9_init_316 : decode cX9_init 316 = .ok (.putfield 141, 3) := by decide +kernel
theorem dX9_init_319 : decode cX9_init 319 = .ok (.aload_n 0, 1) := by decide +kernel
theorem dX9_init_320 : decode cX9_init 320 = .ok (.bipush 40, 2) := by decide +kernel
theorem dX9_init_322 : decode cX9_init 322 = .ok (.newarray .int, 2) := by decide +kernel
theorem dX9_init_324 : decode cX9_init 324 = .ok (.putfield 144, 3) := by decide +kernel
theorem dX9_init_327 : decode cX9_init 327 = .ok (.aload_n 0, 1) := by decide +kernel
theorem dX9_init_328 : decode cX9_init 328 = .ok (.sipush 240, 3) := by decide +kernel
theorem dX9_init_331 : decode cX9_init 331 = .ok (.newarray .boolean, 2) := by decide +kernel
theorem dX9_init_333 : decode cX9_init 333 = .ok (.putfield 147, 3) := by decide +kernel
theorem dX9_init_336 : decode cX9_init 336 = .ok (.aload_n 0, 1) := by decide +kernel
theorem dX9_init_337 : decode cX9_init 337 = .ok (.bipush 48, 2) := by decide +kernel
theorem dX9_init_339 : decode cX9_init 339 = .ok (.newarray .int, 2) := by decide +kernel
theorem dX9_init_341 : decode cX9_init 341 = .ok (.putfield 150, 3) := by decide +kernel
theorem dX9_init_344 : decode cX9_init 344 = .ok (.aload_n 0, 1) := by decide +kernel
theorem dX9_init_345 : decode cX9_init 345 = .ok (.bipush 48, 2) := by decide +kernel
theorem dX9_init_347 : decode cX9_init 347 = .ok (.newarray .int, 2) := by decide +kernel
theorem dX9_init_349 : decode cX9_init 349 = .ok (.putfield 153, 3) := by decide +kernel
theorem dX9_init_352 : decode cX9_init 352 = .ok (.aload_n 0, 1) := by decide +kernel
theorem dX9_init_353 : decode cX9_init 353 = .ok (.bipush 16, 2) := by decide +kernel
theorem dX9_init_355 : decode cX9_init 355 = .ok (.newarray .int, 2) := by decide +kernel
theorem dX9_init_357 : decode cX9_init 357 = .ok (.putfield 156, 3) := by decide +kernel
theorem dX9_init_360 : decode cX9_init 360 = .ok (.aload_n 0, 1) := by decide +kernel
theorem dX9_init_361 : decode cX9_init 361 = .ok (.bipush 32, 2) := by decide +kernel
theorem dX9_init_363 : decode cX9_init 363 = .ok (.newarray .int, 2) := by decide +kernel
theorem dX9_init_365 : decode cX9_init 365 = .ok (.putfield 159, 3) := by decide +kernel
theorem dX9_init_368 : decode cX9_init 368 = .ok (.aload_n 0, 1) := by decide +kernel
theorem dX9_init_369 : decode cX9_init 369 = .ok (.bipush 32, 2) := by decide +kernel
theorem dX9_init_371 : decode cX9_init 371 = .ok (.newarray .int, 2) := by decide +kernel
theorem dX9_init_373 : decode cX9_init 373 = .ok (.putfield 162, 3) := by decide +kernel
theorem dX9_init_376 : decode cX9_init 376 = .ok (.aload_n 0, 1) := by decide +kernel
theorem dX9_init_377 : decode cX9_init 377 = .ok (.bipush 100, 2) := by decide +kernel
theorem dX9_init_379 : decode cX9_init 379 = .ok (.newarray .int, 2) := by decide +kernel
theorem dX9_init_381 : decode cX9_init 381 = .ok (.putfield 165, 3) := by decide +kernel
theorem dX9_init_384 : decode cX9_init 384 = .ok (.aload_n 0, 1) := by decide +kernel
theorem dX9_init_385 : decode cX9_init 385 = .ok (.iconst 0, 1) := by decide +kernel
theorem dX9_init_386 : decode cX9_init 386 = .ok (.putfield 168, 3) := by decide +kernel
theorem dX9_init_389 : decode cX9_init 389 = .ok (.aload_n 0, 1) := by decide +kernel
theorem dX9_init_390 : decode cX9_init 390 = .ok (.iconst 0, 1) := by decide +kernel
theorem dX9_init_391 : decode cX9_init 391 = .ok (.putfield 171, 3) := by decide +kernel
theorem dX9_init_394 : decode cX9_init 394 = .ok (.aload_n 0, 1) := by decide +kernel
theorem dX9_init_395 : decode cX9_init 395 = .ok (.iconst 0, 1) := by decide +kernel
theorem dX9_init_396 : decode cX9_init 396 = .ok (.putfield 174, 3) := by decide +kernel
theorem dX9_init_399 : decode cX9_init 399 = .ok (.aload_n 0, 1) := by decide +kernel
theorem dX9_init_400 : decode cX9_init 400 = .ok (.iconst 0, 1) := by decide +kernel
theorem dX9_init_401 : decode cX9_init 401 = .ok (.putfield 177, 3) := by decide +kernel
theorem dX9_init_404 : decode cX9_init 404 = .ok (.aload_n 0, 1) := by decide +kernel
theorem dX9_init_405 : decode cX9_init 405 = .ok (.iconst 0, 1) := by decide +kernel
theorem dX9_init_406 : decode cX9_init 406 = .ok (.putfield 180, 3) := by decide +kernel
theorem dX9_init_409 : decode cX9_init 409 = .ok (.aload_n 0, 1) := by decide +kernel
theorem dX9_init_410 : decode cX9_init 410 = .ok (.iconst 0, 1) := by decide +kernel
theorem dX9_init_411 : decode cX9_init 411 = .ok (.putfield 183, 3) := by decide +kernel
theorem dX9_init_414 : decode cX9_init 414 = .ok (.aload_n 0, 1) := by decide +kernel
theorem dX9_init_415 : decode cX9_init 415 = .ok (.iconst 5, 1) := by decide +kernel
theorem dX9_init_416 : decode cX9_init 416 = .ok (.newarray .int, 2) := by decide +kernel
theorem dX9_init_418 : decode cX9_init 418 = .ok (.putfield 186, 3) := by decide +kernel
theorem dX9_init_421 : decode cX9_init 421 = .ok (.aload_n 0, 1) := by decide +kernel
theorem dX9_init_422 : decode cX9_init 422 = .ok (.sipush 300, 3) := by decide +kernel
theorem dX9_init_425 : decode cX9_init 425 = .ok (.newarray .int, 2) := by decide +kernel
theorem dX9_init_427 : decode cX9_init 427 = .ok (.putfield 189, 3) := by decide +kernel
theorem dX9_init_430 : decode cX9_init 430 = .ok (.aload_n 0, 1) := by decide +kernel
theorem dX9_init_431 : decode cX9_init 431 = .ok (.ldc 192, 2) := by decide +kernel
theorem dX9_init_433 : decode cX9_init 433 = .ok (.newarray .int, 2) := by decide +kernel
theorem dX9_init_435 : decode cX9_init 435 = .ok (.putfield 193, 3) := by decide +kernel
theorem dX9_init_438 : decode cX9_init 438 = .ok (.aload_n 0, 1) := by decide +kernel
theorem dX9_init_439 : decode cX9_init 439 = .ok (.iconst 0, 1) := by decide +kernel
theorem dX9_init_440 : decode cX9_init 440 = .ok (.putfield 196, 3) := by decide +kernel
theorem dX9_init_443 : decode cX9_init 443 = .ok (.aload_n 0, 1) := by decide +kernel
theorem dX9_init_444 : decode cX9_init 444 = .ok (.sipush 240, 3) := by decide +kernel
theorem dX9_init_447 : decode cX9_init 447 = .ok (.newarray .int, 2) := by decide +kernel
theorem dX9_init_449 : decode cX9_init 449 = .ok (.putfield 199, 3) := by decide +kernel
theorem dX9_init_452 : decode cX9_init 452 = .ok (.return_, 1) := by decide +kernel
theorem dX9_feed_0 : decode cX9_feed 0 = .ok (.iload_n 3, 1) := by decide +kernel
theorem dX9_feed_1 : decode cX9_feed 1 = .ok (.iconst 1, 1) := by decide +kernel
theorem dX9_feed_2 : decode cX9_feed 2 = .ok (.if_icmp .lt 9, 3) := by decide +kernel
theorem dX9_feed_5 : decode cX9_feed 5 = .ok (.iload_n 3, 1) := by decide +kernel
theorem dX9_feed_6 : decode cX9_feed 6 = .ok (.bipush 8, 2) := by decide +kernel
theorem dX9_feed_8 : decode cX9_feed 8 = .ok (.if_icmp .le 6, 3) := by decide +kernel
theorem dX9_feed_11 : decode cX9_feed 11 = .ok (.bipush (-2), 2) := by decide +kernel
theorem dX9_feed_13 : decode cX9_feed 13 = .ok (.ireturn, 1) := by decide +kernel
theorem dX9_feed_14 : decode cX9_feed 14 = .ok (.aload_n 0, 1) := by decide +kernel
theorem dX9_feed_15 : decode cX9_feed 15 = .ok (.getfield 13, 3) := by decide +kernel
theorem dX9_feed_18 : decode cX9_feed 18 = .ok (.iload_n 3, 1) := by decide +kernel
theorem dX9_feed_19 : decode cX9_feed 19 = .ok (.iadd, 1) := by decide +kernel
theorem dX9_feed_20 : decode cX9_feed 20 = .ok (.sipush 3000, 3) := by decide +kernel
theorem dX9_feed_23 : decode cX9_feed 23 = .ok (.if_icmp .le 6, 3) := by decide +kernel
theorem dX9_feed_26 : decode cX9_feed 26 = .ok (.bipush (-3), 2) := by decide +kernel
theorem dX9_feed_28 : decode cX9_feed 28 = .ok (.ireturn, 1) := by decide +kernel
theorem dX9_feed_29 : decode cX9_feed 29 = .ok (.iload_n 3, 1) := by decide +kernel
theorem dX9_feed_30 : decode cX9_feed 30 = .ok (.iconst 1, 1) := by decide +kernel
theorem dX9_feed_31 : decode cX9_feed 31 = .ok (.isub, 1) := by decide +kernel
theorem dX9_feed_32 : decode cX9_feed 32 = .ok (.istore 4, 2) := by decide +kernel
theorem dX9_feed_34 : decode cX9_feed 34 = .ok (.iload 4, 2) := by decide +kernel
theorem dX9_feed_36 : decode cX9_feed 36 = .ok (.ifCond .lt 40, 3) := by decide +kernel
theorem dX9_feed_39 : decode cX9_feed 39 = .ok (.aload_n 0, 1) := by decide +kernel
theorem dX9_feed_40 : decode cX9_feed 40 = .ok (.getfield 7, 3) := by decide +kernel
theorem dX9_feed_43 : decode cX9_feed 43 = .ok (.aload_n 0, 1) := by decide +kernel
theorem dX9_feed_44 : decode cX9_feed 44 = .ok (.getfield 13, 3) := by decide +kernel
theorem dX9_feed_47 : decode cX9_feed 47 = .ok (.lload_n 1, 1) := by decide +kernel
theorem dX9_feed_48 : decode cX9_feed 48 = .ok (.bipush 8, 2) := by decide +kernel
theorem dX9_feed_50 : decode cX9_feed 50 = .ok (.iload 4, 2) := by decide +kernel
theorem dX9_feed_52 : decode cX9_feed 52 = .ok (.imul, 1) := by decide +kernel
theorem dX9_feed_53 : decode cX9_feed 53 = .ok (.lshr, 1) := by decide +kernel
theorem dX9_feed_54 : decode cX9_feed 54 = .ok (.ldc2_w 202, 3) := by decide +kernel
theorem dX9_feed_57 : decode cX9_feed 57 = .ok (.land, 1) := by decide +kernel
theorem dX9_feed_58 : decode cX9_feed 58 = .ok (.l2i, 1) := by decide +kernel
theorem dX9_feed_59 : decode cX9_feed 59 = .ok (.iastore, 1) := by decide +kernel
theorem dX9_feed_60 : decode cX9_feed 60 = .ok (.aload_n 0, 1) := by decide +kernel
theorem dX9_feed_61 : decode cX9_feed 61 = .ok (.dup, 1) := by decide +kernel
theorem dX9_feed_62 : decode cX9_feed 62 = .ok (.getfield 13, 3) := by decide +kernel
theorem dX9_feed_65 : decode cX9_feed 65 = .ok (.iconst 1, 1) := by decide +kernel
theorem dX9_feed_66 : decode cX9_feed 66 = .ok (.iadd, 1) := by decide +kernel
theorem dX9_feed_67 : decode cX9_feed 67 = .ok (.putfield 13, 3) := by decide +kernel
theorem dX9_feed_70 : decode cX9_feed 70 = .ok (.iinc 4 (-1), 3) := by decide +kernel
theorem dX9_feed_73 : decode cX9_feed 73 = .ok (.goto (-39), 3) := by decide +kernel
theorem dX9_feed_76 : decode cX9_feed 76 = .ok (.aload_n 0, 1) := by decide +kernel
theorem dX9_feed_77 : decode cX9_feed 77 = .ok (.getfield 13, 3) := by decide +kernel
theorem dX9_feed_80 : decode cX9_feed 80 = .ok (.ireturn, 1) := by decide +kernel
theorem dX9_cut_0 : decode cX9_cut 0 = .ok (.iload_n 1, 1) := by decide +kernel
theorem dX9_cut_1 : decode cX9_cut 1 = .ok (.ifCond .lt 11, 3) := by decide +kernel
theorem dX9_cut_4 : decode cX9_cut 4 = .ok (.iload_n 1, 1) := by decide +kernel
theorem dX9_cut_5 : decode cX9_cut 5 = .ok (.aload_n 0, 1) := by decide +kernel
theorem dX9_cut_6 : decode cX9_cut 6 = .ok (.getfield 13, 3) := by decide +kernel
theorem dX9_cut_9 : decode cX9_cut 9 = .ok (.if_icmp .le 6, 3) := by decide +kernel
theorem dX9_cut_12 : decode cX9_cut 12 = .ok (.bipush (-2), 2) := by decide +kernel
theorem dX9_cut_14 : decode cX9_cut 14 = .ok (.ireturn, 1) := by decide +kernel
theorem dX9_cut_15 : decode cX9_cut 15 = .ok (.aload_n 0, 1) := by decide +kernel
theorem dX9_cut_16 : decode cX9_cut 16 = .ok (.iload_n 1, 1) := by decide +kernel
theorem dX9_cut_17 : decode cX9_cut 17 = .ok (.putfield 13, 3) := by decide +kernel
theorem dX9_cut_20 : decode cX9_cut 20 = .ok (.iload_n 1, 1) := by decide +kernel
theorem dX9_cut_21 : decode cX9_cut 21 = .ok (.ireturn, 1) := by decide +kernel
theorem dX9_tape_0 : decode cX9_tape 0 = .ok (.iload_n 1, 1) := by decide +kernel
theorem dX9_tape_1 : decode cX9_tape 1 = .ok (.ifCond .lt 11, 3) := by decide +kernel
theorem dX9_tape_4 : decode cX9_tape 4 = .ok (.iload_n 1, 1) := by decide +kernel
theorem dX9_tape_5 : decode cX9_tape 5 = .ok (.aload_n 0, 1) := by decide +kernel
theorem dX9_tape_6 : decode cX9_tape 6 = .ok (.getfield 13, 3) := by decide +kernel
theorem dX9_tape_9 : decode cX9_tape 9 = .ok (.if_icmp .lt 7, 3) := by decide +kernel
theorem dX9_tape_12 : decode cX9_tape 12 = .ok (.iconst (-1), 1) := by decide +kernel
theorem dX9_tape_13 : decode cX9_tape 13 = .ok (.goto 9, 3) := by decide +kernel
theorem dX9_tape_16 : decode cX9_tape 16 = .ok (.aload_n 0, 1) := by decide +kernel
theorem dX9_tape_17 : decode cX9_tape 17 = .ok (.getfield 7, 3) := by decide +kernel
theorem dX9_tape_20 : decode cX9_tape 20 = .ok (.iload_n 1, 1) := by decide +kernel
theorem dX9_tape_21 : decode cX9_tape 21 = .ok (.iaload, 1) := by decide +kernel
theorem dX9_tape_22 : decode cX9_tape 22 = .ok (.ireturn, 1) := by decide +kernel
theorem dX9_at_0 : decode cX9_at 0 = .ok (.iload_n 1, 1) := by decide +kernel
theorem dX9_at_1 : decode cX9_at 1 = .ok (.aload_n 0, 1) := by decide +kernel
theorem dX9_at_2 : decode cX9_at 2 = .ok (.getfield 13, 3) := by decide +kernel
theorem dX9_at_5 : decode cX9_at 5 = .ok (.if_icmp .ge 12, 3) := by decide +kernel
theorem dX9_at_8 : decode cX9_at 8 = .ok (.aload_n 0, 1) := by decide +kernel
theorem dX9_at_9 : decode cX9_at 9 = .ok (.getfield 7, 3) := by decide +kernel
theorem dX9_at_12 : decode cX9_at 12 = .ok (.iload_n 1, 1) := by decide +kernel
theorem dX9_at_13 : decode cX9_at 13 = .ok (.iaload, 1) := by decide +kernel
theorem dX9_at_14 : decode cX9_at 14 = .ok (.goto 4, 3) := by decide +kernel
theorem dX9_at_17 : decode cX9_at 17 = .ok (.iconst 0, 1) := by decide +kernel
theorem dX9_at_18 : decode cX9_at 18 = .ok (.ireturn, 1) := by decide +kernel
theorem dX9_isLetter_0 : decode cX9_isLetter 0 = .ok (.iload_n 1, 1) := by decide +kernel
theorem dX9_isLetter_1 : decode cX9_isLetter 1 = .ok (.bipush 97, 2) := by decide +kernel
theorem dX9_isLetter_3 : decode cX9_isLetter 3 = .ok (.if_icmp .lt 13, 3) := by decide +kernel
theorem dX9_isLetter_6 : decode cX9_isLetter 6 = .ok (.iload_n 1, 1) := by decide +kernel
theorem dX9_isLetter_7 : decode cX9_isLetter 7 = .ok (.bipush 122, 2) := by decide +kernel
theorem dX9_isLetter_9 : decode cX9_isLetter 9 = .ok (.if_icmp .gt 7, 3) := by decide +kernel
theorem dX9_isLetter_12 : decode cX9_isLetter 12 = .ok (.iconst 1, 1) := by decide +kernel
theorem dX9_isLetter_13 : decode cX9_isLetter 13 = .ok (.goto 4, 3) := by decide +kernel
theorem dX9_isLetter_16 : decode cX9_isLetter 16 = .ok (.iconst 0, 1) := by decide +kernel
theorem dX9_isLetter_17 : decode cX9_isLetter 17 = .ok (.ireturn, 1) := by decide +kernel
theorem dX9_isDigit_0 : decode cX9_isDigit 0 = .ok (.iload_n 1, 1) := by decide +kernel
theorem dX9_isDigit_1 : decode cX9_isDigit 1 = .ok (.bipush 48, 2) := by decide +kernel
theorem dX9_isDigit_3 : decode cX9_isDigit 3 = .ok (.if_icmp .lt 13, 3) := by decide +kernel
theorem dX9_isDigit_6 : decode cX9_isDigit 6 = .ok (.iload_n 1, 1) := by decide +kernel
theorem dX9_isDigit_7 : decode cX9_isDigit 7 = .ok (.bipush 57, 2) := by decide +kernel
theorem dX9_isDigit_9 : decode cX9_isDigit 9 = .ok (.if_icmp .gt 7, 3) := by decide +kernel
theorem dX9_isDigit_12 : decode cX9_isDigit 12 = .ok (.iconst 1, 1) := by decide +kernel
theorem dX9_isDigit_13 : decode cX9_isDigit 13 = .ok (.goto 4, 3) := by decide +kernel
theorem dX9_isDigit_16 : decode cX9_isDigit 16 = .ok (.iconst 0, 1) := by decide +kernel
theorem dX9_isDigit_17 : decode cX9_isDigit 17 = .ok (.ireturn, 1) := by decide +kernel
theorem dX9_next_0 : decode cX9_next 0 = .ok (.aload_n 0, 1) := by decide +kernel
theorem dX9_next_1 : decode cX9_next 1 = .ok (.aload_n 0, 1) := by decide +kernel
theorem dX9_next_2 : decode cX9_next 2 = .ok (.getfield 23, 3) := by decide +kernel
theorem dX9_next_5 : decode cX9_next 5 = .ok (.putfield 20, 3) := by decide +kernel
theorem dX9_next_8 : decode cX9_next 8 = .ok (.aload_n 0, 1) := by decide +kernel
theorem dX9_next_9 : decode cX9_next 9 = .ok (.getfield 20, 3) := by decide +kernel
theorem dX9_next_12 : decode cX9_next 12 = .ok (.aload_n 0, 1) := by decide +kernel
theorem dX9_next_13 : decode cX9_next 13 = .ok (.getfield 13, 3) := by decide +kernel
theorem dX9_next_16 : decode cX9_next 16 = .ok (.if_icmp .ge 44, 3) := by decide +kernel
theorem dX9_next_19 : decode cX9_next 19 = .ok (.aload_n 0, 1) := by decide +kernel
theorem dX9_next_20 : decode cX9_next 20 = .ok (.getfield 7, 3) := by decide +kernel
theorem dX9_next_23 : decode cX9_next 23 = .ok (.aload_n 0, 1) := by decide +kernel
theorem dX9_next_24 : decode cX9_next 24 = .ok (.getfield 20, 3) := by decide +kernel
theorem dX9_next_27 : decode cX9_next 27 = .ok (.iaload, 1) := by decide +kernel
theorem dX9_next_28 : decode cX9_next 28 = .ok (.bipush 32, 2) := by decide +kernel
theorem dX9_next_30 : decode cX9_next 30 = .ok (.if_icmp .eq 17, 3) := by decide +kernel
theorem dX9_next_33 : decode cX9_next 33 = .ok (.aload_n 0, 1) := by decide +kernel
theorem dX9_next_34 : decode cX9_next 34 = .ok (.getfield 7, 3) := by decide +kernel
theorem dX9_next_37 : decode cX9_next 37 = .ok (.aload_n 0, 1) := by decide +kernel
theorem dX9_next_38 : decode cX9_next 38 = .ok (.getfield 20, 3) := by decide +kernel
theorem dX9_next_41 : decode cX9_next 41 = .ok (.iaload, 1) := by decide +kernel
theorem dX9_next_42 : decode cX9_next 42 = .ok (.bipush 10, 2) := by decide +kernel
theorem dX9_next_44 : decode cX9_next 44 = .ok (.if_icmp .ne 16, 3) := by decide +kernel
theorem dX9_next_47 : decode cX9_next 47 = .ok (.aload_n 0, 1) := by decide +kernel
theorem dX9_next_48 : decode cX9_next 48 = .ok (.dup, 1) := by decide +kernel
theorem dX9_next_49 : decode cX9_next 49 = .ok (.getfield 20, 3) := by decide +kernel
theorem dX9_next_52 : decode cX9_next 52 = .ok (.iconst 1, 1) := by decide +kernel
theorem dX9_next_53 : decode cX9_next 53 = .ok (.iadd, 1) := by decide +kernel
theorem dX9_next_54 : decode cX9_next 54 = .ok (.putfield 20, 3) := by decide +kernel
theorem dX9_next_57 : decode cX9_next 57 = .ok (.goto (-49), 3) := by decide +kernel
theorem dX9_next_60 : decode cX9_next 60 = .ok (.aload_n 0, 1) := by decide +kernel
theorem dX9_next_61 : decode cX9_next 61 = .ok (.aload_n 0, 1) := by decide +kernel
theorem dX9_next_62 : decode cX9_next 62 = .ok (.getfield 20, 3) := by decide +kernel
theorem dX9_next_65 : decode cX9_next 65 = .ok (.putfield 23, 3) := by decide +kernel
theorem dX9_next_68 : decode cX9_next 68 = .ok (.aload_n 0, 1) := by decide +kernel
theorem dX9_next_69 : decode cX9_next 69 = .ok (.aload_n 0, 1) := by decide +kernel
theorem dX9_next_70 : decode cX9_next 70 = .ok (.getfield 20, 3) := by decide +kernel
theorem dX9_next_73 : decode cX9_next 73 = .ok (.invokevirtual 204, 3) := by decide +kernel
theorem dX9_next_76 : decode cX9_next 76 = .ok (.istore_n 1, 1) := by decide +kernel
theorem dX9_next_77 : decode cX9_next 77 = .ok (.aload_n 0, 1) := by decide +kernel
theorem dX9_next_78 : decode cX9_next 78 = .ok (.getfield 20, 3) := by decide +kernel
theorem dX9_next_81 : decode cX9_next 81 = .ok (.aload_n 0, 1) := by decide +kernel
theorem dX9_next_82 : decode cX9_next 82 = .ok (.getfield 13, 3) := by decide +kernel
theorem dX9_next_85 : decode cX9_next 85 = .ok (.if_icmp .lt 11, 3) := by decide +kernel
theorem dX9_next_88 : decode cX9_next 88 = .ok (.aload_n 0, 1) := by decide +kernel
theorem dX9_next_89 : decode cX9_next 89 = .ok (.iconst 0, 1) := by decide +kernel
theorem dX9_next_90 : decode cX9_next 90 = .ok (.putfield 17, 3) := by decide +kernel
theorem dX9_next_93 : decode cX9_next 93 = .ok (.goto 190, 3) := by decide +kernel
theorem dX9_next_96 : decode cX9_next 96 = .ok (.aload_n 0, 1) := by decide +kernel
theorem dX9_next_97 : decode cX9_next 97 = .ok (.iload_n 1, 1) := by decide +kernel
theorem dX9_next_98 : decode cX9_next 98 = .ok (.invokevirtual 208, 3) := by decide +kernel
theorem dX9_next_101 : decode cX9_next 101 = .ok (.ifCond .ne 11, 3) := by decide +kernel
theorem dX9_next_104 : decode cX9_next 104 = .ok (.aload_n 0, 1) := by decide +kernel
theorem dX9_next_105 : decode cX9_next 105 = .ok (.iload_n 1, 1) := by decide +kernel
theorem dX9_next_106 : decode cX9_next 106 = .ok (.invokevirtual 212, 3) := by decide +kernel
theorem dX9_next_109 : decode cX9_next 109 = .ok (.ifCond .eq 68, 3) := by decide +kernel
theorem dX9_next_112 : decode cX9_next 112 = .ok (.aload_n 0, 1) := by decide +kernel
theorem dX9_next_113 : decode cX9_next 113 = .ok (.aload_n 0, 1) := by decide +kernel
theorem dX9_next_114 : decode cX9_next 114 = .ok (.aload_n 0, 1) := by decide +kernel
theorem dX9_next_115 : decode cX9_next 115 = .ok (.getfield 23, 3) := by decide +kernel
theorem dX9_next_118 : decode cX9_next 118 = .ok (.invokevirtual 204, 3) := by decide +kernel
theorem dX9_next_121 : decode cX9_next 121 = .ok (.invokevirtual 208, 3) := by decide +kernel
theorem dX9_next_124 : decode cX9_next 124 = .ok (.ifCond .ne 18, 3) := by decide +kernel
theorem dX9_next_127 : decode cX9_next 127 = .ok (.aload_n 0, 1) := by decide +kernel
theorem dX9_next_128 : decode cX9_next 128 = .ok (.aload_n 0, 1) := by decide +kernel
theorem dX9_next_129 : decode cX9_next 129 = .ok (.aload_n 0, 1) := by decide +kernel
theorem dX9_next_130 : decode cX9_next 130 = .ok (.getfield 23, 3) := by decide +kernel
theorem dX9_next_133 : decode cX9_next 133 = .ok (.invokevirtual 204, 3) := by decide +kernel
theorem dX9_next_136 : decode cX9_next 136 = .ok (.invokevirtual 212, 3) := by decide +kernel
theorem dX9_next_139 : decode cX9_next 139 = .ok (.ifCond .eq 16, 3) := by decide +kernel
theorem dX9_next_142 : decode cX9_next 142 = .ok (.aload_n 0, 1) := by decide +kernel
theorem dX9_next_143 : decode cX9_next 143 = .ok (.dup, 1) := by decide +kernel
theorem dX9_next_144 : decode cX9_next 144 = .ok (.getfield 23, 3) := by decide +kernel
theorem dX9_next_147 : decode cX9_next 147 = .ok (.iconst 1, 1) := by decide +kernel
theorem dX9_next_148 : decode cX9_next 148 = .ok (.iadd, 1) := by decide +kernel
theorem dX9_next_149 : decode cX9_next 149 = .ok (.putfield 23, 3) := by decide +kernel
theorem dX9_next_152 : decode cX9_next 152 = .ok (.goto (-40), 3) := by decide +kernel
theorem dX9_next_155 : decode cX9_next 155 = .ok (.aload_n 0, 1) := by decide +kernel
theorem dX9_next_156 : decode cX9_next 156 = .ok (.iload_n 1, 1) := by decide +kernel
theorem dX9_next_157 : decode cX9_next 157 = .ok (.invokevirtual 208, 3) := by decide +kernel
theorem dX9_next_160 : decode cX9_next 160 = .ok (.ifCond .eq 10, 3) := by decide +kernel
theorem dX9_next_163 : decode cX9_next 163 = .ok (.aload_n 0, 1) := by decide +kernel
theorem dX9_next_164 : decode cX9_next 164 = .ok (.invokevirtual 215, 3) := by decide +kernel
theorem dX9_next_167 : decode cX9_next 167 = .ok (.goto 116, 3) := by decide +kernel
theorem dX9_next_170 : decode cX9_next 170 = .ok (.aload_n 0, 1) := by decide +kernel
theorem dX9_next_171 : decode cX9_next 171 = .ok (.invokevirtual 218, 3) := by decide +kernel
theorem dX9_next_174 : decode cX9_next 174 = .ok (.goto 109, 3) := by decide +kernel
theorem dX9_next_177 : decode cX9_next 177 = .ok (.aload_n 0, 1) := by decide +kernel
theorem dX9_next_178 : decode cX9_next 178 = .ok (.dup, 1) := by decide +kernel
theorem dX9_next_179 : decode cX9_next 179 = .ok (.getfield 23, 3) := by decide +kernel
theorem dX9_next_182 : decode cX9_next 182 = .ok (.iconst 1, 1) := by decide +kernel
theorem dX9_next_183 : decode cX9_next 183 = .ok (.iadd, 1) := by decide +kernel
theorem dX9_next_184 : decode cX9_next 184 = .ok (.putfield 23, 3) := by decide +kernel
theorem dX9_next_187 : decode cX9_next 187 = .ok (.iload_n 1, 1) := by decide +kernel
theorem dX9_next_188 : decode cX9_next 188 = .ok (.bipush 58, 2) := by decide +kernel
theorem dX9_next_190 : decode cX9_next 190 = .ok (.if_icmp .eq 69, 3) := by decide +kernel
theorem dX9_next_193 : decode cX9_next 193 = .ok (.iload_n 1, 1) := by decide +kernel
theorem dX9_next_194 : decode cX9_next 194 = .ok (.bipush 59, 2) := by decide +kernel
theorem dX9_next_196 : decode cX9_next 196 = .ok (.if_icmp .eq 63, 3) := by decide +kernel
theorem dX9_next_199 : decode cX9_next 199 = .ok (.iload_n 1, 1) := by decide +kernel
theorem dX9_next_200 : decode cX9_next 200 = .ok (.bipush 61, 2) := by decide +kernel
theorem dX9_next_202 : decode cX9_next 202 = .ok (.if_icmp .eq 57, 3) := by decide +kernel
theorem dX9_next_205 : decode cX9_next 205 = .ok (.iload_n 1, 1) := by decide +kernel
theorem dX9_next_206 : decode cX9_next 206 = .ok (.bipush 43, 2) := by decide +kernel
theorem dX9_next_208 : decode cX9_next 208 = .ok (.if_icmp .eq 51, 3) := by decide +kernel
theorem dX9_next_211 : decode cX9_next 211 = .ok (.iload_n 1, 1) := by decide +kernel
theorem dX9_next_212 : decode cX9_next 212 = .ok (.bipush 45, 2) := by decide +kernel
theorem dX9_next_214 : decode cX9_next 214 = .ok (.if_icmp .eq 45, 3) := by decide +kernel
theorem dX9_next_217 : decode cX9_next 217 = .ok (.iload_n 1, 1) := by decide +kernel
theorem dX9_next_218 : decode cX9_next 218 = .ok (.bipush 42, 2) := by decide +kernel
theorem dX9_next_220 : decode cX9_next 220 = .ok (.if_icmp .eq 39, 3) := by decide +kernel
theorem dX9_next_223 : decode cX9_next 223 = .ok (.iload_n 1, 1) := by decide +kernel
theorem dX9_next_224 : decode cX9_next 224 = .ok (.bipush 47, 2) := by decide +kernel
theorem dX9_next_226 : decode cX9_next 226 = .ok (.if_icmp .eq 33, 3) := by decide +kernel
theorem dX9_next_229 : decode cX9_next 229 = .ok (.iload_n 1, 1) := by decide +kernel
theorem dX9_next_230 : decode cX9_next 230 = .ok (.bipush 38, 2) := by decide +kernel
theorem dX9_next_232 : decode cX9_next 232 = .ok (.if_icmp .eq 27, 3) := by decide +kernel
theorem dX9_next_235 : decode cX9_next 235 = .ok (.iload_n 1, 1) := by decide +kernel
theorem dX9_next_236 : decode cX9_next 236 = .ok (.bipush 94, 2) := by decide +kernel
theorem dX9_next_238 : decode cX9_next 238 = .ok (.if_icmp .eq 21, 3) := by decide +kernel
theorem dX9_next_241 : decode cX9_next 241 = .ok (.iload_n 1, 1) := by decide +kernel
theorem dX9_next_242 : decode cX9_next 242 = .ok (.bipush 60, 2) := by decide +kernel
theorem dX9_next_244 : decode cX9_next 244 = .ok (.if_icmp .eq 15, 3) := by decide +kernel
theorem dX9_next_247 : decode cX9_next 247 = .ok (.iload_n 1, 1) := by decide +kernel
theorem dX9_next_248 : decode cX9_next 248 = .ok (.bipush 91, 2) := by decide +kernel
theorem dX9_next_250 : decode cX9_next 250 = .ok (.if_icmp .eq 9, 3) := by decide +kernel
theorem dX9_next_253 : decode cX9_next 253 = .ok (.iload_n 1, 1) := by decide +kernel
theorem dX9_next_254 : decode cX9_next 254 = .ok (.bipush 93, 2) := by decide +kernel
theorem dX9_next_256 : decode cX9_next 256 = .ok (.if_icmp .ne 7, 3) := by decide +kernel
theorem dX9_next_259 : decode cX9_next 259 = .ok (.iconst 1, 1) := by decide +kernel
theorem dX9_next_260 : decode cX9_next 260 = .ok (.goto 4, 3) := by decide +kernel
theorem dX9_next_263 : decode cX9_next 263 = .ok (.iconst 0, 1) := by decide +kernel
theorem dX9_next_264 : decode cX9_next 264 = .ok (.istore_n 2, 1) := by decide +kernel
theorem dX9_next_265 : decode cX9_next 265 = .ok (.aload_n 0, 1) := by decide +kernel
theorem dX9_next_266 : decode cX9_next 266 = .ok (.iload_n 2, 1) := by decide +kernel
theorem dX9_next_267 : decode cX9_next 267 = .ok (.ifCond .eq 7, 3) := by decide +kernel
theorem dX9_next_270 : decode cX9_next 270 = .ok (.iconst 3, 1) := by decide +kernel
theorem dX9_next_271 : decode cX9_next 271 = .ok (.goto 4, 3) := by decide +kernel
theorem dX9_next_274 : decode cX9_next 274 = .ok (.iconst 4, 1) := by decide +kernel
theorem dX9_next_275 : decode cX9_next 275 = .ok (.putfield 17, 3) := by decide +kernel
theorem dX9_next_278 : decode cX9_next 278 = .ok (.aload_n 0, 1) := by decide +kernel
theorem dX9_next_279 : decode cX9_next 279 = .ok (.iload_n 1, 1) := by decide +kernel
theorem dX9_next_280 : decode cX9_next 280 = .ok (.putfield 29, 3) := by decide +kernel
theorem dX9_next_283 : decode cX9_next 283 = .ok (.return_, 1) := by decide +kernel
theorem dX9_word_0 : decode cX9_word 0 = .ok (.aload_n 0, 1) := by decide +kernel
theorem dX9_word_1 : decode cX9_word 1 = .ok (.getfield 20, 3) := by decide +kernel
theorem dX9_word_4 : decode cX9_word 4 = .ok (.istore_n 1, 1) := by decide +kernel
theorem dX9_word_5 : decode cX9_word 5 = .ok (.aload_n 0, 1) := by decide +kernel
theorem dX9_word_6 : decode cX9_word 6 = .ok (.lconst 0, 1) := by decide +kernel
theorem dX9_word_7 : decode cX9_word 7 = .ok (.putfield 32, 3) := by decide +kernel
theorem dX9_word_10 : decode cX9_word 10 = .ok (.iload_n 1, 1) := by decide +kernel
theorem dX9_word_11 : decode cX9_word 11 = .ok (.aload_n 0, 1) := by decide +kernel
theorem dX9_word_12 : decode cX9_word 12 = .ok (.getfield 23, 3) := by decide +kernel
theorem dX9_word_15 : decode cX9_word 15 = .ok (.if_icmp .ge 52, 3) := by decide +kernel
theorem dX9_word_18 : decode cX9_word 18 = .ok (.aload_n 0, 1) := by decide +kernel
theorem dX9_word_19 : decode cX9_word 19 = .ok (.aload_n 0, 1) := by decide +kernel
theorem dX9_word_20 : decode cX9_word 20 = .ok (.getfield 7, 3) := by decide +kernel
theorem dX9_word_23 : decode cX9_word 23 = .ok (.iload_n 1, 1) := by decide +kernel
theorem dX9_word_24 : decode cX9_word 24 = .ok (.iaload, 1) := by decide +kernel
theorem dX9_word_25 : decode cX9_word 25 = .ok (.invokevirtual 208, 3) := by decide +kernel
theorem dX9_word_28 : decode cX9_word 28 = .ok (.ifCond .eq 39, 3) := by decide +kernel
theorem dX9_word_31 : decode cX9_word 31 = .ok (.iload_n 1, 1) := by decide +kernel
theorem dX9_word_32 : decode cX9_word 32 = .ok (.aload_n 0, 1) := by decide +kernel
theorem dX9_word_33 : decode cX9_word 33 = .ok (.getfield 20, 3) := by decide +kernel
theorem dX9_word_36 : decode cX9_word 36 = .ok (.isub, 1) := by decide +kernel
theorem dX9_word_37 : decode cX9_word 37 = .ok (.bipush 9, 2) := by decide +kernel
theorem dX9_word_39 : decode cX9_word 39 = .ok (.if_icmp .ge 28, 3) := by decide +kernel
theorem dX9_word_42 : decode cX9_word 42 = .ok (.aload_n 0, 1) := by decide +kernel
theorem dX9_word_43 : decode cX9_word 43 = .ok (.aload_n 0, 1) := by decide +kernel
theorem dX9_word_44 : decode cX9_word 44 = .ok (.getfield 32, 3) := by decide +kernel
theorem dX9_word_47 : decode cX9_word 47 = .ok (.bipush 8, 2) := by decide +kernel
theorem dX9_word_49 : decode cX9_word 49 = .ok (.lshl, 1) := by decide +kernel
theorem dX9_word_50 : decode cX9_word 50 = .ok (.aload_n 0, 1) := by decide +kernel
theorem dX9_word_51 : decode cX9_word 51 = .ok (.getfield 7, 3) := by decide +kernel
theorem dX9_word_54 : decode cX9_word 54 = .ok (.iload_n 1, 1) := by decide +kernel
theorem dX9_word_55 : decode cX9_word 55 = .ok (.iaload, 1) := by decide +kernel
theorem dX9_word_56 : decode cX9_word 56 = .ok (.i2l, 1) := by decide +kernel
theorem dX9_word_57 : decode cX9_word 57 = .ok (.lor, 1) := by decide +kernel
theorem dX9_word_58 : decode cX9_word 58 = .ok (.putfield 32, 3) := by decide +kernel
theorem dX9_word_61 : decode cX9_word 61 = .ok (.iinc 1 1, 3) := by decide +kernel
theorem dX9_word_64 : decode cX9_word 64 = .ok (.goto (-54), 3) := by decide +kernel
theorem dX9_word_67 : decode cX9_word 67 = .ok (.iload_n 1, 1) := by decide +kernel
theorem dX9_word_68 : decode cX9_word 68 = .ok (.istore_n 2, 1) := by decide +kernel
theorem dX9_word_69 : decode cX9_word 69 = .ok (.lconst 0, 1) := by decide +kernel
theorem dX9_word_70 : decode cX9_word 70 = .ok (.lstore_n 3, 1) := by decide +kernel
theorem dX9_word_71 : decode cX9_word 71 = .ok (.aload_n 0, 1) := by decide +kernel
theorem dX9_word_72 : decode cX9_word 72 = .ok (.getfield 23, 3) := by decide +kernel
theorem dX9_word_75 : decode cX9_word 75 = .ok (.aload_n 0, 1) := by decide +kernel
theorem dX9_word_76 : decode cX9_word 76 = .ok (.getfield 20, 3) := by decide +kernel
theorem dX9_word_79 : decode cX9_word 79 = .ok (.isub, 1) := by decide +kernel
theorem dX9_word_80 : decode cX9_word 80 = .ok (.bipush 8, 2) := by decide +kernel
theorem dX9_word_82 : decode cX9_word 82 = .ok (.if_icmp .gt 7, 3) := by decide +kernel
theorem dX9_word_85 : decode cX9_word 85 = .ok (.iconst 1, 1) := by decide +kernel
theorem dX9_word_86 : decode cX9_word 86 = .ok (.goto 4, 3) := by decide +kernel
theorem dX9_word_89 : decode cX9_word 89 = .ok (.iconst 0, 1) := by decide +kernel
theorem dX9_word_90 : decode cX9_word 90 = .ok (.istore 5, 2) := by decide +kernel
theorem dX9_word_92 : decode cX9_word 92 = .ok (.iload_n 1, 1) := by decide +kernel
theorem dX9_word_93 : decode cX9_word 93 = .ok (.istore 6, 2) := by decide +kernel
theorem dX9_word_95 : decode cX9_word 95 = .ok (.iload 6, 2) := by decide +kernel
theorem dX9_word_97 : decode cX9_word 97 = .ok (.aload_n 0, 1) := by decide +kernel
theorem dX9_word_98 : decode cX9_word 98 = .ok (.getfield 23, 3) := by decide +kernel
theorem dX9_word_101 : decode cX9_word 101 = .ok (.if_icmp .ge 46, 3) := by decide +kernel
theorem dX9_word_104 : decode cX9_word 104 = .ok (.iload 5, 2) := by decide +kernel
theorem dX9_word_106 : decode cX9_word 106 = .ok (.ifCond .eq 41, 3) := by decide +kernel
theorem dX9_word_109 : decode cX9_word 109 = .ok (.aload_n 0, 1) := by decide +kernel
theorem dX9_word_110 : decode cX9_word 110 = .ok (.aload_n 0, 1) := by decide +kernel
theorem dX9_word_111 : decode cX9_word 111 = .ok (.getfield 7, 3) := by decide +kernel
theorem dX9_word_114 : decode cX9_word 114 = .ok (.iload 6, 2) := by decide +kernel
theorem dX9_word_116 : decode cX9_word 116 = .ok (.iaload, 1) := by decide +kernel
theorem dX9_word_117 : decode cX9_word 117 = .ok (.invokevirtual 212, 3) := by decide +kernel
theorem dX9_word_120 : decode cX9_word 120 = .ok (.istore 5, 2) := by decide +kernel
theorem dX9_word_122 : decode cX9_word 122 = .ok (.ldc2_w 221, 3) := by decide +kernel
theorem dX9_word_125 : decode cX9_word 125 = .ok (.lload_n 3, 1) := by decide +kernel
theorem dX9_word_126 : decode cX9_word 126 = .ok (.lmul, 1) := by decide +kernel
theorem dX9_word_127 : decode cX9_word 127 = .ok (.aload_n 0, 1) := by decide +kernel
theorem dX9_word_128 : decode cX9_word 128 = .ok (.getfield 7, 3) := by decide +kernel
theorem dX9_word_131 : decode cX9_word 131 = .ok (.iload 6, 2) := by decide +kernel
theorem dX9_word_133 : decode cX9_word 133 = .ok (.iaload, 1) := by decide +kernel
theorem dX9_word_134 : decode cX9_word 134 = .ok (.i2l, 1) := by decide +kernel
theorem dX9_word_135 : decode cX9_word 135 = .ok (.ladd, 1) := by decide +kernel
theorem dX9_word_136 : decode cX9_word 136 = .ok (.ldc2_w 223, 3) := by decide +kernel
theorem dX9_word_139 : decode cX9_word 139 = .ok (.lsub, 1) := by decide +kernel
theorem dX9_word_140 : decode cX9_word 140 = .ok (.lstore_n 3, 1) := by decide +kernel
theorem dX9_word_141 : decode cX9_word 141 = .ok (.iinc 6 1, 3) := by decide +kernel
theorem dX9_word_144 : decode cX9_word 144 = .ok (.goto (-49), 3) := by decide +kernel
theorem dX9_word_147 : decode cX9_word 147 = .ok (.aload_n 0, 1) := by decide +kernel
theorem dX9_word_148 : decode cX9_word 148 = .ok (.iload_n 2, 1) := by decide +kernel
theorem dX9_word_149 : decode cX9_word 149 = .ok (.aload_n 0, 1) := by decide +kernel
theorem dX9_word_150 : decode cX9_word 150 = .ok (.getfield 23, 3) := by decide +kernel
theorem dX9_word_153 : decode cX9_word 153 = .ok (.if_icmp .ne 7, 3) := by decide +kernel
theorem dX9_word_156 : decode cX9_word 156 = .ok (.iconst (-1), 1) := by decide +kernel
theorem dX9_word_157 : decode cX9_word 157 = .ok (.goto 31, 3) := by decide +kernel
theorem dX9_word_160 : decode cX9_word 160 = .ok (.aload_n 0, 1) := by decide +kernel
theorem dX9_word_161 : decode cX9_word 161 = .ok (.getfield 23, 3) := by decide +kernel
theorem dX9_word_164 : decode cX9_word 164 = .ok (.iload_n 2, 1) := by decide +kernel
theorem dX9_word_165 : decode cX9_word 165 = .ok (.isub, 1) := by decide +kernel
theorem dX9_word_166 : decode cX9_word 166 = .ok (.iconst 1, 1) := by decide +kernel
theorem dX9_word_167 : decode cX9_word 167 = .ok (.if_icmp .le 19, 3) := by decide +kernel
theorem dX9_word_170 : decode cX9_word 170 = .ok (.aload_n 0, 1) := by decide +kernel
theorem dX9_word_171 : decode cX9_word 171 = .ok (.getfield 7, 3) := by decide +kernel
theorem dX9_word_174 : decode cX9_word 174 = .ok (.iload_n 2, 1) := by decide +kernel
theorem dX9_word_175 : decode cX9_word 175 = .ok (.iaload, 1) := by decide +kernel
theorem dX9_word_176 : decode cX9_word 176 = .ok (.bipush 48, 2) := by decide +kernel
theorem dX9_word_178 : decode cX9_word 178 = .ok (.if_icmp .ne 8, 3) := by decide +kernel
theorem dX9_word_181 : decode cX9_word 181 = .ok (.bipush (-2), 2) := by decide +kernel
theorem dX9_word_183 : decode cX9_word 183 = .ok (.goto 5, 3) := by decide +kernel
theorem dX9_word_186 : decode cX9_word 186 = .ok (.lload_n 3, 1) := by decide +kernel
theorem dX9_word_187 : decode cX9_word 187 = .ok (.l2i, 1) := by decide +kernel
theorem dX9_word_188 : decode cX9_word 188 = .ok (.putfield 26, 3) := by decide +kernel
theorem dX9_word_191 : decode cX9_word 191 = .ok (.aload_n 0, 1) := by decide +kernel
theorem dX9_word_192 : decode cX9_word 192 = .ok (.iload 5, 2) := by decide +kernel
theorem dX9_word_194 : decode cX9_word 194 = .ok (.ifCond .eq 7, 3) := by decide +kernel
theorem dX9_word_197 : decode cX9_word 197 = .ok (.iconst 1, 1) := by decide +kernel
theorem dX9_word_198 : decode cX9_word 198 = .ok (.goto 4, 3) := by decide +kernel
theorem dX9_word_201 : decode cX9_word 201 = .ok (.iconst 4, 1) := by decide +kernel
theorem dX9_word_202 : decode cX9_word 202 = .ok (.putfield 17, 3) := by decide +kernel
theorem dX9_word_205 : decode cX9_word 205 = .ok (.return_, 1) := by decide +kernel
theorem dX9_number_0 : decode cX9_number 0 = .ok (.aload_n 0, 1) := by decide +kernel
theorem dX9_number_1 : decode cX9_number 1 = .ok (.getfield 23, 3) := by decide +kernel
theorem dX9_number_4 : decode cX9_number 4 = .ok (.aload_n 0, 1) := by decide +kernel
theorem dX9_number_5 : decode cX9_number 5 = .ok (.getfield 20, 3) := by decide +kernel
theorem dX9_number_8 : decode cX9_number 8 = .ok (.isub, 1) := by decide +kernel
theorem dX9_number_9 : decode cX9_number 9 = .ok (.bipush 9, 2) := by decide +kernel
theorem dX9_number_11 : decode cX9_number 11 = .ok (.if_icmp .gt 7, 3) := by decide +kernel
theorem dX9_number_14 : decode cX9_number 14 = .ok (.iconst 1, 1) := by decide +kernel
theorem dX9_number_15 : decode cX9_number 15 = .ok (.goto 4, 3) := by decide +kernel
theorem dX9_number_18 : decode cX9_number 18 = .ok (.iconst 0, 1) := by decide +kernel
theorem dX9_number_19 : decode cX9_number 19 = .ok (.istore_n 1, 1) := by decide +kernel
theorem dX9_number_20 : decode cX9_number 20 = .ok (.aload_n 0, 1) := by decide +kernel
theorem dX9_number_21 : decode cX9_number 21 = .ok (.iconst 0, 1) := by decide +kernel
theorem dX9_number_22 : decode cX9_number 22 = .ok (.putfield 29, 3) := by decide +kernel
theorem dX9_number_25 : decode cX9_number 25 = .ok (.aload_n 0, 1) := by decide +kernel
theorem dX9_number_26 : decode cX9_number 26 = .ok (.getfield 20, 3) := by decide +kernel
theorem dX9_number_29 : decode cX9_number 29 = .ok (.istore_n 2, 1) := by decide +kernel
theorem dX9_number_30 : decode cX9_number 30 = .ok (.iload_n 2, 1) := by decide +kernel
theorem dX9_number_31 : decode cX9_number 31 = .ok (.aload_n 0, 1) := by decide +kernel
theorem dX9_number_32 : decode cX9_number 32 = .ok (.getfield 23, 3) := by decide +kernel
theorem dX9_number_35 : decode cX9_number 35 = .ok (.if_icmp .ge 45, 3) := by decide +kernel
theorem dX9_number_38 : decode cX9_number 38 = .ok (.iload_n 1, 1) := by decide +kernel
theorem dX9_number_39 : decode cX9_number 39 = .ok (.ifCond .eq 41, 3) := by decide +kernel
theorem dX9_number_42 : decode cX9_number 42 = .ok (.aload_n 0, 1) := by decide +kernel
theorem dX9_number_43 : decode cX9_number 43 = .ok (.aload_n 0, 1) := by decide +kernel
theorem dX9_number_44 : decode cX9_number 44 = .ok (.getfield 7, 3) := by decide +kernel
theorem dX9_number_47 : decode cX9_number 47 = .ok (.iload_n 2, 1) := by decide +kernel
theorem dX9_number_48 : decode cX9_number 48 = .ok (.iaload, 1) := by decide +kernel
theorem dX9_number_49 : decode cX9_number 49 = .ok (.invokevirtual 212, 3) := by decide +kernel
theorem dX9_number_52 : decode cX9_number 52 = .ok (.istore_n 1, 1) := by decide +kernel
theorem dX9_number_53 : decode cX9_number 53 = .ok (.aload_n 0, 1) := by decide +kernel
theorem dX9_number_54 : decode cX9_number 54 = .ok (.bipush 10, 2) := by decide +kernel
theorem dX9_number_56 : decode cX9_number 56 = .ok (.aload_n 0, 1) := by decide +kernel
theorem dX9_number_57 : decode cX9_number 57 = .ok (.getfield 29, 3) := by decide +kernel
theorem dX9_number_60 : decode cX9_number 60 = .ok (.imul, 1) := by decide +kernel
theorem dX9_number_61 : decode cX9_number 61 = .ok (.aload_n 0, 1) := by decide +kernel
theorem dX9_number_62 : decode cX9_number 62 = .ok (.getfield 7, 3) := by decide +kernel
theorem dX9_number_65 : decode cX9_number 65 = .ok (.iload_n 2, 1) := by decide +kernel
theorem dX9_number_66 : decode cX9_number 66 = .ok (.iaload, 1) := by decide +kernel
theorem dX9_number_67 : decode cX9_number 67 = .ok (.iadd, 1) := by decide +kernel
theorem dX9_number_68 : decode cX9_number 68 = .ok (.bipush 48, 2) := by decide +kernel
theorem dX9_number_70 : decode cX9_number 70 = .ok (.isub, 1) := by decide +kernel
theorem dX9_number_71 : decode cX9_number 71 = .ok (.putfield 29, 3) := by decide +kernel
theorem dX9_number_74 : decode cX9_number 74 = .ok (.iinc 2 1, 3) := by decide +kernel
theorem dX9_number_77 : decode cX9_number 77 = .ok (.goto (-47), 3) := by decide +kernel
theorem dX9_number_80 : decode cX9_number 80 = .ok (.aload_n 0, 1) := by decide +kernel
theorem dX9_number_81 : decode cX9_number 81 = .ok (.iload_n 1, 1) := by decide +kernel
theorem dX9_number_82 : decode cX9_number 82 = .ok (.ifCond .eq 7, 3) := by decide +kernel
theorem dX9_number_85 : decode cX9_number 85 = .ok (.iconst 2, 1) := by decide +kernel
theorem dX9_number_86 : decode cX9_number 86 = .ok (.goto 4, 3) := by decide +kernel
theorem dX9_number_89 : decode cX9_number 89 = .ok (.iconst 4, 1) := by decide +kernel
theorem dX9_number_90 : decode cX9_number 90 = .ok (.putfield 17, 3) := by decide +kernel
theorem dX9_number_93 : decode cX9_number 93 = .ok (.return_, 1) := by decide +kernel
theorem dX9_isSign_0 : decode cX9_isSign 0 = .ok (.aload_n 0, 1) := by decide +kernel
theorem dX9_isSign_1 : decode cX9_isSign 1 = .ok (.getfield 17, 3) := by decide +kernel
theorem dX9_isSign_4 : decode cX9_isSign 4 = .ok (.iconst 3, 1) := by decide +kernel
theorem dX9_isSign_5 : decode cX9_isSign 5 = .ok (.if_icmp .ne 15, 3) := by decide +kernel
theorem dX9_isSign_8 : decode cX9_isSign 8 = .ok (.aload_n 0, 1) := by decide +kernel
theorem dX9_isSign_9 : decode cX9_isSign 9 = .ok (.getfield 29, 3) := by decide +kernel
theorem dX9_isSign_12 : decode cX9_isSign 12 = .ok (.iload_n 1, 1) := by decide +kernel
theorem dX9_isSign_13 : decode cX9_isSign 13 = .ok (.if_icmp .ne 7, 3) := by decide +kernel
theorem dX9_isSign_16 : decode cX9_isSign 16 = .ok (.iconst 1, 1) := by decide +kernel
theorem dX9_isSign_17 : decode cX9_isSign 17 = .ok (.goto 4, 3) := by decide +kernel
theorem dX9_isSign_20 : decode cX9_isSign 20 = .ok (.iconst 0, 1) := by decide +kernel
theorem dX9_isSign_21 : decode cX9_isSign 21 = .ok (.ireturn, 1) := by decide +kernel
theorem dX9_isWord_0 : decode cX9_isWord 0 = .ok (.aload_n 0, 1) := by decide +kernel
theorem dX9_isWord_1 : decode cX9_isWord 1 = .ok (.getfield 17, 3) := by decide +kernel
theorem dX9_isWord_4 : decode cX9_isWord 4 = .ok (.iconst 1, 1) := by decide +kernel
theorem dX9_isWord_5 : decode cX9_isWord 5 = .ok (.if_icmp .ne 24, 3) := by decide +kernel
theorem dX9_isWord_8 : decode cX9_isWord 8 = .ok (.aload_n 0, 1) := by decide +kernel
theorem dX9_isWord_9 : decode cX9_isWord 9 = .ok (.getfield 32, 3) := by decide +kernel
theorem dX9_isWord_12 : decode cX9_isWord 12 = .ok (.lload_n 1, 1) := by decide +kernel
theorem dX9_isWord_13 : decode cX9_isWord 13 = .ok (.lcmp, 1) := by decide +kernel
theorem dX9_isWord_14 : decode cX9_isWord 14 = .ok (.ifCond .ne 15, 3) := by decide +kernel
theorem dX9_isWord_17 : decode cX9_isWord 17 = .ok (.aload_n 0, 1) := by decide +kernel
theorem dX9_isWord_18 : decode cX9_isWord 18 = .ok (.getfield 26, 3) := by decide +kernel
theorem dX9_isWord_21 : decode cX9_isWord 21 = .ok (.iconst (-1), 1) := by decide +kernel
theorem dX9_isWord_22 : decode cX9_isWord 22 = .ok (.if_icmp .ne 7, 3) := by decide +kernel
theorem dX9_isWord_25 : decode cX9_isWord 25 = .ok (.iconst 1, 1) := by decide +kernel
theorem dX9_isWord_26 : decode cX9_isWord 26 = .ok (.goto 4, 3) := by decide +kernel
theorem dX9_isWord_29 : decode cX9_isWord 29 = .ok (.iconst 0, 1) := by decide +kernel
theorem dX9_isWord_30 : decode cX9_isWord 30 = .ok (.ireturn, 1) := by decide +kernel
theorem dX9_numbered_0 : decode cX9_numbered 0 = .ok (.aload_n 0, 1) := by decide +kernel
theorem dX9_numbered_1 : decode cX9_numbered 1 = .ok (.getfield 17, 3) := by decide +kernel
theorem dX9_numbered_4 : decode cX9_numbered 4 = .ok (.iconst 1, 1) := by decide +kernel
theorem dX9_numbered_5 : decode cX9_numbered 5 = .ok (.if_icmp .ne 35, 3) := by decide +kernel
theorem dX9_numbered_8 : decode cX9_numbered 8 = .ok (.aload_n 0, 1) := by decide +kernel
theorem dX9_numbered_9 : decode cX9_numbered 9 = .ok (.getfield 32, 3) := by decide +kernel
theorem dX9_numbered_12 : decode cX9_numbered 12 = .ok (.iload_n 1, 1) := by decide +kernel
theorem dX9_numbered_13 : decode cX9_numbered 13 = .ok (.i2l, 1) := by decide +kernel
theorem dX9_numbered_14 : decode cX9_numbered 14 = .ok (.lcmp, 1) := by decide +kernel
theorem dX9_numbered_15 : decode cX9_numbered 15 = .ok (.ifCond .ne 25, 3) := by decide +kernel
theorem dX9_numbered_18 : decode cX9_numbered 18 = .ok (.aload_n 0, 1) := by decide +kernel
theorem dX9_numbered_19 : decode cX9_numbered 19 = .ok (.getfield 26, 3) := by decide +kernel
theorem dX9_numbered_22 : decode cX9_numbered 22 = .ok (.ifCond .lt 18, 3) := by decide +kernel
theorem dX9_numbered_25 : decode cX9_numbered 25 = .ok (.aload_n 0, 1) := by decide +kernel
theorem dX9_numbered_26 : decode cX9_numbered 26 = .ok (.getfield 26, 3) := by decide +kernel
theorem dX9_numbered_29 : decode cX9_numbered 29 = .ok (.iload_n 2, 1) := by decide +kernel
theorem dX9_numbered_30 : decode cX9_numbered 30 = .ok (.if_icmp .gt 10, 3) := by decide +kernel
theorem dX9_numbered_33 : decode cX9_numbered 33 = .ok (.aload_n 0, 1) := by decide +kernel
theorem dX9_numbered_34 : decode cX9_numbered 34 = .ok (.getfield 26, 3) := by decide +kernel
theorem dX9_numbered_37 : decode cX9_numbered 37 = .ok (.goto 4, 3) := by decide +kernel
theorem dX9_numbered_40 : decode cX9_numbered 40 = .ok (.iconst (-1), 1) := by decide +kernel
theorem dX9_numbered_41 : decode cX9_numbered 41 = .ok (.ireturn, 1) := by decide +kernel
theorem dX9_named_0 : decode cX9_named 0 = .ok (.aload_n 0, 1) := by decide +kernel
theorem dX9_named_1 : decode cX9_named 1 = .ok (.bipush 118, 2) := by decide +kernel
theorem dX9_named_3 : decode cX9_named 3 = .ok (.bipush 15, 2) := by decide +kernel
theorem dX9_named_5 : decode cX9_named 5 = .ok (.invokevirtual 225, 3) := by decide +kernel
theorem dX9_named_8 : decode cX9_named 8 = .ok (.istore_n 1, 1) := by decide +kernel
theorem dX9_named_9 : decode cX9_named 9 = .ok (.aload_n 0, 1) := by decide +kernel
theorem dX9_named_10 : decode cX9_named 10 = .ok (.bipush 116, 2) := by decide +kernel
theorem dX9_named_12 : decode cX9_named 12 = .ok (.bipush 31, 2) := by decide +kernel
theorem dX9_named_14 : decode cX9_named 14 = .ok (.invokevirtual 225, 3) := by decide +kernel
theorem dX9_named_17 : decode cX9_named 17 = .ok (.istore_n 2, 1) := by decide +kernel
theorem dX9_named_18 : decode cX9_named 18 = .ok (.iload_n 1, 1) := by decide +kernel
theorem dX9_named_19 : decode cX9_named 19 = .ok (.ifCond .lt 7, 3) := by decide +kernel
theorem dX9_named_22 : decode cX9_named 22 = .ok (.iload_n 1, 1) := by decide +kernel
theorem dX9_named_23 : decode cX9_named 23 = .ok (.goto 15, 3) := by decide +kernel
theorem dX9_named_26 : decode cX9_named 26 = .ok (.iload_n 2, 1) := by decide +kernel
theorem dX9_named_27 : decode cX9_named 27 = .ok (.ifCond .lt 10, 3) := by decide +kernel
theorem dX9_named_30 : decode cX9_named 30 = .ok (.bipush 16, 2) := by decide +kernel
theorem dX9_named_32 : decode cX9_named 32 = .ok (.iload_n 2, 1) := by decide +kernel
theorem dX9_named_33 : decode cX9_named 33 = .ok (.iadd, 1) := by decide +kernel
theorem dX9_named_34 : decode cX9_named 34 = .ok (.goto 4, 3) := by decide +kernel
theorem dX9_named_37 : decode cX9_named 37 = .ok (.iconst (-1), 1) := by decide +kernel
theorem dX9_named_38 : decode cX9_named 38 = .ok (.ireturn, 1) := by decide +kernel
theorem dX9_must_0 : decode cX9_must 0 = .ok (.iload_n 1, 1) := by decide +kernel
theorem dX9_must_1 : decode cX9_must 1 = .ok (.ifCond .ne 35, 3) := by decide +kernel
theorem dX9_must_4 : decode cX9_must 4 = .ok (.aload_n 0, 1) := by decide +kernel
theorem dX9_must_5 : decode cX9_must 5 = .ok (.getfield 110, 3) := by decide +kernel
theorem dX9_must_8 : decode cX9_must 8 = .ok (.ifCond .ne 28, 3) := by decide +kernel
theorem dX9_must_11 : decode cX9_must 11 = .ok (.aload_n 0, 1) := by decide +kernel
theorem dX9_must_12 : decode cX9_must 12 = .ok (.aload_n 0, 1) := by decide +kernel
theorem dX9_must_13 : decode cX9_must 13 = .ok (.getfield 17, 3) := by decide +kernel
theorem dX9_must_16 : decode cX9_must 16 = .ok (.iconst 4, 1) := by decide +kernel
theorem dX9_must_17 : decode cX9_must 17 = .ok (.if_icmp .ne 7, 3) := by decide +kernel
theorem dX9_must_20 : decode cX9_must 20 = .ok (.iconst 1, 1) := by decide +kernel
theorem dX9_must_21 : decode cX9_must 21 = .ok (.goto 4, 3) := by decide +kernel
theorem dX9_must_24 : decode cX9_must 24 = .ok (.iload_n 2, 1) := by decide +kernel
theorem dX9_must_25 : decode cX9_must 25 = .ok (.putfield 110, 3) := by decide +kernel
theorem dX9_must_28 : decode cX9_must 28 = .ok (.aload_n 0, 1) := by decide +kernel
theorem dX9_must_29 : decode cX9_must 29 = .ok (.aload_n 0, 1) := by decide +kernel
theorem dX9_must_30 : decode cX9_must 30 = .ok (.getfield 20, 3) := by decide +kernel
theorem dX9_must_33 : decode cX9_must 33 = .ok (.putfield 113, 3) := by decide +kernel
theorem dX9_must_36 : decode cX9_must 36 = .ok (.aload_n 0, 1) := by decide +kernel
theorem dX9_must_37 : decode cX9_must 37 = .ok (.getfield 110, 3) := by decide +kernel
theorem dX9_must_40 : decode cX9_must 40 = .ok (.ifCond .ne 7, 3) := by decide +kernel
theorem dX9_must_43 : decode cX9_must 43 = .ok (.iconst 1, 1) := by decide +kernel
theorem dX9_must_44 : decode cX9_must 44 = .ok (.goto 4, 3) := by decide +kernel
theorem dX9_must_47 : decode cX9_must 47 = .ok (.iconst 0, 1) := by decide +kernel
theorem dX9_must_48 : decode cX9_must 48 = .ok (.ireturn, 1) := by decide +kernel
