theorem dX4_init_0 : decode cX4_init 0 = .ok (.aload_n 0, 1) := by decide +kernel
theorem dX4_init_1 : decode cX4_init 1 = .ok (.invokespecial 1, 3) := by decide +kernel
theorem dX4_init_4 : decode cX4_init 4 = .ok (.aload_n 0, 1) := by decide +kernel
theorem dX4_init_5 : decode cX4_init 5 = .ok (.iconst 0, 1) := by decide +kernel
theorem dX4_init_6 : decode cX4_init 6 = .ok (.putfield 7, 3) := by decide +kernel
theorem dX4_init_9 : decode cX4_init 9 = .ok (.aload_n 0, 1) := by decide +kernel
theorem dX4_init_10 : decode cX4_init 10 = .ok (.bipush 100, 2) := by decide +kernel
theorem dX4_init_12 : decode cX4_init 12 = .ok (.newarray .int, 2) := by decide +kernel
theorem dX4_init_14 : decode cX4_init 14 = .ok (.putfield 13, 3) := by decide +kernel
theorem dX4_init_17 : decode cX4_init 17 = .ok (.aload_n 0, 1) := by decide +kernel
theorem dX4_init_18 : decode cX4_init 18 = .ok (.bipush 100, 2) := by decide +kernel
theorem dX4_init_20 : decode cX4_init 20 = .ok (.newarray .int, 2) := by decide +kernel
theorem dX4_init_22 : decode cX4_init 22 = .ok (.putfield 17, 3) := by decide +kernel
theorem dX4_init_25 : decode cX4_init 25 = .ok (.aload_n 0, 1) := by decide +kernel
theorem dX4_init_26 : decode cX4_init 26 = .ok (.iconst 0, 1) := by decide +kernel
theorem dX4_init_27 : decode cX4_init 27 = .ok (.putfield 20, 3) := by decide +kernel
theorem dX4_init_30 : decode cX4_init 30 = .ok (.aload_n 0, 1) := by decide +kernel
theorem dX4_init_31 : decode cX4_init 31 = .ok (.iconst 0, 1) := by decide +kernel
theorem dX4_init_32 : decode cX4_init 32 = .ok (.putfield 23, 3) := by decide +kernel
theorem dX4_init_35 : decode cX4_init 35 = .ok (.aload_n 0, 1) := by decide +kernel
theorem dX4_init_36 : decode cX4_init 36 = .ok (.iconst 0, 1) := by decide +kernel
theorem dX4_init_37 : decode cX4_init 37 = .ok (.putfield 26, 3) := by decide +kernel
theorem dX4_init_40 : decode cX4_init 40 = .ok (.aload_n 0, 1) := by decide +kernel
theorem dX4_init_41 : decode cX4_init 41 = .ok (.bipush 100, 2) := by decide +kernel
theorem dX4_init_43 : decode cX4_init 43 = .ok (.newarray .int, 2) := by decide +kernel
theorem dX4_init_45 : decode cX4_init 45 = .ok (.putfield 29, 3) := by decide +kernel
theorem dX4_init_48 : decode cX4_init 48 = .ok (.aload_n 0, 1) := by decide +kernel
theorem dX4_init_49 : decode cX4_init 49 = .ok (.bipush 100, 2) := by decide +kernel
theorem dX4_init_51 : decode cX4_init 51 = .ok (.newarray .int, 2) := by decide +kernel
theorem dX4_init_53 : decode cX4_init 53 = .ok (.putfield 32, 3) := by decide +kernel
theorem dX4_init_56 : decode cX4_init 56 = .ok (.aload_n 0, 1) := by decide +kernel
theorem dX4_init_57 : decode cX4_init 57 = .ok (.sipush 10201, 3) := by decide +kernel
theorem dX4_init_60 : decode cX4_init 60 = .ok (.newarray .boolean, 2) := by decide +kernel
theorem dX4_init_62 : decode cX4_init 62 = .ok (.putfield 35, 3) := by decide +kernel
theorem dX4_init_65 : decode cX4_init 65 = .ok (.aload_n 0, 1) := by decide +kernel
theorem dX4_init_66 : decode cX4_init 66 = .ok (.iconst 0, 1) := by decide +kernel
theorem dX4_init_67 : decode cX4_init 67 = .ok (.putfield 39, 3) := by decide +kernel
theorem dX4_init_70 : decode cX4_init 70 = .ok (.aload_n 0, 1) := by decide +kernel
theorem dX4_init_71 : decode cX4_init 71 = .ok (.bipush 100, 2) := by decide +kernel
theorem dX4_init_73 : decode cX4_init 73 = .ok (.newarray .int, 2) := by decide +kernel
theorem dX4_init_75 : decode cX4_init 75 = .ok (.putfield 42, 3) := by decide +kernel
theorem dX4_init_78 : decode cX4_init 78 = .ok (.aload_n 0, 1) := by decide +kernel
theorem dX4_init_79 : decode cX4_init 79 = .ok (.bipush 100, 2) := by decide +kernel
theorem dX4_init_81 : decode cX4_init 81 = .ok (.newarray .int, 2) := by decide +kernel
theorem dX4_init_83 : decode cX4_init 83 = .ok (.putfield 45, 3) := by decide +kernel
theorem dX4_init_86 : decode cX4_init 86 = .ok (.return_, 1) := by decide +kernel
theorem dX4_folded_0 : decode cX4_folded 0 = .ok (.iload_n 1, 1) := by decide +kernel
theorem dX4_folded_1 : decode cX4_folded 1 = .ok (.ifCond .ne 22, 3) := by decide +kernel
theorem dX4_folded_4 : decode cX4_folded 4 = .ok (.iload_n 0, 1) := by decide +kernel
theorem dX4_folded_5 : decode cX4_folded 5 = .ok (.bipush 97, 2) := by decide +kernel
theorem dX4_folded_7 : decode cX4_folded 7 = .ok (.if_icmp .lt 16, 3) := by decide +kernel
theorem dX4_folded_10 : decode cX4_folded 10 = .ok (.iload_n 0, 1) := by decide +kernel
theorem dX4_folded_11 : decode cX4_folded 11 = .ok (.bipush 122, 2) := by decide +kernel
theorem dX4_folded_13 : decode cX4_folded 13 = .ok (.if_icmp .gt 10, 3) := by decide +kernel
theorem dX4_folded_16 : decode cX4_folded 16 = .ok (.iload_n 0, 1) := by decide +kernel
theorem dX4_folded_17 : decode cX4_folded 17 = .ok (.bipush 32, 2) := by decide +kernel
theorem dX4_folded_19 : decode cX4_folded 19 = .ok (.isub, 1) := by decide +kernel
theorem dX4_folded_20 : decode cX4_folded 20 = .ok (.goto 4, 3) := by decide +kernel
theorem dX4_folded_23 : decode cX4_folded 23 = .ok (.iload_n 0, 1) := by decide +kernel
theorem dX4_folded_24 : decode cX4_folded 24 = .ok (.ireturn, 1) := by decide +kernel
theorem dX4_digits_0 : decode cX4_digits 0 = .ok (.iconst 0, 1) := by decide +kernel
theorem dX4_digits_1 : decode cX4_digits 1 = .ok (.istore_n 2, 1) := by decide +kernel
theorem dX4_digits_2 : decode cX4_digits 2 = .ok (.iload_n 2, 1) := by decide +kernel
theorem dX4_digits_3 : decode cX4_digits 3 = .ok (.iload_n 1, 1) := by decide +kernel
theorem dX4_digits_4 : decode cX4_digits 4 = .ok (.if_icmp .ge 25, 3) := by decide +kernel
theorem dX4_digits_7 : decode cX4_digits 7 = .ok (.aload_n 0, 1) := by decide +kernel
theorem dX4_digits_8 : decode cX4_digits 8 = .ok (.iload_n 2, 1) := by decide +kernel
theorem dX4_digits_9 : decode cX4_digits 9 = .ok (.iaload, 1) := by decide +kernel
theorem dX4_digits_10 : decode cX4_digits 10 = .ok (.bipush 48, 2) := by decide +kernel
theorem dX4_digits_12 : decode cX4_digits 12 = .ok (.if_icmp .lt 17, 3) := by decide +kernel
theorem dX4_digits_15 : decode cX4_digits 15 = .ok (.aload_n 0, 1) := by decide +kernel
theorem dX4_digits_16 : decode cX4_digits 16 = .ok (.iload_n 2, 1) := by decide +kernel
theorem dX4_digits_17 : decode cX4_digits 17 = .ok (.iaload, 1) := by decide +kernel
theorem dX4_digits_18 : decode cX4_digits 18 = .ok (.bipush 57, 2) := by decide +kernel
theorem dX4_digits_20 : decode cX4_digits 20 = .ok (.if_icmp .gt 9, 3) := by decide +kernel
theorem dX4_digits_23 : decode cX4_digits 23 = .ok (.iinc 2 1, 3) := by decide +kernel
theorem dX4_digits_26 : decode cX4_digits 26 = .ok (.goto (-24), 3) := by decide +kernel
theorem dX4_digits_29 : decode cX4_digits 29 = .ok (.iload_n 2, 1) := by decide +kernel
theorem dX4_digits_30 : decode cX4_digits 30 = .ok (.ireturn, 1) := by decide +kernel
theorem dX4_zeros_0 : decode cX4_zeros 0 = .ok (.iconst 0, 1) := by decide +kernel
theorem dX4_zeros_1 : decode cX4_zeros 1 = .ok (.istore_n 2, 1) := by decide +kernel
theorem dX4_zeros_2 : decode cX4_zeros 2 = .ok (.iload_n 2, 1) := by decide +kernel
theorem dX4_zeros_3 : decode cX4_zeros 3 = .ok (.iload_n 1, 1) := by decide +kernel
theorem dX4_zeros_4 : decode cX4_zeros 4 = .ok (.if_icmp .ge 17, 3) := by decide +kernel
theorem dX4_zeros_7 : decode cX4_zeros 7 = .ok (.aload_n 0, 1) := by decide +kernel
theorem dX4_zeros_8 : decode cX4_zeros 8 = .ok (.iload_n 2, 1) := by decide +kernel
theorem dX4_zeros_9 : decode cX4_zeros 9 = .ok (.iaload, 1) := by decide +kernel
theorem dX4_zeros_10 : decode cX4_zeros 10 = .ok (.bipush 48, 2) := by decide +kernel
theorem dX4_zeros_12 : decode cX4_zeros 12 = .ok (.if_icmp .ne 9, 3) := by decide +kernel
theorem dX4_zeros_15 : decode cX4_zeros 15 = .ok (.iinc 2 1, 3) := by decide +kernel
theorem dX4_zeros_18 : decode cX4_zeros 18 = .ok (.goto (-16), 3) := by decide +kernel
theorem dX4_zeros_21 : decode cX4_zeros 21 = .ok (.iload_n 2, 1) := by decide +kernel
theorem dX4_zeros_22 : decode cX4_zeros 22 = .ok (.ireturn, 1) := by decide +kernel
theorem dX4_byNumbers_0 : decode cX4_byNumbers 0 = .ok (.aload_n 0, 1) := by decide +kernel
theorem dX4_byNumbers_1 : decode cX4_byNumbers 1 = .ok (.getfield 13, 3) := by decide +kernel
theorem dX4_byNumbers_4 : decode cX4_byNumbers 4 = .ok (.aload_n 0, 1) := by decide +kernel
theorem dX4_byNumbers_5 : decode cX4_byNumbers 5 = .ok (.getfield 20, 3) := by decide +kernel
theorem dX4_byNumbers_8 : decode cX4_byNumbers 8 = .ok (.invokestatic 48, 3) := by decide +kernel
theorem dX4_byNumbers_11 : decode cX4_byNumbers 11 = .ok (.istore_n 1, 1) := by decide +kernel
theorem dX4_byNumbers_12 : decode cX4_byNumbers 12 = .ok (.aload_n 0, 1) := by decide +kernel
theorem dX4_byNumbers_13 : decode cX4_byNumbers 13 = .ok (.getfield 17, 3) := by decide +kernel
theorem dX4_byNumbers_16 : decode cX4_byNumbers 16 = .ok (.aload_n 0, 1) := by decide +kernel
theorem dX4_byNumbers_17 : decode cX4_byNumbers 17 = .ok (.getfield 23, 3) := by decide +kernel
theorem dX4_byNumbers_20 : decode cX4_byNumbers 20 = .ok (.invokestatic 48, 3) := by decide +kernel
theorem dX4_byNumbers_23 : decode cX4_byNumbers 23 = .ok (.istore_n 2, 1) := by decide +kernel
theorem dX4_byNumbers_24 : decode cX4_byNumbers 24 = .ok (.iload_n 1, 1) := by decide +kernel
theorem dX4_byNumbers_25 : decode cX4_byNumbers 25 = .ok (.ifCond .eq 7, 3) := by decide +kernel
theorem dX4_byNumbers_28 : decode cX4_byNumbers 28 = .ok (.iload_n 2, 1) := by decide +kernel
theorem dX4_byNumbers_29 : decode cX4_byNumbers 29 = .ok (.ifCond .ne 22, 3) := by decide +kernel
theorem dX4_byNumbers_32 : decode cX4_byNumbers 32 = .ok (.iload_n 1, 1) := by decide +kernel
theorem dX4_byNumbers_33 : decode cX4_byNumbers 33 = .ok (.iload_n 2, 1) := by decide +kernel
theorem dX4_byNumbers_34 : decode cX4_byNumbers 34 = .ok (.if_icmp .ne 7, 3) := by decide +kernel
theorem dX4_byNumbers_37 : decode cX4_byNumbers 37 = .ok (.iconst 0, 1) := by decide +kernel
theorem dX4_byNumbers_38 : decode cX4_byNumbers 38 = .ok (.goto 12, 3) := by decide +kernel
theorem dX4_byNumbers_41 : decode cX4_byNumbers 41 = .ok (.iload_n 1, 1) := by decide +kernel
theorem dX4_byNumbers_42 : decode cX4_byNumbers 42 = .ok (.ifCond .ne 7, 3) := by decide +kernel
theorem dX4_byNumbers_45 : decode cX4_byNumbers 45 = .ok (.iconst 1, 1) := by decide +kernel
theorem dX4_byNumbers_46 : decode cX4_byNumbers 46 = .ok (.goto 4, 3) := by decide +kernel
theorem dX4_byNumbers_49 : decode cX4_byNumbers 49 = .ok (.iconst (-1), 1) := by decide +kernel
theorem dX4_byNumbers_50 : decode cX4_byNumbers 50 = .ok (.ireturn, 1) := by decide +kernel
theorem dX4_byNumbers_51 : decode cX4_byNumbers 51 = .ok (.aload_n 0, 1) := by decide +kernel
theorem dX4_byNumbers_52 : decode cX4_byNumbers 52 = .ok (.getfield 13, 3) := by decide +kernel
theorem dX4_byNumbers_55 : decode cX4_byNumbers 55 = .ok (.iload_n 1, 1) := by decide +kernel
theorem dX4_byNumbers_56 : decode cX4_byNumbers 56 = .ok (.invokestatic 52, 3) := by decide +kernel
theorem dX4_byNumbers_59 : decode cX4_byNumbers 59 = .ok (.istore_n 3, 1) := by decide +kernel
theorem dX4_byNumbers_60 : decode cX4_byNumbers 60 = .ok (.aload_n 0, 1) := by decide +kernel
theorem dX4_byNumbers_61 : decode cX4_byNumbers 61 = .ok (.getfield 17, 3) := by decide +kernel
theorem dX4_byNumbers_64 : decode cX4_byNumbers 64 = .ok (.iload_n 2, 1) := by decide +kernel
theorem dX4_byNumbers_65 : decode cX4_byNumbers 65 = .ok (.invokestatic 52, 3) := by decide +kernel
theorem dX4_byNumbers_68 : decode cX4_byNumbers 68 = .ok (.istore 4, 2) := by decide +kernel
theorem dX4_byNumbers_70 : decode cX4_byNumbers 70 = .ok (.iload_n 1, 1) := by decide +kernel
theorem dX4_byNumbers_71 : decode cX4_byNumbers 71 = .ok (.iload_n 3, 1) := by decide +kernel
theorem dX4_byNumbers_72 : decode cX4_byNumbers 72 = .ok (.isub, 1) := by decide +kernel
theorem dX4_byNumbers_73 : decode cX4_byNumbers 73 = .ok (.iload_n 2, 1) := by decide +kernel
theorem dX4_byNumbers_74 : decode cX4_byNumbers 74 = .ok (.iload 4, 2) := by decide +kernel
theorem dX4_byNumbers_76 : decode cX4_byNumbers 76 = .ok (.isub, 1) := by decide +kernel
theorem dX4_byNumbers_77 : decode cX4_byNumbers 77 = .ok (.if_icmp .eq 19, 3) := by decide +kernel
theorem dX4_byNumbers_80 : decode cX4_byNumbers 80 = .ok (.iload_n 1, 1) := by decide +kernel
theorem dX4_byNumbers_81 : decode cX4_byNumbers 81 = .ok (.iload_n 3, 1) := by decide +kernel
theorem dX4_byNumbers_82 : decode cX4_byNumbers 82 = .ok (.isub, 1) := by decide +kernel
theorem dX4_byNumbers_83 : decode cX4_byNumbers 83 = .ok (.iload_n 2, 1) := by decide +kernel
theorem dX4_byNumbers_84 : decode cX4_byNumbers 84 = .ok (.iload 4, 2) := by decide +kernel
theorem dX4_byNumbers_86 : decode cX4_byNumbers 86 = .ok (.isub, 1) := by decide +kernel
theorem dX4_byNumbers_87 : decode cX4_byNumbers 87 = .ok (.if_icmp .ge 7, 3) := by decide +kernel
theorem dX4_byNumbers_90 : decode cX4_byNumbers 90 = .ok (.iconst (-1), 1) := by decide +kernel
theorem dX4_byNumbers_91 : decode cX4_byNumbers 91 = .ok (.goto 4, 3) := by decide +kernel
theorem dX4_byNumbers_94 : decode cX4_byNumbers 94 = .ok (.iconst 1, 1) := by decide +kernel
theorem dX4_byNumbers_95 : decode cX4_byNumbers 95 = .ok (.ireturn, 1) := by decide +kernel
theorem dX4_byNumbers_96 : decode cX4_byNumbers 96 = .ok (.iload_n 3, 1) := by decide +kernel
theorem dX4_byNumbers_97 : decode cX4_byNumbers 97 = .ok (.iload_n 1, 1) := by decide +kernel
theorem dX4_byNumbers_98 : decode cX4_byNumbers 98 = .ok (.if_icmp .ge 50, 3) := by decide +kernel
theorem dX4_byNumbers_101 : decode cX4_byNumbers 101 = .ok (.aload_n 0, 1) := by decide +kernel
theorem dX4_byNumbers_102 : decode cX4_byNumbers 102 = .ok (.getfield 13, 3) := by decide +kernel
theorem dX4_byNumbers_105 : decode cX4_byNumbers 105 = .ok (.iload_n 3, 1) := by decide +kernel
theorem dX4_byNumbers_106 : decode cX4_byNumbers 106 = .ok (.iaload, 1) := by decide +kernel
theorem dX4_byNumbers_107 : decode cX4_byNumbers 107 = .ok (.aload_n 0, 1) := by decide +kernel
theorem dX4_byNumbers_108 : decode cX4_byNumbers 108 = .ok (.getfield 17, 3) := by decide +kernel
theorem dX4_byNumbers_111 : decode cX4_byNumbers 111 = .ok (.iload 4, 2) := by decide +kernel
theorem dX4_byNumbers_113 : decode cX4_byNumbers 113 = .ok (.iaload, 1) := by decide +kernel
theorem dX4_byNumbers_114 : decode cX4_byNumbers 114 = .ok (.if_icmp .eq 25, 3) := by decide +kernel
theorem dX4_byNumbers_117 : decode cX4_byNumbers 117 = .ok (.aload_n 0, 1) := by decide +kernel
theorem dX4_byNumbers_118 : decode cX4_byNumbers 118 = .ok (.getfield 13, 3) := by decide +kernel
theorem dX4_byNumbers_121 : decode cX4_byNumbers 121 = .ok (.iload_n 3, 1) := by decide +kernel
theorem dX4_byNumbers_122 : decode cX4_byNumbers 122 = .ok (.iaload, 1) := by decide +kernel
theorem dX4_byNumbers_123 : decode cX4_byNumbers 123 = .ok (.aload_n 0, 1) := by decide +kernel
theorem dX4_byNumbers_124 : decode cX4_byNumbers 124 = .ok (.getfield 17, 3) := by decide +kernel
theorem dX4_byNumbers_127 : decode cX4_byNumbers 127 = .ok (.iload 4, 2) := by decide +kernel
theorem dX4_byNumbers_129 : decode cX4_byNumbers 129 = .ok (.iaload, 1) := by decide +kernel
theorem dX4_byNumbers_130 : decode cX4_byNumbers 130 = .ok (.if_icmp .ge 7, 3) := by decide +kernel
theorem dX4_byNumbers_133 : decode cX4_byNumbers 133 = .ok (.iconst (-1), 1) := by decide +kernel
theorem dX4_byNumbers_134 : decode cX4_byNumbers 134 = .ok (.goto 4, 3) := by decide +kernel
theorem dX4_byNumbers_137 : decode cX4_byNumbers 137 = .ok (.iconst 1, 1) := by decide +kernel
theorem dX4_byNumbers_138 : decode cX4_byNumbers 138 = .ok (.ireturn, 1) := by decide +kernel
theorem dX4_byNumbers_139 : decode cX4_byNumbers 139 = .ok (.iinc 3 1, 3) := by decide +kernel
theorem dX4_byNumbers_142 : decode cX4_byNumbers 142 = .ok (.iinc 4 1, 3) := by decide +kernel
theorem dX4_byNumbers_145 : decode cX4_byNumbers 145 = .ok (.goto (-49), 3) := by decide +kernel
theorem dX4_byNumbers_148 : decode cX4_byNumbers 148 = .ok (.iconst 0, 1) := by decide +kernel
theorem dX4_byNumbers_149 : decode cX4_byNumbers 149 = .ok (.ireturn, 1) := by decide +kernel
theorem dX4_compare_0 : decode cX4_compare 0 = .ok (.iload_n 1, 1) := by decide +kernel
theorem dX4_compare_1 : decode cX4_compare 1 = .ok (.iconst 2, 1) := by decide +kernel
theorem dX4_compare_2 : decode cX4_compare 2 = .ok (.if_icmp .ne 8, 3) := by decide +kernel
theorem dX4_compare_5 : decode cX4_compare 5 = .ok (.aload_n 0, 1) := by decide +kernel
theorem dX4_compare_6 : decode cX4_compare 6 = .ok (.invokevirtual 55, 3) := by decide +kernel
theorem dX4_compare_9 : decode cX4_compare 9 = .ok (.ireturn, 1) := by decide +kernel
theorem dX4_compare_10 : decode cX4_compare 10 = .ok (.iconst 0, 1) := by decide +kernel
theorem dX4_compare_11 : decode cX4_compare 11 = .ok (.istore_n 2, 1) := by decide +kernel
theorem dX4_compare_12 : decode cX4_compare 12 = .ok (.iload_n 2, 1) := by decide +kernel
theorem dX4_compare_13 : decode cX4_compare 13 = .ok (.aload_n 0, 1) := by decide +kernel
theorem dX4_compare_14 : decode cX4_compare 14 = .ok (.getfield 20, 3) := by decide +kernel
theorem dX4_compare_17 : decode cX4_compare 17 = .ok (.if_icmp .ge 58, 3) := by decide +kernel
theorem dX4_compare_20 : decode cX4_compare 20 = .ok (.iload_n 2, 1) := by decide +kernel
theorem dX4_compare_21 : decode cX4_compare 21 = .ok (.aload_n 0, 1) := by decide +kernel
theorem dX4_compare_22 : decode cX4_compare 22 = .ok (.getfield 23, 3) := by decide +kernel
theorem dX4_compare_25 : decode cX4_compare 25 = .ok (.if_icmp .ge 50, 3) := by decide +kernel
theorem dX4_compare_28 : decode cX4_compare 28 = .ok (.aload_n 0, 1) := by decide +kernel
theorem dX4_compare_29 : decode cX4_compare 29 = .ok (.getfield 13, 3) := by decide +kernel
theorem dX4_compare_32 : decode cX4_compare 32 = .ok (.iload_n 2, 1) := by decide +kernel
theorem dX4_compare_33 : decode cX4_compare 33 = .ok (.iaload, 1) := by decide +kernel
theorem dX4_compare_34 : decode cX4_compare 34 = .ok (.iload_n 1, 1) := by decide +kernel
theorem dX4_compare_35 : decode cX4_compare 35 = .ok (.invokestatic 59, 3) := by decide +kernel
theorem dX4_compare_38 : decode cX4_compare 38 = .ok (.istore_n 3, 1) := by decide +kernel
theorem dX4_compare_39 : decode cX4_compare 39 = .ok (.aload_n 0, 1) := by decide +kernel
theorem dX4_compare_40 : decode cX4_compare 40 = .ok (.getfield 17, 3) := by decide +kernel
theorem dX4_compare_43 : decode cX4_compare 43 = .ok (.iload_n 2, 1) := by decide +kernel
theorem dX4_compare_44 : decode cX4_compare 44 = .ok (.iaload, 1) := by decide +kernel
theorem dX4_compare_45 : decode cX4_compare 45 = .ok (.iload_n 1, 1) := by decide +kernel
theorem dX4_compare_46 : decode cX4_compare 46 = .ok (.invokestatic 59, 3) := by decide +kernel
theorem dX4_compare_49 : decode cX4_compare 49 = .ok (.istore 4, 2) := by decide +kernel
theorem dX4_compare_51 : decode cX4_compare 51 = .ok (.iload_n 3, 1) := by decide +kernel
theorem dX4_compare_52 : decode cX4_compare 52 = .ok (.iload 4, 2) := by decide +kernel
theorem dX4_compare_54 : decode cX4_compare 54 = .ok (.if_icmp .eq 15, 3) := by decide +kernel
theorem dX4_compare_57 : decode cX4_compare 57 = .ok (.iload_n 3, 1) := by decide +kernel
theorem dX4_compare_58 : decode cX4_compare 58 = .ok (.iload 4, 2) := by decide +kernel
theorem dX4_compare_60 : decode cX4_compare 60 = .ok (.if_icmp .ge 7, 3) := by decide +kernel
theorem dX4_compare_63 : decode cX4_compare 63 = .ok (.iconst (-1), 1) := by decide +kernel
theorem dX4_compare_64 : decode cX4_compare 64 = .ok (.goto 4, 3) := by decide +kernel
theorem dX4_compare_67 : decode cX4_compare 67 = .ok (.iconst 1, 1) := by decide +kernel
theorem dX4_compare_68 : decode cX4_compare 68 = .ok (.ireturn, 1) := by decide +kernel
theorem dX4_compare_69 : decode cX4_compare 69 = .ok (.iinc 2 1, 3) := by decide +kernel
theorem dX4_compare_72 : decode cX4_compare 72 = .ok (.goto (-60), 3) := by decide +kernel
theorem dX4_compare_75 : decode cX4_compare 75 = .ok (.aload_n 0, 1) := by decide +kernel
theorem dX4_compare_76 : decode cX4_compare 76 = .ok (.getfield 20, 3) := by decide +kernel
theorem dX4_compare_79 : decode cX4_compare 79 = .ok (.aload_n 0, 1) := by decide +kernel
theorem dX4_compare_80 : decode cX4_compare 80 = .ok (.getfield 23, 3) := by decide +kernel
theorem dX4_compare_83 : decode cX4_compare 83 = .ok (.if_icmp .ge 7, 3) := by decide +kernel
theorem dX4_compare_86 : decode cX4_compare 86 = .ok (.iconst (-1), 1) := by decide +kernel
theorem dX4_compare_87 : decode cX4_compare 87 = .ok (.goto 19, 3) := by decide +kernel
theorem dX4_compare_90 : decode cX4_compare 90 = .ok (.aload_n 0, 1) := by decide +kernel
theorem dX4_compare_91 : decode cX4_compare 91 = .ok (.getfield 20, 3) := by decide +kernel
theorem dX4_compare_94 : decode cX4_compare 94 = .ok (.aload_n 0, 1) := by decide +kernel
theorem dX4_compare_95 : decode cX4_compare 95 = .ok (.getfield 23, 3) := by decide +kernel
theorem dX4_compare_98 : decode cX4_compare 98 = .ok (.if_icmp .le 7, 3) := by decide +kernel
theorem dX4_compare_101 : decode cX4_compare 101 = .ok (.iconst 1, 1) := by decide +kernel
theorem dX4_compare_102 : decode cX4_compare 102 = .ok (.goto 4, 3) := by decide +kernel
theorem dX4_compare_105 : decode cX4_compare 105 = .ok (.iconst 0, 1) := by decide +kernel
theorem dX4_compare_106 : decode cX4_compare 106 = .ok (.ireturn, 1) := by decide +kernel
theorem dX4_contains_0 : decode cX4_contains 0 = .ok (.iconst 0, 1) := by decide +kernel
theorem dX4_contains_1 : decode cX4_contains 1 = .ok (.istore_n 2, 1) := by decide +kernel
theorem dX4_contains_2 : decode cX4_contains 2 = .ok (.iload_n 2, 1) := by decide +kernel
theorem dX4_contains_3 : decode cX4_contains 3 = .ok (.aload_n 0, 1) := by decide +kernel
theorem dX4_contains_4 : decode cX4_contains 4 = .ok (.getfield 23, 3) := by decide +kernel
theorem dX4_contains_7 : decode cX4_contains 7 = .ok (.iadd, 1) := by decide +kernel
theorem dX4_contains_8 : decode cX4_contains 8 = .ok (.aload_n 0, 1) := by decide +kernel
theorem dX4_contains_9 : decode cX4_contains 9 = .ok (.getfield 20, 3) := by decide +kernel
theorem dX4_contains_12 : decode cX4_contains 12 = .ok (.if_icmp .gt 82, 3) := by decide +kernel
theorem dX4_contains_15 : decode cX4_contains 15 = .ok (.iconst 0, 1) := by decide +kernel
theorem dX4_contains_16 : decode cX4_contains 16 = .ok (.istore_n 3, 1) := by decide +kernel
theorem dX4_contains_17 : decode cX4_contains 17 = .ok (.iload_n 3, 1) := by decide +kernel
theorem dX4_contains_18 : decode cX4_contains 18 = .ok (.aload_n 0, 1) := by decide +kernel
theorem dX4_contains_19 : decode cX4_contains 19 = .ok (.getfield 23, 3) := by decide +kernel
theorem dX4_contains_22 : decode cX4_contains 22 = .ok (.if_icmp .ge 34, 3) := by decide +kernel
theorem dX4_contains_25 : decode cX4_contains 25 = .ok (.aload_n 0, 1) := by decide +kernel
theorem dX4_contains_26 : decode cX4_contains 26 = .ok (.getfield 13, 3) := by decide +kernel
theorem dX4_contains_29 : decode cX4_contains 29 = .ok (.iload_n 2, 1) := by decide +kernel
theorem dX4_contains_30 : decode cX4_contains 30 = .ok (.iload_n 3, 1) := by decide +kernel
theorem dX4_contains_31 : decode cX4_contains 31 = .ok (.iadd, 1) := by decide +kernel
theorem dX4_contains_32 : decode cX4_contains 32 = .ok (.iaload, 1) := by decide +kernel
theorem dX4_contains_33 : decode cX4_contains 33 = .ok (.iload_n 1, 1) := by decide +kernel
theorem dX4_contains_34 : decode cX4_contains 34 = .ok (.invokestatic 59, 3) := by decide +kernel
theorem dX4_contains_37 : decode cX4_contains 37 = .ok (.aload_n 0, 1) := by decide +kernel
theorem dX4_contains_38 : decode cX4_contains 38 = .ok (.getfield 17, 3) := by decide +kernel
theorem dX4_contains_41 : decode cX4_contains 41 = .ok (.iload_n 3, 1) := by decide +kernel
theorem dX4_contains_42 : decode cX4_contains 42 = .ok (.iaload, 1) := by decide +kernel
theorem dX4_contains_43 : decode cX4_contains 43 = .ok (.iload_n 1, 1) := by decide +kernel
theorem dX4_contains_44 : decode cX4_contains 44 = .ok (.invokestatic 59, 3) := by decide +kernel
theorem dX4_contains_47 : decode cX4_contains 47 = .ok (.if_icmp .ne 9, 3) := by decide +kernel
theorem dX4_contains_50 : decode cX4_contains 50 = .ok (.iinc 3 1, 3) := by decide +kernel
theorem dX4_contains_53 : decode cX4_contains 53 = .ok (.goto (-36), 3) := by decide +kernel
theorem dX4_contains_56 : decode cX4_contains 56 = .ok (.iload_n 3, 1) := by decide +kernel
theorem dX4_contains_57 : decode cX4_contains 57 = .ok (.aload_n 0, 1) := by decide +kernel
theorem dX4_contains_58 : decode cX4_contains 58 = .ok (.getfield 23, 3) := by decide +kernel
theorem dX4_contains_61 : decode cX4_contains 61 = .ok (.if_icmp .ne 27, 3) := by decide +kernel
theorem dX4_contains_64 : decode cX4_contains 64 = .ok (.aload_n 0, 1) := by decide +kernel
theorem dX4_contains_65 : decode cX4_contains 65 = .ok (.getfield 42, 3) := by decide +kernel
theorem dX4_contains_68 : decode cX4_contains 68 = .ok (.iconst 0, 1) := by decide +kernel
theorem dX4_contains_69 : decode cX4_contains 69 = .ok (.iload_n 2, 1) := by decide +kernel
theorem dX4_contains_70 : decode cX4_contains 70 = .ok (.iastore, 1) := by decide +kernel
theorem dX4_contains_71 : decode cX4_contains 71 = .ok (.aload_n 0, 1) := by decide +kernel
theorem dX4_contains_72 : decode cX4_contains 72 = .ok (.getfield 45, 3) := by decide +kernel
theorem dX4_contains_75 : decode cX4_contains 75 = .ok (.iconst 0, 1) := by decide +kernel
theorem dX4_contains_76 : decode cX4_contains 76 = .ok (.aload_n 0, 1) := by decide +kernel
theorem dX4_contains_77 : decode cX4_contains 77 = .ok (.getfield 23, 3) := by decide +kernel
theorem dX4_contains_80 : decode cX4_contains 80 = .ok (.iastore, 1) := by decide +kernel
theorem dX4_contains_81 : decode cX4_contains 81 = .ok (.aload_n 0, 1) := by decide +kernel
theorem dX4_contains_82 : decode cX4_contains 82 = .ok (.iconst 1, 1) := by decide +kernel
theorem dX4_contains_83 : decode cX4_contains 83 = .ok (.putfield 39, 3) := by decide +kernel
theorem dX4_contains_86 : decode cX4_contains 86 = .ok (.iconst 1, 1) := by decide +kernel
theorem dX4_contains_87 : decode cX4_contains 87 = .ok (.ireturn, 1) := by decide +kernel
theorem dX4_contains_88 : decode cX4_contains 88 = .ok (.iinc 2 1, 3) := by decide +kernel
theorem dX4_contains_91 : decode cX4_contains 91 = .ok (.goto (-89), 3) := by decide +kernel
theorem dX4_contains_94 : decode cX4_contains 94 = .ok (.iconst 0, 1) := by decide +kernel
theorem dX4_contains_95 : decode cX4_contains 95 = .ok (.ireturn, 1) := by decide +kernel
theorem dX4_findSigns_0 : decode cX4_findSigns 0 = .ok (.aload_n 0, 1) := by decide +kernel
theorem dX4_findSigns_1 : decode cX4_findSigns 1 = .ok (.iconst 0, 1) := by decide +kernel
theorem dX4_findSigns_2 : decode cX4_findSigns 2 = .ok (.putfield 26, 3) := by decide +kernel
theorem dX4_findSigns_5 : decode cX4_findSigns 5 = .ok (.iconst 0, 1) := by decide +kernel
theorem dX4_findSigns_6 : decode cX4_findSigns 6 = .ok (.istore_n 1, 1) := by decide +kernel
theorem dX4_findSigns_7 : decode cX4_findSigns 7 = .ok (.iload_n 1, 1) := by decide +kernel
theorem dX4_findSigns_8 : decode cX4_findSigns 8 = .ok (.aload_n 0, 1) := by decide +kernel
theorem dX4_findSigns_9 : decode cX4_findSigns 9 = .ok (.getfield 23, 3) := by decide +kernel
theorem dX4_findSigns_12 : decode cX4_findSigns 12 = .ok (.if_icmp .ge 116, 3) := by decide +kernel
theorem dX4_findSigns_15 : decode cX4_findSigns 15 = .ok (.aload_n 0, 1) := by decide +kernel
theorem dX4_findSigns_16 : decode cX4_findSigns 16 = .ok (.getfield 17, 3) := by decide +kernel
theorem dX4_findSigns_19 : decode cX4_findSigns 19 = .ok (.iload_n 1, 1) := by decide +kernel
theorem dX4_findSigns_20 : decode cX4_findSigns 20 = .ok (.iaload, 1) := by decide +kernel
theorem dX4_findSigns_21 : decode cX4_findSigns 21 = .ok (.bipush 92, 2) := by decide +kernel
theorem dX4_findSigns_23 : decode cX4_findSigns 23 = .ok (.if_icmp .ne 17, 3) := by decide +kernel
theorem dX4_findSigns_26 : decode cX4_findSigns 26 = .ok (.iload_n 1, 1) := by decide +kernel
theorem dX4_findSigns_27 : decode cX4_findSigns 27 = .ok (.iconst 1, 1) := by decide +kernel
theorem dX4_findSigns_28 : decode cX4_findSigns 28 = .ok (.iadd, 1) := by decide +kernel
theorem dX4_findSigns_29 : decode cX4_findSigns 29 = .ok (.aload_n 0, 1) := by decide +kernel
theorem dX4_findSigns_30 : decode cX4_findSigns 30 = .ok (.getfield 23, 3) := by decide +kernel
theorem dX4_findSigns_33 : decode cX4_findSigns 33 = .ok (.if_icmp .ge 7, 3) := by decide +kernel
theorem dX4_findSigns_36 : decode cX4_findSigns 36 = .ok (.iconst 1, 1) := by decide +kernel
theorem dX4_findSigns_37 : decode cX4_findSigns 37 = .ok (.goto 4, 3) := by decide +kernel
theorem dX4_findSigns_40 : decode cX4_findSigns 40 = .ok (.iconst 0, 1) := by decide +kernel
theorem dX4_findSigns_41 : decode cX4_findSigns 41 = .ok (.istore_n 2, 1) := by decide +kernel
theorem dX4_findSigns_42 : decode cX4_findSigns 42 = .ok (.iload_n 2, 1) := by decide +kernel
theorem dX4_findSigns_43 : decode cX4_findSigns 43 = .ok (.ifCond .eq 6, 3) := by decide +kernel
theorem dX4_findSigns_46 : decode cX4_findSigns 46 = .ok (.iinc 1 1, 3) := by decide +kernel
theorem dX4_findSigns_49 : decode cX4_findSigns 49 = .ok (.aload_n 0, 1) := by decide +kernel
theorem dX4_findSigns_50 : decode cX4_findSigns 50 = .ok (.getfield 29, 3) := by decide +kernel
theorem dX4_findSigns_53 : decode cX4_findSigns 53 = .ok (.aload_n 0, 1) := by decide +kernel
theorem dX4_findSigns_54 : decode cX4_findSigns 54 = .ok (.getfield 26, 3) := by decide +kernel
theorem dX4_findSigns_57 : decode cX4_findSigns 57 = .ok (.iload_n 2, 1) := by decide +kernel
theorem dX4_findSigns_58 : decode cX4_findSigns 58 = .ok (.ifCond .eq 7, 3) := by decide +kernel
theorem dX4_findSigns_61 : decode cX4_findSigns 61 = .ok (.iconst 0, 1) := by decide +kernel
theorem dX4_findSigns_62 : decode cX4_findSigns 62 = .ok (.goto 34, 3) := by decide +kernel
theorem dX4_findSigns_65 : decode cX4_findSigns 65 = .ok (.aload_n 0, 1) := by decide +kernel
theorem dX4_findSigns_66 : decode cX4_findSigns 66 = .ok (.getfield 17, 3) := by decide +kernel
theorem dX4_findSigns_69 : decode cX4_findSigns 69 = .ok (.iload_n 1, 1) := by decide +kernel
theorem dX4_findSigns_70 : decode cX4_findSigns 70 = .ok (.iaload, 1) := by decide +kernel
theorem dX4_findSigns_71 : decode cX4_findSigns 71 = .ok (.bipush 63, 2) := by decide +kernel
theorem dX4_findSigns_73 : decode cX4_findSigns 73 = .ok (.if_icmp .ne 7, 3) := by decide +kernel
theorem dX4_findSigns_76 : decode cX4_findSigns 76 = .ok (.iconst 1, 1) := by decide +kernel
theorem dX4_findSigns_77 : decode cX4_findSigns 77 = .ok (.goto 19, 3) := by decide +kernel
theorem dX4_findSigns_80 : decode cX4_findSigns 80 = .ok (.aload_n 0, 1) := by decide +kernel
theorem dX4_findSigns_81 : decode cX4_findSigns 81 = .ok (.getfield 17, 3) := by decide +kernel
theorem dX4_findSigns_84 : decode cX4_findSigns 84 = .ok (.iload_n 1, 1) := by decide +kernel
theorem dX4_findSigns_85 : decode cX4_findSigns 85 = .ok (.iaload, 1) := by decide +kernel
theorem dX4_findSigns_86 : decode cX4_findSigns 86 = .ok (.bipush 42, 2) := by decide +kernel
theorem dX4_findSigns_88 : decode cX4_findSigns 88 = .ok (.if_icmp .ne 7, 3) := by decide +kernel
theorem dX4_findSigns_91 : decode cX4_findSigns 91 = .ok (.iconst 2, 1) := by decide +kernel
theorem dX4_findSigns_92 : decode cX4_findSigns 92 = .ok (.goto 4, 3) := by decide +kernel
theorem dX4_findSigns_95 : decode cX4_findSigns 95 = .ok (.iconst 0, 1) := by decide +kernel
theorem dX4_findSigns_96 : decode cX4_findSigns 96 = .ok (.iastore, 1) := by decide +kernel
theorem dX4_findSigns_97 : decode cX4_findSigns 97 = .ok (.aload_n 0, 1) := by decide +kernel
theorem dX4_findSigns_98 : decode cX4_findSigns 98 = .ok (.getfield 32, 3) := by decide +kernel
theorem dX4_findSigns_101 : decode cX4_findSigns 101 = .ok (.aload_n 0, 1) := by decide +kernel
theorem dX4_findSigns_102 : decode cX4_findSigns 102 = .ok (.getfield 26, 3) := by decide +kernel
theorem dX4_findSigns_105 : decode cX4_findSigns 105 = .ok (.aload_n 0, 1) := by decide +kernel
theorem dX4_findSigns_106 : decode cX4_findSigns 106 = .ok (.getfield 17, 3) := by decide +kernel
theorem dX4_findSigns_109 : decode cX4_findSigns 109 = .ok (.iload_n 1, 1) := by decide +kernel
theorem dX4_findSigns_110 : decode cX4_findSigns 110 = .ok (.iaload, 1) := by decide +kernel
theorem dX4_findSigns_111 : decode cX4_findSigns 111 = .ok (.iastore, 1) := by decide +kernel
theorem dX4_findSigns_112 : decode cX4_findSigns 112 = .ok (.aload_n 0, 1) := by decide +kernel
theorem dX4_findSigns_113 : decode cX4_findSigns 113 = .ok (.dup, 1) := by decide +kernel
theorem dX4_findSigns_114 : decode cX4_findSigns 114 = .ok (.getfield 26, 3) := by decide +kernel
theorem dX4_findSigns_117 : decode cX4_findSigns 117 = .ok (.iconst 1, 1) := by decide +kernel
theorem dX4_findSigns_118 : decode cX4_findSigns 118 = .ok (.iadd, 1) := by decide +kernel
theorem dX4_findSigns_119 : decode cX4_findSigns 119 = .ok (.putfield 26, 3) := by decide +kernel
theorem dX4_findSigns_122 : decode cX4_findSigns 122 = .ok (.iinc 1 1, 3) := by decide +kernel
theorem dX4_findSigns_125 : decode cX4_findSigns 125 = .ok (.goto (-118), 3) := by decide +kernel
theorem dX4_findSigns_128 : decode cX4_findSigns 128 = .ok (.return_, 1) := by decide +kernel
theorem dX4_like_0 : decode cX4_like 0 = .ok (.aload_n 0, 1) := by decide +kernel
theorem dX4_like_1 : decode cX4_like 1 = .ok (.invokevirtual 63, 3) := by decide +kernel
theorem dX4_like_4 : decode cX4_like 4 = .ok (.aload_n 0, 1) := by decide +kernel
theorem dX4_like_5 : decode cX4_like 5 = .ok (.getfield 26, 3) := by decide +kernel
theorem dX4_like_8 : decode cX4_like 8 = .ok (.istore_n 2, 1) := by decide +kernel
theorem dX4_like_9 : decode cX4_like 9 = .ok (.iload_n 2, 1) := by decide +kernel
theorem dX4_like_10 : decode cX4_like 10 = .ok (.ifCond .lt 202, 3) := by decide +kernel
theorem dX4_like_13 : decode cX4_like 13 = .ok (.aload_n 0, 1) := by decide +kernel
theorem dX4_like_14 : decode cX4_like 14 = .ok (.getfield 20, 3) := by decide +kernel
theorem dX4_like_17 : decode cX4_like 17 = .ok (.istore_n 3, 1) := by decide +kernel
theorem dX4_like_18 : decode cX4_like 18 = .ok (.iload_n 3, 1) := by decide +kernel
theorem dX4_like_19 : decode cX4_like 19 = .ok (.ifCond .lt 187, 3) := by decide +kernel
theorem dX4_like_22 : decode cX4_like 22 = .ok (.iload_n 2, 1) := by decide +kernel
theorem dX4_like_23 : decode cX4_like 23 = .ok (.aload_n 0, 1) := by decide +kernel
theorem dX4_like_24 : decode cX4_like 24 = .ok (.getfield 26, 3) := by decide +kernel
theorem dX4_like_27 : decode cX4_like 27 = .ok (.if_icmp .ne 15, 3) := by decide +kernel
theorem dX4_like_30 : decode cX4_like 30 = .ok (.iload_n 3, 1) := by decide +kernel
theorem dX4_like_31 : decode cX4_like 31 = .ok (.aload_n 0, 1) := by decide +kernel
theorem dX4_like_32 : decode cX4_like 32 = .ok (.getfield 20, 3) := by decide +kernel
theorem dX4_like_35 : decode cX4_like 35 = .ok (.if_icmp .ne 7, 3) := by decide +kernel
theorem dX4_like_38 : decode cX4_like 38 = .ok (.iconst 1, 1) := by decide +kernel
theorem dX4_like_39 : decode cX4_like 39 = .ok (.goto 4, 3) := by decide +kernel
theorem dX4_like_42 : decode cX4_like 42 = .ok (.iconst 0, 1) := by decide +kernel
theorem dX4_like_43 : decode cX4_like 43 = .ok (.istore 4, 2) := by decide +kernel
theorem dX4_like_45 : decode cX4_like 45 = .ok (.iload_n 2, 1) := by decide +kernel
theorem dX4_like_46 : decode cX4_like 46 = .ok (.aload_n 0, 1) := by decide +kernel
theorem dX4_like_47 : decode cX4_like 47 = .ok (.getfield 26, 3) := by decide +kernel
theorem dX4_like_50 : decode cX4_like 50 = .ok (.if_icmp .ge 64, 3) := by decide +kernel
theorem dX4_like_53 : decode cX4_like 53 = .ok (.aload_n 0, 1) := by decide +kernel
theorem dX4_like_54 : decode cX4_like 54 = .ok (.getfield 29, 3) := by decide +kernel
theorem dX4_like_57 : decode cX4_like 57 = .ok (.iload_n 2, 1) := by decide +kernel
theorem dX4_like_58 : decode cX4_like 58 = .ok (.iaload, 1) := by decide +kernel
theorem dX4_like_59 : decode cX4_like 59 = .ok (.iconst 2, 1) := by decide +kernel
theorem dX4_like_60 : decode cX4_like 60 = .ok (.if_icmp .ne 54, 3) := by decide +kernel
theorem dX4_like_63 : decode cX4_like 63 = .ok (.aload_n 0, 1) := by decide +kernel
theorem dX4_like_64 : decode cX4_like 64 = .ok (.getfield 35, 3) := by decide +kernel
theorem dX4_like_67 : decode cX4_like 67 = .ok (.bipush 101, 2) := by decide +kernel
theorem dX4_like_69 : decode cX4_like 69 = .ok (.iload_n 2, 1) := by decide +kernel
theorem dX4_like_70 : decode cX4_like 70 = .ok (.imul, 1) := by decide +kernel
theorem dX4_like_71 : decode cX4_like 71 = .ok (.bipush 101, 2) := by decide +kernel
theorem dX4_like_73 : decode cX4_like 73 = .ok (.iadd, 1) := by decide +kernel
theorem dX4_like_74 : decode cX4_like 74 = .ok (.iload_n 3, 1) := by decide +kernel
theorem dX4_like_75 : decode cX4_like 75 = .ok (.iadd, 1) := by decide +kernel
theorem dX4_like_76 : decode cX4_like 76 = .ok (.baload, 1) := by decide +kernel
theorem dX4_like_77 : decode cX4_like 77 = .ok (.ifCond .ne 27, 3) := by decide +kernel
theorem dX4_like_80 : decode cX4_like 80 = .ok (.iload_n 3, 1) := by decide +kernel
theorem dX4_like_81 : decode cX4_like 81 = .ok (.aload_n 0, 1) := by decide +kernel
theorem dX4_like_82 : decode cX4_like 82 = .ok (.getfield 20, 3) := by decide +kernel
theorem dX4_like_85 : decode cX4_like 85 = .ok (.if_icmp .ge 23, 3) := by decide +kernel
theorem dX4_like_88 : decode cX4_like 88 = .ok (.aload_n 0, 1) := by decide +kernel
theorem dX4_like_89 : decode cX4_like 89 = .ok (.getfield 35, 3) := by decide +kernel
theorem dX4_like_92 : decode cX4_like 92 = .ok (.bipush 101, 2) := by decide +kernel
theorem dX4_like_94 : decode cX4_like 94 = .ok (.iload_n 2, 1) := by decide +kernel
theorem dX4_like_95 : decode cX4_like 95 = .ok (.imul, 1) := by decide +kernel
theorem dX4_like_96 : decode cX4_like 96 = .ok (.iload_n 3, 1) := by decide +kernel
theorem dX4_like_97 : decode cX4_like 97 = .ok (.iadd, 1) := by decide +kernel
theorem dX4_like_98 : decode cX4_like 98 = .ok (.iconst 1, 1) := by decide +kernel
theorem dX4_like_99 : decode cX4_like 99 = .ok (.iadd, 1) := by decide +kernel
theorem dX4_like_100 : decode cX4_like 100 = .ok (.baload, 1) := by decide +kernel
theorem dX4_like_101 : decode cX4_like 101 = .ok (.ifCond .eq 7, 3) := by decide +kernel
theorem dX4_like_104 : decode cX4_like 104 = .ok (.iconst 1, 1) := by decide +kernel
theorem dX4_like_105 : decode cX4_like 105 = .ok (.goto 4, 3) := by decide +kernel
theorem dX4_like_108 : decode cX4_like 108 = .ok (.iconst 0, 1) := by decide +kernel
theorem dX4_like_109 : decode cX4_like 109 = .ok (.istore 4, 2) := by decide +kernel
theorem dX4_like_111 : decode cX4_like 111 = .ok (.goto 76, 3) := by decide +kernel
theorem dX4_like_114 : decode cX4_like 114 = .ok (.iload_n 2, 1) := by decide +kernel
theorem dX4_like_115 : decode cX4_like 115 = .ok (.aload_n 0, 1) := by decide +kernel
theorem dX4_like_116 : decode cX4_like 116 = .ok (.getfield 26, 3) := by decide +kernel
theorem dX4_like_119 : decode cX4_like 119 = .ok (.if_icmp .ge 68, 3) := by decide +kernel
theorem dX4_like_122 : decode cX4_like 122 = .ok (.iload_n 3, 1) := by decide +kernel
theorem dX4_like_123 : decode cX4_like 123 = .ok (.aload_n 0, 1) := by decide +kernel
theorem dX4_like_124 : decode cX4_like 124 = .ok (.getfield 20, 3) := by decide +kernel
theorem dX4_like_127 : decode cX4_like 127 = .ok (.if_icmp .ge 60, 3) := by decide +kernel
theorem dX4_like_130 : decode cX4_like 130 = .ok (.aload_n 0, 1) := by decide +kernel
theorem dX4_like_131 : decode cX4_like 131 = .ok (.getfield 35, 3) := by decide +kernel
theorem dX4_like_134 : decode cX4_like 134 = .ok (.bipush 101, 2) := by decide +kernel
theorem dX4_like_136 : decode cX4_like 136 = .ok (.iload_n 2, 1) := by decide +kernel
theorem dX4_like_137 : decode cX4_like 137 = .ok (.imul, 1) := by decide +kernel
theorem dX4_like_138 : decode cX4_like 138 = .ok (.bipush 102, 2) := by decide +kernel
theorem dX4_like_140 : decode cX4_like 140 = .ok (.iadd, 1) := by decide +kernel
theorem dX4_like_141 : decode cX4_like 141 = .ok (.iload_n 3, 1) := by decide +kernel
theorem dX4_like_142 : decode cX4_like 142 = .ok (.iadd, 1) := by decide +kernel
theorem dX4_like_143 : decode cX4_like 143 = .ok (.baload, 1) := by decide +kernel
theorem dX4_like_144 : decode cX4_like 144 = .ok (.ifCond .eq 40, 3) := by decide +kernel
theorem dX4_like_147 : decode cX4_like 147 = .ok (.aload_n 0, 1) := by decide +kernel
theorem dX4_like_148 : decode cX4_like 148 = .ok (.getfield 29, 3) := by decide +kernel
theorem dX4_like_151 : decode cX4_like 151 = .ok (.iload_n 2, 1) := by decide +kernel
theorem dX4_like_152 : decode cX4_like 152 = .ok (.iaload, 1) := by decide +kernel
theorem dX4_like_153 : decode cX4_like 153 = .ok (.iconst 1, 1) := by decide +kernel
theorem dX4_like_154 : decode cX4_like 154 = .ok (.if_icmp .eq 26, 3) := by decide +kernel
theorem dX4_like_157 : decode cX4_like 157 = .ok (.aload_n 0, 1) := by decide +kernel
theorem dX4_like_158 : decode cX4_like 158 = .ok (.getfield 13, 3) := by decide +kernel
theorem dX4_like_161 : decode cX4_like 161 = .ok (.iload_n 3, 1) := by decide +kernel
theorem dX4_like_162 : decode cX4_like 162 = .ok (.iaload, 1) := by decide +kernel
theorem dX4_like_163 : decode cX4_like 163 = .ok (.iload_n 1, 1) := by decide +kernel
theorem dX4_like_164 : decode cX4_like 164 = .ok (.invokestatic 59, 3) := by decide +kernel
theorem dX4_like_167 : decode cX4_like 167 = .ok (.aload_n 0, 1) := by decide +kernel
theorem dX4_like_168 : decode cX4_like 168 = .ok (.getfield 32, 3) := by decide +kernel
theorem dX4_like_171 : decode cX4_like 171 = .ok (.iload_n 2, 1) := by decide +kernel
theorem dX4_like_172 : decode cX4_like 172 = .ok (.iaload, 1) := by decide +kernel
theorem dX4_like_173 : decode cX4_like 173 = .ok (.iload_n 1, 1) := by decide +kernel
theorem dX4_like_174 : decode cX4_like 174 = .ok (.invokestatic 59, 3) := by decide +kernel
theorem dX4_like_177 : decode cX4_like 177 = .ok (.if_icmp .ne 7, 3) := by decide +kernel
theorem dX4_like_180 : decode cX4_like 180 = .ok (.iconst 1, 1) := by decide +kernel
theorem dX4_like_181 : decode cX4_like 181 = .ok (.goto 4, 3) := by decide +kernel
theorem dX4_like_184 : decode cX4_like 184 = .ok (.iconst 0, 1) := by decide +kernel
theorem dX4_like_185 : decode cX4_like 185 = .ok (.istore 4, 2) := by decide +kernel
theorem dX4_like_187 : decode cX4_like 187 = .ok (.aload_n 0, 1) := by decide +kernel
theorem dX4_like_188 : decode cX4_like 188 = .ok (.getfield 35, 3) := by decide +kernel
theorem dX4_like_191 : decode cX4_like 191 = .ok (.bipush 101, 2) := by decide +kernel
theorem dX4_like_193 : decode cX4_like 193 = .ok (.iload_n 2, 1) := by decide +kernel
theorem dX4_like_194 : decode cX4_like 194 = .ok (.imul, 1) := by decide +kernel
theorem dX4_like_195 : decode cX4_like 195 = .ok (.iload_n 3, 1) := by decide +kernel
theorem dX4_like_196 : decode cX4_like 196 = .ok (.iadd, 1) := by decide +kernel
theorem dX4_like_197 : decode cX4_like 197 = .ok (.iload 4, 2) := by decide +kernel
theorem dX4_like_199 : decode cX4_like 199 = .ok (.bastore, 1) := by decide +kernel
theorem dX4_like_200 : decode cX4_like 200 = .ok (.iinc 3 (-1), 3) := by decide +kernel
theorem dX4_like_203 : decode cX4_like 203 = .ok (.goto (-185), 3) := by decide +kernel
theorem dX4_like_206 : decode cX4_like 206 = .ok (.iinc 2 (-1), 3) := by decide +kernel
theorem dX4_like_209 : decode cX4_like 209 = .ok (.goto (-200), 3) := by decide +kernel
theorem dX4_like_212 : decode cX4_like 212 = .ok (.aload_n 0, 1) := by decide +kernel
theorem dX4_like_213 : decode cX4_like 213 = .ok (.getfield 35, 3) := by decide +kernel
theorem dX4_like_216 : decode cX4_like 216 = .ok (.iconst 0, 1) := by decide +kernel
theorem dX4_like_217 : decode cX4_like 217 = .ok (.baload, 1) := by decide +kernel
theorem dX4_like_218 : decode cX4_like 218 = .ok (.ifCond .ne 5, 3) := by decide +kernel
theorem dX4_like_221 : decode cX4_like 221 = .ok (.iconst 0, 1) := by decide +kernel
theorem dX4_like_222 : decode cX4_like 222 = .ok (.ireturn, 1) := by decide +kernel
theorem dX4_like_223 : decode cX4_like 223 = .ok (.iconst 0, 1) := by decide +kernel
theorem dX4_like_224 : decode cX4_like 224 = .ok (.istore_n 2, 1) := by decide +kernel
theorem dX4_like_225 : decode cX4_like 225 = .ok (.iconst 0, 1) := by decide +kernel
theorem dX4_like_226 : decode cX4_like 226 = .ok (.istore_n 3, 1) := by decide +kernel
theorem dX4_like_227 : decode cX4_like 227 = .ok (.iload_n 3, 1) := by decide +kernel
theorem dX4_like_228 : decode cX4_like 228 = .ok (.aload_n 0, 1) := by decide +kernel
theorem dX4_like_229 : decode cX4_like 229 = .ok (.getfield 26, 3) := by decide +kernel
theorem dX4_like_232 : decode cX4_like 232 = .ok (.if_icmp .ge 88, 3) := by decide +kernel
theorem dX4_like_235 : decode cX4_like 235 = .ok (.aload_n 0, 1) := by decide +kernel
theorem dX4_like_236 : decode cX4_like 236 = .ok (.getfield 29, 3) := by decide +kernel
theorem dX4_like_239 : decode cX4_like 239 = .ok (.iload_n 3, 1) := by decide +kernel
theorem dX4_like_240 : decode cX4_like 240 = .ok (.iaload, 1) := by decide +kernel
theorem dX4_like_241 : decode cX4_like 241 = .ok (.iconst 2, 1) := by decide +kernel
theorem dX4_like_242 : decode cX4_like 242 = .ok (.if_icmp .ne 69, 3) := by decide +kernel
theorem dX4_like_245 : decode cX4_like 245 = .ok (.aload_n 0, 1) := by decide +kernel
theorem dX4_like_246 : decode cX4_like 246 = .ok (.getfield 42, 3) := by decide +kernel
theorem dX4_like_249 : decode cX4_like 249 = .ok (.aload_n 0, 1) := by decide +kernel
theorem dX4_like_250 : decode cX4_like 250 = .ok (.getfield 39, 3) := by decide +kernel
theorem dX4_like_253 : decode cX4_like 253 = .ok (.iload_n 2, 1) := by decide +kernel
theorem dX4_like_254 : decode cX4_like 254 = .ok (.iastore, 1) := by decide +kernel
theorem dX4_like_255 : decode cX4_like 255 = .ok (.aload_n 0, 1) := by decide +kernel
theorem dX4_like_256 : decode cX4_like 256 = .ok (.getfield 35, 3) := by decide +kernel
theorem dX4_like_259 : decode cX4_like 259 = .ok (.bipush 101, 2) := by decide +kernel
theorem dX4_like_261 : decode cX4_like 261 = .ok (.iload_n 3, 1) := by decide +kernel
theorem dX4_like_262 : decode cX4_like 262 = .ok (.imul, 1) := by decide +kernel
theorem dX4_like_263 : decode cX4_like 263 = .ok (.bipush 101, 2) := by decide +kernel
theorem dX4_like_265 : decode cX4_like 265 = .ok (.iadd, 1) := by decide +kernel
theorem dX4_like_266 : decode cX4_like 266 = .ok (.iload_n 2, 1) := by decide +kernel
theorem dX4_like_267 : decode cX4_like 267 = .ok (.iadd, 1) := by decide +kernel
theorem dX4_like_268 : decode cX4_like 268 = .ok (.baload, 1) := by decide +kernel
theorem dX4_like_269 : decode cX4_like 269 = .ok (.ifCond .ne 9, 3) := by decide +kernel
theorem dX4_like_272 : decode cX4_like 272 = .ok (.iinc 2 1, 3) := by decide +kernel
theorem dX4_like_275 : decode cX4_like 275 = .ok (.goto (-20), 3) := by decide +kernel
theorem dX4_like_278 : decode cX4_like 278 = .ok (.aload_n 0, 1) := by decide +kernel
theorem dX4_like_279 : decode cX4_like 279 = .ok (.getfield 45, 3) := by decide +kernel
theorem dX4_like_282 : decode cX4_like 282 = .ok (.aload_n 0, 1) := by decide +kernel
theorem dX4_like_283 : decode cX4_like 283 = .ok (.getfield 39, 3) := by decide +kernel
theorem dX4_like_286 : decode cX4_like 286 = .ok (.iload_n 2, 1) := by decide +kernel
theorem dX4_like_287 : decode cX4_like 287 = .ok (.aload_n 0, 1) := by decide +kernel
theorem dX4_like_288 : decode cX4_like 288 = .ok (.getfield 42, 3) := by decide +kernel
theorem dX4_like_291 : decode cX4_like 291 = .ok (.aload_n 0, 1) := by decide +kernel
theorem dX4_like_292 : decode cX4_like 292 = .ok (.getfield 39, 3) := by decide +kernel
theorem dX4_like_295 : decode cX4_like 295 = .ok (.iaload, 1) := by decide +kernel
theorem dX4_like_296 : decode cX4_like 296 = .ok (.isub, 1) := by decide +kernel
theorem dX4_like_297 : decode cX4_like 297 = .ok (.iastore, 1) := by decide +kernel
theorem dX4_like_298 : decode cX4_like 298 = .ok (.aload_n 0, 1) := by decide +kernel
theorem dX4_like_299 : decode cX4_like 299 = .ok (.dup, 1) := by decide +kernel
theorem dX4_like_300 : decode cX4_like 300 = .ok (.getfield 39, 3) := by decide +kernel
theorem dX4_like_303 : decode cX4_like 303 = .ok (.iconst 1, 1) := by decide +kernel
theorem dX4_like_304 : decode cX4_like 304 = .ok (.iadd, 1) := by decide +kernel
theorem dX4_like_305 : decode cX4_like 305 = .ok (.putfield 39, 3) := by decide +kernel
theorem dX4_like_308 : decode cX4_like 308 = .ok (.goto 6, 3) := by decide +kernel
theorem dX4_like_311 : decode cX4_like 311 = .ok (.iinc 2 1, 3) := by decide +kernel
theorem dX4_like_314 : decode cX4_like 314 = .ok (.iinc 3 1, 3) := by decide +kernel
theorem dX4_like_317 : decode cX4_like 317 = .ok (.goto (-90), 3) := by decide +kernel
theorem dX4_like_320 : decode cX4_like 320 = .ok (.iconst 1, 1) := by decide +kernel
theorem dX4_like_321 : decode cX4_like 321 = .ok (.ireturn, 1) := by decide +kernel
theorem dX4_put_0 : decode cX4_put 0 = .ok (.aload_n 0, 1) := by decide +kernel
theorem dX4_put_1 : decode cX4_put 1 = .ok (.iconst 0, 1) := by decide +kernel
theorem dX4_put_2 : decode cX4_put 2 = .ok (.putfield 7, 3) := by decide +kernel
theorem dX4_put_5 : decode cX4_put 5 = .ok (.iload_n 1, 1) := by decide +kernel
theorem dX4_put_6 : decode cX4_put 6 = .ok (.ifCond .lt 44, 3) := by decide +kernel
theorem dX4_put_9 : decode cX4_put 9 = .ok (.iload_n 1, 1) := by decide +kernel
theorem dX4_put_10 : decode cX4_put 10 = .ok (.iconst 1, 1) := by decide +kernel
theorem dX4_put_11 : decode cX4_put 11 = .ok (.if_icmp .gt 39, 3) := by decide +kernel
theorem dX4_put_14 : decode cX4_put 14 = .ok (.iload 4, 2) := by decide +kernel
theorem dX4_put_16 : decode cX4_put 16 = .ok (.iconst 1, 1) := by decide +kernel
theorem dX4_put_17 : decode cX4_put 17 = .ok (.if_icmp .lt 33, 3) := by decide +kernel
theorem dX4_put_20 : decode cX4_put 20 = .ok (.iload 4, 2) := by decide +kernel
theorem dX4_put_22 : decode cX4_put 22 = .ok (.bipush 8, 2) := by decide +kernel
theorem dX4_put_24 : decode cX4_put 24 = .ok (.if_icmp .gt 26, 3) := by decide +kernel
theorem dX4_put_27 : decode cX4_put 27 = .ok (.iload_n 1, 1) := by decide +kernel
theorem dX4_put_28 : decode cX4_put 28 = .ok (.ifCond .ne 10, 3) := by decide +kernel
theorem dX4_put_31 : decode cX4_put 31 = .ok (.aload_n 0, 1) := by decide +kernel
theorem dX4_put_32 : decode cX4_put 32 = .ok (.getfield 20, 3) := by decide +kernel
theorem dX4_put_35 : decode cX4_put 35 = .ok (.goto 7, 3) := by decide +kernel
theorem dX4_put_38 : decode cX4_put 38 = .ok (.aload_n 0, 1) := by decide +kernel
theorem dX4_put_39 : decode cX4_put 39 = .ok (.getfield 23, 3) := by decide +kernel
theorem dX4_put_42 : decode cX4_put 42 = .ok (.iload 4, 2) := by decide +kernel
theorem dX4_put_44 : decode cX4_put 44 = .ok (.iadd, 1) := by decide +kernel
theorem dX4_put_45 : decode cX4_put 45 = .ok (.bipush 100, 2) := by decide +kernel
theorem dX4_put_47 : decode cX4_put 47 = .ok (.if_icmp .le 5, 3) := by decide +kernel
theorem dX4_put_50 : decode cX4_put 50 = .ok (.iconst 0, 1) := by decide +kernel
theorem dX4_put_51 : decode cX4_put 51 = .ok (.ireturn, 1) := by decide +kernel
theorem dX4_put_52 : decode cX4_put 52 = .ok (.iload 4, 2) := by decide +kernel
theorem dX4_put_54 : decode cX4_put 54 = .ok (.iconst 1, 1) := by decide +kernel
theorem dX4_put_55 : decode cX4_put 55 = .ok (.isub, 1) := by decide +kernel
theorem dX4_put_56 : decode cX4_put 56 = .ok (.istore 5, 2) := by decide +kernel
theorem dX4_put_58 : decode cX4_put 58 = .ok (.iload 5, 2) := by decide +kernel
theorem dX4_put_60 : decode cX4_put 60 = .ok (.ifCond .lt 72, 3) := by decide +kernel
theorem dX4_put_63 : decode cX4_put 63 = .ok (.lload_n 2, 1) := by decide +kernel
theorem dX4_put_64 : decode cX4_put 64 = .ok (.bipush 8, 2) := by decide +kernel
theorem dX4_put_66 : decode cX4_put 66 = .ok (.iload 5, 2) := by decide +kernel
theorem dX4_put_68 : decode cX4_put 68 = .ok (.imul, 1) := by decide +kernel
theorem dX4_put_69 : decode cX4_put 69 = .ok (.lushr, 1) := by decide +kernel
theorem dX4_put_70 : decode cX4_put 70 = .ok (.l2i, 1) := by decide +kernel
theorem dX4_put_71 : decode cX4_put 71 = .ok (.sipush 255, 3) := by decide +kernel
theorem dX4_put_74 : decode cX4_put 74 = .ok (.iand, 1) := by decide +kernel
theorem dX4_put_75 : decode cX4_put 75 = .ok (.istore 6, 2) := by decide +kernel
theorem dX4_put_77 : decode cX4_put 77 = .ok (.iload_n 1, 1) := by decide +kernel
theorem dX4_put_78 : decode cX4_put 78 = .ok (.ifCond .ne 27, 3) := by decide +kernel
theorem dX4_put_81 : decode cX4_put 81 = .ok (.aload_n 0, 1) := by decide +kernel
theorem dX4_put_82 : decode cX4_put 82 = .ok (.getfield 13, 3) := by decide +kernel
theorem dX4_put_85 : decode cX4_put 85 = .ok (.aload_n 0, 1) := by decide +kernel
theorem dX4_put_86 : decode cX4_put 86 = .ok (.getfield 20, 3) := by decide +kernel
theorem dX4_put_89 : decode cX4_put 89 = .ok (.iload 6, 2) := by decide +kernel
theorem dX4_put_91 : decode cX4_put 91 = .ok (.iastore, 1) := by decide +kernel
theorem dX4_put_92 : decode cX4_put 92 = .ok (.aload_n 0, 1) := by decide +kernel
theorem dX4_put_93 : decode cX4_put 93 = .ok (.dup, 1) := by decide +kernel
theorem dX4_put_94 : decode cX4_put 94 = .ok (.getfield 20, 3) := by decide +kernel
theorem dX4_put_97 : decode cX4_put 97 = .ok (.iconst 1, 1) := by decide +kernel
theorem dX4_put_98 : decode cX4_put 98 = .ok (.iadd, 1) := by decide +kernel
theorem dX4_put_99 : decode cX4_put 99 = .ok (.putfield 20, 3) := by decide +kernel
theorem dX4_put_102 : decode cX4_put 102 = .ok (.goto 24, 3) := by decide +kernel
theorem dX4_put_105 : decode cX4_put 105 = .ok (.aload_n 0, 1) := by decide +kernel
theorem dX4_put_106 : decode cX4_put 106 = .ok (.getfield 17, 3) := by decide +kernel
theorem dX4_put_109 : decode cX4_put 109 = .ok (.aload_n 0, 1) := by decide +kernel
theorem dX4_put_110 : decode cX4_put 110 = .ok (.getfield 23, 3) := by decide +kernel
theorem dX4_put_113 : decode cX4_put 113 = .ok (.iload 6, 2) := by decide +kernel
theorem dX4_put_115 : decode cX4_put 115 = .ok (.iastore, 1) := by decide +kernel
theorem dX4_put_116 : decode cX4_put 116 = .ok (.aload_n 0, 1) := by decide +kernel
theorem dX4_put_117 : decode cX4_put 117 = .ok (.dup, 1) := by decide +kernel
theorem dX4_put_118 : decode cX4_put 118 = .ok (.getfield 23, 3) := by decide +kernel
theorem dX4_put_121 : decode cX4_put 121 = .ok (.iconst 1, 1) := by decide +kernel
theorem dX4_put_122 : decode cX4_put 122 = .ok (.iadd, 1) := by decide +kernel
theorem dX4_put_123 : decode cX4_put 123 = .ok (.putfield 23, 3) := by decide +kernel
theorem dX4_put_126 : decode cX4_put 126 = .ok (.iinc 5 (-1), 3) := by decide +kernel
theorem dX4_put_129 : decode cX4_put 129 = .ok (.goto (-71), 3) := by decide +kernel
theorem dX4_put_132 : decode cX4_put 132 = .ok (.iconst 1, 1) := by decide +kernel
theorem dX4_put_133 : decode cX4_put 133 = .ok (.ireturn, 1) := by decide +kernel
theorem dX4_clear_0 : decode cX4_clear 0 = .ok (.aload_n 0, 1) := by decide +kernel
theorem dX4_clear_1 : decode cX4_clear 1 = .ok (.iconst 0, 1) := by decide +kernel
theorem dX4_clear_2 : decode cX4_clear 2 = .ok (.putfield 7, 3) := by decide +kernel
theorem dX4_clear_5 : decode cX4_clear 5 = .ok (.iload_n 1, 1) := by decide +kernel
theorem dX4_clear_6 : decode cX4_clear 6 = .ok (.ifCond .ne 10, 3) := by decide +kernel
theorem dX4_clear_9 : decode cX4_clear 9 = .ok (.aload_n 0, 1) := by decide +kernel
theorem dX4_clear_10 : decode cX4_clear 10 = .ok (.getfield 20, 3) := by decide +kernel
theorem dX4_clear_13 : decode cX4_clear 13 = .ok (.goto 16, 3) := by decide +kernel
theorem dX4_clear_16 : decode cX4_clear 16 = .ok (.iload_n 1, 1) := by decide +kernel
theorem dX4_clear_17 : decode cX4_clear 17 = .ok (.iconst 1, 1) := by decide +kernel
theorem dX4_clear_18 : decode cX4_clear 18 = .ok (.if_icmp .ne 10, 3) := by decide +kernel
theorem dX4_clear_21 : decode cX4_clear 21 = .ok (.aload_n 0, 1) := by decide +kernel
theorem dX4_clear_22 : decode cX4_clear 22 = .ok (.getfield 23, 3) := by decide +kernel
theorem dX4_clear_25 : decode cX4_clear 25 = .ok (.goto 4, 3) := by decide +kernel
theorem dX4_clear_28 : decode cX4_clear 28 = .ok (.iconst (-1), 1) := by decide +kernel
theorem dX4_clear_29 : decode cX4_clear 29 = .ok (.istore_n 2, 1) := by decide +kernel
theorem dX4_clear_30 : decode cX4_clear 30 = .ok (.iload_n 1, 1) := by decide +kernel
theorem dX4_clear_31 : decode cX4_clear 31 = .ok (.ifCond .ne 8, 3) := by decide +kernel
theorem dX4_clear_34 : decode cX4_clear 34 = .ok (.aload_n 0, 1) := by decide +kernel
theorem dX4_clear_35 : decode cX4_clear 35 = .ok (.iconst 0, 1) := by decide +kernel
theorem dX4_clear_36 : decode cX4_clear 36 = .ok (.putfield 20, 3) := by decide +kernel
theorem dX4_clear_39 : decode cX4_clear 39 = .ok (.iload_n 1, 1) := by decide +kernel
theorem dX4_clear_40 : decode cX4_clear 40 = .ok (.iconst 1, 1) := by decide +kernel
theorem dX4_clear_41 : decode cX4_clear 41 = .ok (.if_icmp .ne 8, 3) := by decide +kernel
theorem dX4_clear_44 : decode cX4_clear 44 = .ok (.aload_n 0, 1) := by decide +kernel
theorem dX4_clear_45 : decode cX4_clear 45 = .ok (.iconst 0, 1) := by decide +kernel
theorem dX4_clear_46 : decode cX4_clear 46 = .ok (.putfield 23, 3) := by decide +kernel
theorem dX4_clear_49 : decode cX4_clear 49 = .ok (.iload_n 2, 1) := by decide +kernel
theorem dX4_clear_50 : decode cX4_clear 50 = .ok (.ireturn, 1) := by decide +kernel
theorem dX4_match_0 : decode cX4_match 0 = .ok (.aload_n 0, 1) := by decide +kernel
theorem dX4_match_1 : decode cX4_match 1 = .ok (.iconst 0, 1) := by decide +kernel
theorem dX4_match_2 : decode cX4_match 2 = .ok (.putfield 7, 3) := by decide +kernel
theorem dX4_match_5 : decode cX4_match 5 = .ok (.iload_n 1, 1) := by decide +kernel
theorem dX4_match_6 : decode cX4_match 6 = .ok (.ifCond .lt 17, 3) := by decide +kernel
theorem dX4_match_9 : decode cX4_match 9 = .ok (.iload_n 1, 1) := by decide +kernel
theorem dX4_match_10 : decode cX4_match 10 = .ok (.iconst 2, 1) := by decide +kernel
theorem dX4_match_11 : decode cX4_match 11 = .ok (.if_icmp .gt 12, 3) := by decide +kernel
theorem dX4_match_14 : decode cX4_match 14 = .ok (.iload_n 2, 1) := by decide +kernel
theorem dX4_match_15 : decode cX4_match 15 = .ok (.ifCond .lt 8, 3) := by decide +kernel
theorem dX4_match_18 : decode cX4_match 18 = .ok (.iload_n 2, 1) := by decide +kernel
theorem dX4_match_19 : decode cX4_match 19 = .ok (.iconst 2, 1) := by decide +kernel
theorem dX4_match_20 : decode cX4_match 20 = .ok (.if_icmp .le 5, 3) := by decide +kernel
theorem dX4_match_23 : decode cX4_match 23 = .ok (.iconst (-1), 1) := by decide +kernel
theorem dX4_match_24 : decode cX4_match 24 = .ok (.ireturn, 1) := by decide +kernel
theorem dX4_match_25 : decode cX4_match 25 = .ok (.aload_n 0, 1) := by decide +kernel
theorem dX4_match_26 : decode cX4_match 26 = .ok (.iconst 0, 1) := by decide +kernel
theorem dX4_match_27 : decode cX4_match 27 = .ok (.putfield 39, 3) := by decide +kernel
theorem dX4_match_30 : decode cX4_match 30 = .ok (.iload_n 1, 1) := by decide +kernel
theorem dX4_match_31 : decode cX4_match 31 = .ok (.ifCond .ne 17, 3) := by decide +kernel
theorem dX4_match_34 : decode cX4_match 34 = .ok (.aload_n 0, 1) := by decide +kernel
theorem dX4_match_35 : decode cX4_match 35 = .ok (.iload_n 2, 1) := by decide +kernel
theorem dX4_match_36 : decode cX4_match 36 = .ok (.invokevirtual 66, 3) := by decide +kernel
theorem dX4_match_39 : decode cX4_match 39 = .ok (.ifCond .ne 7, 3) := by decide +kernel
theorem dX4_match_42 : decode cX4_match 42 = .ok (.iconst 1, 1) := by decide +kernel
theorem dX4_match_43 : decode cX4_match 43 = .ok (.goto 4, 3) := by decide +kernel
theorem dX4_match_46 : decode cX4_match 46 = .ok (.iconst 0, 1) := by decide +kernel
theorem dX4_match_47 : decode cX4_match 47 = .ok (.ireturn, 1) := by decide +kernel
theorem dX4_match_48 : decode cX4_match 48 = .ok (.iload_n 2, 1) := by decide +kernel
theorem dX4_match_49 : decode cX4_match 49 = .ok (.iconst 2, 1) := by decide +kernel
theorem dX4_match_50 : decode cX4_match 50 = .ok (.if_icmp .ne 5, 3) := by decide +kernel
theorem dX4_match_53 : decode cX4_match 53 = .ok (.iconst 0, 1) := by decide +kernel
theorem dX4_match_54 : decode cX4_match 54 = .ok (.ireturn, 1) := by decide +kernel
theorem dX4_match_55 : decode cX4_match 55 = .ok (.iload_n 1, 1) := by decide +kernel
theorem dX4_match_56 : decode cX4_match 56 = .ok (.iconst 1, 1) := by decide +kernel
theorem dX4_match_57 : decode cX4_match 57 = .ok (.if_icmp .ne 14, 3) := by decide +kernel
theorem dX4_match_60 : decode cX4_match 60 = .ok (.aload_n 0, 1) := by decide +kernel
theorem dX4_match_61 : decode cX4_match 61 = .ok (.iload_n 2, 1) := by decide +kernel
theorem dX4_match_62 : decode cX4_match 62 = .ok (.invokevirtual 70, 3) := by decide +kernel
theorem dX4_match_65 : decode cX4_match 65 = .ok (.ifCond .eq 18, 3) := by decide +kernel
theorem dX4_match_68 : decode cX4_match 68 = .ok (.goto 11, 3) := by decide +kernel
theorem dX4_match_71 : decode cX4_match 71 = .ok (.aload_n 0, 1) := by decide +kernel
theorem dX4_match_72 : decode cX4_match 72 = .ok (.iload_n 2, 1) := by decide +kernel
theorem dX4_match_73 : decode cX4_match 73 = .ok (.invokevirtual 74, 3) := by decide +kernel
theorem dX4_match_76 : decode cX4_match 76 = .ok (.ifCond .eq 7, 3) := by decide +kernel
theorem dX4_match_79 : decode cX4_match 79 = .ok (.iconst 1, 1) := by decide +kernel
theorem dX4_match_80 : decode cX4_match 80 = .ok (.goto 4, 3) := by decide +kernel
theorem dX4_match_83 : decode cX4_match 83 = .ok (.iconst 0, 1) := by decide +kernel
theorem dX4_match_84 : decode cX4_match 84 = .ok (.ireturn, 1) := by decide +kernel
theorem dX4_spans_0 : decode cX4_spans 0 = .ok (.aload_n 0, 1) := by decide +kernel
theorem dX4_spans_1 : decode cX4_spans 1 = .ok (.iconst 0, 1) := by decide +kernel
theorem dX4_spans_2 : decode cX4_spans 2 = .ok (.putfield 7, 3) := by decide +kernel
theorem dX4_spans_5 : decode cX4_spans 5 = .ok (.aload_n 0, 1) := by decide +kernel
theorem dX4_spans_6 : decode cX4_spans 6 = .ok (.getfield 39, 3) := by decide +kernel
theorem dX4_spans_9 : decode cX4_spans 9 = .ok (.ireturn, 1) := by decide +kernel
theorem dX4_span_0 : decode cX4_span 0 = .ok (.aload_n 0, 1) := by decide +kernel
theorem dX4_span_1 : decode cX4_span 1 = .ok (.iconst 0, 1) := by decide +kernel
theorem dX4_span_2 : decode cX4_span 2 = .ok (.putfield 7, 3) := by decide +kernel
theorem dX4_span_5 : decode cX4_span 5 = .ok (.iload_n 1, 1) := by decide +kernel
theorem dX4_span_6 : decode cX4_span 6 = .ok (.ifCond .lt 11, 3) := by decide +kernel
theorem dX4_span_9 : decode cX4_span 9 = .ok (.iload_n 1, 1) := by decide +kernel
theorem dX4_span_10 : decode cX4_span 10 = .ok (.aload_n 0, 1) := by decide +kernel
theorem dX4_span_11 : decode cX4_span 11 = .ok (.getfield 39, 3) := by decide +kernel
theorem dX4_span_14 : decode cX4_span 14 = .ok (.if_icmp .lt 5, 3) := by decide +kernel
theorem dX4_span_17 : decode cX4_span 17 = .ok (.iconst (-1), 1) := by decide +kernel
theorem dX4_span_18 : decode cX4_span 18 = .ok (.ireturn, 1) := by decide +kernel
theorem dX4_span_19 : decode cX4_span 19 = .ok (.iload_n 2, 1) := by decide +kernel
theorem dX4_span_20 : decode cX4_span 20 = .ok (.ifCond .ne 12, 3) := by decide +kernel
theorem dX4_span_23 : decode cX4_span 23 = .ok (.aload_n 0, 1) := by decide +kernel
theorem dX4_span_24 : decode cX4_span 24 = .ok (.getfield 42, 3) := by decide +kernel
theorem dX4_span_27 : decode cX4_span 27 = .ok (.iload_n 1, 1) := by decide +kernel
theorem dX4_span_28 : decode cX4_span 28 = .ok (.iaload, 1) := by decide +kernel
theorem dX4_span_29 : decode cX4_span 29 = .ok (.goto 18, 3) := by decide +kernel
theorem dX4_span_32 : decode cX4_span 32 = .ok (.iload_n 2, 1) := by decide +kernel
theorem dX4_span_33 : decode cX4_span 33 = .ok (.iconst 1, 1) := by decide +kernel
theorem dX4_span_34 : decode cX4_span 34 = .ok (.if_icmp .ne 12, 3) := by decide +kernel
theorem dX4_span_37 : decode cX4_span 37 = .ok (.aload_n 0, 1) := by decide +kernel
theorem dX4_span_38 : decode cX4_span 38 = .ok (.getfield 45, 3) := by decide +kernel
theorem dX4_span_41 : decode cX4_span 41 = .ok (.iload_n 1, 1) := by decide +kernel
theorem dX4_span_42 : decode cX4_span 42 = .ok (.iaload, 1) := by decide +kernel
theorem dX4_span_43 : decode cX4_span 43 = .ok (.goto 4, 3) := by decide +kernel
theorem dX4_span_46 : decode cX4_span 46 = .ok (.iconst (-1), 1) := by decide +kernel
theorem dX4_span_47 : decode cX4_span 47 = .ok (.ireturn, 1) := by decide +kernel
theorem dX4_order_0 : decode cX4_order 0 = .ok (.aload_n 0, 1) := by decide +kernel
theorem dX4_order_1 : decode cX4_order 1 = .ok (.iconst 0, 1) := by decide +kernel
theorem dX4_order_2 : decode cX4_order 2 = .ok (.putfield 7, 3) := by decide +kernel
theorem dX4_order_5 : decode cX4_order 5 = .ok (.iload_n 1, 1) := by decide +kernel
theorem dX4_order_6 : decode cX4_order 6 = .ok (.ifCond .lt 8, 3) := by decide +kernel
theorem dX4_order_9 : decode cX4_order 9 = .ok (.iload_n 1, 1) := by decide +kernel
theorem dX4_order_10 : decode cX4_order 10 = .ok (.iconst 2, 1) := by decide +kernel
theorem dX4_order_11 : decode cX4_order 11 = .ok (.if_icmp .le 8, 3) := by decide +kernel
theorem dX4_order_14 : decode cX4_order 14 = .ok (.bipush (-2), 2) := by decide +kernel
theorem dX4_order_16 : decode cX4_order 16 = .ok (.goto 8, 3) := by decide +kernel
theorem dX4_order_19 : decode cX4_order 19 = .ok (.aload_n 0, 1) := by decide +kernel
theorem dX4_order_20 : decode cX4_order 20 = .ok (.iload_n 1, 1) := by decide +kernel
theorem dX4_order_21 : decode cX4_order 21 = .ok (.invokevirtual 66, 3) := by decide +kernel
theorem dX4_order_24 : decode cX4_order 24 = .ok (.ireturn, 1) := by decide +kernel
theorem dX4_counts_0 : decode cX4_counts 0 = .ok (.aload_n 0, 1) := by decide +kernel
theorem dX4_counts_1 : decode cX4_counts 1 = .ok (.iconst 0, 1) := by decide +kernel
theorem dX4_counts_2 : decode cX4_counts 2 = .ok (.putfield 7, 3) := by decide +kernel
theorem dX4_counts_5 : decode cX4_counts 5 = .ok (.iload_n 1, 1) := by decide +kernel
theorem dX4_counts_6 : decode cX4_counts 6 = .ok (.ifCond .lt 12, 3) := by decide +kernel
theorem dX4_counts_9 : decode cX4_counts 9 = .ok (.iload_n 2, 1) := by decide +kernel
theorem dX4_counts_10 : decode cX4_counts 10 = .ok (.ifCond .lt 8, 3) := by decide +kernel
theorem dX4_counts_13 : decode cX4_counts 13 = .ok (.iload_n 2, 1) := by decide +kernel
theorem dX4_counts_14 : decode cX4_counts 14 = .ok (.iconst 5, 1) := by decide +kernel
theorem dX4_counts_15 : decode cX4_counts 15 = .ok (.if_icmp .le 5, 3) := by decide +kernel
theorem dX4_counts_18 : decode cX4_counts 18 = .ok (.iconst 0, 1) := by decide +kernel
theorem dX4_counts_19 : decode cX4_counts 19 = .ok (.ireturn, 1) := by decide +kernel
theorem dX4_counts_20 : decode cX4_counts 20 = .ok (.aload_n 0, 1) := by decide +kernel
theorem dX4_counts_21 : decode cX4_counts 21 = .ok (.getfield 17, 3) := by decide +kernel
theorem dX4_counts_24 : decode cX4_counts 24 = .ok (.aload_n 0, 1) := by decide +kernel
theorem dX4_counts_25 : decode cX4_counts 25 = .ok (.getfield 23, 3) := by decide +kernel
theorem dX4_counts_28 : decode cX4_counts 28 = .ok (.invokestatic 48, 3) := by decide +kernel
theorem dX4_counts_31 : decode cX4_counts 31 = .ok (.istore_n 3, 1) := by decide +kernel
theorem dX4_counts_32 : decode cX4_counts 32 = .ok (.iload_n 3, 1) := by decide +kernel
theorem dX4_counts_33 : decode cX4_counts 33 = .ok (.ifCond .ne 9, 3) := by decide +kernel
theorem dX4_counts_36 : decode cX4_counts 36 = .ok (.ldc2_w 77, 3) := by decide +kernel
theorem dX4_counts_39 : decode cX4_counts 39 = .ok (.goto 4, 3) := by decide +kernel
theorem dX4_counts_42 : decode cX4_counts 42 = .ok (.lconst 0, 1) := by decide +kernel
theorem dX4_counts_43 : decode cX4_counts 43 = .ok (.lstore 4, 2) := by decide +kernel
theorem dX4_counts_45 : decode cX4_counts 45 = .ok (.iconst 0, 1) := by decide +kernel
theorem dX4_counts_46 : decode cX4_counts 46 = .ok (.istore 6, 2) := by decide +kernel
theorem dX4_counts_48 : decode cX4_counts 48 = .ok (.iload 6, 2) := by decide +kernel
theorem dX4_counts_50 : decode cX4_counts 50 = .ok (.iload_n 3, 1) := by decide +kernel
theorem dX4_counts_51 : decode cX4_counts 51 = .ok (.if_icmp .ge 44, 3) := by decide +kernel
theorem dX4_counts_54 : decode cX4_counts 54 = .ok (.lload 4, 2) := by decide +kernel
theorem dX4_counts_56 : decode cX4_counts 56 = .ok (.ldc2_w 79, 3) := by decide +kernel
theorem dX4_counts_59 : decode cX4_counts 59 = .ok (.lcmp, 1) := by decide +kernel
theorem dX4_counts_60 : decode cX4_counts 60 = .ok (.ifCond .le 8, 3) := by decide +kernel
theorem dX4_counts_63 : decode cX4_counts 63 = .ok (.lload 4, 2) := by decide +kernel
theorem dX4_counts_65 : decode cX4_counts 65 = .ok (.goto 22, 3) := by decide +kernel
theorem dX4_counts_68 : decode cX4_counts 68 = .ok (.ldc2_w 81, 3) := by decide +kernel
theorem dX4_counts_71 : decode cX4_counts 71 = .ok (.lload 4, 2) := by decide +kernel
theorem dX4_counts_73 : decode cX4_counts 73 = .ok (.lmul, 1) := by decide +kernel
theorem dX4_counts_74 : decode cX4_counts 74 = .ok (.aload_n 0, 1) := by decide +kernel
theorem dX4_counts_75 : decode cX4_counts 75 = .ok (.getfield 17, 3) := by decide +kernel
theorem dX4_counts_78 : decode cX4_counts 78 = .ok (.iload 6, 2) := by decide +kernel
theorem dX4_counts_80 : decode cX4_counts 80 = .ok (.iaload, 1) := by decide +kernel
theorem dX4_counts_81 : decode cX4_counts 81 = .ok (.i2l, 1) := by decide +kernel
theorem dX4_counts_82 : decode cX4_counts 82 = .ok (.ladd, 1) := by decide +kernel
theorem dX4_counts_83 : decode cX4_counts 83 = .ok (.ldc2_w 83, 3) := by decide +kernel
theorem dX4_counts_86 : decode cX4_counts 86 = .ok (.lsub, 1) := by decide +kernel
theorem dX4_counts_87 : decode cX4_counts 87 = .ok (.lstore 4, 2) := by decide +kernel
theorem dX4_counts_89 : decode cX4_counts 89 = .ok (.iinc 6 1, 3) := by decide +kernel
theorem dX4_counts_92 : decode cX4_counts 92 = .ok (.goto (-44), 3) := by decide +kernel
theorem dX4_counts_95 : decode cX4_counts 95 = .ok (.iload_n 2, 1) := by decide +kernel
theorem dX4_counts_96 : decode cX4_counts 96 = .ok (.ifCond .ne 17, 3) := by decide +kernel
theorem dX4_counts_99 : decode cX4_counts 99 = .ok (.iload_n 1, 1) := by decide +kernel
theorem dX4_counts_100 : decode cX4_counts 100 = .ok (.i2l, 1) := by decide +kernel
theorem dX4_counts_101 : decode cX4_counts 101 = .ok (.lload 4, 2) := by decide +kernel
theorem dX4_counts_103 : decode cX4_counts 103 = .ok (.lcmp, 1) := by decide +kernel
theorem dX4_counts_104 : decode cX4_counts 104 = .ok (.ifCond .le 7, 3) := by decide +kernel
theorem dX4_counts_107 : decode cX4_counts 107 = .ok (.iconst 1, 1) := by decide +kernel
theorem dX4_counts_108 : decode cX4_counts 108 = .ok (.goto 4, 3) := by decide +kernel
theorem dX4_counts_111 : decode cX4_counts 111 = .ok (.iconst 0, 1) := by decide +kernel
theorem dX4_counts_112 : decode cX4_counts 112 = .ok (.ireturn, 1) := by decide +kernel
theorem dX4_counts_113 : decode cX4_counts 113 = .ok (.iload_n 2, 1) := by decide +kernel
theorem dX4_counts_114 : decode cX4_counts 114 = .ok (.iconst 1, 1) := by decide +kernel
theorem dX4_counts_115 : decode cX4_counts 115 = .ok (.if_icmp .ne 17, 3) := by decide +kernel
theorem dX4_counts_118 : decode cX4_counts 118 = .ok (.iload_n 1, 1) := by decide +kernel
theorem dX4_counts_119 : decode cX4_counts 119 = .ok (.i2l, 1) := by decide +kernel
theorem dX4_counts_120 : decode cX4_counts 120 = .ok (.lload 4, 2) := by decide +kernel
theorem dX4_counts_122 : decode cX4_counts 122 = .ok (.lcmp, 1) := by decide +kernel
theorem dX4_counts_123 : decode cX4_counts 123 = .ok (.ifCond .lt 7, 3) := by decide +kernel
theorem dX4_counts_126 : decode cX4_counts 126 = .ok (.iconst 1, 1) := by decide +kernel
theorem dX4_counts_127 : decode cX4_counts 127 = .ok (.goto 4, 3) := by decide +kernel
theorem dX4_counts_130 : decode cX4_counts 130 = .ok (.iconst 0, 1) := by decide +kernel
theorem dX4_counts_131 : decode cX4_counts 131 = .ok (.ireturn, 1) := by decide +kernel
theorem dX4_counts_132 : decode cX4_counts 132 = .ok (.iload_n 2, 1) := by decide +kernel
theorem dX4_counts_133 : decode cX4_counts 133 = .ok (.iconst 2, 1) := by decide +kernel
theorem dX4_counts_134 : decode cX4_counts 134 = .ok (.if_icmp .ne 17, 3) := by decide +kernel
theorem dX4_counts_137 : decode cX4_counts 137 = .ok (.iload_n 1, 1) := by decide +kernel
theorem dX4_counts_138 : decode cX4_counts 138 = .ok (.i2l, 1) := by decide +kernel
theorem dX4_counts_139 : decode cX4_counts 139 = .ok (.lload 4, 2) := by decide +kernel
theorem dX4_counts_141 : decode cX4_counts 141 = .ok (.lcmp, 1) := by decide +kernel
theorem dX4_counts_142 : decode cX4_counts 142 = .ok (.ifCond .ge 7, 3) := by decide +kernel
theorem dX4_counts_145 : decode cX4_counts 145 = .ok (.iconst 1, 1) := by decide +kernel
theorem dX4_counts_146 : decode cX4_counts 146 = .ok (.goto 4, 3) := by decide +kernel
theorem dX4_counts_149 : decode cX4_counts 149 = .ok (.iconst 0, 1) := by decide +kernel
theorem dX4_counts_150 : decode cX4_counts 150 = .ok (.ireturn, 1) := by decide +kernel
theorem dX4_counts_151 : decode cX4_counts 151 = .ok (.iload_n 2, 1) := by decide +kernel
theorem dX4_counts_152 : decode cX4_counts 152 = .ok (.iconst 3, 1) := by decide +kernel
theorem dX4_counts_153 : decode cX4_counts 153 = .ok (.if_icmp .ne 17, 3) := by decide +kernel
theorem dX4_counts_156 : decode cX4_counts 156 = .ok (.iload_n 1, 1) := by decide +kernel
theorem dX4_counts_157 : decode cX4_counts 157 = .ok (.i2l, 1) := by decide +kernel
theorem dX4_counts_158 : decode cX4_counts 158 = .ok (.lload 4, 2) := by decide +kernel
theorem dX4_counts_160 : decode cX4_counts 160 = .ok (.lcmp, 1) := by decide +kernel
theorem dX4_counts_161 : decode cX4_counts 161 = .ok (.ifCond .gt 7, 3) := by decide +kernel
theorem dX4_counts_164 : decode cX4_counts 164 = .ok (.iconst 1, 1) := by decide +kernel
theorem dX4_counts_165 : decode cX4_counts 165 = .ok (.goto 4, 3) := by decide +kernel
theorem dX4_counts_168 : decode cX4_counts 168 = .ok (.iconst 0, 1) := by decide +kernel
theorem dX4_counts_169 : decode cX4_counts 169 = .ok (.ireturn, 1) := by decide +kernel
theorem dX4_counts_170 : decode cX4_counts 170 = .ok (.iload_n 2, 1) := by decide +kernel
theorem dX4_counts_171 : decode cX4_counts 171 = .ok (.iconst 4, 1) := by decide +kernel
theorem dX4_counts_172 : decode cX4_counts 172 = .ok (.if_icmp .ne 19, 3) := by decide +kernel
theorem dX4_counts_175 : decode cX4_counts 175 = .ok (.iload_n 1, 1) := by decide +kernel
theorem dX4_counts_176 : decode cX4_counts 176 = .ok (.i2l, 1) := by decide +kernel
theorem dX4_counts_177 : decode cX4_counts 177 = .ok (.lload 4, 2) := by decide +kernel
theorem dX4_counts_179 : decode cX4_counts 179 = .ok (.lcmp, 1) := by decide +kernel
theorem dX4_counts_180 : decode cX4_counts 180 = .ok (.ifCond .ne 7, 3) := by decide +kernel
theorem dX4_counts_183 : decode cX4_counts 183 = .ok (.iconst 1, 1) := by decide +kernel
theorem dX4_counts_184 : decode cX4_counts 184 = .ok (.goto 20, 3) := by decide +kernel
theorem dX4_counts_187 : decode cX4_counts 187 = .ok (.iconst 0, 1) := by decide +kernel
theorem dX4_counts_188 : decode cX4_counts 188 = .ok (.goto 16, 3) := by decide +kernel
theorem dX4_counts_191 : decode cX4_counts 191 = .ok (.iload_n 1, 1) := by decide +kernel
theorem dX4_counts_192 : decode cX4_counts 192 = .ok (.i2l, 1) := by decide +kernel
theorem dX4_counts_193 : decode cX4_counts 193 = .ok (.lload 4, 2) := by decide +kernel
theorem dX4_counts_195 : decode cX4_counts 195 = .ok (.lcmp, 1) := by decide +kernel
theorem dX4_counts_196 : decode cX4_counts 196 = .ok (.ifCond .eq 7, 3) := by decide +kernel
theorem dX4_counts_199 : decode cX4_counts 199 = .ok (.iconst 1, 1) := by decide +kernel
theorem dX4_counts_200 : decode cX4_counts 200 = .ok (.goto 4, 3) := by decide +kernel
theorem dX4_counts_203 : decode cX4_counts 203 = .ok (.iconst 0, 1) := by decide +kernel
theorem dX4_counts_204 : decode cX4_counts 204 = .ok (.ireturn, 1) := by decide +kernel
theorem dX4_byteAt_0 : decode cX4_byteAt 0 = .ok (.aload_n 0, 1) := by decide +kernel
theorem dX4_byteAt_1 : decode cX4_byteAt 1 = .ok (.iconst 0, 1) := by decide +kernel
theorem dX4_byteAt_2 : decode cX4_byteAt 2 = .ok (.putfield 7, 3) := by decide +kernel
theorem dX4_byteAt_5 : decode cX4_byteAt 5 = .ok (.iload_n 2, 1) := by decide +kernel
theorem dX4_byteAt_6 : decode cX4_byteAt 6 = .ok (.ifCond .lt 31, 3) := by decide +kernel
theorem dX4_byteAt_9 : decode cX4_byteAt 9 = .ok (.iload_n 1, 1) := by decide +kernel
theorem dX4_byteAt_10 : decode cX4_byteAt 10 = .ok (.ifCond .lt 27, 3) := by decide +kernel
theorem dX4_byteAt_13 : decode cX4_byteAt 13 = .ok (.iload_n 1, 1) := by decide +kernel
theorem dX4_byteAt_14 : decode cX4_byteAt 14 = .ok (.iconst 1, 1) := by decide +kernel
theorem dX4_byteAt_15 : decode cX4_byteAt 15 = .ok (.if_icmp .gt 22, 3) := by decide +kernel
theorem dX4_byteAt_18 : decode cX4_byteAt 18 = .ok (.iload_n 2, 1) := by decide +kernel
theorem dX4_byteAt_19 : decode cX4_byteAt 19 = .ok (.iload_n 1, 1) := by decide +kernel
theorem dX4_byteAt_20 : decode cX4_byteAt 20 = .ok (.ifCond .ne 10, 3) := by decide +kernel
theorem dX4_byteAt_23 : decode cX4_byteAt 23 = .ok (.aload_n 0, 1) := by decide +kernel
theorem dX4_byteAt_24 : decode cX4_byteAt 24 = .ok (.getfield 20, 3) := by decide +kernel
theorem dX4_byteAt_27 : decode cX4_byteAt 27 = .ok (.goto 7, 3) := by decide +kernel
theorem dX4_byteAt_30 : decode cX4_byteAt 30 = .ok (.aload_n 0, 1) := by decide +kernel
theorem dX4_byteAt_31 : decode cX4_byteAt 31 = .ok (.getfield 23, 3) := by decide +kernel
theorem dX4_byteAt_34 : decode cX4_byteAt 34 = .ok (.if_icmp .lt 5, 3) := by decide +kernel
theorem dX4_byteAt_37 : decode cX4_byteAt 37 = .ok (.iconst (-1), 1) := by decide +kernel
theorem dX4_byteAt_38 : decode cX4_byteAt 38 = .ok (.ireturn, 1) := by decide +kernel
theorem dX4_byteAt_39 : decode cX4_byteAt 39 = .ok (.iload_n 1, 1) := by decide +kernel
theorem dX4_byteAt_40 : decode cX4_byteAt 40 = .ok (.ifCond .ne 12, 3) := by decide +kernel
theorem dX4_byteAt_43 : decode cX4_byteAt 43 = .ok (.aload_n 0, 1) := by decide +kernel
theorem dX4_byteAt_44 : decode cX4_byteAt 44 = .ok (.getfield 13, 3) := by decide +kernel
theorem dX4_byteAt_47 : decode cX4_byteAt 47 = .ok (.iload_n 2, 1) := by decide +kernel
theorem dX4_byteAt_48 : decode cX4_byteAt 48 = .ok (.iaload, 1) := by decide +kernel
theorem dX4_byteAt_49 : decode cX4_byteAt 49 = .ok (.goto 9, 3) := by decide +kernel
theorem dX4_byteAt_52 : decode cX4_byteAt 52 = .ok (.aload_n 0, 1) := by decide +kernel
theorem dX4_byteAt_53 : decode cX4_byteAt 53 = .ok (.getfield 17, 3) := by decide +kernel
theorem dX4_byteAt_56 : decode cX4_byteAt 56 = .ok (.iload_n 2, 1) := by decide +kernel
theorem dX4_byteAt_57 : decode cX4_byteAt 57 = .ok (.iaload, 1) := by decide +kernel
theorem dX4_byteAt_58 : decode cX4_byteAt 58 = .ok (.ireturn, 1) := by decide +kernel
theorem dX4_size_0 : decode cX4_size 0 = .ok (.aload_n 0, 1) := by decide +kernel
theorem dX4_size_1 : decode cX4_size 1 = .ok (.iconst 0, 1) := by decide +kernel
theorem dX4_size_2 : decode cX4_size 2 = .ok (.putfield 7, 3) := by decide +kernel
theorem dX4_size_5 : decode cX4_size 5 = .ok (.iload_n 1, 1) := by decide +kernel
theorem dX4_size_6 : decode cX4_size 6 = .ok (.ifCond .ne 10, 3) := by decide +kernel
theorem dX4_size_9 : decode cX4_size 9 = .ok (.aload_n 0, 1) := by decide +kernel
theorem dX4_size_10 : decode cX4_size 10 = .ok (.getfield 20, 3) := by decide +kernel
theorem dX4_size_13 : decode cX4_size 13 = .ok (.goto 16, 3) := by decide +kernel
theorem dX4_size_16 : decode cX4_size 16 = .ok (.iload_n 1, 1) := by decide +kernel
theorem dX4_size_17 : decode cX4_size 17 = .ok (.iconst 1, 1) := by decide +kernel
theorem dX4_size_18 : decode cX4_size 18 = .ok (.if_icmp .ne 10, 3) := by decide +kernel
theorem dX4_size_21 : decode cX4_size 21 = .ok (.aload_n 0, 1) := by decide +kernel
theorem dX4_size_22 : decode cX4_size 22 = .ok (.getfield 23, 3) := by decide +kernel
theorem dX4_size_25 : decode cX4_size 25 = .ok (.goto 4, 3) := by decide +kernel
theorem dX4_size_28 : decode cX4_size 28 = .ok (.iconst (-1), 1) := by decide +kernel
theorem dX4_size_29 : decode cX4_size 29 = .ok (.ireturn, 1) := by decide +kernel
