theorem dX0_init_0 : decode cX0_init 0 = .ok (.aload_n 0, 1) := by decide +kernel
theorem dX0_init_1 : decode cX0_init 1 = .ok (.invokespecial 3, 3) := by decide +kernel
theorem dX0_init_4 : decode cX0_init 4 = .ok (.aload_n 0, 1) := by decide +kernel
theorem dX0_init_5 : decode cX0_init 5 = .ok (.bipush 100, 2) := by decide +kernel
theorem dX0_init_7 : decode cX0_init 7 = .ok (.newarray .int, 2) := by decide +kernel
theorem dX0_init_9 : decode cX0_init 9 = .ok (.putfield 9, 3) := by decide +kernel
theorem dX0_init_12 : decode cX0_init 12 = .ok (.aload_n 0, 1) := by decide +kernel
theorem dX0_init_13 : decode cX0_init 13 = .ok (.iconst 0, 1) := by decide +kernel
theorem dX0_init_14 : decode cX0_init 14 = .ok (.putfield 15, 3) := by decide +kernel
theorem dX0_init_17 : decode cX0_init 17 = .ok (.return_, 1) := by decide +kernel
theorem dX0_readPlain_0 : decode cX0_readPlain 0 = .ok (.aload_n 0, 1) := by decide +kernel
theorem dX0_readPlain_1 : decode cX0_readPlain 1 = .ok (.iconst 0, 1) := by decide +kernel
theorem dX0_readPlain_2 : decode cX0_readPlain 2 = .ok (.putfield 15, 3) := by decide +kernel
theorem dX0_readPlain_5 : decode cX0_readPlain 5 = .ok (.iconst 0, 1) := by decide +kernel
theorem dX0_readPlain_6 : decode cX0_readPlain 6 = .ok (.istore_n 2, 1) := by decide +kernel
theorem dX0_readPlain_7 : decode cX0_readPlain 7 = .ok (.iload_n 2, 1) := by decide +kernel
theorem dX0_readPlain_8 : decode cX0_readPlain 8 = .ok (.aload_n 1, 1) := by decide +kernel
theorem dX0_readPlain_9 : decode cX0_readPlain 9 = .ok (.getfield 19, 3) := by decide +kernel
theorem dX0_readPlain_12 : decode cX0_readPlain 12 = .ok (.if_icmp .ge 18, 3) := by decide +kernel
theorem dX0_readPlain_15 : decode cX0_readPlain 15 = .ok (.aload_n 0, 1) := by decide +kernel
theorem dX0_readPlain_16 : decode cX0_readPlain 16 = .ok (.aload_n 1, 1) := by decide +kernel
theorem dX0_readPlain_17 : decode cX0_readPlain 17 = .ok (.iload_n 2, 1) := by decide +kernel
theorem dX0_readPlain_18 : decode cX0_readPlain 18 = .ok (.invokevirtual 22, 3) := by decide +kernel
theorem dX0_readPlain_21 : decode cX0_readPlain 21 = .ok (.invokevirtual 26, 3) := by decide +kernel
theorem dX0_readPlain_24 : decode cX0_readPlain 24 = .ok (.iinc 2 1, 3) := by decide +kernel
theorem dX0_readPlain_27 : decode cX0_readPlain 27 = .ok (.goto (-20), 3) := by decide +kernel
theorem dX0_readPlain_30 : decode cX0_readPlain 30 = .ok (.return_, 1) := by decide +kernel
theorem dX0_readStars_0 : decode cX0_readStars 0 = .ok (.aload_n 0, 1) := by decide +kernel
theorem dX0_readStars_1 : decode cX0_readStars 1 = .ok (.iconst 0, 1) := by decide +kernel
theorem dX0_readStars_2 : decode cX0_readStars 2 = .ok (.putfield 15, 3) := by decide +kernel
theorem dX0_readStars_5 : decode cX0_readStars 5 = .ok (.iconst 0, 1) := by decide +kernel
theorem dX0_readStars_6 : decode cX0_readStars 6 = .ok (.istore_n 2, 1) := by decide +kernel
theorem dX0_readStars_7 : decode cX0_readStars 7 = .ok (.iload_n 2, 1) := by decide +kernel
theorem dX0_readStars_8 : decode cX0_readStars 8 = .ok (.aload_n 1, 1) := by decide +kernel
theorem dX0_readStars_9 : decode cX0_readStars 9 = .ok (.getfield 19, 3) := by decide +kernel
theorem dX0_readStars_12 : decode cX0_readStars 12 = .ok (.if_icmp .ge 79, 3) := by decide +kernel
theorem dX0_readStars_15 : decode cX0_readStars 15 = .ok (.aload_n 1, 1) := by decide +kernel
theorem dX0_readStars_16 : decode cX0_readStars 16 = .ok (.iload_n 2, 1) := by decide +kernel
theorem dX0_readStars_17 : decode cX0_readStars 17 = .ok (.invokevirtual 22, 3) := by decide +kernel
theorem dX0_readStars_20 : decode cX0_readStars 20 = .ok (.istore_n 3, 1) := by decide +kernel
theorem dX0_readStars_21 : decode cX0_readStars 21 = .ok (.iload_n 3, 1) := by decide +kernel
theorem dX0_readStars_22 : decode cX0_readStars 22 = .ok (.bipush 92, 2) := by decide +kernel
theorem dX0_readStars_24 : decode cX0_readStars 24 = .ok (.if_icmp .ne 28, 3) := by decide +kernel
theorem dX0_readStars_27 : decode cX0_readStars 27 = .ok (.iload_n 2, 1) := by decide +kernel
theorem dX0_readStars_28 : decode cX0_readStars 28 = .ok (.iconst 1, 1) := by decide +kernel
theorem dX0_readStars_29 : decode cX0_readStars 29 = .ok (.iadd, 1) := by decide +kernel
theorem dX0_readStars_30 : decode cX0_readStars 30 = .ok (.aload_n 1, 1) := by decide +kernel
theorem dX0_readStars_31 : decode cX0_readStars 31 = .ok (.getfield 19, 3) := by decide +kernel
theorem dX0_readStars_34 : decode cX0_readStars 34 = .ok (.if_icmp .ge 18, 3) := by decide +kernel
theorem dX0_readStars_37 : decode cX0_readStars 37 = .ok (.iinc 2 1, 3) := by decide +kernel
theorem dX0_readStars_40 : decode cX0_readStars 40 = .ok (.aload_n 0, 1) := by decide +kernel
theorem dX0_readStars_41 : decode cX0_readStars 41 = .ok (.aload_n 1, 1) := by decide +kernel
theorem dX0_readStars_42 : decode cX0_readStars 42 = .ok (.iload_n 2, 1) := by decide +kernel
theorem dX0_readStars_43 : decode cX0_readStars 43 = .ok (.invokevirtual 22, 3) := by decide +kernel
theorem dX0_readStars_46 : decode cX0_readStars 46 = .ok (.invokevirtual 26, 3) := by decide +kernel
theorem dX0_readStars_49 : decode cX0_readStars 49 = .ok (.goto 36, 3) := by decide +kernel
theorem dX0_readStars_52 : decode cX0_readStars 52 = .ok (.iload_n 3, 1) := by decide +kernel
theorem dX0_readStars_53 : decode cX0_readStars 53 = .ok (.bipush 42, 2) := by decide +kernel
theorem dX0_readStars_55 : decode cX0_readStars 55 = .ok (.if_icmp .ne 13, 3) := by decide +kernel
theorem dX0_readStars_58 : decode cX0_readStars 58 = .ok (.aload_n 0, 1) := by decide +kernel
theorem dX0_readStars_59 : decode cX0_readStars 59 = .ok (.sipush 257, 3) := by decide +kernel
theorem dX0_readStars_62 : decode cX0_readStars 62 = .ok (.invokevirtual 26, 3) := by decide +kernel
theorem dX0_readStars_65 : decode cX0_readStars 65 = .ok (.goto 20, 3) := by decide +kernel
theorem dX0_readStars_68 : decode cX0_readStars 68 = .ok (.aload_n 0, 1) := by decide +kernel
theorem dX0_readStars_69 : decode cX0_readStars 69 = .ok (.iload_n 3, 1) := by decide +kernel
theorem dX0_readStars_70 : decode cX0_readStars 70 = .ok (.bipush 63, 2) := by decide +kernel
theorem dX0_readStars_72 : decode cX0_readStars 72 = .ok (.if_icmp .ne 9, 3) := by decide +kernel
theorem dX0_readStars_75 : decode cX0_readStars 75 = .ok (.sipush 256, 3) := by decide +kernel
theorem dX0_readStars_78 : decode cX0_readStars 78 = .ok (.goto 4, 3) := by decide +kernel
theorem dX0_readStars_81 : decode cX0_readStars 81 = .ok (.iload_n 3, 1) := by decide +kernel
theorem dX0_readStars_82 : decode cX0_readStars 82 = .ok (.invokevirtual 26, 3) := by decide +kernel
theorem dX0_readStars_85 : decode cX0_readStars 85 = .ok (.iinc 2 1, 3) := by decide +kernel
theorem dX0_readStars_88 : decode cX0_readStars 88 = .ok (.goto (-81), 3) := by decide +kernel
theorem dX0_readStars_91 : decode cX0_readStars 91 = .ok (.return_, 1) := by decide +kernel
theorem dX0_at_0 : decode cX0_at 0 = .ok (.iload_n 1, 1) := by decide +kernel
theorem dX0_at_1 : decode cX0_at 1 = .ok (.ifCond .lt 20, 3) := by decide +kernel
theorem dX0_at_4 : decode cX0_at 4 = .ok (.iload_n 1, 1) := by decide +kernel
theorem dX0_at_5 : decode cX0_at 5 = .ok (.aload_n 0, 1) := by decide +kernel
theorem dX0_at_6 : decode cX0_at 6 = .ok (.getfield 15, 3) := by decide +kernel
theorem dX0_at_9 : decode cX0_at 9 = .ok (.if_icmp .ge 12, 3) := by decide +kernel
theorem dX0_at_12 : decode cX0_at 12 = .ok (.aload_n 0, 1) := by decide +kernel
theorem dX0_at_13 : decode cX0_at 13 = .ok (.getfield 9, 3) := by decide +kernel
theorem dX0_at_16 : decode cX0_at 16 = .ok (.iload_n 1, 1) := by decide +kernel
theorem dX0_at_17 : decode cX0_at 17 = .ok (.iaload, 1) := by decide +kernel
theorem dX0_at_18 : decode cX0_at 18 = .ok (.goto 4, 3) := by decide +kernel
theorem dX0_at_21 : decode cX0_at 21 = .ok (.iconst (-1), 1) := by decide +kernel
theorem dX0_at_22 : decode cX0_at 22 = .ok (.ireturn, 1) := by decide +kernel
theorem dX0_starFrom_0 : decode cX0_starFrom 0 = .ok (.iload_n 1, 1) := by decide +kernel
theorem dX0_starFrom_1 : decode cX0_starFrom 1 = .ok (.istore_n 2, 1) := by decide +kernel
theorem dX0_starFrom_2 : decode cX0_starFrom 2 = .ok (.iload_n 2, 1) := by decide +kernel
theorem dX0_starFrom_3 : decode cX0_starFrom 3 = .ok (.aload_n 0, 1) := by decide +kernel
theorem dX0_starFrom_4 : decode cX0_starFrom 4 = .ok (.getfield 15, 3) := by decide +kernel
theorem dX0_starFrom_7 : decode cX0_starFrom 7 = .ok (.if_icmp .ge 20, 3) := by decide +kernel
theorem dX0_starFrom_10 : decode cX0_starFrom 10 = .ok (.aload_n 0, 1) := by decide +kernel
theorem dX0_starFrom_11 : decode cX0_starFrom 11 = .ok (.iload_n 2, 1) := by decide +kernel
theorem dX0_starFrom_12 : decode cX0_starFrom 12 = .ok (.invokevirtual 30, 3) := by decide +kernel
theorem dX0_starFrom_15 : decode cX0_starFrom 15 = .ok (.sipush 257, 3) := by decide +kernel
theorem dX0_starFrom_18 : decode cX0_starFrom 18 = .ok (.if_icmp .eq 9, 3) := by decide +kernel
theorem dX0_starFrom_21 : decode cX0_starFrom 21 = .ok (.iinc 2 1, 3) := by decide +kernel
theorem dX0_starFrom_24 : decode cX0_starFrom 24 = .ok (.goto (-22), 3) := by decide +kernel
theorem dX0_starFrom_27 : decode cX0_starFrom 27 = .ok (.iload_n 2, 1) := by decide +kernel
theorem dX0_starFrom_28 : decode cX0_starFrom 28 = .ok (.ireturn, 1) := by decide +kernel
theorem dX0_append_0 : decode cX0_append 0 = .ok (.aload_n 0, 1) := by decide +kernel
theorem dX0_append_1 : decode cX0_append 1 = .ok (.getfield 15, 3) := by decide +kernel
theorem dX0_append_4 : decode cX0_append 4 = .ok (.aload_n 0, 1) := by decide +kernel
theorem dX0_append_5 : decode cX0_append 5 = .ok (.getfield 9, 3) := by decide +kernel
theorem dX0_append_8 : decode cX0_append 8 = .ok (.arraylength, 1) := by decide +kernel
theorem dX0_append_9 : decode cX0_append 9 = .ok (.if_icmp .ge 23, 3) := by decide +kernel
theorem dX0_append_12 : decode cX0_append 12 = .ok (.aload_n 0, 1) := by decide +kernel
theorem dX0_append_13 : decode cX0_append 13 = .ok (.getfield 9, 3) := by decide +kernel
theorem dX0_append_16 : decode cX0_append 16 = .ok (.aload_n 0, 1) := by decide +kernel
theorem dX0_append_17 : decode cX0_append 17 = .ok (.getfield 15, 3) := by decide +kernel
theorem dX0_append_20 : decode cX0_append 20 = .ok (.iload_n 1, 1) := by decide +kernel
theorem dX0_append_21 : decode cX0_append 21 = .ok (.iastore, 1) := by decide +kernel
theorem dX0_append_22 : decode cX0_append 22 = .ok (.aload_n 0, 1) := by decide +kernel
theorem dX0_append_23 : decode cX0_append 23 = .ok (.dup, 1) := by decide +kernel
theorem dX0_append_24 : decode cX0_append 24 = .ok (.getfield 15, 3) := by decide +kernel
theorem dX0_append_27 : decode cX0_append 27 = .ok (.iconst 1, 1) := by decide +kernel
theorem dX0_append_28 : decode cX0_append 28 = .ok (.iadd, 1) := by decide +kernel
theorem dX0_append_29 : decode cX0_append 29 = .ok (.putfield 15, 3) := by decide +kernel
theorem dX0_append_32 : decode cX0_append 32 = .ok (.return_, 1) := by decide +kernel
theorem dX1_init_0 : decode cX1_init 0 = .ok (.aload_n 0, 1) := by decide +kernel
theorem dX1_init_1 : decode cX1_init 1 = .ok (.invokespecial 3, 3) := by decide +kernel
theorem dX1_init_4 : decode cX1_init 4 = .ok (.aload_n 0, 1) := by decide +kernel
theorem dX1_init_5 : decode cX1_init 5 = .ok (.bipush 100, 2) := by decide +kernel
theorem dX1_init_7 : decode cX1_init 7 = .ok (.newarray .int, 2) := by decide +kernel
theorem dX1_init_9 : decode cX1_init 9 = .ok (.putfield 9, 3) := by decide +kernel
theorem dX1_init_12 : decode cX1_init 12 = .ok (.aload_n 0, 1) := by decide +kernel
theorem dX1_init_13 : decode cX1_init 13 = .ok (.iconst 0, 1) := by decide +kernel
theorem dX1_init_14 : decode cX1_init 14 = .ok (.putfield 15, 3) := by decide +kernel
theorem dX1_init_17 : decode cX1_init 17 = .ok (.return_, 1) := by decide +kernel
theorem dX1_append_0 : decode cX1_append 0 = .ok (.iload_n 3, 1) := by decide +kernel
theorem dX1_append_1 : decode cX1_append 1 = .ok (.iconst 1, 1) := by decide +kernel
theorem dX1_append_2 : decode cX1_append 2 = .ok (.if_icmp .lt 23, 3) := by decide +kernel
theorem dX1_append_5 : decode cX1_append 5 = .ok (.iload_n 3, 1) := by decide +kernel
theorem dX1_append_6 : decode cX1_append 6 = .ok (.bipush 8, 2) := by decide +kernel
theorem dX1_append_8 : decode cX1_append 8 = .ok (.if_icmp .gt 17, 3) := by decide +kernel
theorem dX1_append_11 : decode cX1_append 11 = .ok (.iload_n 3, 1) := by decide +kernel
theorem dX1_append_12 : decode cX1_append 12 = .ok (.aload_n 0, 1) := by decide +kernel
theorem dX1_append_13 : decode cX1_append 13 = .ok (.getfield 9, 3) := by decide +kernel
theorem dX1_append_16 : decode cX1_append 16 = .ok (.arraylength, 1) := by decide +kernel
theorem dX1_append_17 : decode cX1_append 17 = .ok (.aload_n 0, 1) := by decide +kernel
theorem dX1_append_18 : decode cX1_append 18 = .ok (.getfield 15, 3) := by decide +kernel
theorem dX1_append_21 : decode cX1_append 21 = .ok (.isub, 1) := by decide +kernel
theorem dX1_append_22 : decode cX1_append 22 = .ok (.if_icmp .le 5, 3) := by decide +kernel
theorem dX1_append_25 : decode cX1_append 25 = .ok (.iconst 0, 1) := by decide +kernel
theorem dX1_append_26 : decode cX1_append 26 = .ok (.ireturn, 1) := by decide +kernel
theorem dX1_append_27 : decode cX1_append 27 = .ok (.iload_n 3, 1) := by decide +kernel
theorem dX1_append_28 : decode cX1_append 28 = .ok (.iconst 1, 1) := by decide +kernel
theorem dX1_append_29 : decode cX1_append 29 = .ok (.isub, 1) := by decide +kernel
theorem dX1_append_30 : decode cX1_append 30 = .ok (.istore 4, 2) := by decide +kernel
theorem dX1_append_32 : decode cX1_append 32 = .ok (.iload 4, 2) := by decide +kernel
theorem dX1_append_34 : decode cX1_append 34 = .ok (.ifCond .lt 40, 3) := by decide +kernel
theorem dX1_append_37 : decode cX1_append 37 = .ok (.aload_n 0, 1) := by decide +kernel
theorem dX1_append_38 : decode cX1_append 38 = .ok (.getfield 9, 3) := by decide +kernel
theorem dX1_append_41 : decode cX1_append 41 = .ok (.aload_n 0, 1) := by decide +kernel
theorem dX1_append_42 : decode cX1_append 42 = .ok (.getfield 15, 3) := by decide +kernel
theorem dX1_append_45 : decode cX1_append 45 = .ok (.lload_n 1, 1) := by decide +kernel
theorem dX1_append_46 : decode cX1_append 46 = .ok (.bipush 8, 2) := by decide +kernel
theorem dX1_append_48 : decode cX1_append 48 = .ok (.iload 4, 2) := by decide +kernel
theorem dX1_append_50 : decode cX1_append 50 = .ok (.imul, 1) := by decide +kernel
theorem dX1_append_51 : decode cX1_append 51 = .ok (.lushr, 1) := by decide +kernel
theorem dX1_append_52 : decode cX1_append 52 = .ok (.l2i, 1) := by decide +kernel
theorem dX1_append_53 : decode cX1_append 53 = .ok (.sipush 255, 3) := by decide +kernel
theorem dX1_append_56 : decode cX1_append 56 = .ok (.iand, 1) := by decide +kernel
theorem dX1_append_57 : decode cX1_append 57 = .ok (.iastore, 1) := by decide +kernel
theorem dX1_append_58 : decode cX1_append 58 = .ok (.aload_n 0, 1) := by decide +kernel
theorem dX1_append_59 : decode cX1_append 59 = .ok (.dup, 1) := by decide +kernel
theorem dX1_append_60 : decode cX1_append 60 = .ok (.getfield 15, 3) := by decide +kernel
theorem dX1_append_63 : decode cX1_append 63 = .ok (.iconst 1, 1) := by decide +kernel
theorem dX1_append_64 : decode cX1_append 64 = .ok (.iadd, 1) := by decide +kernel
theorem dX1_append_65 : decode cX1_append 65 = .ok (.putfield 15, 3) := by decide +kernel
theorem dX1_append_68 : decode cX1_append 68 = .ok (.iinc 4 (-1), 3) := by decide +kernel
theorem dX1_append_71 : decode cX1_append 71 = .ok (.goto (-39), 3) := by decide +kernel
theorem dX1_append_74 : decode cX1_append 74 = .ok (.iconst 1, 1) := by decide +kernel
theorem dX1_append_75 : decode cX1_append 75 = .ok (.ireturn, 1) := by decide +kernel
theorem dX1_at_0 : decode cX1_at 0 = .ok (.iload_n 1, 1) := by decide +kernel
theorem dX1_at_1 : decode cX1_at 1 = .ok (.ifCond .lt 20, 3) := by decide +kernel
theorem dX1_at_4 : decode cX1_at 4 = .ok (.iload_n 1, 1) := by decide +kernel
theorem dX1_at_5 : decode cX1_at 5 = .ok (.aload_n 0, 1) := by decide +kernel
theorem dX1_at_6 : decode cX1_at 6 = .ok (.getfield 15, 3) := by decide +kernel
theorem dX1_at_9 : decode cX1_at 9 = .ok (.if_icmp .ge 12, 3) := by decide +kernel
theorem dX1_at_12 : decode cX1_at 12 = .ok (.aload_n 0, 1) := by decide +kernel
theorem dX1_at_13 : decode cX1_at 13 = .ok (.getfield 9, 3) := by decide +kernel
theorem dX1_at_16 : decode cX1_at 16 = .ok (.iload_n 1, 1) := by decide +kernel
theorem dX1_at_17 : decode cX1_at 17 = .ok (.iaload, 1) := by decide +kernel
theorem dX1_at_18 : decode cX1_at 18 = .ok (.goto 4, 3) := by decide +kernel
theorem dX1_at_21 : decode cX1_at 21 = .ok (.iconst (-1), 1) := by decide +kernel
theorem dX1_at_22 : decode cX1_at 22 = .ok (.ireturn, 1) := by decide +kernel
theorem dX1_digits_0 : decode cX1_digits 0 = .ok (.iconst 0, 1) := by decide +kernel
theorem dX1_digits_1 : decode cX1_digits 1 = .ok (.istore_n 1, 1) := by decide +kernel
theorem dX1_digits_2 : decode cX1_digits 2 = .ok (.iload_n 1, 1) := by decide +kernel
theorem dX1_digits_3 : decode cX1_digits 3 = .ok (.aload_n 0, 1) := by decide +kernel
theorem dX1_digits_4 : decode cX1_digits 4 = .ok (.getfield 15, 3) := by decide +kernel
theorem dX1_digits_7 : decode cX1_digits 7 = .ok (.if_icmp .ge 31, 3) := by decide +kernel
theorem dX1_digits_10 : decode cX1_digits 10 = .ok (.aload_n 0, 1) := by decide +kernel
theorem dX1_digits_11 : decode cX1_digits 11 = .ok (.getfield 9, 3) := by decide +kernel
theorem dX1_digits_14 : decode cX1_digits 14 = .ok (.iload_n 1, 1) := by decide +kernel
theorem dX1_digits_15 : decode cX1_digits 15 = .ok (.iaload, 1) := by decide +kernel
theorem dX1_digits_16 : decode cX1_digits 16 = .ok (.bipush 48, 2) := by decide +kernel
theorem dX1_digits_18 : decode cX1_digits 18 = .ok (.if_icmp .lt 20, 3) := by decide +kernel
theorem dX1_digits_21 : decode cX1_digits 21 = .ok (.aload_n 0, 1) := by decide +kernel
theorem dX1_digits_22 : decode cX1_digits 22 = .ok (.getfield 9, 3) := by decide +kernel
theorem dX1_digits_25 : decode cX1_digits 25 = .ok (.iload_n 1, 1) := by decide +kernel
theorem dX1_digits_26 : decode cX1_digits 26 = .ok (.iaload, 1) := by decide +kernel
theorem dX1_digits_27 : decode cX1_digits 27 = .ok (.bipush 57, 2) := by decide +kernel
theorem dX1_digits_29 : decode cX1_digits 29 = .ok (.if_icmp .gt 9, 3) := by decide +kernel
theorem dX1_digits_32 : decode cX1_digits 32 = .ok (.iinc 1 1, 3) := by decide +kernel
theorem dX1_digits_35 : decode cX1_digits 35 = .ok (.goto (-33), 3) := by decide +kernel
theorem dX1_digits_38 : decode cX1_digits 38 = .ok (.iload_n 1, 1) := by decide +kernel
theorem dX1_digits_39 : decode cX1_digits 39 = .ok (.ireturn, 1) := by decide +kernel
theorem dX1_zerosBefore_0 : decode cX1_zerosBefore 0 = .ok (.iconst 0, 1) := by decide +kernel
theorem dX1_zerosBefore_1 : decode cX1_zerosBefore 1 = .ok (.istore_n 2, 1) := by decide +kernel
theorem dX1_zerosBefore_2 : decode cX1_zerosBefore 2 = .ok (.iload_n 2, 1) := by decide +kernel
theorem dX1_zerosBefore_3 : decode cX1_zerosBefore 3 = .ok (.iload_n 1, 1) := by decide +kernel
theorem dX1_zerosBefore_4 : decode cX1_zerosBefore 4 = .ok (.if_icmp .ge 19, 3) := by decide +kernel
theorem dX1_zerosBefore_7 : decode cX1_zerosBefore 7 = .ok (.aload_n 0, 1) := by decide +kernel
theorem dX1_zerosBefore_8 : decode cX1_zerosBefore 8 = .ok (.iload_n 2, 1) := by decide +kernel
theorem dX1_zerosBefore_9 : decode cX1_zerosBefore 9 = .ok (.invokevirtual 19, 3) := by decide +kernel
theorem dX1_zerosBefore_12 : decode cX1_zerosBefore 12 = .ok (.bipush 48, 2) := by decide +kernel
theorem dX1_zerosBefore_14 : decode cX1_zerosBefore 14 = .ok (.if_icmp .ne 9, 3) := by decide +kernel
theorem dX1_zerosBefore_17 : decode cX1_zerosBefore 17 = .ok (.iinc 2 1, 3) := by decide +kernel
theorem dX1_zerosBefore_20 : decode cX1_zerosBefore 20 = .ok (.goto (-18), 3) := by decide +kernel
theorem dX1_zerosBefore_23 : decode cX1_zerosBefore 23 = .ok (.iload_n 2, 1) := by decide +kernel
theorem dX1_zerosBefore_24 : decode cX1_zerosBefore 24 = .ok (.ireturn, 1) := by decide +kernel
theorem dX1_numberUpTo_0 : decode cX1_numberUpTo 0 = .ok (.aload_n 0, 1) := by decide +kernel
theorem dX1_numberUpTo_1 : decode cX1_numberUpTo 1 = .ok (.invokevirtual 23, 3) := by decide +kernel
theorem dX1_numberUpTo_4 : decode cX1_numberUpTo 4 = .ok (.istore_n 3, 1) := by decide +kernel
theorem dX1_numberUpTo_5 : decode cX1_numberUpTo 5 = .ok (.iload_n 3, 1) := by decide +kernel
theorem dX1_numberUpTo_6 : decode cX1_numberUpTo 6 = .ok (.ifCond .ne 5, 3) := by decide +kernel
theorem dX1_numberUpTo_9 : decode cX1_numberUpTo 9 = .ok (.lload_n 1, 1) := by decide +kernel
theorem dX1_numberUpTo_10 : decode cX1_numberUpTo 10 = .ok (.lreturn, 1) := by decide +kernel
theorem dX1_numberUpTo_11 : decode cX1_numberUpTo 11 = .ok (.lconst 0, 1) := by decide +kernel
theorem dX1_numberUpTo_12 : decode cX1_numberUpTo 12 = .ok (.lstore 4, 2) := by decide +kernel
theorem dX1_numberUpTo_14 : decode cX1_numberUpTo 14 = .ok (.iconst 0, 1) := by decide +kernel
theorem dX1_numberUpTo_15 : decode cX1_numberUpTo 15 = .ok (.istore 6, 2) := by decide +kernel
theorem dX1_numberUpTo_17 : decode cX1_numberUpTo 17 = .ok (.iload 6, 2) := by decide +kernel
theorem dX1_numberUpTo_19 : decode cX1_numberUpTo 19 = .ok (.iload_n 3, 1) := by decide +kernel
theorem dX1_numberUpTo_20 : decode cX1_numberUpTo 20 = .ok (.if_icmp .ge 32, 3) := by decide +kernel
theorem dX1_numberUpTo_23 : decode cX1_numberUpTo 23 = .ok (.lload_n 1, 1) := by decide +kernel
theorem dX1_numberUpTo_24 : decode cX1_numberUpTo 24 = .ok (.lload 4, 2) := by decide +kernel
theorem dX1_numberUpTo_26 : decode cX1_numberUpTo 26 = .ok (.ldc2_w 27, 3) := by decide +kernel
theorem dX1_numberUpTo_29 : decode cX1_numberUpTo 29 = .ok (.lmul, 1) := by decide +kernel
theorem dX1_numberUpTo_30 : decode cX1_numberUpTo 30 = .ok (.aload_n 0, 1) := by decide +kernel
theorem dX1_numberUpTo_31 : decode cX1_numberUpTo 31 = .ok (.iload 6, 2) := by decide +kernel
theorem dX1_numberUpTo_33 : decode cX1_numberUpTo 33 = .ok (.invokevirtual 19, 3) := by decide +kernel
theorem dX1_numberUpTo_36 : decode cX1_numberUpTo 36 = .ok (.bipush 48, 2) := by decide +kernel
theorem dX1_numberUpTo_38 : decode cX1_numberUpTo 38 = .ok (.isub, 1) := by decide +kernel
theorem dX1_numberUpTo_39 : decode cX1_numberUpTo 39 = .ok (.i2l, 1) := by decide +kernel
theorem dX1_numberUpTo_40 : decode cX1_numberUpTo 40 = .ok (.ladd, 1) := by decide +kernel
theorem dX1_numberUpTo_41 : decode cX1_numberUpTo 41 = .ok (.invokestatic 29, 3) := by decide +kernel
theorem dX1_numberUpTo_44 : decode cX1_numberUpTo 44 = .ok (.lstore 4, 2) := by decide +kernel
theorem dX1_numberUpTo_46 : decode cX1_numberUpTo 46 = .ok (.iinc 6 1, 3) := by decide +kernel
theorem dX1_numberUpTo_49 : decode cX1_numberUpTo 49 = .ok (.goto (-32), 3) := by decide +kernel
theorem dX1_numberUpTo_52 : decode cX1_numberUpTo 52 = .ok (.lload 4, 2) := by decide +kernel
theorem dX1_numberUpTo_54 : decode cX1_numberUpTo 54 = .ok (.lreturn, 1) := by decide +kernel
theorem dX2_init_0 : decode cX2_init 0 = .ok (.aload_n 0, 1) := by decide +kernel
theorem dX2_init_1 : decode cX2_init 1 = .ok (.invokespecial 3, 3) := by decide +kernel
theorem dX2_init_4 : decode cX2_init 4 = .ok (.aload_n 0, 1) := by decide +kernel
theorem dX2_init_5 : decode cX2_init 5 = .ok (.bipush 100, 2) := by decide +kernel
theorem dX2_init_7 : decode cX2_init 7 = .ok (.newarray .int, 2) := by decide +kernel
theorem dX2_init_9 : decode cX2_init 9 = .ok (.putfield 9, 3) := by decide +kernel
theorem dX2_init_12 : decode cX2_init 12 = .ok (.aload_n 0, 1) := by decide +kernel
theorem dX2_init_13 : decode cX2_init 13 = .ok (.bipush 100, 2) := by decide +kernel
theorem dX2_init_15 : decode cX2_init 15 = .ok (.newarray .int, 2) := by decide +kernel
theorem dX2_init_17 : decode cX2_init 17 = .ok (.putfield 15, 3) := by decide +kernel
theorem dX2_init_20 : decode cX2_init 20 = .ok (.aload_n 0, 1) := by decide +kernel
theorem dX2_init_21 : decode cX2_init 21 = .ok (.iconst 0, 1) := by decide +kernel
theorem dX2_init_22 : decode cX2_init 22 = .ok (.putfield 18, 3) := by decide +kernel
theorem dX2_init_25 : decode cX2_init 25 = .ok (.return_, 1) := by decide +kernel
theorem dX2_append_0 : decode cX2_append 0 = .ok (.aload_n 0, 1) := by decide +kernel
theorem dX2_append_1 : decode cX2_append 1 = .ok (.getfield 18, 3) := by decide +kernel
theorem dX2_append_4 : decode cX2_append 4 = .ok (.aload_n 0, 1) := by decide +kernel
theorem dX2_append_5 : decode cX2_append 5 = .ok (.getfield 9, 3) := by decide +kernel
theorem dX2_append_8 : decode cX2_append 8 = .ok (.arraylength, 1) := by decide +kernel
theorem dX2_append_9 : decode cX2_append 9 = .ok (.if_icmp .ge 33, 3) := by decide +kernel
theorem dX2_append_12 : decode cX2_append 12 = .ok (.aload_n 0, 1) := by decide +kernel
theorem dX2_append_13 : decode cX2_append 13 = .ok (.getfield 9, 3) := by decide +kernel
theorem dX2_append_16 : decode cX2_append 16 = .ok (.aload_n 0, 1) := by decide +kernel
theorem dX2_append_17 : decode cX2_append 17 = .ok (.getfield 18, 3) := by decide +kernel
theorem dX2_append_20 : decode cX2_append 20 = .ok (.iload_n 1, 1) := by decide +kernel
theorem dX2_append_21 : decode cX2_append 21 = .ok (.iastore, 1) := by decide +kernel
theorem dX2_append_22 : decode cX2_append 22 = .ok (.aload_n 0, 1) := by decide +kernel
theorem dX2_append_23 : decode cX2_append 23 = .ok (.getfield 15, 3) := by decide +kernel
theorem dX2_append_26 : decode cX2_append 26 = .ok (.aload_n 0, 1) := by decide +kernel
theorem dX2_append_27 : decode cX2_append 27 = .ok (.getfield 18, 3) := by decide +kernel
theorem dX2_append_30 : decode cX2_append 30 = .ok (.iload_n 2, 1) := by decide +kernel
theorem dX2_append_31 : decode cX2_append 31 = .ok (.iastore, 1) := by decide +kernel
theorem dX2_append_32 : decode cX2_append 32 = .ok (.aload_n 0, 1) := by decide +kernel
theorem dX2_append_33 : decode cX2_append 33 = .ok (.dup, 1) := by decide +kernel
theorem dX2_append_34 : decode cX2_append 34 = .ok (.getfield 18, 3) := by decide +kernel
theorem dX2_append_37 : decode cX2_append 37 = .ok (.iconst 1, 1) := by decide +kernel
theorem dX2_append_38 : decode cX2_append 38 = .ok (.iadd, 1) := by decide +kernel
theorem dX2_append_39 : decode cX2_append 39 = .ok (.putfield 18, 3) := by decide +kernel
theorem dX2_append_42 : decode cX2_append 42 = .ok (.return_, 1) := by decide +kernel
theorem dX2_beginOf_0 : decode cX2_beginOf 0 = .ok (.iload_n 1, 1) := by decide +kernel
theorem dX2_beginOf_1 : decode cX2_beginOf 1 = .ok (.ifCond .lt 20, 3) := by decide +kernel
theorem dX2_beginOf_4 : decode cX2_beginOf 4 = .ok (.iload_n 1, 1) := by decide +kernel
theorem dX2_beginOf_5 : decode cX2_beginOf 5 = .ok (.aload_n 0, 1) := by decide +kernel
theorem dX2_beginOf_6 : decode cX2_beginOf 6 = .ok (.getfield 18, 3) := by decide +kernel
theorem dX2_beginOf_9 : decode cX2_beginOf 9 = .ok (.if_icmp .ge 12, 3) := by decide +kernel
theorem dX2_beginOf_12 : decode cX2_beginOf 12 = .ok (.aload_n 0, 1) := by decide +kernel
theorem dX2_beginOf_13 : decode cX2_beginOf 13 = .ok (.getfield 9, 3) := by decide +kernel
theorem dX2_beginOf_16 : decode cX2_beginOf 16 = .ok (.iload_n 1, 1) := by decide +kernel
theorem dX2_beginOf_17 : decode cX2_beginOf 17 = .ok (.iaload, 1) := by decide +kernel
theorem dX2_beginOf_18 : decode cX2_beginOf 18 = .ok (.goto 4, 3) := by decide +kernel
theorem dX2_beginOf_21 : decode cX2_beginOf 21 = .ok (.iconst (-1), 1) := by decide +kernel
theorem dX2_beginOf_22 : decode cX2_beginOf 22 = .ok (.ireturn, 1) := by decide +kernel
theorem dX2_lengthOf_0 : decode cX2_lengthOf 0 = .ok (.iload_n 1, 1) := by decide +kernel
theorem dX2_lengthOf_1 : decode cX2_lengthOf 1 = .ok (.ifCond .lt 20, 3) := by decide +kernel
theorem dX2_lengthOf_4 : decode cX2_lengthOf 4 = .ok (.iload_n 1, 1) := by decide +kernel
theorem dX2_lengthOf_5 : decode cX2_lengthOf 5 = .ok (.aload_n 0, 1) := by decide +kernel
theorem dX2_lengthOf_6 : decode cX2_lengthOf 6 = .ok (.getfield 18, 3) := by decide +kernel
theorem dX2_lengthOf_9 : decode cX2_lengthOf 9 = .ok (.if_icmp .ge 12, 3) := by decide +kernel
theorem dX2_lengthOf_12 : decode cX2_lengthOf 12 = .ok (.aload_n 0, 1) := by decide +kernel
theorem dX2_lengthOf_13 : decode cX2_lengthOf 13 = .ok (.getfield 15, 3) := by decide +kernel
theorem dX2_lengthOf_16 : decode cX2_lengthOf 16 = .ok (.iload_n 1, 1) := by decide +kernel
theorem dX2_lengthOf_17 : decode cX2_lengthOf 17 = .ok (.iaload, 1) := by decide +kernel
theorem dX2_lengthOf_18 : decode cX2_lengthOf 18 = .ok (.goto 4, 3) := by decide +kernel
theorem dX2_lengthOf_21 : decode cX2_lengthOf 21 = .ok (.iconst (-1), 1) := by decide +kernel
theorem dX2_lengthOf_22 : decode cX2_lengthOf 22 = .ok (.ireturn, 1) := by decide +kernel
theorem dX3_init_0 : decode cX3_init 0 = .ok (.aload_n 0, 1) := by decide +kernel
theorem dX3_init_1 : decode cX3_init 1 = .ok (.invokespecial 1, 3) := by decide +kernel
theorem dX3_init_4 : decode cX3_init 4 = .ok (.aload_n 0, 1) := by decide +kernel
theorem dX3_init_5 : decode cX3_init 5 = .ok (.new 7, 3) := by decide +kernel
theorem dX3_init_8 : decode cX3_init 8 = .ok (.dup, 1) := by decide +kernel
theorem dX3_init_9 : decode cX3_init 9 = .ok (.invokespecial 9, 3) := by decide +kernel
theorem dX3_init_12 : decode cX3_init 12 = .ok (.putfield 10, 3) := by decide +kernel
theorem dX3_init_15 : decode cX3_init 15 = .ok (.aload_n 0, 1) := by decide +kernel
theorem dX3_init_16 : decode cX3_init 16 = .ok (.new 7, 3) := by decide +kernel
theorem dX3_init_19 : decode cX3_init 19 = .ok (.dup, 1) := by decide +kernel
theorem dX3_init_20 : decode cX3_init 20 = .ok (.invokespecial 9, 3) := by decide +kernel
theorem dX3_init_23 : decode cX3_init 23 = .ok (.putfield 16, 3) := by decide +kernel
theorem dX3_init_26 : decode cX3_init 26 = .ok (.aload_n 0, 1) := by decide +kernel
theorem dX3_init_27 : decode cX3_init 27 = .ok (.new 19, 3) := by decide +kernel
theorem dX3_init_30 : decode cX3_init 30 = .ok (.dup, 1) := by decide +kernel
theorem dX3_init_31 : decode cX3_init 31 = .ok (.invokespecial 21, 3) := by decide +kernel
theorem dX3_init_34 : decode cX3_init 34 = .ok (.putfield 22, 3) := by decide +kernel
theorem dX3_init_37 : decode cX3_init 37 = .ok (.aload_n 0, 1) := by decide +kernel
theorem dX3_init_38 : decode cX3_init 38 = .ok (.new 26, 3) := by decide +kernel
theorem dX3_init_41 : decode cX3_init 41 = .ok (.dup, 1) := by decide +kernel
theorem dX3_init_42 : decode cX3_init 42 = .ok (.invokespecial 28, 3) := by decide +kernel
theorem dX3_init_45 : decode cX3_init 45 = .ok (.putfield 29, 3) := by decide +kernel
theorem dX3_init_48 : decode cX3_init 48 = .ok (.return_, 1) := by decide +kernel
theorem dX3_put_0 : decode cX3_put 0 = .ok (.aload_n 0, 1) := by decide +kernel
theorem dX3_put_1 : decode cX3_put 1 = .ok (.iload_n 1, 1) := by decide +kernel
theorem dX3_put_2 : decode cX3_put 2 = .ok (.invokevirtual 33, 3) := by decide +kernel
theorem dX3_put_5 : decode cX3_put 5 = .ok (.astore 5, 2) := by decide +kernel
theorem dX3_put_7 : decode cX3_put 7 = .ok (.aload 5, 2) := by decide +kernel
theorem dX3_put_9 : decode cX3_put 9 = .ok (.ifnull 18, 3) := by decide +kernel
theorem dX3_put_12 : decode cX3_put 12 = .ok (.aload 5, 2) := by decide +kernel
theorem dX3_put_14 : decode cX3_put 14 = .ok (.lload_n 2, 1) := by decide +kernel
theorem dX3_put_15 : decode cX3_put 15 = .ok (.iload 4, 2) := by decide +kernel
theorem dX3_put_17 : decode cX3_put 17 = .ok (.invokevirtual 37, 3) := by decide +kernel
theorem dX3_put_20 : decode cX3_put 20 = .ok (.ifCond .eq 7, 3) := by decide +kernel
theorem dX3_put_23 : decode cX3_put 23 = .ok (.iconst 1, 1) := by decide +kernel
theorem dX3_put_24 : decode cX3_put 24 = .ok (.goto 4, 3) := by decide +kernel
theorem dX3_put_27 : decode cX3_put 27 = .ok (.iconst 0, 1) := by decide +kernel
theorem dX3_put_28 : decode cX3_put 28 = .ok (.ireturn, 1) := by decide +kernel
theorem dX3_clear_0 : decode cX3_clear 0 = .ok (.aload_n 0, 1) := by decide +kernel
theorem dX3_clear_1 : decode cX3_clear 1 = .ok (.iload_n 1, 1) := by decide +kernel
theorem dX3_clear_2 : decode cX3_clear 2 = .ok (.invokevirtual 33, 3) := by decide +kernel
theorem dX3_clear_5 : decode cX3_clear 5 = .ok (.astore_n 2, 1) := by decide +kernel
theorem dX3_clear_6 : decode cX3_clear 6 = .ok (.aload_n 2, 1) := by decide +kernel
theorem dX3_clear_7 : decode cX3_clear 7 = .ok (.ifnonnull 5, 3) := by decide +kernel
theorem dX3_clear_10 : decode cX3_clear 10 = .ok (.iconst (-1), 1) := by decide +kernel
theorem dX3_clear_11 : decode cX3_clear 11 = .ok (.ireturn, 1) := by decide +kernel
theorem dX3_clear_12 : decode cX3_clear 12 = .ok (.aload_n 2, 1) := by decide +kernel
theorem dX3_clear_13 : decode cX3_clear 13 = .ok (.getfield 41, 3) := by decide +kernel
theorem dX3_clear_16 : decode cX3_clear 16 = .ok (.istore_n 3, 1) := by decide +kernel
theorem dX3_clear_17 : decode cX3_clear 17 = .ok (.aload_n 2, 1) := by decide +kernel
theorem dX3_clear_18 : decode cX3_clear 18 = .ok (.iconst 0, 1) := by decide +kernel
theorem dX3_clear_19 : decode cX3_clear 19 = .ok (.putfield 41, 3) := by decide +kernel
theorem dX3_clear_22 : decode cX3_clear 22 = .ok (.iload_n 3, 1) := by decide +kernel
theorem dX3_clear_23 : decode cX3_clear 23 = .ok (.ireturn, 1) := by decide +kernel
theorem dX3_match_0 : decode cX3_match 0 = .ok (.iload_n 1, 1) := by decide +kernel
theorem dX3_match_1 : decode cX3_match 1 = .ok (.ifCond .lt 15, 3) := by decide +kernel
theorem dX3_match_4 : decode cX3_match 4 = .ok (.iload_n 1, 1) := by decide +kernel
theorem dX3_match_5 : decode cX3_match 5 = .ok (.iconst 2, 1) := by decide +kernel
theorem dX3_match_6 : decode cX3_match 6 = .ok (.if_icmp .gt 10, 3) := by decide +kernel
theorem dX3_match_9 : decode cX3_match 9 = .ok (.iload_n 2, 1) := by decide +kernel
theorem dX3_match_10 : decode cX3_match 10 = .ok (.invokestatic 45, 3) := by decide +kernel
theorem dX3_match_13 : decode cX3_match 13 = .ok (.ifCond .ne 5, 3) := by decide +kernel
theorem dX3_match_16 : decode cX3_match 16 = .ok (.iconst (-1), 1) := by decide +kernel
theorem dX3_match_17 : decode cX3_match 17 = .ok (.ireturn, 1) := by decide +kernel
theorem dX3_match_18 : decode cX3_match 18 = .ok (.aload_n 0, 1) := by decide +kernel
theorem dX3_match_19 : decode cX3_match 19 = .ok (.getfield 29, 3) := by decide +kernel
theorem dX3_match_22 : decode cX3_match 22 = .ok (.iconst 0, 1) := by decide +kernel
theorem dX3_match_23 : decode cX3_match 23 = .ok (.putfield 49, 3) := by decide +kernel
theorem dX3_match_26 : decode cX3_match 26 = .ok (.aload_n 0, 1) := by decide +kernel
theorem dX3_match_27 : decode cX3_match 27 = .ok (.iload_n 1, 1) := by decide +kernel
theorem dX3_match_28 : decode cX3_match 28 = .ok (.iload_n 2, 1) := by decide +kernel
theorem dX3_match_29 : decode cX3_match 29 = .ok (.invokevirtual 50, 3) := by decide +kernel
theorem dX3_match_32 : decode cX3_match 32 = .ok (.ifCond .eq 5, 3) := by decide +kernel
theorem dX3_match_35 : decode cX3_match 35 = .ok (.iconst 1, 1) := by decide +kernel
theorem dX3_match_36 : decode cX3_match 36 = .ok (.ireturn, 1) := by decide +kernel
theorem dX3_match_37 : decode cX3_match 37 = .ok (.aload_n 0, 1) := by decide +kernel
theorem dX3_match_38 : decode cX3_match 38 = .ok (.getfield 29, 3) := by decide +kernel
theorem dX3_match_41 : decode cX3_match 41 = .ok (.iconst 0, 1) := by decide +kernel
theorem dX3_match_42 : decode cX3_match 42 = .ok (.putfield 49, 3) := by decide +kernel
theorem dX3_match_45 : decode cX3_match 45 = .ok (.iconst 0, 1) := by decide +kernel
theorem dX3_match_46 : decode cX3_match 46 = .ok (.ireturn, 1) := by decide +kernel
theorem dX3_spans_0 : decode cX3_spans 0 = .ok (.aload_n 0, 1) := by decide +kernel
theorem dX3_spans_1 : decode cX3_spans 1 = .ok (.getfield 29, 3) := by decide +kernel
theorem dX3_spans_4 : decode cX3_spans 4 = .ok (.getfield 49, 3) := by decide +kernel
theorem dX3_spans_7 : decode cX3_spans 7 = .ok (.ireturn, 1) := by decide +kernel
theorem dX3_span_0 : decode cX3_span 0 = .ok (.iload_n 2, 1) := by decide +kernel
theorem dX3_span_1 : decode cX3_span 1 = .ok (.ifCond .ne 12, 3) := by decide +kernel
theorem dX3_span_4 : decode cX3_span 4 = .ok (.aload_n 0, 1) := by decide +kernel
theorem dX3_span_5 : decode cX3_span 5 = .ok (.getfield 29, 3) := by decide +kernel
theorem dX3_span_8 : decode cX3_span 8 = .ok (.iload_n 1, 1) := by decide +kernel
theorem dX3_span_9 : decode cX3_span 9 = .ok (.invokevirtual 54, 3) := by decide +kernel
theorem dX3_span_12 : decode cX3_span 12 = .ok (.ireturn, 1) := by decide +kernel
theorem dX3_span_13 : decode cX3_span 13 = .ok (.iload_n 2, 1) := by decide +kernel
theorem dX3_span_14 : decode cX3_span 14 = .ok (.iconst 1, 1) := by decide +kernel
theorem dX3_span_15 : decode cX3_span 15 = .ok (.if_icmp .ne 12, 3) := by decide +kernel
theorem dX3_span_18 : decode cX3_span 18 = .ok (.aload_n 0, 1) := by decide +kernel
theorem dX3_span_19 : decode cX3_span 19 = .ok (.getfield 29, 3) := by decide +kernel
theorem dX3_span_22 : decode cX3_span 22 = .ok (.iload_n 1, 1) := by decide +kernel
theorem dX3_span_23 : decode cX3_span 23 = .ok (.invokevirtual 58, 3) := by decide +kernel
theorem dX3_span_26 : decode cX3_span 26 = .ok (.ireturn, 1) := by decide +kernel
theorem dX3_span_27 : decode cX3_span 27 = .ok (.iconst (-1), 1) := by decide +kernel
theorem dX3_span_28 : decode cX3_span 28 = .ok (.ireturn, 1) := by decide +kernel
theorem dX3_order_0 : decode cX3_order 0 = .ok (.iload_n 1, 1) := by decide +kernel
theorem dX3_order_1 : decode cX3_order 1 = .ok (.invokestatic 45, 3) := by decide +kernel
theorem dX3_order_4 : decode cX3_order 4 = .ok (.ifCond .ne 6, 3) := by decide +kernel
theorem dX3_order_7 : decode cX3_order 7 = .ok (.bipush (-2), 2) := by decide +kernel
theorem dX3_order_9 : decode cX3_order 9 = .ok (.ireturn, 1) := by decide +kernel
theorem dX3_order_10 : decode cX3_order 10 = .ok (.aload_n 0, 1) := by decide +kernel
theorem dX3_order_11 : decode cX3_order 11 = .ok (.iload_n 1, 1) := by decide +kernel
theorem dX3_order_12 : decode cX3_order 12 = .ok (.invokevirtual 61, 3) := by decide +kernel
theorem dX3_order_15 : decode cX3_order 15 = .ok (.ireturn, 1) := by decide +kernel
theorem dX3_counts_0 : decode cX3_counts 0 = .ok (.iload_n 1, 1) := by decide +kernel
theorem dX3_counts_1 : decode cX3_counts 1 = .ok (.ifCond .ge 5, 3) := by decide +kernel
theorem dX3_counts_4 : decode cX3_counts 4 = .ok (.iconst 0, 1) := by decide +kernel
theorem dX3_counts_5 : decode cX3_counts 5 = .ok (.ireturn, 1) := by decide +kernel
theorem dX3_counts_6 : decode cX3_counts 6 = .ok (.aload_n 0, 1) := by decide +kernel
theorem dX3_counts_7 : decode cX3_counts 7 = .ok (.getfield 16, 3) := by decide +kernel
theorem dX3_counts_10 : decode cX3_counts 10 = .ok (.ldc2_w 64, 3) := by decide +kernel
theorem dX3_counts_13 : decode cX3_counts 13 = .ok (.invokevirtual 66, 3) := by decide +kernel
theorem dX3_counts_16 : decode cX3_counts 16 = .ok (.lstore_n 3, 1) := by decide +kernel
theorem dX3_counts_17 : decode cX3_counts 17 = .ok (.iload_n 2, 1) := by decide +kernel
theorem dX3_counts_18 : decode cX3_counts 18 = .ok (.tableswitch 116 0 5 #[38, 51, 64, 77, 90, 103], 38) := by decide +kernel
theorem dX3_counts_56 : decode cX3_counts 56 = .ok (.iload_n 1, 1) := by decide +kernel
theorem dX3_counts_57 : decode cX3_counts 57 = .ok (.i2l, 1) := by decide +kernel
theorem dX3_counts_58 : decode cX3_counts 58 = .ok (.lload_n 3, 1) := by decide +kernel
theorem dX3_counts_59 : decode cX3_counts 59 = .ok (.lcmp, 1) := by decide +kernel
theorem dX3_counts_60 : decode cX3_counts 60 = .ok (.ifCond .le 7, 3) := by decide +kernel
theorem dX3_counts_63 : decode cX3_counts 63 = .ok (.iconst 1, 1) := by decide +kernel
theorem dX3_counts_64 : decode cX3_counts 64 = .ok (.goto 4, 3) := by decide +kernel
theorem dX3_counts_67 : decode cX3_counts 67 = .ok (.iconst 0, 1) := by decide +kernel
theorem dX3_counts_68 : decode cX3_counts 68 = .ok (.ireturn, 1) := by decide +kernel
theorem dX3_counts_69 : decode cX3_counts 69 = .ok (.iload_n 1, 1) := by decide +kernel
theorem dX3_counts_70 : decode cX3_counts 70 = .ok (.i2l, 1) := by decide +kernel
theorem dX3_counts_71 : decode cX3_counts 71 = .ok (.lload_n 3, 1) := by decide +kernel
theorem dX3_counts_72 : decode cX3_counts 72 = .ok (.lcmp, 1) := by decide +kernel
theorem dX3_counts_73 : decode cX3_counts 73 = .ok (.ifCond .lt 7, 3) := by decide +kernel
theorem dX3_counts_76 : decode cX3_counts 76 = .ok (.iconst 1, 1) := by decide +kernel
theorem dX3_counts_77 : decode cX3_counts 77 = .ok (.goto 4, 3) := by decide +kernel
theorem dX3_counts_80 : decode cX3_counts 80 = .ok (.iconst 0, 1) := by decide +kernel
theorem dX3_counts_81 : decode cX3_counts 81 = .ok (.ireturn, 1) := by decide +kernel
theorem dX3_counts_82 : decode cX3_counts 82 = .ok (.iload_n 1, 1) := by decide +kernel
theorem dX3_counts_83 : decode cX3_counts 83 = .ok (.i2l, 1) := by decide +kernel
theorem dX3_counts_84 : decode cX3_counts 84 = .ok (.lload_n 3, 1) := by decide +kernel
theorem dX3_counts_85 : decode cX3_counts 85 = .ok (.lcmp, 1) := by decide +kernel
theorem dX3_counts_86 : decode cX3_counts 86 = .ok (.ifCond .ge 7, 3) := by decide +kernel
theorem dX3_counts_89 : decode cX3_counts 89 = .ok (.iconst 1, 1) := by decide +kernel
theorem dX3_counts_90 : decode cX3_counts 90 = .ok (.goto 4, 3) := by decide +kernel
theorem dX3_counts_93 : decode cX3_counts 93 = .ok (.iconst 0, 1) := by decide +kernel
theorem dX3_counts_94 : decode cX3_counts 94 = .ok (.ireturn, 1) := by decide +kernel
theorem dX3_counts_95 : decode cX3_counts 95 = .ok (.iload_n 1, 1) := by decide +kernel
theorem dX3_counts_96 : decode cX3_counts 96 = .ok (.i2l, 1) := by decide +kernel
theorem dX3_counts_97 : decode cX3_counts 97 = .ok (.lload_n 3, 1) := by decide +kernel
theorem dX3_counts_98 : decode cX3_counts 98 = .ok (.lcmp, 1) := by decide +kernel
theorem dX3_counts_99 : decode cX3_counts 99 = .ok (.ifCond .gt 7, 3) := by decide +kernel
theorem dX3_counts_102 : decode cX3_counts 102 = .ok (.iconst 1, 1) := by decide +kernel
theorem dX3_counts_103 : decode cX3_counts 103 = .ok (.goto 4, 3) := by decide +kernel
theorem dX3_counts_106 : decode cX3_counts 106 = .ok (.iconst 0, 1) := by decide +kernel
theorem dX3_counts_107 : decode cX3_counts 107 = .ok (.ireturn, 1) := by decide +kernel
theorem dX3_counts_108 : decode cX3_counts 108 = .ok (.iload_n 1, 1) := by decide +kernel
theorem dX3_counts_109 : decode cX3_counts 109 = .ok (.i2l, 1) := by decide +kernel
theorem dX3_counts_110 : decode cX3_counts 110 = .ok (.lload_n 3, 1) := by decide +kernel
theorem dX3_counts_111 : decode cX3_counts 111 = .ok (.lcmp, 1) := by decide +kernel
theorem dX3_counts_112 : decode cX3_counts 112 = .ok (.ifCond .ne 7, 3) := by decide +kernel
theorem dX3_counts_115 : decode cX3_counts 115 = .ok (.iconst 1, 1) := by decide +kernel
theorem dX3_counts_116 : decode cX3_counts 116 = .ok (.goto 4, 3) := by decide +kernel
theorem dX3_counts_119 : decode cX3_counts 119 = .ok (.iconst 0, 1) := by decide +kernel
theorem dX3_counts_120 : decode cX3_counts 120 = .ok (.ireturn, 1) := by decide +kernel
theorem dX3_counts_121 : decode cX3_counts 121 = .ok (.iload_n 1, 1) := by decide +kernel
theorem dX3_counts_122 : decode cX3_counts 122 = .ok (.i2l, 1) := by decide +kernel
theorem dX3_counts_123 : decode cX3_counts 123 = .ok (.lload_n 3, 1) := by decide +kernel
theorem dX3_counts_124 : decode cX3_counts 124 = .ok (.lcmp, 1) := by decide +kernel
theorem dX3_counts_125 : decode cX3_counts 125 = .ok (.ifCond .eq 7, 3) := by decide +kernel
theorem dX3_counts_128 : decode cX3_counts 128 = .ok (.iconst 1, 1) := by decide +kernel
theorem dX3_counts_129 : decode cX3_counts 129 = .ok (.goto 4, 3) := by decide +kernel
theorem dX3_counts_132 : decode cX3_counts 132 = .ok (.iconst 0, 1) := by decide +kernel
theorem dX3_counts_133 : decode cX3_counts 133 = .ok (.ireturn, 1) := by decide +kernel
theorem dX3_counts_134 : decode cX3_counts 134 = .ok (.iconst 0, 1) := by decide +kernel
theorem dX3_counts_135 : decode cX3_counts 135 = .ok (.ireturn, 1) := by decide +kernel
theorem dX3_byteAt_0 : decode cX3_byteAt 0 = .ok (.aload_n 0, 1) := by decide +kernel
theorem dX3_byteAt_1 : decode cX3_byteAt 1 = .ok (.iload_n 1, 1) := by decide +kernel
theorem dX3_byteAt_2 : decode cX3_byteAt 2 = .ok (.invokevirtual 33, 3) := by decide +kernel
theorem dX3_byteAt_5 : decode cX3_byteAt 5 = .ok (.astore_n 3, 1) := by decide +kernel
theorem dX3_byteAt_6 : decode cX3_byteAt 6 = .ok (.aload_n 3, 1) := by decide +kernel
theorem dX3_byteAt_7 : decode cX3_byteAt 7 = .ok (.ifnonnull 7, 3) := by decide +kernel
theorem dX3_byteAt_10 : decode cX3_byteAt 10 = .ok (.iconst (-1), 1) := by decide +kernel
theorem dX3_byteAt_11 : decode cX3_byteAt 11 = .ok (.goto 8, 3) := by decide +kernel
theorem dX3_byteAt_14 : decode cX3_byteAt 14 = .ok (.aload_n 3, 1) := by decide +kernel
theorem dX3_byteAt_15 : decode cX3_byteAt 15 = .ok (.iload_n 2, 1) := by decide +kernel
theorem dX3_byteAt_16 : decode cX3_byteAt 16 = .ok (.invokevirtual 70, 3) := by decide +kernel
theorem dX3_byteAt_19 : decode cX3_byteAt 19 = .ok (.ireturn, 1) := by decide +kernel
theorem dX3_size_0 : decode cX3_size 0 = .ok (.aload_n 0, 1) := by decide +kernel
theorem dX3_size_1 : decode cX3_size 1 = .ok (.iload_n 1, 1) := by decide +kernel
theorem dX3_size_2 : decode cX3_size 2 = .ok (.invokevirtual 33, 3) := by decide +kernel
theorem dX3_size_5 : decode cX3_size 5 = .ok (.astore_n 2, 1) := by decide +kernel
theorem dX3_size_6 : decode cX3_size 6 = .ok (.aload_n 2, 1) := by decide +kernel
theorem dX3_size_7 : decode cX3_size 7 = .ok (.ifnonnull 7, 3) := by decide +kernel
theorem dX3_size_10 : decode cX3_size 10 = .ok (.iconst (-1), 1) := by decide +kernel
theorem dX3_size_11 : decode cX3_size 11 = .ok (.goto 7, 3) := by decide +kernel
theorem dX3_size_14 : decode cX3_size 14 = .ok (.aload_n 2, 1) := by decide +kernel
theorem dX3_size_15 : decode cX3_size 15 = .ok (.getfield 41, 3) := by decide +kernel
theorem dX3_size_18 : decode cX3_size 18 = .ok (.ireturn, 1) := by decide +kernel
theorem dX3_rowOf_0 : decode cX3_rowOf 0 = .ok (.iload_n 1, 1) := by decide +kernel
theorem dX3_rowOf_1 : decode cX3_rowOf 1 = .ok (.ifCond .ne 8, 3) := by decide +kernel
theorem dX3_rowOf_4 : decode cX3_rowOf 4 = .ok (.aload_n 0, 1) := by decide +kernel
theorem dX3_rowOf_5 : decode cX3_rowOf 5 = .ok (.getfield 10, 3) := by decide +kernel
theorem dX3_rowOf_8 : decode cX3_rowOf 8 = .ok (.areturn, 1) := by decide +kernel
theorem dX3_rowOf_9 : decode cX3_rowOf 9 = .ok (.iload_n 1, 1) := by decide +kernel
theorem dX3_rowOf_10 : decode cX3_rowOf 10 = .ok (.iconst 1, 1) := by decide +kernel
theorem dX3_rowOf_11 : decode cX3_rowOf 11 = .ok (.if_icmp .ne 10, 3) := by decide +kernel
theorem dX3_rowOf_14 : decode cX3_rowOf 14 = .ok (.aload_n 0, 1) := by decide +kernel
theorem dX3_rowOf_15 : decode cX3_rowOf 15 = .ok (.getfield 16, 3) := by decide +kernel
theorem dX3_rowOf_18 : decode cX3_rowOf 18 = .ok (.goto 4, 3) := by decide +kernel
theorem dX3_rowOf_21 : decode cX3_rowOf 21 = .ok (.aconst_null, 1) := by decide +kernel
theorem dX3_rowOf_22 : decode cX3_rowOf 22 = .ok (.areturn, 1) := by decide +kernel
theorem dX3_isComparator_0 : decode cX3_isComparator 0 = .ok (.iload_n 0, 1) := by decide +kernel
theorem dX3_isComparator_1 : decode cX3_isComparator 1 = .ok (.ifCond .lt 12, 3) := by decide +kernel
theorem dX3_isComparator_4 : decode cX3_isComparator 4 = .ok (.iload_n 0, 1) := by decide +kernel
theorem dX3_isComparator_5 : decode cX3_isComparator 5 = .ok (.iconst 2, 1) := by decide +kernel
theorem dX3_isComparator_6 : decode cX3_isComparator 6 = .ok (.if_icmp .gt 7, 3) := by decide +kernel
theorem dX3_isComparator_9 : decode cX3_isComparator 9 = .ok (.iconst 1, 1) := by decide +kernel
theorem dX3_isComparator_10 : decode cX3_isComparator 10 = .ok (.goto 4, 3) := by decide +kernel
theorem dX3_isComparator_13 : decode cX3_isComparator 13 = .ok (.iconst 0, 1) := by decide +kernel
theorem dX3_isComparator_14 : decode cX3_isComparator 14 = .ok (.ireturn, 1) := by decide +kernel
theorem dX3_matches_0 : decode cX3_matches 0 = .ok (.iload_n 1, 1) := by decide +kernel
theorem dX3_matches_1 : decode cX3_matches 1 = .ok (.ifCond .ne 17, 3) := by decide +kernel
theorem dX3_matches_4 : decode cX3_matches 4 = .ok (.aload_n 0, 1) := by decide +kernel
theorem dX3_matches_5 : decode cX3_matches 5 = .ok (.iload_n 2, 1) := by decide +kernel
theorem dX3_matches_6 : decode cX3_matches 6 = .ok (.invokevirtual 61, 3) := by decide +kernel
theorem dX3_matches_9 : decode cX3_matches 9 = .ok (.ifCond .ne 7, 3) := by decide +kernel
theorem dX3_matches_12 : decode cX3_matches 12 = .ok (.iconst 1, 1) := by decide +kernel
theorem dX3_matches_13 : decode cX3_matches 13 = .ok (.goto 4, 3) := by decide +kernel
theorem dX3_matches_16 : decode cX3_matches 16 = .ok (.iconst 0, 1) := by decide +kernel
theorem dX3_matches_17 : decode cX3_matches 17 = .ok (.ireturn, 1) := by decide +kernel
theorem dX3_matches_18 : decode cX3_matches 18 = .ok (.iload_n 2, 1) := by decide +kernel
theorem dX3_matches_19 : decode cX3_matches 19 = .ok (.iconst 2, 1) := by decide +kernel
theorem dX3_matches_20 : decode cX3_matches 20 = .ok (.if_icmp .ne 5, 3) := by decide +kernel
theorem dX3_matches_23 : decode cX3_matches 23 = .ok (.iconst 0, 1) := by decide +kernel
theorem dX3_matches_24 : decode cX3_matches 24 = .ok (.ireturn, 1) := by decide +kernel
theorem dX3_matches_25 : decode cX3_matches 25 = .ok (.iload_n 1, 1) := by decide +kernel
theorem dX3_matches_26 : decode cX3_matches 26 = .ok (.iconst 1, 1) := by decide +kernel
theorem dX3_matches_27 : decode cX3_matches 27 = .ok (.if_icmp .ne 11, 3) := by decide +kernel
theorem dX3_matches_30 : decode cX3_matches 30 = .ok (.aload_n 0, 1) := by decide +kernel
theorem dX3_matches_31 : decode cX3_matches 31 = .ok (.iload_n 2, 1) := by decide +kernel
theorem dX3_matches_32 : decode cX3_matches 32 = .ok (.invokevirtual 73, 3) := by decide +kernel
theorem dX3_matches_35 : decode cX3_matches 35 = .ok (.goto 8, 3) := by decide +kernel
theorem dX3_matches_38 : decode cX3_matches 38 = .ok (.aload_n 0, 1) := by decide +kernel
theorem dX3_matches_39 : decode cX3_matches 39 = .ok (.iload_n 2, 1) := by decide +kernel
theorem dX3_matches_40 : decode cX3_matches 40 = .ok (.invokevirtual 76, 3) := by decide +kernel
theorem dX3_matches_43 : decode cX3_matches 43 = .ok (.ireturn, 1) := by decide +kernel
theorem dX3_containsKey_0 : decode cX3_containsKey 0 = .ok (.aload_n 0, 1) := by decide +kernel
theorem dX3_containsKey_1 : decode cX3_containsKey 1 = .ok (.getfield 22, 3) := by decide +kernel
theorem dX3_containsKey_4 : decode cX3_containsKey 4 = .ok (.aload_n 0, 1) := by decide +kernel
theorem dX3_containsKey_5 : decode cX3_containsKey 5 = .ok (.getfield 16, 3) := by decide +kernel
theorem dX3_containsKey_8 : decode cX3_containsKey 8 = .ok (.invokevirtual 79, 3) := by decide +kernel
theorem dX3_containsKey_11 : decode cX3_containsKey 11 = .ok (.aload_n 0, 1) := by decide +kernel
theorem dX3_containsKey_12 : decode cX3_containsKey 12 = .ok (.iconst 0, 1) := by decide +kernel
theorem dX3_containsKey_13 : decode cX3_containsKey 13 = .ok (.aload_n 0, 1) := by decide +kernel
theorem dX3_containsKey_14 : decode cX3_containsKey 14 = .ok (.getfield 22, 3) := by decide +kernel
theorem dX3_containsKey_17 : decode cX3_containsKey 17 = .ok (.getfield 83, 3) := by decide +kernel
theorem dX3_containsKey_20 : decode cX3_containsKey 20 = .ok (.iconst 0, 1) := by decide +kernel
theorem dX3_containsKey_21 : decode cX3_containsKey 21 = .ok (.iload_n 1, 1) := by decide +kernel
theorem dX3_containsKey_22 : decode cX3_containsKey 22 = .ok (.invokevirtual 84, 3) := by decide +kernel
theorem dX3_containsKey_25 : decode cX3_containsKey 25 = .ok (.istore_n 2, 1) := by decide +kernel
theorem dX3_containsKey_26 : decode cX3_containsKey 26 = .ok (.iload_n 2, 1) := by decide +kernel
theorem dX3_containsKey_27 : decode cX3_containsKey 27 = .ok (.iconst (-1), 1) := by decide +kernel
theorem dX3_containsKey_28 : decode cX3_containsKey 28 = .ok (.if_icmp .ne 5, 3) := by decide +kernel
theorem dX3_containsKey_31 : decode cX3_containsKey 31 = .ok (.iconst 0, 1) := by decide +kernel
theorem dX3_containsKey_32 : decode cX3_containsKey 32 = .ok (.ireturn, 1) := by decide +kernel
theorem dX3_containsKey_33 : decode cX3_containsKey 33 = .ok (.aload_n 0, 1) := by decide +kernel
theorem dX3_containsKey_34 : decode cX3_containsKey 34 = .ok (.getfield 29, 3) := by decide +kernel
theorem dX3_containsKey_37 : decode cX3_containsKey 37 = .ok (.iload_n 2, 1) := by decide +kernel
theorem dX3_containsKey_38 : decode cX3_containsKey 38 = .ok (.aload_n 0, 1) := by decide +kernel
theorem dX3_containsKey_39 : decode cX3_containsKey 39 = .ok (.getfield 22, 3) := by decide +kernel
theorem dX3_containsKey_42 : decode cX3_containsKey 42 = .ok (.getfield 83, 3) := by decide +kernel
theorem dX3_containsKey_45 : decode cX3_containsKey 45 = .ok (.invokevirtual 88, 3) := by decide +kernel
theorem dX3_containsKey_48 : decode cX3_containsKey 48 = .ok (.iconst 1, 1) := by decide +kernel
theorem dX3_containsKey_49 : decode cX3_containsKey 49 = .ok (.ireturn, 1) := by decide +kernel
theorem dX3_isLikeKey_0 : decode cX3_isLikeKey 0 = .ok (.aload_n 0, 1) := by decide +kernel
theorem dX3_isLikeKey_1 : decode cX3_isLikeKey 1 = .ok (.getfield 22, 3) := by decide +kernel
theorem dX3_isLikeKey_4 : decode cX3_isLikeKey 4 = .ok (.aload_n 0, 1) := by decide +kernel
theorem dX3_isLikeKey_5 : decode cX3_isLikeKey 5 = .ok (.getfield 16, 3) := by decide +kernel
theorem dX3_isLikeKey_8 : decode cX3_isLikeKey 8 = .ok (.invokevirtual 91, 3) := by decide +kernel
theorem dX3_isLikeKey_11 : decode cX3_isLikeKey 11 = .ok (.aload_n 0, 1) := by decide +kernel
theorem dX3_isLikeKey_12 : decode cX3_isLikeKey 12 = .ok (.getfield 22, 3) := by decide +kernel
theorem dX3_isLikeKey_15 : decode cX3_isLikeKey 15 = .ok (.iconst 0, 1) := by decide +kernel
theorem dX3_isLikeKey_16 : decode cX3_isLikeKey 16 = .ok (.invokevirtual 94, 3) := by decide +kernel
theorem dX3_isLikeKey_19 : decode cX3_isLikeKey 19 = .ok (.istore_n 2, 1) := by decide +kernel
theorem dX3_isLikeKey_20 : decode cX3_isLikeKey 20 = .ok (.aload_n 0, 1) := by decide +kernel
theorem dX3_isLikeKey_21 : decode cX3_isLikeKey 21 = .ok (.iconst 0, 1) := by decide +kernel
theorem dX3_isLikeKey_22 : decode cX3_isLikeKey 22 = .ok (.iload_n 2, 1) := by decide +kernel
theorem dX3_isLikeKey_23 : decode cX3_isLikeKey 23 = .ok (.iconst 0, 1) := by decide +kernel
theorem dX3_isLikeKey_24 : decode cX3_isLikeKey 24 = .ok (.iload_n 1, 1) := by decide +kernel
theorem dX3_isLikeKey_25 : decode cX3_isLikeKey 25 = .ok (.invokevirtual 97, 3) := by decide +kernel
theorem dX3_isLikeKey_28 : decode cX3_isLikeKey 28 = .ok (.ifCond .ne 5, 3) := by decide +kernel
theorem dX3_isLikeKey_31 : decode cX3_isLikeKey 31 = .ok (.iconst 0, 1) := by decide +kernel
theorem dX3_isLikeKey_32 : decode cX3_isLikeKey 32 = .ok (.ireturn, 1) := by decide +kernel
theorem dX3_isLikeKey_33 : decode cX3_isLikeKey 33 = .ok (.iload_n 2, 1) := by decide +kernel
theorem dX3_isLikeKey_34 : decode cX3_isLikeKey 34 = .ok (.istore_n 3, 1) := by decide +kernel
theorem dX3_isLikeKey_35 : decode cX3_isLikeKey 35 = .ok (.iconst 0, 1) := by decide +kernel
theorem dX3_isLikeKey_36 : decode cX3_isLikeKey 36 = .ok (.istore 4, 2) := by decide +kernel
theorem dX3_isLikeKey_38 : decode cX3_isLikeKey 38 = .ok (.iload 4, 2) := by decide +kernel
theorem dX3_isLikeKey_40 : decode cX3_isLikeKey 40 = .ok (.bipush 100, 2) := by decide +kernel
theorem dX3_isLikeKey_42 : decode cX3_isLikeKey 42 = .ok (.if_icmp .ge 120, 3) := by decide +kernel
theorem dX3_isLikeKey_45 : decode cX3_isLikeKey 45 = .ok (.iload_n 2, 1) := by decide +kernel
theorem dX3_isLikeKey_46 : decode cX3_isLikeKey 46 = .ok (.aload_n 0, 1) := by decide +kernel
theorem dX3_isLikeKey_47 : decode cX3_isLikeKey 47 = .ok (.getfield 22, 3) := by decide +kernel
theorem dX3_isLikeKey_50 : decode cX3_isLikeKey 50 = .ok (.getfield 83, 3) := by decide +kernel
theorem dX3_isLikeKey_53 : decode cX3_isLikeKey 53 = .ok (.if_icmp .ge 109, 3) := by decide +kernel
theorem dX3_isLikeKey_56 : decode cX3_isLikeKey 56 = .ok (.iload_n 2, 1) := by decide +kernel
theorem dX3_isLikeKey_57 : decode cX3_isLikeKey 57 = .ok (.iconst 1, 1) := by decide +kernel
theorem dX3_isLikeKey_58 : decode cX3_isLikeKey 58 = .ok (.iadd, 1) := by decide +kernel
theorem dX3_isLikeKey_59 : decode cX3_isLikeKey 59 = .ok (.istore 5, 2) := by decide +kernel
theorem dX3_isLikeKey_61 : decode cX3_isLikeKey 61 = .ok (.aload_n 0, 1) := by decide +kernel
theorem dX3_isLikeKey_62 : decode cX3_isLikeKey 62 = .ok (.getfield 22, 3) := by decide +kernel
theorem dX3_isLikeKey_65 : decode cX3_isLikeKey 65 = .ok (.iload 5, 2) := by decide +kernel
theorem dX3_isLikeKey_67 : decode cX3_isLikeKey 67 = .ok (.invokevirtual 94, 3) := by decide +kernel
theorem dX3_isLikeKey_70 : decode cX3_isLikeKey 70 = .ok (.istore_n 2, 1) := by decide +kernel
theorem dX3_isLikeKey_71 : decode cX3_isLikeKey 71 = .ok (.iload_n 2, 1) := by decide +kernel
theorem dX3_isLikeKey_72 : decode cX3_isLikeKey 72 = .ok (.aload_n 0, 1) := by decide +kernel
theorem dX3_isLikeKey_73 : decode cX3_isLikeKey 73 = .ok (.getfield 22, 3) := by decide +kernel
theorem dX3_isLikeKey_76 : decode cX3_isLikeKey 76 = .ok (.getfield 83, 3) := by decide +kernel
theorem dX3_isLikeKey_79 : decode cX3_isLikeKey 79 = .ok (.if_icmp .ne 7, 3) := by decide +kernel
theorem dX3_isLikeKey_82 : decode cX3_isLikeKey 82 = .ok (.iconst 1, 1) := by decide +kernel
theorem dX3_isLikeKey_83 : decode cX3_isLikeKey 83 = .ok (.goto 4, 3) := by decide +kernel
theorem dX3_isLikeKey_86 : decode cX3_isLikeKey 86 = .ok (.iconst 0, 1) := by decide +kernel
theorem dX3_isLikeKey_87 : decode cX3_isLikeKey 87 = .ok (.istore 6, 2) := by decide +kernel
theorem dX3_isLikeKey_89 : decode cX3_isLikeKey 89 = .ok (.iload 6, 2) := by decide +kernel
theorem dX3_isLikeKey_91 : decode cX3_isLikeKey 91 = .ok (.ifCond .eq 22, 3) := by decide +kernel
theorem dX3_isLikeKey_94 : decode cX3_isLikeKey 94 = .ok (.iload_n 3, 1) := by decide +kernel
theorem dX3_isLikeKey_95 : decode cX3_isLikeKey 95 = .ok (.aload_n 0, 1) := by decide +kernel
theorem dX3_isLikeKey_96 : decode cX3_isLikeKey 96 = .ok (.getfield 10, 3) := by decide +kernel
theorem dX3_isLikeKey_99 : decode cX3_isLikeKey 99 = .ok (.getfield 41, 3) := by decide +kernel
theorem dX3_isLikeKey_102 : decode cX3_isLikeKey 102 = .ok (.iload_n 2, 1) := by decide +kernel
theorem dX3_isLikeKey_103 : decode cX3_isLikeKey 103 = .ok (.iload 5, 2) := by decide +kernel
theorem dX3_isLikeKey_105 : decode cX3_isLikeKey 105 = .ok (.isub, 1) := by decide +kernel
theorem dX3_isLikeKey_106 : decode cX3_isLikeKey 106 = .ok (.isub, 1) := by decide +kernel
theorem dX3_isLikeKey_107 : decode cX3_isLikeKey 107 = .ok (.invokestatic 101, 3) := by decide +kernel
theorem dX3_isLikeKey_110 : decode cX3_isLikeKey 110 = .ok (.goto 4, 3) := by decide +kernel
theorem dX3_isLikeKey_113 : decode cX3_isLikeKey 113 = .ok (.iload_n 3, 1) := by decide +kernel
theorem dX3_isLikeKey_114 : decode cX3_isLikeKey 114 = .ok (.istore 7, 2) := by decide +kernel
theorem dX3_isLikeKey_116 : decode cX3_isLikeKey 116 = .ok (.aload_n 0, 1) := by decide +kernel
theorem dX3_isLikeKey_117 : decode cX3_isLikeKey 117 = .ok (.iload 5, 2) := by decide +kernel
theorem dX3_isLikeKey_119 : decode cX3_isLikeKey 119 = .ok (.iload_n 2, 1) := by decide +kernel
theorem dX3_isLikeKey_120 : decode cX3_isLikeKey 120 = .ok (.iload 7, 2) := by decide +kernel
theorem dX3_isLikeKey_122 : decode cX3_isLikeKey 122 = .ok (.iload_n 1, 1) := by decide +kernel
theorem dX3_isLikeKey_123 : decode cX3_isLikeKey 123 = .ok (.invokevirtual 84, 3) := by decide +kernel
theorem dX3_isLikeKey_126 : decode cX3_isLikeKey 126 = .ok (.istore 8, 2) := by decide +kernel
theorem dX3_isLikeKey_128 : decode cX3_isLikeKey 128 = .ok (.iload 8, 2) := by decide +kernel
theorem dX3_isLikeKey_130 : decode cX3_isLikeKey 130 = .ok (.iconst (-1), 1) := by decide +kernel
theorem dX3_isLikeKey_131 : decode cX3_isLikeKey 131 = .ok (.if_icmp .ne 5, 3) := by decide +kernel
theorem dX3_isLikeKey_134 : decode cX3_isLikeKey 134 = .ok (.iconst 0, 1) := by decide +kernel
theorem dX3_isLikeKey_135 : decode cX3_isLikeKey 135 = .ok (.ireturn, 1) := by decide +kernel
theorem dX3_isLikeKey_136 : decode cX3_isLikeKey 136 = .ok (.aload_n 0, 1) := by decide +kernel
theorem dX3_isLikeKey_137 : decode cX3_isLikeKey 137 = .ok (.getfield 29, 3) := by decide +kernel
theorem dX3_isLikeKey_140 : decode cX3_isLikeKey 140 = .ok (.iload_n 3, 1) := by decide +kernel
theorem dX3_isLikeKey_141 : decode cX3_isLikeKey 141 = .ok (.iload 8, 2) := by decide +kernel
theorem dX3_isLikeKey_143 : decode cX3_isLikeKey 143 = .ok (.iload_n 3, 1) := by decide +kernel
theorem dX3_isLikeKey_144 : decode cX3_isLikeKey 144 = .ok (.isub, 1) := by decide +kernel
theorem dX3_isLikeKey_145 : decode cX3_isLikeKey 145 = .ok (.invokevirtual 88, 3) := by decide +kernel
theorem dX3_isLikeKey_148 : decode cX3_isLikeKey 148 = .ok (.iload 8, 2) := by decide +kernel
theorem dX3_isLikeKey_150 : decode cX3_isLikeKey 150 = .ok (.iload_n 2, 1) := by decide +kernel
theorem dX3_isLikeKey_151 : decode cX3_isLikeKey 151 = .ok (.iload 5, 2) := by decide +kernel
theorem dX3_isLikeKey_153 : decode cX3_isLikeKey 153 = .ok (.isub, 1) := by decide +kernel
theorem dX3_isLikeKey_154 : decode cX3_isLikeKey 154 = .ok (.iadd, 1) := by decide +kernel
theorem dX3_isLikeKey_155 : decode cX3_isLikeKey 155 = .ok (.istore_n 3, 1) := by decide +kernel
theorem dX3_isLikeKey_156 : decode cX3_isLikeKey 156 = .ok (.iinc 4 1, 3) := by decide +kernel
theorem dX3_isLikeKey_159 : decode cX3_isLikeKey 159 = .ok (.goto (-121), 3) := by decide +kernel
theorem dX3_isLikeKey_162 : decode cX3_isLikeKey 162 = .ok (.iload_n 3, 1) := by decide +kernel
theorem dX3_isLikeKey_163 : decode cX3_isLikeKey 163 = .ok (.aload_n 0, 1) := by decide +kernel
theorem dX3_isLikeKey_164 : decode cX3_isLikeKey 164 = .ok (.getfield 10, 3) := by decide +kernel
theorem dX3_isLikeKey_167 : decode cX3_isLikeKey 167 = .ok (.getfield 41, 3) := by decide +kernel
theorem dX3_isLikeKey_170 : decode cX3_isLikeKey 170 = .ok (.if_icmp .ne 7, 3) := by decide +kernel
theorem dX3_isLikeKey_173 : decode cX3_isLikeKey 173 = .ok (.iconst 1, 1) := by decide +kernel
theorem dX3_isLikeKey_174 : decode cX3_isLikeKey 174 = .ok (.goto 4, 3) := by decide +kernel
theorem dX3_isLikeKey_177 : decode cX3_isLikeKey 177 = .ok (.iconst 0, 1) := by decide +kernel
theorem dX3_isLikeKey_178 : decode cX3_isLikeKey 178 = .ok (.ireturn, 1) := by decide +kernel
theorem dX3_firstPlace_0 : decode cX3_firstPlace 0 = .ok (.aload_n 0, 1) := by decide +kernel
theorem dX3_firstPlace_1 : decode cX3_firstPlace 1 = .ok (.getfield 10, 3) := by decide +kernel
theorem dX3_firstPlace_4 : decode cX3_firstPlace 4 = .ok (.getfield 41, 3) := by decide +kernel
theorem dX3_firstPlace_7 : decode cX3_firstPlace 7 = .ok (.iload_n 2, 1) := by decide +kernel
theorem dX3_firstPlace_8 : decode cX3_firstPlace 8 = .ok (.iload_n 1, 1) := by decide +kernel
theorem dX3_firstPlace_9 : decode cX3_firstPlace 9 = .ok (.isub, 1) := by decide +kernel
theorem dX3_firstPlace_10 : decode cX3_firstPlace 10 = .ok (.isub, 1) := by decide +kernel
theorem dX3_firstPlace_11 : decode cX3_firstPlace 11 = .ok (.istore 5, 2) := by decide +kernel
theorem dX3_firstPlace_13 : decode cX3_firstPlace 13 = .ok (.iload_n 3, 1) := by decide +kernel
theorem dX3_firstPlace_14 : decode cX3_firstPlace 14 = .ok (.istore 6, 2) := by decide +kernel
theorem dX3_firstPlace_16 : decode cX3_firstPlace 16 = .ok (.iload 6, 2) := by decide +kernel
theorem dX3_firstPlace_18 : decode cX3_firstPlace 18 = .ok (.iload 5, 2) := by decide +kernel
theorem dX3_firstPlace_20 : decode cX3_firstPlace 20 = .ok (.if_icmp .gt 25, 3) := by decide +kernel
theorem dX3_firstPlace_23 : decode cX3_firstPlace 23 = .ok (.aload_n 0, 1) := by decide +kernel
theorem dX3_firstPlace_24 : decode cX3_firstPlace 24 = .ok (.iload_n 1, 1) := by decide +kernel
theorem dX3_firstPlace_25 : decode cX3_firstPlace 25 = .ok (.iload_n 2, 1) := by decide +kernel
theorem dX3_firstPlace_26 : decode cX3_firstPlace 26 = .ok (.iload 6, 2) := by decide +kernel
theorem dX3_firstPlace_28 : decode cX3_firstPlace 28 = .ok (.iload 4, 2) := by decide +kernel
theorem dX3_firstPlace_30 : decode cX3_firstPlace 30 = .ok (.invokevirtual 97, 3) := by decide +kernel
theorem dX3_firstPlace_33 : decode cX3_firstPlace 33 = .ok (.ifCond .eq 6, 3) := by decide +kernel
theorem dX3_firstPlace_36 : decode cX3_firstPlace 36 = .ok (.iload 6, 2) := by decide +kernel
theorem dX3_firstPlace_38 : decode cX3_firstPlace 38 = .ok (.ireturn, 1) := by decide +kernel
theorem dX3_firstPlace_39 : decode cX3_firstPlace 39 = .ok (.iinc 6 1, 3) := by decide +kernel
theorem dX3_firstPlace_42 : decode cX3_firstPlace 42 = .ok (.goto (-26), 3) := by decide +kernel
theorem dX3_firstPlace_45 : decode cX3_firstPlace 45 = .ok (.iconst (-1), 1) := by decide +kernel
theorem dX3_firstPlace_46 : decode cX3_firstPlace 46 = .ok (.ireturn, 1) := by decide +kernel
theorem dX3_fits_0 : decode cX3_fits 0 = .ok (.iload_n 2, 1) := by decide +kernel
theorem dX3_fits_1 : decode cX3_fits 1 = .ok (.iload_n 1, 1) := by decide +kernel
theorem dX3_fits_2 : decode cX3_fits 2 = .ok (.isub, 1) := by decide +kernel
theorem dX3_fits_3 : decode cX3_fits 3 = .ok (.aload_n 0, 1) := by decide +kernel
theorem dX3_fits_4 : decode cX3_fits 4 = .ok (.getfield 10, 3) := by decide +kernel
theorem dX3_fits_7 : decode cX3_fits 7 = .ok (.getfield 41, 3) := by decide +kernel
theorem dX3_fits_10 : decode cX3_fits 10 = .ok (.iload_n 3, 1) := by decide +kernel
theorem dX3_fits_11 : decode cX3_fits 11 = .ok (.isub, 1) := by decide +kernel
theorem dX3_fits_12 : decode cX3_fits 12 = .ok (.if_icmp .le 5, 3) := by decide +kernel
theorem dX3_fits_15 : decode cX3_fits 15 = .ok (.iconst 0, 1) := by decide +kernel
theorem dX3_fits_16 : decode cX3_fits 16 = .ok (.ireturn, 1) := by decide +kernel
theorem dX3_fits_17 : decode cX3_fits 17 = .ok (.iload_n 1, 1) := by decide +kernel
theorem dX3_fits_18 : decode cX3_fits 18 = .ok (.istore 5, 2) := by decide +kernel
theorem dX3_fits_20 : decode cX3_fits 20 = .ok (.iload 5, 2) := by decide +kernel
theorem dX3_fits_22 : decode cX3_fits 22 = .ok (.iload_n 2, 1) := by decide +kernel
theorem dX3_fits_23 : decode cX3_fits 23 = .ok (.if_icmp .ge 62, 3) := by decide +kernel
theorem dX3_fits_26 : decode cX3_fits 26 = .ok (.aload_n 0, 1) := by decide +kernel
theorem dX3_fits_27 : decode cX3_fits 27 = .ok (.getfield 22, 3) := by decide +kernel
theorem dX3_fits_30 : decode cX3_fits 30 = .ok (.iload 5, 2) := by decide +kernel
theorem dX3_fits_32 : decode cX3_fits 32 = .ok (.invokevirtual 107, 3) := by decide +kernel
theorem dX3_fits_35 : decode cX3_fits 35 = .ok (.istore 6, 2) := by decide +kernel
theorem dX3_fits_37 : decode cX3_fits 37 = .ok (.aload_n 0, 1) := by decide +kernel
theorem dX3_fits_38 : decode cX3_fits 38 = .ok (.getfield 10, 3) := by decide +kernel
theorem dX3_fits_41 : decode cX3_fits 41 = .ok (.iload_n 3, 1) := by decide +kernel
theorem dX3_fits_42 : decode cX3_fits 42 = .ok (.iload 5, 2) := by decide +kernel
theorem dX3_fits_44 : decode cX3_fits 44 = .ok (.iload_n 1, 1) := by decide +kernel
theorem dX3_fits_45 : decode cX3_fits 45 = .ok (.isub, 1) := by decide +kernel
theorem dX3_fits_46 : decode cX3_fits 46 = .ok (.iadd, 1) := by decide +kernel
theorem dX3_fits_47 : decode cX3_fits 47 = .ok (.invokevirtual 70, 3) := by decide +kernel
theorem dX3_fits_50 : decode cX3_fits 50 = .ok (.istore 7, 2) := by decide +kernel
theorem dX3_fits_52 : decode cX3_fits 52 = .ok (.iload 6, 2) := by decide +kernel
theorem dX3_fits_54 : decode cX3_fits 54 = .ok (.sipush 256, 3) := by decide +kernel
theorem dX3_fits_57 : decode cX3_fits 57 = .ok (.if_icmp .eq 22, 3) := by decide +kernel
theorem dX3_fits_60 : decode cX3_fits 60 = .ok (.iload 6, 2) := by decide +kernel
theorem dX3_fits_62 : decode cX3_fits 62 = .ok (.iload 4, 2) := by decide +kernel
theorem dX3_fits_64 : decode cX3_fits 64 = .ok (.invokestatic 108, 3) := by decide +kernel
theorem dX3_fits_67 : decode cX3_fits 67 = .ok (.iload 7, 2) := by decide +kernel
theorem dX3_fits_69 : decode cX3_fits 69 = .ok (.iload 4, 2) := by decide +kernel
theorem dX3_fits_71 : decode cX3_fits 71 = .ok (.invokestatic 108, 3) := by decide +kernel
theorem dX3_fits_74 : decode cX3_fits 74 = .ok (.if_icmp .eq 5, 3) := by decide +kernel
theorem dX3_fits_77 : decode cX3_fits 77 = .ok (.iconst 0, 1) := by decide +kernel
theorem dX3_fits_78 : decode cX3_fits 78 = .ok (.ireturn, 1) := by decide +kernel
theorem dX3_fits_79 : decode cX3_fits 79 = .ok (.iinc 5 1, 3) := by decide +kernel
theorem dX3_fits_82 : decode cX3_fits 82 = .ok (.goto (-62), 3) := by decide +kernel
theorem dX3_fits_85 : decode cX3_fits 85 = .ok (.iconst 1, 1) := by decide +kernel
theorem dX3_fits_86 : decode cX3_fits 86 = .ok (.ireturn, 1) := by decide +kernel
theorem dX3_standing_0 : decode cX3_standing 0 = .ok (.iload_n 1, 1) := by decide +kernel
theorem dX3_standing_1 : decode cX3_standing 1 = .ok (.iconst 2, 1) := by decide +kernel
theorem dX3_standing_2 : decode cX3_standing 2 = .ok (.if_icmp .ne 10, 3) := by decide +kernel
theorem dX3_standing_5 : decode cX3_standing 5 = .ok (.aload_n 0, 1) := by decide +kernel
theorem dX3_standing_6 : decode cX3_standing 6 = .ok (.invokevirtual 111, 3) := by decide +kernel
theorem dX3_standing_9 : decode cX3_standing 9 = .ok (.goto 8, 3) := by decide +kernel
theorem dX3_standing_12 : decode cX3_standing 12 = .ok (.aload_n 0, 1) := by decide +kernel
theorem dX3_standing_13 : decode cX3_standing 13 = .ok (.iload_n 1, 1) := by decide +kernel
theorem dX3_standing_14 : decode cX3_standing 14 = .ok (.invokevirtual 115, 3) := by decide +kernel
theorem dX3_standing_17 : decode cX3_standing 17 = .ok (.ireturn, 1) := by decide +kernel
theorem dX3_standingAsBytes_0 : decode cX3_standingAsBytes 0 = .ok (.aload_n 0, 1) := by decide +kernel
theorem dX3_standingAsBytes_1 : decode cX3_standingAsBytes 1 = .ok (.getfield 10, 3) := by decide +kernel
theorem dX3_standingAsBytes_4 : decode cX3_standingAsBytes 4 = .ok (.getfield 41, 3) := by decide +kernel
theorem dX3_standingAsBytes_7 : decode cX3_standingAsBytes 7 = .ok (.aload_n 0, 1) := by decide +kernel
theorem dX3_standingAsBytes_8 : decode cX3_standingAsBytes 8 = .ok (.getfield 16, 3) := by decide +kernel
theorem dX3_standingAsBytes_11 : decode cX3_standingAsBytes 11 = .ok (.getfield 41, 3) := by decide +kernel
theorem dX3_standingAsBytes_14 : decode cX3_standingAsBytes 14 = .ok (.invokestatic 118, 3) := by decide +kernel
theorem dX3_standingAsBytes_17 : decode cX3_standingAsBytes 17 = .ok (.istore_n 2, 1) := by decide +kernel
theorem dX3_standingAsBytes_18 : decode cX3_standingAsBytes 18 = .ok (.iconst 0, 1) := by decide +kernel
theorem dX3_standingAsBytes_19 : decode cX3_standingAsBytes 19 = .ok (.istore_n 3, 1) := by decide +kernel
theorem dX3_standingAsBytes_20 : decode cX3_standingAsBytes 20 = .ok (.iload_n 3, 1) := by decide +kernel
theorem dX3_standingAsBytes_21 : decode cX3_standingAsBytes 21 = .ok (.iload_n 2, 1) := by decide +kernel
theorem dX3_standingAsBytes_22 : decode cX3_standingAsBytes 22 = .ok (.if_icmp .ge 46, 3) := by decide +kernel
theorem dX3_standingAsBytes_25 : decode cX3_standingAsBytes 25 = .ok (.aload_n 0, 1) := by decide +kernel
theorem dX3_standingAsBytes_26 : decode cX3_standingAsBytes 26 = .ok (.getfield 10, 3) := by decide +kernel
theorem dX3_standingAsBytes_29 : decode cX3_standingAsBytes 29 = .ok (.iload_n 3, 1) := by decide +kernel
theorem dX3_standingAsBytes_30 : decode cX3_standingAsBytes 30 = .ok (.invokevirtual 70, 3) := by decide +kernel
theorem dX3_standingAsBytes_33 : decode cX3_standingAsBytes 33 = .ok (.iload_n 1, 1) := by decide +kernel
theorem dX3_standingAsBytes_34 : decode cX3_standingAsBytes 34 = .ok (.invokestatic 108, 3) := by decide +kernel
theorem dX3_standingAsBytes_37 : decode cX3_standingAsBytes 37 = .ok (.aload_n 0, 1) := by decide +kernel
theorem dX3_standingAsBytes_38 : decode cX3_standingAsBytes 38 = .ok (.getfield 16, 3) := by decide +kernel
theorem dX3_standingAsBytes_41 : decode cX3_standingAsBytes 41 = .ok (.iload_n 3, 1) := by decide +kernel
theorem dX3_standingAsBytes_42 : decode cX3_standingAsBytes 42 = .ok (.invokevirtual 70, 3) := by decide +kernel
theorem dX3_standingAsBytes_45 : decode cX3_standingAsBytes 45 = .ok (.iload_n 1, 1) := by decide +kernel
theorem dX3_standingAsBytes_46 : decode cX3_standingAsBytes 46 = .ok (.invokestatic 108, 3) := by decide +kernel
theorem dX3_standingAsBytes_49 : decode cX3_standingAsBytes 49 = .ok (.invokestatic 121, 3) := by decide +kernel
theorem dX3_standingAsBytes_52 : decode cX3_standingAsBytes 52 = .ok (.istore 4, 2) := by decide +kernel
theorem dX3_standingAsBytes_54 : decode cX3_standingAsBytes 54 = .ok (.iload 4, 2) := by decide +kernel
theorem dX3_standingAsBytes_56 : decode cX3_standingAsBytes 56 = .ok (.ifCond .eq 6, 3) := by decide +kernel
theorem dX3_standingAsBytes_59 : decode cX3_standingAsBytes 59 = .ok (.iload 4, 2) := by decide +kernel
theorem dX3_standingAsBytes_61 : decode cX3_standingAsBytes 61 = .ok (.ireturn, 1) := by decide +kernel
theorem dX3_standingAsBytes_62 : decode cX3_standingAsBytes 62 = .ok (.iinc 3 1, 3) := by decide +kernel
theorem dX3_standingAsBytes_65 : decode cX3_standingAsBytes 65 = .ok (.goto (-45), 3) := by decide +kernel
theorem dX3_standingAsBytes_68 : decode cX3_standingAsBytes 68 = .ok (.aload_n 0, 1) := by decide +kernel
theorem dX3_standingAsBytes_69 : decode cX3_standingAsBytes 69 = .ok (.getfield 10, 3) := by decide +kernel
theorem dX3_standingAsBytes_72 : decode cX3_standingAsBytes 72 = .ok (.getfield 41, 3) := by decide +kernel
theorem dX3_standingAsBytes_75 : decode cX3_standingAsBytes 75 = .ok (.aload_n 0, 1) := by decide +kernel
theorem dX3_standingAsBytes_76 : decode cX3_standingAsBytes 76 = .ok (.getfield 16, 3) := by decide +kernel
theorem dX3_standingAsBytes_79 : decode cX3_standingAsBytes 79 = .ok (.getfield 41, 3) := by decide +kernel
theorem dX3_standingAsBytes_82 : decode cX3_standingAsBytes 82 = .ok (.invokestatic 121, 3) := by decide +kernel
theorem dX3_standingAsBytes_85 : decode cX3_standingAsBytes 85 = .ok (.ireturn, 1) := by decide +kernel
theorem dX3_standingAsNumbers_0 : decode cX3_standingAsNumbers 0 = .ok (.aload_n 0, 1) := by decide +kernel
theorem dX3_standingAsNumbers_1 : decode cX3_standingAsNumbers 1 = .ok (.getfield 10, 3) := by decide +kernel
theorem dX3_standingAsNumbers_4 : decode cX3_standingAsNumbers 4 = .ok (.invokevirtual 124, 3) := by decide +kernel
theorem dX3_standingAsNumbers_7 : decode cX3_standingAsNumbers 7 = .ok (.istore_n 1, 1) := by decide +kernel
theorem dX3_standingAsNumbers_8 : decode cX3_standingAsNumbers 8 = .ok (.aload_n 0, 1) := by decide +kernel
theorem dX3_standingAsNumbers_9 : decode cX3_standingAsNumbers 9 = .ok (.getfield 16, 3) := by decide +kernel
theorem dX3_standingAsNumbers_12 : decode cX3_standingAsNumbers 12 = .ok (.invokevirtual 124, 3) := by decide +kernel
theorem dX3_standingAsNumbers_15 : decode cX3_standingAsNumbers 15 = .ok (.istore_n 2, 1) := by decide +kernel
theorem dX3_standingAsNumbers_16 : decode cX3_standingAsNumbers 16 = .ok (.iload_n 1, 1) := by decide +kernel
theorem dX3_standingAsNumbers_17 : decode cX3_standingAsNumbers 17 = .ok (.ifCond .eq 7, 3) := by decide +kernel
theorem dX3_standingAsNumbers_20 : decode cX3_standingAsNumbers 20 = .ok (.iload_n 2, 1) := by decide +kernel
theorem dX3_standingAsNumbers_21 : decode cX3_standingAsNumbers 21 = .ok (.ifCond .ne 25, 3) := by decide +kernel
theorem dX3_standingAsNumbers_24 : decode cX3_standingAsNumbers 24 = .ok (.iload_n 1, 1) := by decide +kernel
theorem dX3_standingAsNumbers_25 : decode cX3_standingAsNumbers 25 = .ok (.ifCond .ne 7, 3) := by decide +kernel
theorem dX3_standingAsNumbers_28 : decode cX3_standingAsNumbers 28 = .ok (.iconst 1, 1) := by decide +kernel
theorem dX3_standingAsNumbers_29 : decode cX3_standingAsNumbers 29 = .ok (.goto 4, 3) := by decide +kernel
theorem dX3_standingAsNumbers_32 : decode cX3_standingAsNumbers 32 = .ok (.iconst 0, 1) := by decide +kernel
theorem dX3_standingAsNumbers_33 : decode cX3_standingAsNumbers 33 = .ok (.iload_n 2, 1) := by decide +kernel
theorem dX3_standingAsNumbers_34 : decode cX3_standingAsNumbers 34 = .ok (.ifCond .ne 7, 3) := by decide +kernel
theorem dX3_standingAsNumbers_37 : decode cX3_standingAsNumbers 37 = .ok (.iconst 1, 1) := by decide +kernel
theorem dX3_standingAsNumbers_38 : decode cX3_standingAsNumbers 38 = .ok (.goto 4, 3) := by decide +kernel
theorem dX3_standingAsNumbers_41 : decode cX3_standingAsNumbers 41 = .ok (.iconst 0, 1) := by decide +kernel
theorem dX3_standingAsNumbers_42 : decode cX3_standingAsNumbers 42 = .ok (.invokestatic 121, 3) := by decide +kernel
theorem dX3_standingAsNumbers_45 : decode cX3_standingAsNumbers 45 = .ok (.ireturn, 1) := by decide +kernel
theorem dX3_standingAsNumbers_46 : decode cX3_standingAsNumbers 46 = .ok (.aload_n 0, 1) := by decide +kernel
theorem dX3_standingAsNumbers_47 : decode cX3_standingAsNumbers 47 = .ok (.getfield 10, 3) := by decide +kernel
theorem dX3_standingAsNumbers_50 : decode cX3_standingAsNumbers 50 = .ok (.iload_n 1, 1) := by decide +kernel
theorem dX3_standingAsNumbers_51 : decode cX3_standingAsNumbers 51 = .ok (.invokevirtual 127, 3) := by decide +kernel
theorem dX3_standingAsNumbers_54 : decode cX3_standingAsNumbers 54 = .ok (.istore_n 3, 1) := by decide +kernel
theorem dX3_standingAsNumbers_55 : decode cX3_standingAsNumbers 55 = .ok (.aload_n 0, 1) := by decide +kernel
theorem dX3_standingAsNumbers_56 : decode cX3_standingAsNumbers 56 = .ok (.getfield 16, 3) := by decide +kernel
theorem dX3_standingAsNumbers_59 : decode cX3_standingAsNumbers 59 = .ok (.iload_n 2, 1) := by decide +kernel
theorem dX3_standingAsNumbers_60 : decode cX3_standingAsNumbers 60 = .ok (.invokevirtual 127, 3) := by decide +kernel
theorem dX3_standingAsNumbers_63 : decode cX3_standingAsNumbers 63 = .ok (.istore 4, 2) := by decide +kernel
theorem dX3_standingAsNumbers_65 : decode cX3_standingAsNumbers 65 = .ok (.iload_n 1, 1) := by decide +kernel
theorem dX3_standingAsNumbers_66 : decode cX3_standingAsNumbers 66 = .ok (.iload_n 3, 1) := by decide +kernel
theorem dX3_standingAsNumbers_67 : decode cX3_standingAsNumbers 67 = .ok (.isub, 1) := by decide +kernel
theorem dX3_standingAsNumbers_68 : decode cX3_standingAsNumbers 68 = .ok (.istore 5, 2) := by decide +kernel
theorem dX3_standingAsNumbers_70 : decode cX3_standingAsNumbers 70 = .ok (.iload 5, 2) := by decide +kernel
theorem dX3_standingAsNumbers_72 : decode cX3_standingAsNumbers 72 = .ok (.iload_n 2, 1) := by decide +kernel
theorem dX3_standingAsNumbers_73 : decode cX3_standingAsNumbers 73 = .ok (.iload 4, 2) := by decide +kernel
theorem dX3_standingAsNumbers_75 : decode cX3_standingAsNumbers 75 = .ok (.isub, 1) := by decide +kernel
theorem dX3_standingAsNumbers_76 : decode cX3_standingAsNumbers 76 = .ok (.invokestatic 121, 3) := by decide +kernel
theorem dX3_standingAsNumbers_79 : decode cX3_standingAsNumbers 79 = .ok (.istore 6, 2) := by decide +kernel
theorem dX3_standingAsNumbers_81 : decode cX3_standingAsNumbers 81 = .ok (.iconst 0, 1) := by decide +kernel
theorem dX3_standingAsNumbers_82 : decode cX3_standingAsNumbers 82 = .ok (.istore 7, 2) := by decide +kernel
theorem dX3_standingAsNumbers_84 : decode cX3_standingAsNumbers 84 = .ok (.iload 7, 2) := by decide +kernel
theorem dX3_standingAsNumbers_86 : decode cX3_standingAsNumbers 86 = .ok (.iload 5, 2) := by decide +kernel
theorem dX3_standingAsNumbers_88 : decode cX3_standingAsNumbers 88 = .ok (.if_icmp .ge 42, 3) := by decide +kernel
theorem dX3_standingAsNumbers_91 : decode cX3_standingAsNumbers 91 = .ok (.iload 6, 2) := by decide +kernel
theorem dX3_standingAsNumbers_93 : decode cX3_standingAsNumbers 93 = .ok (.ifCond .ne 37, 3) := by decide +kernel
theorem dX3_standingAsNumbers_96 : decode cX3_standingAsNumbers 96 = .ok (.aload_n 0, 1) := by decide +kernel
theorem dX3_standingAsNumbers_97 : decode cX3_standingAsNumbers 97 = .ok (.getfield 10, 3) := by decide +kernel
theorem dX3_standingAsNumbers_100 : decode cX3_standingAsNumbers 100 = .ok (.iload_n 3, 1) := by decide +kernel
theorem dX3_standingAsNumbers_101 : decode cX3_standingAsNumbers 101 = .ok (.iload 7, 2) := by decide +kernel
theorem dX3_standingAsNumbers_103 : decode cX3_standingAsNumbers 103 = .ok (.iadd, 1) := by decide +kernel
theorem dX3_standingAsNumbers_104 : decode cX3_standingAsNumbers 104 = .ok (.invokevirtual 70, 3) := by decide +kernel
theorem dX3_standingAsNumbers_107 : decode cX3_standingAsNumbers 107 = .ok (.aload_n 0, 1) := by decide +kernel
theorem dX3_standingAsNumbers_108 : decode cX3_standingAsNumbers 108 = .ok (.getfield 16, 3) := by decide +kernel
theorem dX3_standingAsNumbers_111 : decode cX3_standingAsNumbers 111 = .ok (.iload 4, 2) := by decide +kernel
theorem dX3_standingAsNumbers_113 : decode cX3_standingAsNumbers 113 = .ok (.iload 7, 2) := by decide +kernel
theorem dX3_standingAsNumbers_115 : decode cX3_standingAsNumbers 115 = .ok (.iadd, 1) := by decide +kernel
theorem dX3_standingAsNumbers_116 : decode cX3_standingAsNumbers 116 = .ok (.invokevirtual 70, 3) := by decide +kernel
theorem dX3_standingAsNumbers_119 : decode cX3_standingAsNumbers 119 = .ok (.invokestatic 121, 3) := by decide +kernel
theorem dX3_standingAsNumbers_122 : decode cX3_standingAsNumbers 122 = .ok (.istore 6, 2) := by decide +kernel
theorem dX3_standingAsNumbers_124 : decode cX3_standingAsNumbers 124 = .ok (.iinc 7 1, 3) := by decide +kernel
theorem dX3_standingAsNumbers_127 : decode cX3_standingAsNumbers 127 = .ok (.goto (-43), 3) := by decide +kernel
theorem dX3_standingAsNumbers_130 : decode cX3_standingAsNumbers 130 = .ok (.iload 6, 2) := by decide +kernel
theorem dX3_standingAsNumbers_132 : decode cX3_standingAsNumbers 132 = .ok (.ireturn, 1) := by decide +kernel
theorem dX3_signOf_0 : decode cX3_signOf 0 = .ok (.iload_n 0, 1) := by decide +kernel
theorem dX3_signOf_1 : decode cX3_signOf 1 = .ok (.iload_n 1, 1) := by decide +kernel
theorem dX3_signOf_2 : decode cX3_signOf 2 = .ok (.if_icmp .ge 5, 3) := by decide +kernel
theorem dX3_signOf_5 : decode cX3_signOf 5 = .ok (.iconst (-1), 1) := by decide +kernel
theorem dX3_signOf_6 : decode cX3_signOf 6 = .ok (.ireturn, 1) := by decide +kernel
theorem dX3_signOf_7 : decode cX3_signOf 7 = .ok (.iload_n 0, 1) := by decide +kernel
theorem dX3_signOf_8 : decode cX3_signOf 8 = .ok (.iload_n 1, 1) := by decide +kernel
theorem dX3_signOf_9 : decode cX3_signOf 9 = .ok (.if_icmp .le 7, 3) := by decide +kernel
theorem dX3_signOf_12 : decode cX3_signOf 12 = .ok (.iconst 1, 1) := by decide +kernel
theorem dX3_signOf_13 : decode cX3_signOf 13 = .ok (.goto 4, 3) := by decide +kernel
theorem dX3_signOf_16 : decode cX3_signOf 16 = .ok (.iconst 0, 1) := by decide +kernel
theorem dX3_signOf_17 : decode cX3_signOf 17 = .ok (.ireturn, 1) := by decide +kernel
theorem dX3_folded_0 : decode cX3_folded 0 = .ok (.iload_n 0, 1) := by decide +kernel
theorem dX3_folded_1 : decode cX3_folded 1 = .ok (.bipush 97, 2) := by decide +kernel
theorem dX3_folded_3 : decode cX3_folded 3 = .ok (.if_icmp .lt 13, 3) := by decide +kernel
theorem dX3_folded_6 : decode cX3_folded 6 = .ok (.iload_n 0, 1) := by decide +kernel
theorem dX3_folded_7 : decode cX3_folded 7 = .ok (.bipush 122, 2) := by decide +kernel
theorem dX3_folded_9 : decode cX3_folded 9 = .ok (.if_icmp .gt 7, 3) := by decide +kernel
theorem dX3_folded_12 : decode cX3_folded 12 = .ok (.iconst 1, 1) := by decide +kernel
theorem dX3_folded_13 : decode cX3_folded 13 = .ok (.goto 4, 3) := by decide +kernel
theorem dX3_folded_16 : decode cX3_folded 16 = .ok (.iconst 0, 1) := by decide +kernel
theorem dX3_folded_17 : decode cX3_folded 17 = .ok (.istore_n 2, 1) := by decide +kernel
theorem dX3_folded_18 : decode cX3_folded 18 = .ok (.iload_n 1, 1) := by decide +kernel
theorem dX3_folded_19 : decode cX3_folded 19 = .ok (.ifCond .ne 17, 3) := by decide +kernel
theorem dX3_folded_22 : decode cX3_folded 22 = .ok (.iload_n 2, 1) := by decide +kernel
theorem dX3_folded_23 : decode cX3_folded 23 = .ok (.ifCond .eq 13, 3) := by decide +kernel
theorem dX3_folded_26 : decode cX3_folded 26 = .ok (.iload_n 0, 1) := by decide +kernel
theorem dX3_folded_27 : decode cX3_folded 27 = .ok (.bipush 97, 2) := by decide +kernel
theorem dX3_folded_29 : decode cX3_folded 29 = .ok (.isub, 1) := by decide +kernel
theorem dX3_folded_30 : decode cX3_folded 30 = .ok (.bipush 65, 2) := by decide +kernel
theorem dX3_folded_32 : decode cX3_folded 32 = .ok (.iadd, 1) := by decide +kernel
theorem dX3_folded_33 : decode cX3_folded 33 = .ok (.goto 4, 3) := by decide +kernel
theorem dX3_folded_36 : decode cX3_folded 36 = .ok (.iload_n 0, 1) := by decide +kernel
theorem dX3_folded_37 : decode cX3_folded 37 = .ok (.ireturn, 1) := by decide +kernel
theorem dL_law_0 : decode cL_law 0 = .ok (.new 7, 3) := by decide +kernel
theorem dL_law_3 : decode cL_law 3 = .ok (.dup, 1) := by decide +kernel
theorem dL_law_4 : decode cL_law 4 = .ok (.invokespecial 9, 3) := by decide +kernel
theorem dL_law_7 : decode cL_law 7 = .ok (.astore_n 1, 1) := by decide +kernel
theorem dL_law_8 : decode cL_law 8 = .ok (.new 10, 3) := by decide +kernel
theorem dL_law_11 : decode cL_law 11 = .ok (.dup, 1) := by decide +kernel
theorem dL_law_12 : decode cL_law 12 = .ok (.invokespecial 12, 3) := by decide +kernel
theorem dL_law_15 : decode cL_law 15 = .ok (.astore_n 2, 1) := by decide +kernel
theorem dL_law_16 : decode cL_law 16 = .ok (.iconst 0, 1) := by decide +kernel
theorem dL_law_17 : decode cL_law 17 = .ok (.istore_n 3, 1) := by decide +kernel
theorem dL_law_18 : decode cL_law 18 = .ok (.iload_n 3, 1) := by decide +kernel
theorem dL_law_19 : decode cL_law 19 = .ok (.aload_n 0, 1) := by decide +kernel
theorem dL_law_20 : decode cL_law 20 = .ok (.arraylength, 1) := by decide +kernel
theorem dL_law_21 : decode cL_law 21 = .ok (.iconst 5, 1) := by decide +kernel
theorem dL_law_22 : decode cL_law 22 = .ok (.isub, 1) := by decide +kernel
theorem dL_law_23 : decode cL_law 23 = .ok (.if_icmp .gt 354, 3) := by decide +kernel
theorem dL_law_26 : decode cL_law 26 = .ok (.aload_n 0, 1) := by decide +kernel
theorem dL_law_27 : decode cL_law 27 = .ok (.iload_n 3, 1) := by decide +kernel
theorem dL_law_28 : decode cL_law 28 = .ok (.iaload, 1) := by decide +kernel
theorem dL_law_29 : decode cL_law 29 = .ok (.bipush 15, 2) := by decide +kernel
theorem dL_law_31 : decode cL_law 31 = .ok (.iand, 1) := by decide +kernel
theorem dL_law_32 : decode cL_law 32 = .ok (.tableswitch 339 0 8 #[52, 125, 148, 181, 194, 227, 250, 283, 316], 52) := by decide +kernel
theorem dL_law_84 : decode cL_law 84 = .ok (.aload_n 1, 1) := by decide +kernel
theorem dL_law_85 : decode cL_law 85 = .ok (.aload_n 0, 1) := by decide +kernel
theorem dL_law_86 : decode cL_law 86 = .ok (.iload_n 3, 1) := by decide +kernel
theorem dL_law_87 : decode cL_law 87 = .ok (.iconst 1, 1) := by decide +kernel
theorem dL_law_88 : decode cL_law 88 = .ok (.iadd, 1) := by decide +kernel
theorem dL_law_89 : decode cL_law 89 = .ok (.iaload, 1) := by decide +kernel
theorem dL_law_90 : decode cL_law 90 = .ok (.aload_n 0, 1) := by decide +kernel
theorem dL_law_91 : decode cL_law 91 = .ok (.iload_n 3, 1) := by decide +kernel
theorem dL_law_92 : decode cL_law 92 = .ok (.iconst 2, 1) := by decide +kernel
theorem dL_law_93 : decode cL_law 93 = .ok (.iadd, 1) := by decide +kernel
theorem dL_law_94 : decode cL_law 94 = .ok (.iaload, 1) := by decide +kernel
theorem dL_law_95 : decode cL_law 95 = .ok (.i2l, 1) := by decide +kernel
theorem dL_law_96 : decode cL_law 96 = .ok (.bipush 32, 2) := by decide +kernel
theorem dL_law_98 : decode cL_law 98 = .ok (.lshl, 1) := by decide +kernel
theorem dL_law_99 : decode cL_law 99 = .ok (.aload_n 0, 1) := by decide +kernel
theorem dL_law_100 : decode cL_law 100 = .ok (.iload_n 3, 1) := by decide +kernel
theorem dL_law_101 : decode cL_law 101 = .ok (.iconst 3, 1) := by decide +kernel
theorem dL_law_102 : decode cL_law 102 = .ok (.iadd, 1) := by decide +kernel
theorem dL_law_103 : decode cL_law 103 = .ok (.iaload, 1) := by decide +kernel
theorem dL_law_104 : decode cL_law 104 = .ok (.i2l, 1) := by decide +kernel
theorem dL_law_105 : decode cL_law 105 = .ok (.ldc2_w 13, 3) := by decide +kernel
theorem dL_law_108 : decode cL_law 108 = .ok (.land, 1) := by decide +kernel
theorem dL_law_109 : decode cL_law 109 = .ok (.lor, 1) := by decide +kernel
theorem dL_law_110 : decode cL_law 110 = .ok (.aload_n 0, 1) := by decide +kernel
theorem dL_law_111 : decode cL_law 111 = .ok (.iload_n 3, 1) := by decide +kernel
theorem dL_law_112 : decode cL_law 112 = .ok (.iconst 4, 1) := by decide +kernel
theorem dL_law_113 : decode cL_law 113 = .ok (.iadd, 1) := by decide +kernel
theorem dL_law_114 : decode cL_law 114 = .ok (.iaload, 1) := by decide +kernel
theorem dL_law_115 : decode cL_law 115 = .ok (.invokevirtual 15, 3) := by decide +kernel
theorem dL_law_118 : decode cL_law 118 = .ok (.aload_n 2, 1) := by decide +kernel
theorem dL_law_119 : decode cL_law 119 = .ok (.aload_n 0, 1) := by decide +kernel
theorem dL_law_120 : decode cL_law 120 = .ok (.iload_n 3, 1) := by decide +kernel
theorem dL_law_121 : decode cL_law 121 = .ok (.iconst 1, 1) := by decide +kernel
theorem dL_law_122 : decode cL_law 122 = .ok (.iadd, 1) := by decide +kernel
theorem dL_law_123 : decode cL_law 123 = .ok (.iaload, 1) := by decide +kernel
theorem dL_law_124 : decode cL_law 124 = .ok (.aload_n 0, 1) := by decide +kernel
theorem dL_law_125 : decode cL_law 125 = .ok (.iload_n 3, 1) := by decide +kernel
theorem dL_law_126 : decode cL_law 126 = .ok (.iconst 2, 1) := by decide +kernel
theorem dL_law_127 : decode cL_law 127 = .ok (.iadd, 1) := by decide +kernel
theorem dL_law_128 : decode cL_law 128 = .ok (.iaload, 1) := by decide +kernel
theorem dL_law_129 : decode cL_law 129 = .ok (.i2l, 1) := by decide +kernel
theorem dL_law_130 : decode cL_law 130 = .ok (.bipush 32, 2) := by decide +kernel
theorem dL_law_132 : decode cL_law 132 = .ok (.lshl, 1) := by decide +kernel
theorem dL_law_133 : decode cL_law 133 = .ok (.aload_n 0, 1) := by decide +kernel
theorem dL_law_134 : decode cL_law 134 = .ok (.iload_n 3, 1) := by decide +kernel
theorem dL_law_135 : decode cL_law 135 = .ok (.iconst 3, 1) := by decide +kernel
theorem dL_law_136 : decode cL_law 136 = .ok (.iadd, 1) := by decide +kernel
theorem dL_law_137 : decode cL_law 137 = .ok (.iaload, 1) := by decide +kernel
theorem dL_law_138 : decode cL_law 138 = .ok (.i2l, 1) := by decide +kernel
theorem dL_law_139 : decode cL_law 139 = .ok (.ldc2_w 13, 3) := by decide +kernel
theorem dL_law_142 : decode cL_law 142 = .ok (.land, 1) := by decide +kernel
theorem dL_law_143 : decode cL_law 143 = .ok (.lor, 1) := by decide +kernel
theorem dL_law_144 : decode cL_law 144 = .ok (.aload_n 0, 1) := by decide +kernel
theorem dL_law_145 : decode cL_law 145 = .ok (.iload_n 3, 1) := by decide +kernel
theorem dL_law_146 : decode cL_law 146 = .ok (.iconst 4, 1) := by decide +kernel
theorem dL_law_147 : decode cL_law 147 = .ok (.iadd, 1) := by decide +kernel
theorem dL_law_148 : decode cL_law 148 = .ok (.iaload, 1) := by decide +kernel
theorem dL_law_149 : decode cL_law 149 = .ok (.invokevirtual 19, 3) := by decide +kernel
theorem dL_law_152 : decode cL_law 152 = .ok (.if_icmp .eq 219, 3) := by decide +kernel
theorem dL_law_155 : decode cL_law 155 = .ok (.iconst 0, 1) := by decide +kernel
theorem dL_law_156 : decode cL_law 156 = .ok (.ireturn, 1) := by decide +kernel
theorem dL_law_157 : decode cL_law 157 = .ok (.aload_n 1, 1) := by decide +kernel
theorem dL_law_158 : decode cL_law 158 = .ok (.aload_n 0, 1) := by decide +kernel
theorem dL_law_159 : decode cL_law 159 = .ok (.iload_n 3, 1) := by decide +kernel
theorem dL_law_160 : decode cL_law 160 = .ok (.iconst 1, 1) := by decide +kernel
theorem dL_law_161 : decode cL_law 161 = .ok (.iadd, 1) := by decide +kernel
theorem dL_law_162 : decode cL_law 162 = .ok (.iaload, 1) := by decide +kernel
theorem dL_law_163 : decode cL_law 163 = .ok (.invokevirtual 20, 3) := by decide +kernel
theorem dL_law_166 : decode cL_law 166 = .ok (.aload_n 2, 1) := by decide +kernel
theorem dL_law_167 : decode cL_law 167 = .ok (.aload_n 0, 1) := by decide +kernel
theorem dL_law_168 : decode cL_law 168 = .ok (.iload_n 3, 1) := by decide +kernel
theorem dL_law_169 : decode cL_law 169 = .ok (.iconst 1, 1) := by decide +kernel
theorem dL_law_170 : decode cL_law 170 = .ok (.iadd, 1) := by decide +kernel
theorem dL_law_171 : decode cL_law 171 = .ok (.iaload, 1) := by decide +kernel
theorem dL_law_172 : decode cL_law 172 = .ok (.invokevirtual 24, 3) := by decide +kernel
theorem dL_law_175 : decode cL_law 175 = .ok (.if_icmp .eq 196, 3) := by decide +kernel
theorem dL_law_178 : decode cL_law 178 = .ok (.iconst 0, 1) := by decide +kernel
theorem dL_law_179 : decode cL_law 179 = .ok (.ireturn, 1) := by decide +kernel
theorem dL_law_180 : decode cL_law 180 = .ok (.aload_n 1, 1) := by decide +kernel
theorem dL_law_181 : decode cL_law 181 = .ok (.aload_n 0, 1) := by decide +kernel
theorem dL_law_182 : decode cL_law 182 = .ok (.iload_n 3, 1) := by decide +kernel
theorem dL_law_183 : decode cL_law 183 = .ok (.iconst 1, 1) := by decide +kernel
theorem dL_law_184 : decode cL_law 184 = .ok (.iadd, 1) := by decide +kernel
theorem dL_law_185 : decode cL_law 185 = .ok (.iaload, 1) := by decide +kernel
theorem dL_law_186 : decode cL_law 186 = .ok (.aload_n 0, 1) := by decide +kernel
theorem dL_law_187 : decode cL_law 187 = .ok (.iload_n 3, 1) := by decide +kernel
theorem dL_law_188 : decode cL_law 188 = .ok (.iconst 2, 1) := by decide +kernel
theorem dL_law_189 : decode cL_law 189 = .ok (.iadd, 1) := by decide +kernel
theorem dL_law_190 : decode cL_law 190 = .ok (.iaload, 1) := by decide +kernel
theorem dL_law_191 : decode cL_law 191 = .ok (.invokevirtual 25, 3) := by decide +kernel
theorem dL_law_194 : decode cL_law 194 = .ok (.aload_n 2, 1) := by decide +kernel
theorem dL_law_195 : decode cL_law 195 = .ok (.aload_n 0, 1) := by decide +kernel
theorem dL_law_196 : decode cL_law 196 = .ok (.iload_n 3, 1) := by decide +kernel
theorem dL_law_197 : decode cL_law 197 = .ok (.iconst 1, 1) := by decide +kernel
theorem dL_law_198 : decode cL_law 198 = .ok (.iadd, 1) := by decide +kernel
theorem dL_law_199 : decode cL_law 199 = .ok (.iaload, 1) := by decide +kernel
theorem dL_law_200 : decode cL_law 200 = .ok (.aload_n 0, 1) := by decide +kernel
theorem dL_law_201 : decode cL_law 201 = .ok (.iload_n 3, 1) := by decide +kernel
theorem dL_law_202 : decode cL_law 202 = .ok (.iconst 2, 1) := by decide +kernel
theorem dL_law_203 : decode cL_law 203 = .ok (.iadd, 1) := by decide +kernel
theorem dL_law_204 : decode cL_law 204 = .ok (.iaload, 1) := by decide +kernel
theorem dL_law_205 : decode cL_law 205 = .ok (.invokevirtual 29, 3) := by decide +kernel
theorem dL_law_208 : decode cL_law 208 = .ok (.if_icmp .eq 163, 3) := by decide +kernel
theorem dL_law_211 : decode cL_law 211 = .ok (.iconst 0, 1) := by decide +kernel
theorem dL_law_212 : decode cL_law 212 = .ok (.ireturn, 1) := by decide +kernel
theorem dL_law_213 : decode cL_law 213 = .ok (.aload_n 1, 1) := by decide +kernel
theorem dL_law_214 : decode cL_law 214 = .ok (.invokevirtual 30, 3) := by decide +kernel
theorem dL_law_217 : decode cL_law 217 = .ok (.aload_n 2, 1) := by decide +kernel
theorem dL_law_218 : decode cL_law 218 = .ok (.invokevirtual 34, 3) := by decide +kernel
theorem dL_law_221 : decode cL_law 221 = .ok (.if_icmp .eq 150, 3) := by decide +kernel
theorem dL_law_224 : decode cL_law 224 = .ok (.iconst 0, 1) := by decide +kernel
theorem dL_law_225 : decode cL_law 225 = .ok (.ireturn, 1) := by decide +kernel
theorem dL_law_226 : decode cL_law 226 = .ok (.aload_n 1, 1) := by decide +kernel
theorem dL_law_227 : decode cL_law 227 = .ok (.aload_n 0, 1) := by decide +kernel
theorem dL_law_228 : decode cL_law 228 = .ok (.iload_n 3, 1) := by decide +kernel
theorem dL_law_229 : decode cL_law 229 = .ok (.iconst 1, 1) := by decide +kernel
theorem dL_law_230 : decode cL_law 230 = .ok (.iadd, 1) := by decide +kernel
theorem dL_law_231 : decode cL_law 231 = .ok (.iaload, 1) := by decide +kernel
theorem dL_law_232 : decode cL_law 232 = .ok (.aload_n 0, 1) := by decide +kernel
theorem dL_law_233 : decode cL_law 233 = .ok (.iload_n 3, 1) := by decide +kernel
theorem dL_law_234 : decode cL_law 234 = .ok (.iconst 2, 1) := by decide +kernel
theorem dL_law_235 : decode cL_law 235 = .ok (.iadd, 1) := by decide +kernel
theorem dL_law_236 : decode cL_law 236 = .ok (.iaload, 1) := by decide +kernel
theorem dL_law_237 : decode cL_law 237 = .ok (.invokevirtual 35, 3) := by decide +kernel
theorem dL_law_240 : decode cL_law 240 = .ok (.aload_n 2, 1) := by decide +kernel
theorem dL_law_241 : decode cL_law 241 = .ok (.aload_n 0, 1) := by decide +kernel
theorem dL_law_242 : decode cL_law 242 = .ok (.iload_n 3, 1) := by decide +kernel
theorem dL_law_243 : decode cL_law 243 = .ok (.iconst 1, 1) := by decide +kernel
theorem dL_law_244 : decode cL_law 244 = .ok (.iadd, 1) := by decide +kernel
theorem dL_law_245 : decode cL_law 245 = .ok (.iaload, 1) := by decide +kernel
theorem dL_law_246 : decode cL_law 246 = .ok (.aload_n 0, 1) := by decide +kernel
theorem dL_law_247 : decode cL_law 247 = .ok (.iload_n 3, 1) := by decide +kernel
theorem dL_law_248 : decode cL_law 248 = .ok (.iconst 2, 1) := by decide +kernel
theorem dL_law_249 : decode cL_law 249 = .ok (.iadd, 1) := by decide +kernel
theorem dL_law_250 : decode cL_law 250 = .ok (.iaload, 1) := by decide +kernel
theorem dL_law_251 : decode cL_law 251 = .ok (.invokevirtual 38, 3) := by decide +kernel
theorem dL_law_254 : decode cL_law 254 = .ok (.if_icmp .eq 117, 3) := by decide +kernel
theorem dL_law_257 : decode cL_law 257 = .ok (.iconst 0, 1) := by decide +kernel
theorem dL_law_258 : decode cL_law 258 = .ok (.ireturn, 1) := by decide +kernel
theorem dL_law_259 : decode cL_law 259 = .ok (.aload_n 1, 1) := by decide +kernel
theorem dL_law_260 : decode cL_law 260 = .ok (.aload_n 0, 1) := by decide +kernel
theorem dL_law_261 : decode cL_law 261 = .ok (.iload_n 3, 1) := by decide +kernel
theorem dL_law_262 : decode cL_law 262 = .ok (.iconst 1, 1) := by decide +kernel
theorem dL_law_263 : decode cL_law 263 = .ok (.iadd, 1) := by decide +kernel
theorem dL_law_264 : decode cL_law 264 = .ok (.iaload, 1) := by decide +kernel
theorem dL_law_265 : decode cL_law 265 = .ok (.invokevirtual 39, 3) := by decide +kernel
theorem dL_law_268 : decode cL_law 268 = .ok (.aload_n 2, 1) := by decide +kernel
theorem dL_law_269 : decode cL_law 269 = .ok (.aload_n 0, 1) := by decide +kernel
theorem dL_law_270 : decode cL_law 270 = .ok (.iload_n 3, 1) := by decide +kernel
theorem dL_law_271 : decode cL_law 271 = .ok (.iconst 1, 1) := by decide +kernel
theorem dL_law_272 : decode cL_law 272 = .ok (.iadd, 1) := by decide +kernel
theorem dL_law_273 : decode cL_law 273 = .ok (.iaload, 1) := by decide +kernel
theorem dL_law_274 : decode cL_law 274 = .ok (.invokevirtual 42, 3) := by decide +kernel
theorem dL_law_277 : decode cL_law 277 = .ok (.if_icmp .eq 94, 3) := by decide +kernel
theorem dL_law_280 : decode cL_law 280 = .ok (.iconst 0, 1) := by decide +kernel
theorem dL_law_281 : decode cL_law 281 = .ok (.ireturn, 1) := by decide +kernel
theorem dL_law_282 : decode cL_law 282 = .ok (.aload_n 1, 1) := by decide +kernel
theorem dL_law_283 : decode cL_law 283 = .ok (.aload_n 0, 1) := by decide +kernel
theorem dL_law_284 : decode cL_law 284 = .ok (.iload_n 3, 1) := by decide +kernel
theorem dL_law_285 : decode cL_law 285 = .ok (.iconst 1, 1) := by decide +kernel
theorem dL_law_286 : decode cL_law 286 = .ok (.iadd, 1) := by decide +kernel
theorem dL_law_287 : decode cL_law 287 = .ok (.iaload, 1) := by decide +kernel
theorem dL_law_288 : decode cL_law 288 = .ok (.aload_n 0, 1) := by decide +kernel
theorem dL_law_289 : decode cL_law 289 = .ok (.iload_n 3, 1) := by decide +kernel
theorem dL_law_290 : decode cL_law 290 = .ok (.iconst 2, 1) := by decide +kernel
theorem dL_law_291 : decode cL_law 291 = .ok (.iadd, 1) := by decide +kernel
theorem dL_law_292 : decode cL_law 292 = .ok (.iaload, 1) := by decide +kernel
theorem dL_law_293 : decode cL_law 293 = .ok (.invokevirtual 43, 3) := by decide +kernel
theorem dL_law_296 : decode cL_law 296 = .ok (.aload_n 2, 1) := by decide +kernel
theorem dL_law_297 : decode cL_law 297 = .ok (.aload_n 0, 1) := by decide +kernel
theorem dL_law_298 : decode cL_law 298 = .ok (.iload_n 3, 1) := by decide +kernel
theorem dL_law_299 : decode cL_law 299 = .ok (.iconst 1, 1) := by decide +kernel
theorem dL_law_300 : decode cL_law 300 = .ok (.iadd, 1) := by decide +kernel
theorem dL_law_301 : decode cL_law 301 = .ok (.iaload, 1) := by decide +kernel
theorem dL_law_302 : decode cL_law 302 = .ok (.aload_n 0, 1) := by decide +kernel
theorem dL_law_303 : decode cL_law 303 = .ok (.iload_n 3, 1) := by decide +kernel
theorem dL_law_304 : decode cL_law 304 = .ok (.iconst 2, 1) := by decide +kernel
theorem dL_law_305 : decode cL_law 305 = .ok (.iadd, 1) := by decide +kernel
theorem dL_law_306 : decode cL_law 306 = .ok (.iaload, 1) := by decide +kernel
theorem dL_law_307 : decode cL_law 307 = .ok (.invokevirtual 47, 3) := by decide +kernel
theorem dL_law_310 : decode cL_law 310 = .ok (.if_icmp .eq 61, 3) := by decide +kernel
theorem dL_law_313 : decode cL_law 313 = .ok (.iconst 0, 1) := by decide +kernel
theorem dL_law_314 : decode cL_law 314 = .ok (.ireturn, 1) := by decide +kernel
theorem dL_law_315 : decode cL_law 315 = .ok (.aload_n 1, 1) := by decide +kernel
theorem dL_law_316 : decode cL_law 316 = .ok (.aload_n 0, 1) := by decide +kernel
theorem dL_law_317 : decode cL_law 317 = .ok (.iload_n 3, 1) := by decide +kernel
theorem dL_law_318 : decode cL_law 318 = .ok (.iconst 1, 1) := by decide +kernel
theorem dL_law_319 : decode cL_law 319 = .ok (.iadd, 1) := by decide +kernel
theorem dL_law_320 : decode cL_law 320 = .ok (.iaload, 1) := by decide +kernel
theorem dL_law_321 : decode cL_law 321 = .ok (.aload_n 0, 1) := by decide +kernel
theorem dL_law_322 : decode cL_law 322 = .ok (.iload_n 3, 1) := by decide +kernel
theorem dL_law_323 : decode cL_law 323 = .ok (.iconst 2, 1) := by decide +kernel
theorem dL_law_324 : decode cL_law 324 = .ok (.iadd, 1) := by decide +kernel
theorem dL_law_325 : decode cL_law 325 = .ok (.iaload, 1) := by decide +kernel
theorem dL_law_326 : decode cL_law 326 = .ok (.invokevirtual 48, 3) := by decide +kernel
theorem dL_law_329 : decode cL_law 329 = .ok (.aload_n 2, 1) := by decide +kernel
theorem dL_law_330 : decode cL_law 330 = .ok (.aload_n 0, 1) := by decide +kernel
theorem dL_law_331 : decode cL_law 331 = .ok (.iload_n 3, 1) := by decide +kernel
theorem dL_law_332 : decode cL_law 332 = .ok (.iconst 1, 1) := by decide +kernel
theorem dL_law_333 : decode cL_law 333 = .ok (.iadd, 1) := by decide +kernel
theorem dL_law_334 : decode cL_law 334 = .ok (.iaload, 1) := by decide +kernel
theorem dL_law_335 : decode cL_law 335 = .ok (.aload_n 0, 1) := by decide +kernel
theorem dL_law_336 : decode cL_law 336 = .ok (.iload_n 3, 1) := by decide +kernel
theorem dL_law_337 : decode cL_law 337 = .ok (.iconst 2, 1) := by decide +kernel
theorem dL_law_338 : decode cL_law 338 = .ok (.iadd, 1) := by decide +kernel
theorem dL_law_339 : decode cL_law 339 = .ok (.iaload, 1) := by decide +kernel
theorem dL_law_340 : decode cL_law 340 = .ok (.invokevirtual 51, 3) := by decide +kernel
theorem dL_law_343 : decode cL_law 343 = .ok (.if_icmp .eq 28, 3) := by decide +kernel
theorem dL_law_346 : decode cL_law 346 = .ok (.iconst 0, 1) := by decide +kernel
theorem dL_law_347 : decode cL_law 347 = .ok (.ireturn, 1) := by decide +kernel
theorem dL_law_348 : decode cL_law 348 = .ok (.aload_n 1, 1) := by decide +kernel
theorem dL_law_349 : decode cL_law 349 = .ok (.aload_n 0, 1) := by decide +kernel
theorem dL_law_350 : decode cL_law 350 = .ok (.iload_n 3, 1) := by decide +kernel
theorem dL_law_351 : decode cL_law 351 = .ok (.iconst 1, 1) := by decide +kernel
theorem dL_law_352 : decode cL_law 352 = .ok (.iadd, 1) := by decide +kernel
theorem dL_law_353 : decode cL_law 353 = .ok (.iaload, 1) := by decide +kernel
theorem dL_law_354 : decode cL_law 354 = .ok (.invokevirtual 52, 3) := by decide +kernel
theorem dL_law_357 : decode cL_law 357 = .ok (.aload_n 2, 1) := by decide +kernel
theorem dL_law_358 : decode cL_law 358 = .ok (.aload_n 0, 1) := by decide +kernel
theorem dL_law_359 : decode cL_law 359 = .ok (.iload_n 3, 1) := by decide +kernel
theorem dL_law_360 : decode cL_law 360 = .ok (.iconst 1, 1) := by decide +kernel
theorem dL_law_361 : decode cL_law 361 = .ok (.iadd, 1) := by decide +kernel
theorem dL_law_362 : decode cL_law 362 = .ok (.iaload, 1) := by decide +kernel
theorem dL_law_363 : decode cL_law 363 = .ok (.invokevirtual 55, 3) := by decide +kernel
theorem dL_law_366 : decode cL_law 366 = .ok (.if_icmp .eq 5, 3) := by decide +kernel
theorem dL_law_369 : decode cL_law 369 = .ok (.iconst 0, 1) := by decide +kernel
theorem dL_law_370 : decode cL_law 370 = .ok (.ireturn, 1) := by decide +kernel
theorem dL_law_371 : decode cL_law 371 = .ok (.iinc 3 5, 3) := by decide +kernel
theorem dL_law_374 : decode cL_law 374 = .ok (.goto (-356), 3) := by decide +kernel
theorem dL_law_377 : decode cL_law 377 = .ok (.iconst 1, 1) := by decide +kernel
theorem dL_law_378 : decode cL_law 378 = .ok (.ireturn, 1) := by decide +kernel
