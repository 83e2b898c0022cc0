theorem dX0_init_0 : decode cX0_init 0 = .ok (.aload_n 0, 1) := by decide +kernel
theorem dX0_init_1 : decode cX0_init 1 = .ok (.invokespecial 3, 3) := by decide +kernel
theorem dX0_init_4 : decode cX0_init 4 = .ok (.aload_n 0, 1) := by decide +kernel
theorem dX0_init_5 : decode cX0_init 5 = .ok (.new 9, 3) := by decide +kernel
theorem dX0_init_8 : decode cX0_init 8 = .ok (.dup, 1) := by decide +kernel
theorem dX0_init_9 : decode cX0_init 9 = .ok (.invokespecial 11, 3) := by decide +kernel
theorem dX0_init_12 : decode cX0_init 12 = .ok (.putfield 12, 3) := by decide +kernel
theorem dX0_init_15 : decode cX0_init 15 = .ok (.aload_n 0, 1) := by decide +kernel
theorem dX0_init_16 : decode cX0_init 16 = .ok (.sipush 288, 3) := by decide +kernel
theorem dX0_init_19 : decode cX0_init 19 = .ok (.newarray .long, 2) := by decide +kernel
theorem dX0_init_21 : decode cX0_init 21 = .ok (.putfield 18, 3) := by decide +kernel
theorem dX0_init_24 : decode cX0_init 24 = .ok (.return_, 1) := by decide +kernel
theorem dX0_clear_0 : decode cX0_clear 0 = .ok (.aload_n 0, 1) := by decide +kernel
theorem dX0_clear_1 : decode cX0_clear 1 = .ok (.getfield 12, 3) := by decide +kernel
theorem dX0_clear_4 : decode cX0_clear 4 = .ok (.invokevirtual 22, 3) := by decide +kernel
theorem dX0_clear_7 : decode cX0_clear 7 = .ok (.iconst 0, 1) := by decide +kernel
theorem dX0_clear_8 : decode cX0_clear 8 = .ok (.istore_n 1, 1) := by decide +kernel
theorem dX0_clear_9 : decode cX0_clear 9 = .ok (.iload_n 1, 1) := by decide +kernel
theorem dX0_clear_10 : decode cX0_clear 10 = .ok (.sipush 288, 3) := by decide +kernel
theorem dX0_clear_13 : decode cX0_clear 13 = .ok (.if_icmp .ge 16, 3) := by decide +kernel
theorem dX0_clear_16 : decode cX0_clear 16 = .ok (.aload_n 0, 1) := by decide +kernel
theorem dX0_clear_17 : decode cX0_clear 17 = .ok (.getfield 18, 3) := by decide +kernel
theorem dX0_clear_20 : decode cX0_clear 20 = .ok (.iload_n 1, 1) := by decide +kernel
theorem dX0_clear_21 : decode cX0_clear 21 = .ok (.lconst 0, 1) := by decide +kernel
theorem dX0_clear_22 : decode cX0_clear 22 = .ok (.lastore, 1) := by decide +kernel
theorem dX0_clear_23 : decode cX0_clear 23 = .ok (.iinc 1 1, 3) := by decide +kernel
theorem dX0_clear_26 : decode cX0_clear 26 = .ok (.goto (-17), 3) := by decide +kernel
theorem dX0_clear_29 : decode cX0_clear 29 = .ok (.return_, 1) := by decide +kernel
theorem dX0_copyFrom_0 : decode cX0_copyFrom 0 = .ok (.aload_n 0, 1) := by decide +kernel
theorem dX0_copyFrom_1 : decode cX0_copyFrom 1 = .ok (.getfield 12, 3) := by decide +kernel
theorem dX0_copyFrom_4 : decode cX0_copyFrom 4 = .ok (.aload_n 1, 1) := by decide +kernel
theorem dX0_copyFrom_5 : decode cX0_copyFrom 5 = .ok (.getfield 12, 3) := by decide +kernel
theorem dX0_copyFrom_8 : decode cX0_copyFrom 8 = .ok (.invokevirtual 25, 3) := by decide +kernel
theorem dX0_copyFrom_11 : decode cX0_copyFrom 11 = .ok (.aload_n 1, 1) := by decide +kernel
theorem dX0_copyFrom_12 : decode cX0_copyFrom 12 = .ok (.getfield 18, 3) := by decide +kernel
theorem dX0_copyFrom_15 : decode cX0_copyFrom 15 = .ok (.iconst 0, 1) := by decide +kernel
theorem dX0_copyFrom_16 : decode cX0_copyFrom 16 = .ok (.aload_n 0, 1) := by decide +kernel
theorem dX0_copyFrom_17 : decode cX0_copyFrom 17 = .ok (.getfield 18, 3) := by decide +kernel
theorem dX0_copyFrom_20 : decode cX0_copyFrom 20 = .ok (.iconst 0, 1) := by decide +kernel
theorem dX0_copyFrom_21 : decode cX0_copyFrom 21 = .ok (.sipush 288, 3) := by decide +kernel
theorem dX0_copyFrom_24 : decode cX0_copyFrom 24 = .ok (.invokestatic 29, 3) := by decide +kernel
theorem dX0_copyFrom_27 : decode cX0_copyFrom 27 = .ok (.return_, 1) := by decide +kernel
theorem dX0_indexOf_0 : decode cX0_indexOf 0 = .ok (.iload_n 0, 1) := by decide +kernel
theorem dX0_indexOf_1 : decode cX0_indexOf 1 = .ok (.bipush 6, 2) := by decide +kernel
theorem dX0_indexOf_3 : decode cX0_indexOf 3 = .ok (.imul, 1) := by decide +kernel
theorem dX0_indexOf_4 : decode cX0_indexOf 4 = .ok (.iload_n 1, 1) := by decide +kernel
theorem dX0_indexOf_5 : decode cX0_indexOf 5 = .ok (.iadd, 1) := by decide +kernel
theorem dX0_indexOf_6 : decode cX0_indexOf 6 = .ok (.bipush 8, 2) := by decide +kernel
theorem dX0_indexOf_8 : decode cX0_indexOf 8 = .ok (.imul, 1) := by decide +kernel
theorem dX0_indexOf_9 : decode cX0_indexOf 9 = .ok (.iload_n 2, 1) := by decide +kernel
theorem dX0_indexOf_10 : decode cX0_indexOf 10 = .ok (.iadd, 1) := by decide +kernel
theorem dX0_indexOf_11 : decode cX0_indexOf 11 = .ok (.ireturn, 1) := by decide +kernel
theorem dX0_nameSquares_0 : decode cX0_nameSquares 0 = .ok (.iconst 0, 1) := by decide +kernel
theorem dX0_nameSquares_1 : decode cX0_nameSquares 1 = .ok (.istore_n 3, 1) := by decide +kernel
theorem dX0_nameSquares_2 : decode cX0_nameSquares 2 = .ok (.iload_n 3, 1) := by decide +kernel
theorem dX0_nameSquares_3 : decode cX0_nameSquares 3 = .ok (.bipush 6, 2) := by decide +kernel
theorem dX0_nameSquares_5 : decode cX0_nameSquares 5 = .ok (.if_icmp .ge 123, 3) := by decide +kernel
theorem dX0_nameSquares_8 : decode cX0_nameSquares 8 = .ok (.iconst 0, 1) := by decide +kernel
theorem dX0_nameSquares_9 : decode cX0_nameSquares 9 = .ok (.istore 4, 2) := by decide +kernel
theorem dX0_nameSquares_11 : decode cX0_nameSquares 11 = .ok (.iload 4, 2) := by decide +kernel
theorem dX0_nameSquares_13 : decode cX0_nameSquares 13 = .ok (.bipush 8, 2) := by decide +kernel
theorem dX0_nameSquares_15 : decode cX0_nameSquares 15 = .ok (.if_icmp .ge 107, 3) := by decide +kernel
theorem dX0_nameSquares_18 : decode cX0_nameSquares 18 = .ok (.aload_n 1, 1) := by decide +kernel
theorem dX0_nameSquares_19 : decode cX0_nameSquares 19 = .ok (.getfield 12, 3) := by decide +kernel
theorem dX0_nameSquares_22 : decode cX0_nameSquares 22 = .ok (.iload_n 3, 1) := by decide +kernel
theorem dX0_nameSquares_23 : decode cX0_nameSquares 23 = .ok (.iload 4, 2) := by decide +kernel
theorem dX0_nameSquares_25 : decode cX0_nameSquares 25 = .ok (.invokevirtual 35, 3) := by decide +kernel
theorem dX0_nameSquares_28 : decode cX0_nameSquares 28 = .ok (.lstore 5, 2) := by decide +kernel
theorem dX0_nameSquares_30 : decode cX0_nameSquares 30 = .ok (.aload_n 0, 1) := by decide +kernel
theorem dX0_nameSquares_31 : decode cX0_nameSquares 31 = .ok (.getfield 12, 3) := by decide +kernel
theorem dX0_nameSquares_34 : decode cX0_nameSquares 34 = .ok (.iload_n 3, 1) := by decide +kernel
theorem dX0_nameSquares_35 : decode cX0_nameSquares 35 = .ok (.iload 4, 2) := by decide +kernel
theorem dX0_nameSquares_37 : decode cX0_nameSquares 37 = .ok (.invokevirtual 35, 3) := by decide +kernel
theorem dX0_nameSquares_40 : decode cX0_nameSquares 40 = .ok (.lstore 7, 2) := by decide +kernel
theorem dX0_nameSquares_42 : decode cX0_nameSquares 42 = .ok (.iconst 0, 1) := by decide +kernel
theorem dX0_nameSquares_43 : decode cX0_nameSquares 43 = .ok (.istore 9, 2) := by decide +kernel
theorem dX0_nameSquares_45 : decode cX0_nameSquares 45 = .ok (.iload 9, 2) := by decide +kernel
theorem dX0_nameSquares_47 : decode cX0_nameSquares 47 = .ok (.bipush 6, 2) := by decide +kernel
theorem dX0_nameSquares_49 : decode cX0_nameSquares 49 = .ok (.if_icmp .ge 67, 3) := by decide +kernel
theorem dX0_nameSquares_52 : decode cX0_nameSquares 52 = .ok (.iload_n 2, 1) := by decide +kernel
theorem dX0_nameSquares_53 : decode cX0_nameSquares 53 = .ok (.iload 9, 2) := by decide +kernel
theorem dX0_nameSquares_55 : decode cX0_nameSquares 55 = .ok (.ishr, 1) := by decide +kernel
theorem dX0_nameSquares_56 : decode cX0_nameSquares 56 = .ok (.iconst 1, 1) := by decide +kernel
theorem dX0_nameSquares_57 : decode cX0_nameSquares 57 = .ok (.iand, 1) := by decide +kernel
theorem dX0_nameSquares_58 : decode cX0_nameSquares 58 = .ok (.iconst 1, 1) := by decide +kernel
theorem dX0_nameSquares_59 : decode cX0_nameSquares 59 = .ok (.if_icmp .ne 15, 3) := by decide +kernel
theorem dX0_nameSquares_62 : decode cX0_nameSquares 62 = .ok (.lload 7, 2) := by decide +kernel
theorem dX0_nameSquares_64 : decode cX0_nameSquares 64 = .ok (.lload 5, 2) := by decide +kernel
theorem dX0_nameSquares_66 : decode cX0_nameSquares 66 = .ok (.ldc2_w 39, 3) := by decide +kernel
theorem dX0_nameSquares_69 : decode cX0_nameSquares 69 = .ok (.lxor, 1) := by decide +kernel
theorem dX0_nameSquares_70 : decode cX0_nameSquares 70 = .ok (.land, 1) := by decide +kernel
theorem dX0_nameSquares_71 : decode cX0_nameSquares 71 = .ok (.goto 4, 3) := by decide +kernel
theorem dX0_nameSquares_74 : decode cX0_nameSquares 74 = .ok (.lconst 0, 1) := by decide +kernel
theorem dX0_nameSquares_75 : decode cX0_nameSquares 75 = .ok (.lstore 10, 2) := by decide +kernel
theorem dX0_nameSquares_77 : decode cX0_nameSquares 77 = .ok (.iload_n 3, 1) := by decide +kernel
theorem dX0_nameSquares_78 : decode cX0_nameSquares 78 = .ok (.iload 9, 2) := by decide +kernel
theorem dX0_nameSquares_80 : decode cX0_nameSquares 80 = .ok (.iload 4, 2) := by decide +kernel
theorem dX0_nameSquares_82 : decode cX0_nameSquares 82 = .ok (.invokestatic 41, 3) := by decide +kernel
theorem dX0_nameSquares_85 : decode cX0_nameSquares 85 = .ok (.istore 12, 2) := by decide +kernel
theorem dX0_nameSquares_87 : decode cX0_nameSquares 87 = .ok (.aload_n 0, 1) := by decide +kernel
theorem dX0_nameSquares_88 : decode cX0_nameSquares 88 = .ok (.getfield 18, 3) := by decide +kernel
theorem dX0_nameSquares_91 : decode cX0_nameSquares 91 = .ok (.iload 12, 2) := by decide +kernel
theorem dX0_nameSquares_93 : decode cX0_nameSquares 93 = .ok (.aload_n 1, 1) := by decide +kernel
theorem dX0_nameSquares_94 : decode cX0_nameSquares 94 = .ok (.getfield 18, 3) := by decide +kernel
theorem dX0_nameSquares_97 : decode cX0_nameSquares 97 = .ok (.iload 12, 2) := by decide +kernel
theorem dX0_nameSquares_99 : decode cX0_nameSquares 99 = .ok (.laload, 1) := by decide +kernel
theorem dX0_nameSquares_100 : decode cX0_nameSquares 100 = .ok (.lload 5, 2) := by decide +kernel
theorem dX0_nameSquares_102 : decode cX0_nameSquares 102 = .ok (.land, 1) := by decide +kernel
theorem dX0_nameSquares_103 : decode cX0_nameSquares 103 = .ok (.lload 7, 2) := by decide +kernel
theorem dX0_nameSquares_105 : decode cX0_nameSquares 105 = .ok (.land, 1) := by decide +kernel
theorem dX0_nameSquares_106 : decode cX0_nameSquares 106 = .ok (.lload 10, 2) := by decide +kernel
theorem dX0_nameSquares_108 : decode cX0_nameSquares 108 = .ok (.lor, 1) := by decide +kernel
theorem dX0_nameSquares_109 : decode cX0_nameSquares 109 = .ok (.lastore, 1) := by decide +kernel
theorem dX0_nameSquares_110 : decode cX0_nameSquares 110 = .ok (.iinc 9 1, 3) := by decide +kernel
theorem dX0_nameSquares_113 : decode cX0_nameSquares 113 = .ok (.goto (-68), 3) := by decide +kernel
theorem dX0_nameSquares_116 : decode cX0_nameSquares 116 = .ok (.iinc 4 1, 3) := by decide +kernel
theorem dX0_nameSquares_119 : decode cX0_nameSquares 119 = .ok (.goto (-108), 3) := by decide +kernel
theorem dX0_nameSquares_122 : decode cX0_nameSquares 122 = .ok (.iinc 3 1, 3) := by decide +kernel
theorem dX0_nameSquares_125 : decode cX0_nameSquares 125 = .ok (.goto (-123), 3) := by decide +kernel
theorem dX0_nameSquares_128 : decode cX0_nameSquares 128 = .ok (.return_, 1) := by decide +kernel
theorem dX0_choose_0 : decode cX0_choose 0 = .ok (.aload_n 3, 1) := by decide +kernel
theorem dX0_choose_1 : decode cX0_choose 1 = .ok (.invokevirtual 22, 3) := by decide +kernel
theorem dX0_choose_4 : decode cX0_choose 4 = .ok (.iload_n 1, 1) := by decide +kernel
theorem dX0_choose_5 : decode cX0_choose 5 = .ok (.ifCond .lt 9, 3) := by decide +kernel
theorem dX0_choose_8 : decode cX0_choose 8 = .ok (.iload_n 1, 1) := by decide +kernel
theorem dX0_choose_9 : decode cX0_choose 9 = .ok (.bipush 40, 2) := by decide +kernel
theorem dX0_choose_11 : decode cX0_choose 11 = .ok (.if_icmp .lt 4, 3) := by decide +kernel
theorem dX0_choose_14 : decode cX0_choose 14 = .ok (.return_, 1) := by decide +kernel
theorem dX0_choose_15 : decode cX0_choose 15 = .ok (.iconst 0, 1) := by decide +kernel
theorem dX0_choose_16 : decode cX0_choose 16 = .ok (.istore 4, 2) := by decide +kernel
theorem dX0_choose_18 : decode cX0_choose 18 = .ok (.iload 4, 2) := by decide +kernel
theorem dX0_choose_20 : decode cX0_choose 20 = .ok (.bipush 8, 2) := by decide +kernel
theorem dX0_choose_22 : decode cX0_choose 22 = .ok (.if_icmp .ge 87, 3) := by decide +kernel
theorem dX0_choose_25 : decode cX0_choose 25 = .ok (.aload_n 0, 1) := by decide +kernel
theorem dX0_choose_26 : decode cX0_choose 26 = .ok (.getfield 12, 3) := by decide +kernel
theorem dX0_choose_29 : decode cX0_choose 29 = .ok (.iload_n 2, 1) := by decide +kernel
theorem dX0_choose_30 : decode cX0_choose 30 = .ok (.iload 4, 2) := by decide +kernel
theorem dX0_choose_32 : decode cX0_choose 32 = .ok (.invokevirtual 35, 3) := by decide +kernel
theorem dX0_choose_35 : decode cX0_choose 35 = .ok (.lstore 5, 2) := by decide +kernel
theorem dX0_choose_37 : decode cX0_choose 37 = .ok (.iconst 0, 1) := by decide +kernel
theorem dX0_choose_38 : decode cX0_choose 38 = .ok (.istore 7, 2) := by decide +kernel
theorem dX0_choose_40 : decode cX0_choose 40 = .ok (.iload 7, 2) := by decide +kernel
theorem dX0_choose_42 : decode cX0_choose 42 = .ok (.bipush 6, 2) := by decide +kernel
theorem dX0_choose_44 : decode cX0_choose 44 = .ok (.if_icmp .ge 50, 3) := by decide +kernel
theorem dX0_choose_47 : decode cX0_choose 47 = .ok (.aload_n 0, 1) := by decide +kernel
theorem dX0_choose_48 : decode cX0_choose 48 = .ok (.getfield 18, 3) := by decide +kernel
theorem dX0_choose_51 : decode cX0_choose 51 = .ok (.iload_n 2, 1) := by decide +kernel
theorem dX0_choose_52 : decode cX0_choose 52 = .ok (.iload 7, 2) := by decide +kernel
theorem dX0_choose_54 : decode cX0_choose 54 = .ok (.iload 4, 2) := by decide +kernel
theorem dX0_choose_56 : decode cX0_choose 56 = .ok (.invokestatic 41, 3) := by decide +kernel
theorem dX0_choose_59 : decode cX0_choose 59 = .ok (.laload, 1) := by decide +kernel
theorem dX0_choose_60 : decode cX0_choose 60 = .ok (.lstore 8, 2) := by decide +kernel
theorem dX0_choose_62 : decode cX0_choose 62 = .ok (.lload 5, 2) := by decide +kernel
theorem dX0_choose_64 : decode cX0_choose 64 = .ok (.iload_n 1, 1) := by decide +kernel
theorem dX0_choose_65 : decode cX0_choose 65 = .ok (.iload 7, 2) := by decide +kernel
theorem dX0_choose_67 : decode cX0_choose 67 = .ok (.ishr, 1) := by decide +kernel
theorem dX0_choose_68 : decode cX0_choose 68 = .ok (.iconst 1, 1) := by decide +kernel
theorem dX0_choose_69 : decode cX0_choose 69 = .ok (.iand, 1) := by decide +kernel
theorem dX0_choose_70 : decode cX0_choose 70 = .ok (.iconst 1, 1) := by decide +kernel
theorem dX0_choose_71 : decode cX0_choose 71 = .ok (.if_icmp .ne 8, 3) := by decide +kernel
theorem dX0_choose_74 : decode cX0_choose 74 = .ok (.lload 8, 2) := by decide +kernel
theorem dX0_choose_76 : decode cX0_choose 76 = .ok (.goto 9, 3) := by decide +kernel
theorem dX0_choose_79 : decode cX0_choose 79 = .ok (.lload 8, 2) := by decide +kernel
theorem dX0_choose_81 : decode cX0_choose 81 = .ok (.ldc2_w 39, 3) := by decide +kernel
theorem dX0_choose_84 : decode cX0_choose 84 = .ok (.lxor, 1) := by decide +kernel
theorem dX0_choose_85 : decode cX0_choose 85 = .ok (.land, 1) := by decide +kernel
theorem dX0_choose_86 : decode cX0_choose 86 = .ok (.lstore 5, 2) := by decide +kernel
theorem dX0_choose_88 : decode cX0_choose 88 = .ok (.iinc 7 1, 3) := by decide +kernel
theorem dX0_choose_91 : decode cX0_choose 91 = .ok (.goto (-51), 3) := by decide +kernel
theorem dX0_choose_94 : decode cX0_choose 94 = .ok (.aload_n 3, 1) := by decide +kernel
theorem dX0_choose_95 : decode cX0_choose 95 = .ok (.getfield 45, 3) := by decide +kernel
theorem dX0_choose_98 : decode cX0_choose 98 = .ok (.iload 4, 2) := by decide +kernel
theorem dX0_choose_100 : decode cX0_choose 100 = .ok (.lload 5, 2) := by decide +kernel
theorem dX0_choose_102 : decode cX0_choose 102 = .ok (.lastore, 1) := by decide +kernel
theorem dX0_choose_103 : decode cX0_choose 103 = .ok (.iinc 4 1, 3) := by decide +kernel
theorem dX0_choose_106 : decode cX0_choose 106 = .ok (.goto (-88), 3) := by decide +kernel
theorem dX0_choose_109 : decode cX0_choose 109 = .ok (.return_, 1) := by decide +kernel
theorem dX0_makerOf_0 : decode cX0_makerOf 0 = .ok (.iload_n 1, 1) := by decide +kernel
theorem dX0_makerOf_1 : decode cX0_makerOf 1 = .ok (.iload_n 2, 1) := by decide +kernel
theorem dX0_makerOf_2 : decode cX0_makerOf 2 = .ok (.invokestatic 48, 3) := by decide +kernel
theorem dX0_makerOf_5 : decode cX0_makerOf 5 = .ok (.istore 5, 2) := by decide +kernel
theorem dX0_makerOf_7 : decode cX0_makerOf 7 = .ok (.aload_n 0, 1) := by decide +kernel
theorem dX0_makerOf_8 : decode cX0_makerOf 8 = .ok (.getfield 12, 3) := by decide +kernel
theorem dX0_makerOf_11 : decode cX0_makerOf 11 = .ok (.iload 4, 2) := by decide +kernel
theorem dX0_makerOf_13 : decode cX0_makerOf 13 = .ok (.iload_n 3, 1) := by decide +kernel
theorem dX0_makerOf_14 : decode cX0_makerOf 14 = .ok (.invokevirtual 35, 3) := by decide +kernel
theorem dX0_makerOf_17 : decode cX0_makerOf 17 = .ok (.iload 5, 2) := by decide +kernel
theorem dX0_makerOf_19 : decode cX0_makerOf 19 = .ok (.lushr, 1) := by decide +kernel
theorem dX0_makerOf_20 : decode cX0_makerOf 20 = .ok (.lconst 1, 1) := by decide +kernel
theorem dX0_makerOf_21 : decode cX0_makerOf 21 = .ok (.land, 1) := by decide +kernel
theorem dX0_makerOf_22 : decode cX0_makerOf 22 = .ok (.lconst 0, 1) := by decide +kernel
theorem dX0_makerOf_23 : decode cX0_makerOf 23 = .ok (.lcmp, 1) := by decide +kernel
theorem dX0_makerOf_24 : decode cX0_makerOf 24 = .ok (.ifCond .ne 5, 3) := by decide +kernel
theorem dX0_makerOf_27 : decode cX0_makerOf 27 = .ok (.iconst (-1), 1) := by decide +kernel
theorem dX0_makerOf_28 : decode cX0_makerOf 28 = .ok (.ireturn, 1) := by decide +kernel
theorem dX0_makerOf_29 : decode cX0_makerOf 29 = .ok (.iconst 0, 1) := by decide +kernel
theorem dX0_makerOf_30 : decode cX0_makerOf 30 = .ok (.istore 6, 2) := by decide +kernel
theorem dX0_makerOf_32 : decode cX0_makerOf 32 = .ok (.iconst 0, 1) := by decide +kernel
theorem dX0_makerOf_33 : decode cX0_makerOf 33 = .ok (.istore 7, 2) := by decide +kernel
theorem dX0_makerOf_35 : decode cX0_makerOf 35 = .ok (.iload 7, 2) := by decide +kernel
theorem dX0_makerOf_37 : decode cX0_makerOf 37 = .ok (.bipush 6, 2) := by decide +kernel
theorem dX0_makerOf_39 : decode cX0_makerOf 39 = .ok (.if_icmp .ge 36, 3) := by decide +kernel
theorem dX0_makerOf_42 : decode cX0_makerOf 42 = .ok (.iload 6, 2) := by decide +kernel
theorem dX0_makerOf_44 : decode cX0_makerOf 44 = .ok (.aload_n 0, 1) := by decide +kernel
theorem dX0_makerOf_45 : decode cX0_makerOf 45 = .ok (.getfield 18, 3) := by decide +kernel
theorem dX0_makerOf_48 : decode cX0_makerOf 48 = .ok (.iload 4, 2) := by decide +kernel
theorem dX0_makerOf_50 : decode cX0_makerOf 50 = .ok (.iload 7, 2) := by decide +kernel
theorem dX0_makerOf_52 : decode cX0_makerOf 52 = .ok (.iload_n 3, 1) := by decide +kernel
theorem dX0_makerOf_53 : decode cX0_makerOf 53 = .ok (.invokestatic 41, 3) := by decide +kernel
theorem dX0_makerOf_56 : decode cX0_makerOf 56 = .ok (.laload, 1) := by decide +kernel
theorem dX0_makerOf_57 : decode cX0_makerOf 57 = .ok (.iload 5, 2) := by decide +kernel
theorem dX0_makerOf_59 : decode cX0_makerOf 59 = .ok (.lushr, 1) := by decide +kernel
theorem dX0_makerOf_60 : decode cX0_makerOf 60 = .ok (.lconst 1, 1) := by decide +kernel
theorem dX0_makerOf_61 : decode cX0_makerOf 61 = .ok (.land, 1) := by decide +kernel
theorem dX0_makerOf_62 : decode cX0_makerOf 62 = .ok (.l2i, 1) := by decide +kernel
theorem dX0_makerOf_63 : decode cX0_makerOf 63 = .ok (.iload 7, 2) := by decide +kernel
theorem dX0_makerOf_65 : decode cX0_makerOf 65 = .ok (.ishl, 1) := by decide +kernel
theorem dX0_makerOf_66 : decode cX0_makerOf 66 = .ok (.ior, 1) := by decide +kernel
theorem dX0_makerOf_67 : decode cX0_makerOf 67 = .ok (.istore 6, 2) := by decide +kernel
theorem dX0_makerOf_69 : decode cX0_makerOf 69 = .ok (.iinc 7 1, 3) := by decide +kernel
theorem dX0_makerOf_72 : decode cX0_makerOf 72 = .ok (.goto (-37), 3) := by decide +kernel
theorem dX0_makerOf_75 : decode cX0_makerOf 75 = .ok (.iload 6, 2) := by decide +kernel
theorem dX0_makerOf_77 : decode cX0_makerOf 77 = .ok (.ireturn, 1) := by decide +kernel
theorem dX1_init_0 : decode cX1_init 0 = .ok (.aload_n 0, 1) := by decide +kernel
theorem dX1_init_1 : decode cX1_init 1 = .ok (.invokespecial 3, 3) := by decide +kernel
theorem dX1_init_4 : decode cX1_init 4 = .ok (.aload_n 0, 1) := by decide +kernel
theorem dX1_init_5 : decode cX1_init 5 = .ok (.bipush 8, 2) := by decide +kernel
theorem dX1_init_7 : decode cX1_init 7 = .ok (.newarray .long, 2) := by decide +kernel
theorem dX1_init_9 : decode cX1_init 9 = .ok (.putfield 9, 3) := by decide +kernel
theorem dX1_init_12 : decode cX1_init 12 = .ok (.return_, 1) := by decide +kernel
theorem dX1_isInside_0 : decode cX1_isInside 0 = .ok (.iload_n 0, 1) := by decide +kernel
theorem dX1_isInside_1 : decode cX1_isInside 1 = .ok (.ifCond .lt 33, 3) := by decide +kernel
theorem dX1_isInside_4 : decode cX1_isInside 4 = .ok (.iload_n 0, 1) := by decide +kernel
theorem dX1_isInside_5 : decode cX1_isInside 5 = .ok (.bipush 8, 2) := by decide +kernel
theorem dX1_isInside_7 : decode cX1_isInside 7 = .ok (.if_icmp .ge 27, 3) := by decide +kernel
theorem dX1_isInside_10 : decode cX1_isInside 10 = .ok (.iload_n 1, 1) := by decide +kernel
theorem dX1_isInside_11 : decode cX1_isInside 11 = .ok (.ifCond .lt 23, 3) := by decide +kernel
theorem dX1_isInside_14 : decode cX1_isInside 14 = .ok (.iload_n 1, 1) := by decide +kernel
theorem dX1_isInside_15 : decode cX1_isInside 15 = .ok (.bipush 8, 2) := by decide +kernel
theorem dX1_isInside_17 : decode cX1_isInside 17 = .ok (.if_icmp .ge 17, 3) := by decide +kernel
theorem dX1_isInside_20 : decode cX1_isInside 20 = .ok (.iload_n 2, 1) := by decide +kernel
theorem dX1_isInside_21 : decode cX1_isInside 21 = .ok (.ifCond .lt 13, 3) := by decide +kernel
theorem dX1_isInside_24 : decode cX1_isInside 24 = .ok (.iload_n 2, 1) := by decide +kernel
theorem dX1_isInside_25 : decode cX1_isInside 25 = .ok (.bipush 8, 2) := by decide +kernel
theorem dX1_isInside_27 : decode cX1_isInside 27 = .ok (.if_icmp .ge 7, 3) := by decide +kernel
theorem dX1_isInside_30 : decode cX1_isInside 30 = .ok (.iconst 1, 1) := by decide +kernel
theorem dX1_isInside_31 : decode cX1_isInside 31 = .ok (.goto 4, 3) := by decide +kernel
theorem dX1_isInside_34 : decode cX1_isInside 34 = .ok (.iconst 0, 1) := by decide +kernel
theorem dX1_isInside_35 : decode cX1_isInside 35 = .ok (.ireturn, 1) := by decide +kernel
theorem dX1_bitOf_0 : decode cX1_bitOf 0 = .ok (.iload_n 1, 1) := by decide +kernel
theorem dX1_bitOf_1 : decode cX1_bitOf 1 = .ok (.bipush 8, 2) := by decide +kernel
theorem dX1_bitOf_3 : decode cX1_bitOf 3 = .ok (.imul, 1) := by decide +kernel
theorem dX1_bitOf_4 : decode cX1_bitOf 4 = .ok (.iload_n 0, 1) := by decide +kernel
theorem dX1_bitOf_5 : decode cX1_bitOf 5 = .ok (.iadd, 1) := by decide +kernel
theorem dX1_bitOf_6 : decode cX1_bitOf 6 = .ok (.ireturn, 1) := by decide +kernel
theorem dX1_contains_0 : decode cX1_contains 0 = .ok (.iload_n 1, 1) := by decide +kernel
theorem dX1_contains_1 : decode cX1_contains 1 = .ok (.iload_n 2, 1) := by decide +kernel
theorem dX1_contains_2 : decode cX1_contains 2 = .ok (.iload_n 3, 1) := by decide +kernel
theorem dX1_contains_3 : decode cX1_contains 3 = .ok (.invokestatic 15, 3) := by decide +kernel
theorem dX1_contains_6 : decode cX1_contains 6 = .ok (.ifCond .eq 26, 3) := by decide +kernel
theorem dX1_contains_9 : decode cX1_contains 9 = .ok (.aload_n 0, 1) := by decide +kernel
theorem dX1_contains_10 : decode cX1_contains 10 = .ok (.getfield 9, 3) := by decide +kernel
theorem dX1_contains_13 : decode cX1_contains 13 = .ok (.iload_n 3, 1) := by decide +kernel
theorem dX1_contains_14 : decode cX1_contains 14 = .ok (.laload, 1) := by decide +kernel
theorem dX1_contains_15 : decode cX1_contains 15 = .ok (.iload_n 1, 1) := by decide +kernel
theorem dX1_contains_16 : decode cX1_contains 16 = .ok (.iload_n 2, 1) := by decide +kernel
theorem dX1_contains_17 : decode cX1_contains 17 = .ok (.invokestatic 19, 3) := by decide +kernel
theorem dX1_contains_20 : decode cX1_contains 20 = .ok (.lushr, 1) := by decide +kernel
theorem dX1_contains_21 : decode cX1_contains 21 = .ok (.lconst 1, 1) := by decide +kernel
theorem dX1_contains_22 : decode cX1_contains 22 = .ok (.land, 1) := by decide +kernel
theorem dX1_contains_23 : decode cX1_contains 23 = .ok (.lconst 1, 1) := by decide +kernel
theorem dX1_contains_24 : decode cX1_contains 24 = .ok (.lcmp, 1) := by decide +kernel
theorem dX1_contains_25 : decode cX1_contains 25 = .ok (.ifCond .ne 7, 3) := by decide +kernel
theorem dX1_contains_28 : decode cX1_contains 28 = .ok (.iconst 1, 1) := by decide +kernel
theorem dX1_contains_29 : decode cX1_contains 29 = .ok (.goto 4, 3) := by decide +kernel
theorem dX1_contains_32 : decode cX1_contains 32 = .ok (.iconst 0, 1) := by decide +kernel
theorem dX1_contains_33 : decode cX1_contains 33 = .ok (.ireturn, 1) := by decide +kernel
theorem dX1_put_0 : decode cX1_put 0 = .ok (.iload_n 1, 1) := by decide +kernel
theorem dX1_put_1 : decode cX1_put 1 = .ok (.iload_n 2, 1) := by decide +kernel
theorem dX1_put_2 : decode cX1_put 2 = .ok (.iload_n 3, 1) := by decide +kernel
theorem dX1_put_3 : decode cX1_put 3 = .ok (.invokestatic 15, 3) := by decide +kernel
theorem dX1_put_6 : decode cX1_put 6 = .ok (.ifCond .eq 19, 3) := by decide +kernel
theorem dX1_put_9 : decode cX1_put 9 = .ok (.aload_n 0, 1) := by decide +kernel
theorem dX1_put_10 : decode cX1_put 10 = .ok (.getfield 9, 3) := by decide +kernel
theorem dX1_put_13 : decode cX1_put 13 = .ok (.iload_n 3, 1) := by decide +kernel
theorem dX1_put_14 : decode cX1_put 14 = .ok (.dup2, 1) := by decide +kernel
theorem dX1_put_15 : decode cX1_put 15 = .ok (.laload, 1) := by decide +kernel
theorem dX1_put_16 : decode cX1_put 16 = .ok (.lconst 1, 1) := by decide +kernel
theorem dX1_put_17 : decode cX1_put 17 = .ok (.iload_n 1, 1) := by decide +kernel
theorem dX1_put_18 : decode cX1_put 18 = .ok (.iload_n 2, 1) := by decide +kernel
theorem dX1_put_19 : decode cX1_put 19 = .ok (.invokestatic 19, 3) := by decide +kernel
theorem dX1_put_22 : decode cX1_put 22 = .ok (.lshl, 1) := by decide +kernel
theorem dX1_put_23 : decode cX1_put 23 = .ok (.lor, 1) := by decide +kernel
theorem dX1_put_24 : decode cX1_put 24 = .ok (.lastore, 1) := by decide +kernel
theorem dX1_put_25 : decode cX1_put 25 = .ok (.return_, 1) := by decide +kernel
theorem dX1_clear_0 : decode cX1_clear 0 = .ok (.iconst 0, 1) := by decide +kernel
theorem dX1_clear_1 : decode cX1_clear 1 = .ok (.istore_n 1, 1) := by decide +kernel
theorem dX1_clear_2 : decode cX1_clear 2 = .ok (.iload_n 1, 1) := by decide +kernel
theorem dX1_clear_3 : decode cX1_clear 3 = .ok (.bipush 8, 2) := by decide +kernel
theorem dX1_clear_5 : decode cX1_clear 5 = .ok (.if_icmp .ge 16, 3) := by decide +kernel
theorem dX1_clear_8 : decode cX1_clear 8 = .ok (.aload_n 0, 1) := by decide +kernel
theorem dX1_clear_9 : decode cX1_clear 9 = .ok (.getfield 9, 3) := by decide +kernel
theorem dX1_clear_12 : decode cX1_clear 12 = .ok (.iload_n 1, 1) := by decide +kernel
theorem dX1_clear_13 : decode cX1_clear 13 = .ok (.lconst 0, 1) := by decide +kernel
theorem dX1_clear_14 : decode cX1_clear 14 = .ok (.lastore, 1) := by decide +kernel
theorem dX1_clear_15 : decode cX1_clear 15 = .ok (.iinc 1 1, 3) := by decide +kernel
theorem dX1_clear_18 : decode cX1_clear 18 = .ok (.goto (-16), 3) := by decide +kernel
theorem dX1_clear_21 : decode cX1_clear 21 = .ok (.return_, 1) := by decide +kernel
theorem dX1_copyFrom_0 : decode cX1_copyFrom 0 = .ok (.aload_n 1, 1) := by decide +kernel
theorem dX1_copyFrom_1 : decode cX1_copyFrom 1 = .ok (.getfield 9, 3) := by decide +kernel
theorem dX1_copyFrom_4 : decode cX1_copyFrom 4 = .ok (.iconst 0, 1) := by decide +kernel
theorem dX1_copyFrom_5 : decode cX1_copyFrom 5 = .ok (.aload_n 0, 1) := by decide +kernel
theorem dX1_copyFrom_6 : decode cX1_copyFrom 6 = .ok (.getfield 9, 3) := by decide +kernel
theorem dX1_copyFrom_9 : decode cX1_copyFrom 9 = .ok (.iconst 0, 1) := by decide +kernel
theorem dX1_copyFrom_10 : decode cX1_copyFrom 10 = .ok (.bipush 8, 2) := by decide +kernel
theorem dX1_copyFrom_12 : decode cX1_copyFrom 12 = .ok (.invokestatic 25, 3) := by decide +kernel
theorem dX1_copyFrom_15 : decode cX1_copyFrom 15 = .ok (.return_, 1) := by decide +kernel
theorem dX1_addAll_0 : decode cX1_addAll 0 = .ok (.iconst 0, 1) := by decide +kernel
theorem dX1_addAll_1 : decode cX1_addAll 1 = .ok (.istore_n 2, 1) := by decide +kernel
theorem dX1_addAll_2 : decode cX1_addAll 2 = .ok (.iload_n 2, 1) := by decide +kernel
theorem dX1_addAll_3 : decode cX1_addAll 3 = .ok (.bipush 8, 2) := by decide +kernel
theorem dX1_addAll_5 : decode cX1_addAll 5 = .ok (.if_icmp .ge 24, 3) := by decide +kernel
theorem dX1_addAll_8 : decode cX1_addAll 8 = .ok (.aload_n 0, 1) := by decide +kernel
theorem dX1_addAll_9 : decode cX1_addAll 9 = .ok (.getfield 9, 3) := by decide +kernel
theorem dX1_addAll_12 : decode cX1_addAll 12 = .ok (.iload_n 2, 1) := by decide +kernel
theorem dX1_addAll_13 : decode cX1_addAll 13 = .ok (.dup2, 1) := by decide +kernel
theorem dX1_addAll_14 : decode cX1_addAll 14 = .ok (.laload, 1) := by decide +kernel
theorem dX1_addAll_15 : decode cX1_addAll 15 = .ok (.aload_n 1, 1) := by decide +kernel
theorem dX1_addAll_16 : decode cX1_addAll 16 = .ok (.getfield 9, 3) := by decide +kernel
theorem dX1_addAll_19 : decode cX1_addAll 19 = .ok (.iload_n 2, 1) := by decide +kernel
theorem dX1_addAll_20 : decode cX1_addAll 20 = .ok (.laload, 1) := by decide +kernel
theorem dX1_addAll_21 : decode cX1_addAll 21 = .ok (.lor, 1) := by decide +kernel
theorem dX1_addAll_22 : decode cX1_addAll 22 = .ok (.lastore, 1) := by decide +kernel
theorem dX1_addAll_23 : decode cX1_addAll 23 = .ok (.iinc 2 1, 3) := by decide +kernel
theorem dX1_addAll_26 : decode cX1_addAll 26 = .ok (.goto (-24), 3) := by decide +kernel
theorem dX1_addAll_29 : decode cX1_addAll 29 = .ok (.return_, 1) := by decide +kernel
theorem dX1_takeOutAll_0 : decode cX1_takeOutAll 0 = .ok (.iconst 0, 1) := by decide +kernel
theorem dX1_takeOutAll_1 : decode cX1_takeOutAll 1 = .ok (.istore_n 2, 1) := by decide +kernel
theorem dX1_takeOutAll_2 : decode cX1_takeOutAll 2 = .ok (.iload_n 2, 1) := by decide +kernel
theorem dX1_takeOutAll_3 : decode cX1_takeOutAll 3 = .ok (.bipush 8, 2) := by decide +kernel
theorem dX1_takeOutAll_5 : decode cX1_takeOutAll 5 = .ok (.if_icmp .ge 28, 3) := by decide +kernel
theorem dX1_takeOutAll_8 : decode cX1_takeOutAll 8 = .ok (.aload_n 0, 1) := by decide +kernel
theorem dX1_takeOutAll_9 : decode cX1_takeOutAll 9 = .ok (.getfield 9, 3) := by decide +kernel
theorem dX1_takeOutAll_12 : decode cX1_takeOutAll 12 = .ok (.iload_n 2, 1) := by decide +kernel
theorem dX1_takeOutAll_13 : decode cX1_takeOutAll 13 = .ok (.dup2, 1) := by decide +kernel
theorem dX1_takeOutAll_14 : decode cX1_takeOutAll 14 = .ok (.laload, 1) := by decide +kernel
theorem dX1_takeOutAll_15 : decode cX1_takeOutAll 15 = .ok (.aload_n 1, 1) := by decide +kernel
theorem dX1_takeOutAll_16 : decode cX1_takeOutAll 16 = .ok (.getfield 9, 3) := by decide +kernel
theorem dX1_takeOutAll_19 : decode cX1_takeOutAll 19 = .ok (.iload_n 2, 1) := by decide +kernel
theorem dX1_takeOutAll_20 : decode cX1_takeOutAll 20 = .ok (.laload, 1) := by decide +kernel
theorem dX1_takeOutAll_21 : decode cX1_takeOutAll 21 = .ok (.ldc2_w 31, 3) := by decide +kernel
theorem dX1_takeOutAll_24 : decode cX1_takeOutAll 24 = .ok (.lxor, 1) := by decide +kernel
theorem dX1_takeOutAll_25 : decode cX1_takeOutAll 25 = .ok (.land, 1) := by decide +kernel
theorem dX1_takeOutAll_26 : decode cX1_takeOutAll 26 = .ok (.lastore, 1) := by decide +kernel
theorem dX1_takeOutAll_27 : decode cX1_takeOutAll 27 = .ok (.iinc 2 1, 3) := by decide +kernel
theorem dX1_takeOutAll_30 : decode cX1_takeOutAll 30 = .ok (.goto (-28), 3) := by decide +kernel
theorem dX1_takeOutAll_33 : decode cX1_takeOutAll 33 = .ok (.return_, 1) := by decide +kernel
theorem dX1_keepOnly_0 : decode cX1_keepOnly 0 = .ok (.iconst 0, 1) := by decide +kernel
theorem dX1_keepOnly_1 : decode cX1_keepOnly 1 = .ok (.istore_n 2, 1) := by decide +kernel
theorem dX1_keepOnly_2 : decode cX1_keepOnly 2 = .ok (.iload_n 2, 1) := by decide +kernel
theorem dX1_keepOnly_3 : decode cX1_keepOnly 3 = .ok (.bipush 8, 2) := by decide +kernel
theorem dX1_keepOnly_5 : decode cX1_keepOnly 5 = .ok (.if_icmp .ge 24, 3) := by decide +kernel
theorem dX1_keepOnly_8 : decode cX1_keepOnly 8 = .ok (.aload_n 0, 1) := by decide +kernel
theorem dX1_keepOnly_9 : decode cX1_keepOnly 9 = .ok (.getfield 9, 3) := by decide +kernel
theorem dX1_keepOnly_12 : decode cX1_keepOnly 12 = .ok (.iload_n 2, 1) := by decide +kernel
theorem dX1_keepOnly_13 : decode cX1_keepOnly 13 = .ok (.dup2, 1) := by decide +kernel
theorem dX1_keepOnly_14 : decode cX1_keepOnly 14 = .ok (.laload, 1) := by decide +kernel
theorem dX1_keepOnly_15 : decode cX1_keepOnly 15 = .ok (.aload_n 1, 1) := by decide +kernel
theorem dX1_keepOnly_16 : decode cX1_keepOnly 16 = .ok (.getfield 9, 3) := by decide +kernel
theorem dX1_keepOnly_19 : decode cX1_keepOnly 19 = .ok (.iload_n 2, 1) := by decide +kernel
theorem dX1_keepOnly_20 : decode cX1_keepOnly 20 = .ok (.laload, 1) := by decide +kernel
theorem dX1_keepOnly_21 : decode cX1_keepOnly 21 = .ok (.land, 1) := by decide +kernel
theorem dX1_keepOnly_22 : decode cX1_keepOnly 22 = .ok (.lastore, 1) := by decide +kernel
theorem dX1_keepOnly_23 : decode cX1_keepOnly 23 = .ok (.iinc 2 1, 3) := by decide +kernel
theorem dX1_keepOnly_26 : decode cX1_keepOnly 26 = .ok (.goto (-24), 3) := by decide +kernel
theorem dX1_keepOnly_29 : decode cX1_keepOnly 29 = .ok (.return_, 1) := by decide +kernel
theorem dX1_takeOutInner_0 : decode cX1_takeOutInner 0 = .ok (.iconst 0, 1) := by decide +kernel
theorem dX1_takeOutInner_1 : decode cX1_takeOutInner 1 = .ok (.istore_n 2, 1) := by decide +kernel
theorem dX1_takeOutInner_2 : decode cX1_takeOutInner 2 = .ok (.iload_n 2, 1) := by decide +kernel
theorem dX1_takeOutInner_3 : decode cX1_takeOutInner 3 = .ok (.bipush 8, 2) := by decide +kernel
theorem dX1_takeOutInner_5 : decode cX1_takeOutInner 5 = .ok (.if_icmp .ge 56, 3) := by decide +kernel
theorem dX1_takeOutInner_8 : decode cX1_takeOutInner 8 = .ok (.aload_n 1, 1) := by decide +kernel
theorem dX1_takeOutInner_9 : decode cX1_takeOutInner 9 = .ok (.getfield 9, 3) := by decide +kernel
theorem dX1_takeOutInner_12 : decode cX1_takeOutInner 12 = .ok (.iload_n 2, 1) := by decide +kernel
theorem dX1_takeOutInner_13 : decode cX1_takeOutInner 13 = .ok (.laload, 1) := by decide +kernel
theorem dX1_takeOutInner_14 : decode cX1_takeOutInner 14 = .ok (.lstore_n 3, 1) := by decide +kernel
theorem dX1_takeOutInner_15 : decode cX1_takeOutInner 15 = .ok (.iconst 0, 1) := by decide +kernel
theorem dX1_takeOutInner_16 : decode cX1_takeOutInner 16 = .ok (.istore 5, 2) := by decide +kernel
theorem dX1_takeOutInner_18 : decode cX1_takeOutInner 18 = .ok (.iload 5, 2) := by decide +kernel
theorem dX1_takeOutInner_20 : decode cX1_takeOutInner 20 = .ok (.bipush 6, 2) := by decide +kernel
theorem dX1_takeOutInner_22 : decode cX1_takeOutInner 22 = .ok (.if_icmp .ge 19, 3) := by decide +kernel
theorem dX1_takeOutInner_25 : decode cX1_takeOutInner 25 = .ok (.lload_n 3, 1) := by decide +kernel
theorem dX1_takeOutInner_26 : decode cX1_takeOutInner 26 = .ok (.aload_n 1, 1) := by decide +kernel
theorem dX1_takeOutInner_27 : decode cX1_takeOutInner 27 = .ok (.iload 5, 2) := by decide +kernel
theorem dX1_takeOutInner_29 : decode cX1_takeOutInner 29 = .ok (.iload_n 2, 1) := by decide +kernel
theorem dX1_takeOutInner_30 : decode cX1_takeOutInner 30 = .ok (.invokevirtual 33, 3) := by decide +kernel
theorem dX1_takeOutInner_33 : decode cX1_takeOutInner 33 = .ok (.land, 1) := by decide +kernel
theorem dX1_takeOutInner_34 : decode cX1_takeOutInner 34 = .ok (.lstore_n 3, 1) := by decide +kernel
theorem dX1_takeOutInner_35 : decode cX1_takeOutInner 35 = .ok (.iinc 5 1, 3) := by decide +kernel
theorem dX1_takeOutInner_38 : decode cX1_takeOutInner 38 = .ok (.goto (-20), 3) := by decide +kernel
theorem dX1_takeOutInner_41 : decode cX1_takeOutInner 41 = .ok (.aload_n 0, 1) := by decide +kernel
theorem dX1_takeOutInner_42 : decode cX1_takeOutInner 42 = .ok (.getfield 9, 3) := by decide +kernel
theorem dX1_takeOutInner_45 : decode cX1_takeOutInner 45 = .ok (.iload_n 2, 1) := by decide +kernel
theorem dX1_takeOutInner_46 : decode cX1_takeOutInner 46 = .ok (.dup2, 1) := by decide +kernel
theorem dX1_takeOutInner_47 : decode cX1_takeOutInner 47 = .ok (.laload, 1) := by decide +kernel
theorem dX1_takeOutInner_48 : decode cX1_takeOutInner 48 = .ok (.lload_n 3, 1) := by decide +kernel
theorem dX1_takeOutInner_49 : decode cX1_takeOutInner 49 = .ok (.ldc2_w 31, 3) := by decide +kernel
theorem dX1_takeOutInner_52 : decode cX1_takeOutInner 52 = .ok (.lxor, 1) := by decide +kernel
theorem dX1_takeOutInner_53 : decode cX1_takeOutInner 53 = .ok (.land, 1) := by decide +kernel
theorem dX1_takeOutInner_54 : decode cX1_takeOutInner 54 = .ok (.lastore, 1) := by decide +kernel
theorem dX1_takeOutInner_55 : decode cX1_takeOutInner 55 = .ok (.iinc 2 1, 3) := by decide +kernel
theorem dX1_takeOutInner_58 : decode cX1_takeOutInner 58 = .ok (.goto (-56), 3) := by decide +kernel
theorem dX1_takeOutInner_61 : decode cX1_takeOutInner 61 = .ok (.return_, 1) := by decide +kernel
theorem dX1_isSameAs_0 : decode cX1_isSameAs 0 = .ok (.iconst 0, 1) := by decide +kernel
theorem dX1_isSameAs_1 : decode cX1_isSameAs 1 = .ok (.istore_n 2, 1) := by decide +kernel
theorem dX1_isSameAs_2 : decode cX1_isSameAs 2 = .ok (.iload_n 2, 1) := by decide +kernel
theorem dX1_isSameAs_3 : decode cX1_isSameAs 3 = .ok (.bipush 8, 2) := by decide +kernel
theorem dX1_isSameAs_5 : decode cX1_isSameAs 5 = .ok (.if_icmp .ge 27, 3) := by decide +kernel
theorem dX1_isSameAs_8 : decode cX1_isSameAs 8 = .ok (.aload_n 0, 1) := by decide +kernel
theorem dX1_isSameAs_9 : decode cX1_isSameAs 9 = .ok (.getfield 9, 3) := by decide +kernel
theorem dX1_isSameAs_12 : decode cX1_isSameAs 12 = .ok (.iload_n 2, 1) := by decide +kernel
theorem dX1_isSameAs_13 : decode cX1_isSameAs 13 = .ok (.laload, 1) := by decide +kernel
theorem dX1_isSameAs_14 : decode cX1_isSameAs 14 = .ok (.aload_n 1, 1) := by decide +kernel
theorem dX1_isSameAs_15 : decode cX1_isSameAs 15 = .ok (.getfield 9, 3) := by decide +kernel
theorem dX1_isSameAs_18 : decode cX1_isSameAs 18 = .ok (.iload_n 2, 1) := by decide +kernel
theorem dX1_isSameAs_19 : decode cX1_isSameAs 19 = .ok (.laload, 1) := by decide +kernel
theorem dX1_isSameAs_20 : decode cX1_isSameAs 20 = .ok (.lcmp, 1) := by decide +kernel
theorem dX1_isSameAs_21 : decode cX1_isSameAs 21 = .ok (.ifCond .eq 5, 3) := by decide +kernel
theorem dX1_isSameAs_24 : decode cX1_isSameAs 24 = .ok (.iconst 0, 1) := by decide +kernel
theorem dX1_isSameAs_25 : decode cX1_isSameAs 25 = .ok (.ireturn, 1) := by decide +kernel
theorem dX1_isSameAs_26 : decode cX1_isSameAs 26 = .ok (.iinc 2 1, 3) := by decide +kernel
theorem dX1_isSameAs_29 : decode cX1_isSameAs 29 = .ok (.goto (-27), 3) := by decide +kernel
theorem dX1_isSameAs_32 : decode cX1_isSameAs 32 = .ok (.iconst 1, 1) := by decide +kernel
theorem dX1_isSameAs_33 : decode cX1_isSameAs 33 = .ok (.ireturn, 1) := by decide +kernel
theorem dX1_count_0 : decode cX1_count 0 = .ok (.iconst 0, 1) := by decide +kernel
theorem dX1_count_1 : decode cX1_count 1 = .ok (.istore_n 1, 1) := by decide +kernel
theorem dX1_count_2 : decode cX1_count 2 = .ok (.iconst 0, 1) := by decide +kernel
theorem dX1_count_3 : decode cX1_count 3 = .ok (.istore_n 2, 1) := by decide +kernel
theorem dX1_count_4 : decode cX1_count 4 = .ok (.iload_n 2, 1) := by decide +kernel
theorem dX1_count_5 : decode cX1_count 5 = .ok (.bipush 8, 2) := by decide +kernel
theorem dX1_count_7 : decode cX1_count 7 = .ok (.if_icmp .ge 21, 3) := by decide +kernel
theorem dX1_count_10 : decode cX1_count 10 = .ok (.iload_n 1, 1) := by decide +kernel
theorem dX1_count_11 : decode cX1_count 11 = .ok (.aload_n 0, 1) := by decide +kernel
theorem dX1_count_12 : decode cX1_count 12 = .ok (.getfield 9, 3) := by decide +kernel
theorem dX1_count_15 : decode cX1_count 15 = .ok (.iload_n 2, 1) := by decide +kernel
theorem dX1_count_16 : decode cX1_count 16 = .ok (.laload, 1) := by decide +kernel
theorem dX1_count_17 : decode cX1_count 17 = .ok (.invokestatic 37, 3) := by decide +kernel
theorem dX1_count_20 : decode cX1_count 20 = .ok (.iadd, 1) := by decide +kernel
theorem dX1_count_21 : decode cX1_count 21 = .ok (.istore_n 1, 1) := by decide +kernel
theorem dX1_count_22 : decode cX1_count 22 = .ok (.iinc 2 1, 3) := by decide +kernel
theorem dX1_count_25 : decode cX1_count 25 = .ok (.goto (-21), 3) := by decide +kernel
theorem dX1_count_28 : decode cX1_count 28 = .ok (.iload_n 1, 1) := by decide +kernel
theorem dX1_count_29 : decode cX1_count 29 = .ok (.ireturn, 1) := by decide +kernel
theorem dX1_fillBox_0 : decode cX1_fillBox 0 = .ok (.aload_n 0, 1) := by decide +kernel
theorem dX1_fillBox_1 : decode cX1_fillBox 1 = .ok (.invokevirtual 43, 3) := by decide +kernel
theorem dX1_fillBox_4 : decode cX1_fillBox 4 = .ok (.iconst 0, 1) := by decide +kernel
theorem dX1_fillBox_5 : decode cX1_fillBox 5 = .ok (.aload_n 1, 1) := by decide +kernel
theorem dX1_fillBox_6 : decode cX1_fillBox 6 = .ok (.iconst 2, 1) := by decide +kernel
theorem dX1_fillBox_7 : decode cX1_fillBox 7 = .ok (.iaload, 1) := by decide +kernel
theorem dX1_fillBox_8 : decode cX1_fillBox 8 = .ok (.invokestatic 46, 3) := by decide +kernel
theorem dX1_fillBox_11 : decode cX1_fillBox 11 = .ok (.istore_n 2, 1) := by decide +kernel
theorem dX1_fillBox_12 : decode cX1_fillBox 12 = .ok (.iload_n 2, 1) := by decide +kernel
theorem dX1_fillBox_13 : decode cX1_fillBox 13 = .ok (.bipush 8, 2) := by decide +kernel
theorem dX1_fillBox_15 : decode cX1_fillBox 15 = .ok (.if_icmp .ge 93, 3) := by decide +kernel
theorem dX1_fillBox_18 : decode cX1_fillBox 18 = .ok (.iload_n 2, 1) := by decide +kernel
theorem dX1_fillBox_19 : decode cX1_fillBox 19 = .ok (.aload_n 1, 1) := by decide +kernel
theorem dX1_fillBox_20 : decode cX1_fillBox 20 = .ok (.iconst 2, 1) := by decide +kernel
theorem dX1_fillBox_21 : decode cX1_fillBox 21 = .ok (.iaload, 1) := by decide +kernel
theorem dX1_fillBox_22 : decode cX1_fillBox 22 = .ok (.aload_n 1, 1) := by decide +kernel
theorem dX1_fillBox_23 : decode cX1_fillBox 23 = .ok (.iconst 5, 1) := by decide +kernel
theorem dX1_fillBox_24 : decode cX1_fillBox 24 = .ok (.iaload, 1) := by decide +kernel
theorem dX1_fillBox_25 : decode cX1_fillBox 25 = .ok (.iadd, 1) := by decide +kernel
theorem dX1_fillBox_26 : decode cX1_fillBox 26 = .ok (.if_icmp .ge 82, 3) := by decide +kernel
theorem dX1_fillBox_29 : decode cX1_fillBox 29 = .ok (.iconst 0, 1) := by decide +kernel
theorem dX1_fillBox_30 : decode cX1_fillBox 30 = .ok (.aload_n 1, 1) := by decide +kernel
theorem dX1_fillBox_31 : decode cX1_fillBox 31 = .ok (.iconst 1, 1) := by decide +kernel
theorem dX1_fillBox_32 : decode cX1_fillBox 32 = .ok (.iaload, 1) := by decide +kernel
theorem dX1_fillBox_33 : decode cX1_fillBox 33 = .ok (.invokestatic 46, 3) := by decide +kernel
theorem dX1_fillBox_36 : decode cX1_fillBox 36 = .ok (.istore_n 3, 1) := by decide +kernel
theorem dX1_fillBox_37 : decode cX1_fillBox 37 = .ok (.iload_n 3, 1) := by decide +kernel
theorem dX1_fillBox_38 : decode cX1_fillBox 38 = .ok (.bipush 8, 2) := by decide +kernel
theorem dX1_fillBox_40 : decode cX1_fillBox 40 = .ok (.if_icmp .ge 62, 3) := by decide +kernel
theorem dX1_fillBox_43 : decode cX1_fillBox 43 = .ok (.iload_n 3, 1) := by decide +kernel
theorem dX1_fillBox_44 : decode cX1_fillBox 44 = .ok (.aload_n 1, 1) := by decide +kernel
theorem dX1_fillBox_45 : decode cX1_fillBox 45 = .ok (.iconst 1, 1) := by decide +kernel
theorem dX1_fillBox_46 : decode cX1_fillBox 46 = .ok (.iaload, 1) := by decide +kernel
theorem dX1_fillBox_47 : decode cX1_fillBox 47 = .ok (.aload_n 1, 1) := by decide +kernel
theorem dX1_fillBox_48 : decode cX1_fillBox 48 = .ok (.iconst 4, 1) := by decide +kernel
theorem dX1_fillBox_49 : decode cX1_fillBox 49 = .ok (.iaload, 1) := by decide +kernel
theorem dX1_fillBox_50 : decode cX1_fillBox 50 = .ok (.iadd, 1) := by decide +kernel
theorem dX1_fillBox_51 : decode cX1_fillBox 51 = .ok (.if_icmp .ge 51, 3) := by decide +kernel
theorem dX1_fillBox_54 : decode cX1_fillBox 54 = .ok (.iconst 0, 1) := by decide +kernel
theorem dX1_fillBox_55 : decode cX1_fillBox 55 = .ok (.aload_n 1, 1) := by decide +kernel
theorem dX1_fillBox_56 : decode cX1_fillBox 56 = .ok (.iconst 0, 1) := by decide +kernel
theorem dX1_fillBox_57 : decode cX1_fillBox 57 = .ok (.iaload, 1) := by decide +kernel
theorem dX1_fillBox_58 : decode cX1_fillBox 58 = .ok (.invokestatic 46, 3) := by decide +kernel
theorem dX1_fillBox_61 : decode cX1_fillBox 61 = .ok (.istore 4, 2) := by decide +kernel
theorem dX1_fillBox_63 : decode cX1_fillBox 63 = .ok (.iload 4, 2) := by decide +kernel
theorem dX1_fillBox_65 : decode cX1_fillBox 65 = .ok (.bipush 8, 2) := by decide +kernel
theorem dX1_fillBox_67 : decode cX1_fillBox 67 = .ok (.if_icmp .ge 29, 3) := by decide +kernel
theorem dX1_fillBox_70 : decode cX1_fillBox 70 = .ok (.iload 4, 2) := by decide +kernel
theorem dX1_fillBox_72 : decode cX1_fillBox 72 = .ok (.aload_n 1, 1) := by decide +kernel
theorem dX1_fillBox_73 : decode cX1_fillBox 73 = .ok (.iconst 0, 1) := by decide +kernel
theorem dX1_fillBox_74 : decode cX1_fillBox 74 = .ok (.iaload, 1) := by decide +kernel
theorem dX1_fillBox_75 : decode cX1_fillBox 75 = .ok (.aload_n 1, 1) := by decide +kernel
theorem dX1_fillBox_76 : decode cX1_fillBox 76 = .ok (.iconst 3, 1) := by decide +kernel
theorem dX1_fillBox_77 : decode cX1_fillBox 77 = .ok (.iaload, 1) := by decide +kernel
theorem dX1_fillBox_78 : decode cX1_fillBox 78 = .ok (.iadd, 1) := by decide +kernel
theorem dX1_fillBox_79 : decode cX1_fillBox 79 = .ok (.if_icmp .ge 17, 3) := by decide +kernel
theorem dX1_fillBox_82 : decode cX1_fillBox 82 = .ok (.aload_n 0, 1) := by decide +kernel
theorem dX1_fillBox_83 : decode cX1_fillBox 83 = .ok (.iload 4, 2) := by decide +kernel
theorem dX1_fillBox_85 : decode cX1_fillBox 85 = .ok (.iload_n 3, 1) := by decide +kernel
theorem dX1_fillBox_86 : decode cX1_fillBox 86 = .ok (.iload_n 2, 1) := by decide +kernel
theorem dX1_fillBox_87 : decode cX1_fillBox 87 = .ok (.invokevirtual 51, 3) := by decide +kernel
theorem dX1_fillBox_90 : decode cX1_fillBox 90 = .ok (.iinc 4 1, 3) := by decide +kernel
theorem dX1_fillBox_93 : decode cX1_fillBox 93 = .ok (.goto (-30), 3) := by decide +kernel
theorem dX1_fillBox_96 : decode cX1_fillBox 96 = .ok (.iinc 3 1, 3) := by decide +kernel
theorem dX1_fillBox_99 : decode cX1_fillBox 99 = .ok (.goto (-62), 3) := by decide +kernel
theorem dX1_fillBox_102 : decode cX1_fillBox 102 = .ok (.iinc 2 1, 3) := by decide +kernel
theorem dX1_fillBox_105 : decode cX1_fillBox 105 = .ok (.goto (-93), 3) := by decide +kernel
theorem dX1_fillBox_108 : decode cX1_fillBox 108 = .ok (.return_, 1) := by decide +kernel
theorem dX1_addSlid_0 : decode cX1_addSlid 0 = .ok (.iconst 0, 1) := by decide +kernel
theorem dX1_addSlid_1 : decode cX1_addSlid 1 = .ok (.istore 5, 2) := by decide +kernel
theorem dX1_addSlid_3 : decode cX1_addSlid 3 = .ok (.iload 5, 2) := by decide +kernel
theorem dX1_addSlid_5 : decode cX1_addSlid 5 = .ok (.bipush 8, 2) := by decide +kernel
theorem dX1_addSlid_7 : decode cX1_addSlid 7 = .ok (.if_icmp .ge 50, 3) := by decide +kernel
theorem dX1_addSlid_10 : decode cX1_addSlid 10 = .ok (.iload 5, 2) := by decide +kernel
theorem dX1_addSlid_12 : decode cX1_addSlid 12 = .ok (.iload 4, 2) := by decide +kernel
theorem dX1_addSlid_14 : decode cX1_addSlid 14 = .ok (.isub, 1) := by decide +kernel
theorem dX1_addSlid_15 : decode cX1_addSlid 15 = .ok (.istore 6, 2) := by decide +kernel
theorem dX1_addSlid_17 : decode cX1_addSlid 17 = .ok (.iload 6, 2) := by decide +kernel
theorem dX1_addSlid_19 : decode cX1_addSlid 19 = .ok (.ifCond .lt 32, 3) := by decide +kernel
theorem dX1_addSlid_22 : decode cX1_addSlid 22 = .ok (.iload 6, 2) := by decide +kernel
theorem dX1_addSlid_24 : decode cX1_addSlid 24 = .ok (.bipush 8, 2) := by decide +kernel
theorem dX1_addSlid_26 : decode cX1_addSlid 26 = .ok (.if_icmp .ge 25, 3) := by decide +kernel
theorem dX1_addSlid_29 : decode cX1_addSlid 29 = .ok (.aload_n 0, 1) := by decide +kernel
theorem dX1_addSlid_30 : decode cX1_addSlid 30 = .ok (.getfield 9, 3) := by decide +kernel
theorem dX1_addSlid_33 : decode cX1_addSlid 33 = .ok (.iload 5, 2) := by decide +kernel
theorem dX1_addSlid_35 : decode cX1_addSlid 35 = .ok (.dup2, 1) := by decide +kernel
theorem dX1_addSlid_36 : decode cX1_addSlid 36 = .ok (.laload, 1) := by decide +kernel
theorem dX1_addSlid_37 : decode cX1_addSlid 37 = .ok (.aload_n 1, 1) := by decide +kernel
theorem dX1_addSlid_38 : decode cX1_addSlid 38 = .ok (.getfield 9, 3) := by decide +kernel
theorem dX1_addSlid_41 : decode cX1_addSlid 41 = .ok (.iload 6, 2) := by decide +kernel
theorem dX1_addSlid_43 : decode cX1_addSlid 43 = .ok (.laload, 1) := by decide +kernel
theorem dX1_addSlid_44 : decode cX1_addSlid 44 = .ok (.iload_n 2, 1) := by decide +kernel
theorem dX1_addSlid_45 : decode cX1_addSlid 45 = .ok (.iload_n 3, 1) := by decide +kernel
theorem dX1_addSlid_46 : decode cX1_addSlid 46 = .ok (.invokestatic 55, 3) := by decide +kernel
theorem dX1_addSlid_49 : decode cX1_addSlid 49 = .ok (.lor, 1) := by decide +kernel
theorem dX1_addSlid_50 : decode cX1_addSlid 50 = .ok (.lastore, 1) := by decide +kernel
theorem dX1_addSlid_51 : decode cX1_addSlid 51 = .ok (.iinc 5 1, 3) := by decide +kernel
theorem dX1_addSlid_54 : decode cX1_addSlid 54 = .ok (.goto (-51), 3) := by decide +kernel
theorem dX1_addSlid_57 : decode cX1_addSlid 57 = .ok (.return_, 1) := by decide +kernel
theorem dX1_slide_0 : decode cX1_slide 0 = .ok (.iload_n 2, 1) := by decide +kernel
theorem dX1_slide_1 : decode cX1_slide 1 = .ok (.bipush (-8), 2) := by decide +kernel
theorem dX1_slide_3 : decode cX1_slide 3 = .ok (.if_icmp .le 21, 3) := by decide +kernel
theorem dX1_slide_6 : decode cX1_slide 6 = .ok (.iload_n 2, 1) := by decide +kernel
theorem dX1_slide_7 : decode cX1_slide 7 = .ok (.bipush 8, 2) := by decide +kernel
theorem dX1_slide_9 : decode cX1_slide 9 = .ok (.if_icmp .ge 15, 3) := by decide +kernel
theorem dX1_slide_12 : decode cX1_slide 12 = .ok (.iload_n 3, 1) := by decide +kernel
theorem dX1_slide_13 : decode cX1_slide 13 = .ok (.bipush (-8), 2) := by decide +kernel
theorem dX1_slide_15 : decode cX1_slide 15 = .ok (.if_icmp .le 9, 3) := by decide +kernel
theorem dX1_slide_18 : decode cX1_slide 18 = .ok (.iload_n 3, 1) := by decide +kernel
theorem dX1_slide_19 : decode cX1_slide 19 = .ok (.bipush 8, 2) := by decide +kernel
theorem dX1_slide_21 : decode cX1_slide 21 = .ok (.if_icmp .lt 5, 3) := by decide +kernel
theorem dX1_slide_24 : decode cX1_slide 24 = .ok (.lconst 0, 1) := by decide +kernel
theorem dX1_slide_25 : decode cX1_slide 25 = .ok (.lreturn, 1) := by decide +kernel
theorem dX1_slide_26 : decode cX1_slide 26 = .ok (.iload_n 3, 1) := by decide +kernel
theorem dX1_slide_27 : decode cX1_slide 27 = .ok (.ifCond .ge 13, 3) := by decide +kernel
theorem dX1_slide_30 : decode cX1_slide 30 = .ok (.lload_n 0, 1) := by decide +kernel
theorem dX1_slide_31 : decode cX1_slide 31 = .ok (.iload_n 3, 1) := by decide +kernel
theorem dX1_slide_32 : decode cX1_slide 32 = .ok (.ineg, 1) := by decide +kernel
theorem dX1_slide_33 : decode cX1_slide 33 = .ok (.bipush 8, 2) := by decide +kernel
theorem dX1_slide_35 : decode cX1_slide 35 = .ok (.imul, 1) := by decide +kernel
theorem dX1_slide_36 : decode cX1_slide 36 = .ok (.lushr, 1) := by decide +kernel
theorem dX1_slide_37 : decode cX1_slide 37 = .ok (.goto 9, 3) := by decide +kernel
theorem dX1_slide_40 : decode cX1_slide 40 = .ok (.lload_n 0, 1) := by decide +kernel
theorem dX1_slide_41 : decode cX1_slide 41 = .ok (.iload_n 3, 1) := by decide +kernel
theorem dX1_slide_42 : decode cX1_slide 42 = .ok (.bipush 8, 2) := by decide +kernel
theorem dX1_slide_44 : decode cX1_slide 44 = .ok (.imul, 1) := by decide +kernel
theorem dX1_slide_45 : decode cX1_slide 45 = .ok (.lshl, 1) := by decide +kernel
theorem dX1_slide_46 : decode cX1_slide 46 = .ok (.lstore 4, 2) := by decide +kernel
theorem dX1_slide_48 : decode cX1_slide 48 = .ok (.iload_n 2, 1) := by decide +kernel
theorem dX1_slide_49 : decode cX1_slide 49 = .ok (.ifCond .ge 20, 3) := by decide +kernel
theorem dX1_slide_52 : decode cX1_slide 52 = .ok (.lload 4, 2) := by decide +kernel
theorem dX1_slide_54 : decode cX1_slide 54 = .ok (.iload_n 2, 1) := by decide +kernel
theorem dX1_slide_55 : decode cX1_slide 55 = .ok (.ineg, 1) := by decide +kernel
theorem dX1_slide_56 : decode cX1_slide 56 = .ok (.lushr, 1) := by decide +kernel
theorem dX1_slide_57 : decode cX1_slide 57 = .ok (.ldc2_w 59, 3) := by decide +kernel
theorem dX1_slide_60 : decode cX1_slide 60 = .ok (.ldc2_w 23, 3) := by decide +kernel
theorem dX1_slide_63 : decode cX1_slide 63 = .ok (.iload_n 2, 1) := by decide +kernel
theorem dX1_slide_64 : decode cX1_slide 64 = .ok (.ineg, 1) := by decide +kernel
theorem dX1_slide_65 : decode cX1_slide 65 = .ok (.lushr, 1) := by decide +kernel
theorem dX1_slide_66 : decode cX1_slide 66 = .ok (.lmul, 1) := by decide +kernel
theorem dX1_slide_67 : decode cX1_slide 67 = .ok (.land, 1) := by decide +kernel
theorem dX1_slide_68 : decode cX1_slide 68 = .ok (.lreturn, 1) := by decide +kernel
theorem dX1_slide_69 : decode cX1_slide 69 = .ok (.lload 4, 2) := by decide +kernel
theorem dX1_slide_71 : decode cX1_slide 71 = .ok (.iload_n 2, 1) := by decide +kernel
theorem dX1_slide_72 : decode cX1_slide 72 = .ok (.lshl, 1) := by decide +kernel
theorem dX1_slide_73 : decode cX1_slide 73 = .ok (.ldc2_w 59, 3) := by decide +kernel
theorem dX1_slide_76 : decode cX1_slide 76 = .ok (.ldc2_w 23, 3) := by decide +kernel
theorem dX1_slide_79 : decode cX1_slide 79 = .ok (.iload_n 2, 1) := by decide +kernel
theorem dX1_slide_80 : decode cX1_slide 80 = .ok (.lshl, 1) := by decide +kernel
theorem dX1_slide_81 : decode cX1_slide 81 = .ok (.ldc2_w 23, 3) := by decide +kernel
theorem dX1_slide_84 : decode cX1_slide 84 = .ok (.land, 1) := by decide +kernel
theorem dX1_slide_85 : decode cX1_slide 85 = .ok (.lmul, 1) := by decide +kernel
theorem dX1_slide_86 : decode cX1_slide 86 = .ok (.land, 1) := by decide +kernel
theorem dX1_slide_87 : decode cX1_slide 87 = .ok (.lreturn, 1) := by decide +kernel
theorem dX1_besideAt_0 : decode cX1_besideAt 0 = .ok (.iload_n 1, 1) := by decide +kernel
theorem dX1_besideAt_1 : decode cX1_besideAt 1 = .ok (.ifCond .ne 16, 3) := by decide +kernel
theorem dX1_besideAt_4 : decode cX1_besideAt 4 = .ok (.aload_n 0, 1) := by decide +kernel
theorem dX1_besideAt_5 : decode cX1_besideAt 5 = .ok (.getfield 9, 3) := by decide +kernel
theorem dX1_besideAt_8 : decode cX1_besideAt 8 = .ok (.iload_n 2, 1) := by decide +kernel
theorem dX1_besideAt_9 : decode cX1_besideAt 9 = .ok (.laload, 1) := by decide +kernel
theorem dX1_besideAt_10 : decode cX1_besideAt 10 = .ok (.iconst 1, 1) := by decide +kernel
theorem dX1_besideAt_11 : decode cX1_besideAt 11 = .ok (.lshl, 1) := by decide +kernel
theorem dX1_besideAt_12 : decode cX1_besideAt 12 = .ok (.ldc2_w 61, 3) := by decide +kernel
theorem dX1_besideAt_15 : decode cX1_besideAt 15 = .ok (.land, 1) := by decide +kernel
theorem dX1_besideAt_16 : decode cX1_besideAt 16 = .ok (.lreturn, 1) := by decide +kernel
theorem dX1_besideAt_17 : decode cX1_besideAt 17 = .ok (.iload_n 1, 1) := by decide +kernel
theorem dX1_besideAt_18 : decode cX1_besideAt 18 = .ok (.iconst 1, 1) := by decide +kernel
theorem dX1_besideAt_19 : decode cX1_besideAt 19 = .ok (.if_icmp .ne 16, 3) := by decide +kernel
theorem dX1_besideAt_22 : decode cX1_besideAt 22 = .ok (.aload_n 0, 1) := by decide +kernel
theorem dX1_besideAt_23 : decode cX1_besideAt 23 = .ok (.getfield 9, 3) := by decide +kernel
theorem dX1_besideAt_26 : decode cX1_besideAt 26 = .ok (.iload_n 2, 1) := by decide +kernel
theorem dX1_besideAt_27 : decode cX1_besideAt 27 = .ok (.laload, 1) := by decide +kernel
theorem dX1_besideAt_28 : decode cX1_besideAt 28 = .ok (.iconst 1, 1) := by decide +kernel
theorem dX1_besideAt_29 : decode cX1_besideAt 29 = .ok (.lushr, 1) := by decide +kernel
theorem dX1_besideAt_30 : decode cX1_besideAt 30 = .ok (.ldc2_w 63, 3) := by decide +kernel
theorem dX1_besideAt_33 : decode cX1_besideAt 33 = .ok (.land, 1) := by decide +kernel
theorem dX1_besideAt_34 : decode cX1_besideAt 34 = .ok (.lreturn, 1) := by decide +kernel
theorem dX1_besideAt_35 : decode cX1_besideAt 35 = .ok (.iload_n 1, 1) := by decide +kernel
theorem dX1_besideAt_36 : decode cX1_besideAt 36 = .ok (.iconst 2, 1) := by decide +kernel
theorem dX1_besideAt_37 : decode cX1_besideAt 37 = .ok (.if_icmp .ne 13, 3) := by decide +kernel
theorem dX1_besideAt_40 : decode cX1_besideAt 40 = .ok (.aload_n 0, 1) := by decide +kernel
theorem dX1_besideAt_41 : decode cX1_besideAt 41 = .ok (.getfield 9, 3) := by decide +kernel
theorem dX1_besideAt_44 : decode cX1_besideAt 44 = .ok (.iload_n 2, 1) := by decide +kernel
theorem dX1_besideAt_45 : decode cX1_besideAt 45 = .ok (.laload, 1) := by decide +kernel
theorem dX1_besideAt_46 : decode cX1_besideAt 46 = .ok (.bipush 8, 2) := by decide +kernel
theorem dX1_besideAt_48 : decode cX1_besideAt 48 = .ok (.lshl, 1) := by decide +kernel
theorem dX1_besideAt_49 : decode cX1_besideAt 49 = .ok (.lreturn, 1) := by decide +kernel
theorem dX1_besideAt_50 : decode cX1_besideAt 50 = .ok (.iload_n 1, 1) := by decide +kernel
theorem dX1_besideAt_51 : decode cX1_besideAt 51 = .ok (.iconst 3, 1) := by decide +kernel
theorem dX1_besideAt_52 : decode cX1_besideAt 52 = .ok (.if_icmp .ne 13, 3) := by decide +kernel
theorem dX1_besideAt_55 : decode cX1_besideAt 55 = .ok (.aload_n 0, 1) := by decide +kernel
theorem dX1_besideAt_56 : decode cX1_besideAt 56 = .ok (.getfield 9, 3) := by decide +kernel
theorem dX1_besideAt_59 : decode cX1_besideAt 59 = .ok (.iload_n 2, 1) := by decide +kernel
theorem dX1_besideAt_60 : decode cX1_besideAt 60 = .ok (.laload, 1) := by decide +kernel
theorem dX1_besideAt_61 : decode cX1_besideAt 61 = .ok (.bipush 8, 2) := by decide +kernel
theorem dX1_besideAt_63 : decode cX1_besideAt 63 = .ok (.lushr, 1) := by decide +kernel
theorem dX1_besideAt_64 : decode cX1_besideAt 64 = .ok (.lreturn, 1) := by decide +kernel
theorem dX1_besideAt_65 : decode cX1_besideAt 65 = .ok (.iload_n 1, 1) := by decide +kernel
theorem dX1_besideAt_66 : decode cX1_besideAt 66 = .ok (.iconst 4, 1) := by decide +kernel
theorem dX1_besideAt_67 : decode cX1_besideAt 67 = .ok (.if_icmp .ne 9, 3) := by decide +kernel
theorem dX1_besideAt_70 : decode cX1_besideAt 70 = .ok (.iload_n 2, 1) := by decide +kernel
theorem dX1_besideAt_71 : decode cX1_besideAt 71 = .ok (.iconst 1, 1) := by decide +kernel
theorem dX1_besideAt_72 : decode cX1_besideAt 72 = .ok (.isub, 1) := by decide +kernel
theorem dX1_besideAt_73 : decode cX1_besideAt 73 = .ok (.goto 6, 3) := by decide +kernel
theorem dX1_besideAt_76 : decode cX1_besideAt 76 = .ok (.iload_n 2, 1) := by decide +kernel
theorem dX1_besideAt_77 : decode cX1_besideAt 77 = .ok (.iconst 1, 1) := by decide +kernel
theorem dX1_besideAt_78 : decode cX1_besideAt 78 = .ok (.iadd, 1) := by decide +kernel
theorem dX1_besideAt_79 : decode cX1_besideAt 79 = .ok (.istore_n 3, 1) := by decide +kernel
theorem dX1_besideAt_80 : decode cX1_besideAt 80 = .ok (.iload_n 3, 1) := by decide +kernel
theorem dX1_besideAt_81 : decode cX1_besideAt 81 = .ok (.ifCond .lt 18, 3) := by decide +kernel
theorem dX1_besideAt_84 : decode cX1_besideAt 84 = .ok (.iload_n 3, 1) := by decide +kernel
theorem dX1_besideAt_85 : decode cX1_besideAt 85 = .ok (.bipush 8, 2) := by decide +kernel
theorem dX1_besideAt_87 : decode cX1_besideAt 87 = .ok (.if_icmp .ge 12, 3) := by decide +kernel
theorem dX1_besideAt_90 : decode cX1_besideAt 90 = .ok (.aload_n 0, 1) := by decide +kernel
theorem dX1_besideAt_91 : decode cX1_besideAt 91 = .ok (.getfield 9, 3) := by decide +kernel
theorem dX1_besideAt_94 : decode cX1_besideAt 94 = .ok (.iload_n 3, 1) := by decide +kernel
theorem dX1_besideAt_95 : decode cX1_besideAt 95 = .ok (.laload, 1) := by decide +kernel
theorem dX1_besideAt_96 : decode cX1_besideAt 96 = .ok (.goto 4, 3) := by decide +kernel
theorem dX1_besideAt_99 : decode cX1_besideAt 99 = .ok (.lconst 0, 1) := by decide +kernel
theorem dX1_besideAt_100 : decode cX1_besideAt 100 = .ok (.lreturn, 1) := by decide +kernel
theorem dX1_squaresAt_0 : decode cX1_squaresAt 0 = .ok (.aload_n 0, 1) := by decide +kernel
theorem dX1_squaresAt_1 : decode cX1_squaresAt 1 = .ok (.getfield 9, 3) := by decide +kernel
theorem dX1_squaresAt_4 : decode cX1_squaresAt 4 = .ok (.iload_n 2, 1) := by decide +kernel
theorem dX1_squaresAt_5 : decode cX1_squaresAt 5 = .ok (.laload, 1) := by decide +kernel
theorem dX1_squaresAt_6 : decode cX1_squaresAt 6 = .ok (.aload_n 0, 1) := by decide +kernel
theorem dX1_squaresAt_7 : decode cX1_squaresAt 7 = .ok (.iload_n 1, 1) := by decide +kernel
theorem dX1_squaresAt_8 : decode cX1_squaresAt 8 = .ok (.iload_n 2, 1) := by decide +kernel
theorem dX1_squaresAt_9 : decode cX1_squaresAt 9 = .ok (.invokevirtual 33, 3) := by decide +kernel
theorem dX1_squaresAt_12 : decode cX1_squaresAt 12 = .ok (.ldc2_w 31, 3) := by decide +kernel
theorem dX1_squaresAt_15 : decode cX1_squaresAt 15 = .ok (.lxor, 1) := by decide +kernel
theorem dX1_squaresAt_16 : decode cX1_squaresAt 16 = .ok (.land, 1) := by decide +kernel
theorem dX1_squaresAt_17 : decode cX1_squaresAt 17 = .ok (.lreturn, 1) := by decide +kernel
theorem dX1_countSquares_0 : decode cX1_countSquares 0 = .ok (.iconst 0, 1) := by decide +kernel
theorem dX1_countSquares_1 : decode cX1_countSquares 1 = .ok (.istore_n 2, 1) := by decide +kernel
theorem dX1_countSquares_2 : decode cX1_countSquares 2 = .ok (.iconst 0, 1) := by decide +kernel
theorem dX1_countSquares_3 : decode cX1_countSquares 3 = .ok (.istore_n 3, 1) := by decide +kernel
theorem dX1_countSquares_4 : decode cX1_countSquares 4 = .ok (.iload_n 3, 1) := by decide +kernel
theorem dX1_countSquares_5 : decode cX1_countSquares 5 = .ok (.bipush 8, 2) := by decide +kernel
theorem dX1_countSquares_7 : decode cX1_countSquares 7 = .ok (.if_icmp .ge 21, 3) := by decide +kernel
theorem dX1_countSquares_10 : decode cX1_countSquares 10 = .ok (.iload_n 2, 1) := by decide +kernel
theorem dX1_countSquares_11 : decode cX1_countSquares 11 = .ok (.aload_n 0, 1) := by decide +kernel
theorem dX1_countSquares_12 : decode cX1_countSquares 12 = .ok (.iload_n 1, 1) := by decide +kernel
theorem dX1_countSquares_13 : decode cX1_countSquares 13 = .ok (.iload_n 3, 1) := by decide +kernel
theorem dX1_countSquares_14 : decode cX1_countSquares 14 = .ok (.invokevirtual 65, 3) := by decide +kernel
theorem dX1_countSquares_17 : decode cX1_countSquares 17 = .ok (.invokestatic 37, 3) := by decide +kernel
theorem dX1_countSquares_20 : decode cX1_countSquares 20 = .ok (.iadd, 1) := by decide +kernel
theorem dX1_countSquares_21 : decode cX1_countSquares 21 = .ok (.istore_n 2, 1) := by decide +kernel
theorem dX1_countSquares_22 : decode cX1_countSquares 22 = .ok (.iinc 3 1, 3) := by decide +kernel
theorem dX1_countSquares_25 : decode cX1_countSquares 25 = .ok (.goto (-21), 3) := by decide +kernel
theorem dX1_countSquares_28 : decode cX1_countSquares 28 = .ok (.iload_n 2, 1) := by decide +kernel
theorem dX1_countSquares_29 : decode cX1_countSquares 29 = .ok (.ireturn, 1) := by decide +kernel
theorem dX1_takeSeedOf_0 : decode cX1_takeSeedOf 0 = .ok (.aload_n 0, 1) := by decide +kernel
theorem dX1_takeSeedOf_1 : decode cX1_takeSeedOf 1 = .ok (.invokevirtual 43, 3) := by decide +kernel
theorem dX1_takeSeedOf_4 : decode cX1_takeSeedOf 4 = .ok (.iconst 0, 1) := by decide +kernel
theorem dX1_takeSeedOf_5 : decode cX1_takeSeedOf 5 = .ok (.istore_n 2, 1) := by decide +kernel
theorem dX1_takeSeedOf_6 : decode cX1_takeSeedOf 6 = .ok (.iload_n 2, 1) := by decide +kernel
theorem dX1_takeSeedOf_7 : decode cX1_takeSeedOf 7 = .ok (.bipush 8, 2) := by decide +kernel
theorem dX1_takeSeedOf_9 : decode cX1_takeSeedOf 9 = .ok (.if_icmp .ge 37, 3) := by decide +kernel
theorem dX1_takeSeedOf_12 : decode cX1_takeSeedOf 12 = .ok (.aload_n 1, 1) := by decide +kernel
theorem dX1_takeSeedOf_13 : decode cX1_takeSeedOf 13 = .ok (.getfield 9, 3) := by decide +kernel
theorem dX1_takeSeedOf_16 : decode cX1_takeSeedOf 16 = .ok (.iload_n 2, 1) := by decide +kernel
theorem dX1_takeSeedOf_17 : decode cX1_takeSeedOf 17 = .ok (.laload, 1) := by decide +kernel
theorem dX1_takeSeedOf_18 : decode cX1_takeSeedOf 18 = .ok (.lconst 0, 1) := by decide +kernel
theorem dX1_takeSeedOf_19 : decode cX1_takeSeedOf 19 = .ok (.lcmp, 1) := by decide +kernel
theorem dX1_takeSeedOf_20 : decode cX1_takeSeedOf 20 = .ok (.ifCond .eq 20, 3) := by decide +kernel
theorem dX1_takeSeedOf_23 : decode cX1_takeSeedOf 23 = .ok (.aload_n 0, 1) := by decide +kernel
theorem dX1_takeSeedOf_24 : decode cX1_takeSeedOf 24 = .ok (.getfield 9, 3) := by decide +kernel
theorem dX1_takeSeedOf_27 : decode cX1_takeSeedOf 27 = .ok (.iload_n 2, 1) := by decide +kernel
theorem dX1_takeSeedOf_28 : decode cX1_takeSeedOf 28 = .ok (.aload_n 1, 1) := by decide +kernel
theorem dX1_takeSeedOf_29 : decode cX1_takeSeedOf 29 = .ok (.getfield 9, 3) := by decide +kernel
theorem dX1_takeSeedOf_32 : decode cX1_takeSeedOf 32 = .ok (.iload_n 2, 1) := by decide +kernel
theorem dX1_takeSeedOf_33 : decode cX1_takeSeedOf 33 = .ok (.laload, 1) := by decide +kernel
theorem dX1_takeSeedOf_34 : decode cX1_takeSeedOf 34 = .ok (.invokestatic 68, 3) := by decide +kernel
theorem dX1_takeSeedOf_37 : decode cX1_takeSeedOf 37 = .ok (.lastore, 1) := by decide +kernel
theorem dX1_takeSeedOf_38 : decode cX1_takeSeedOf 38 = .ok (.iconst 1, 1) := by decide +kernel
theorem dX1_takeSeedOf_39 : decode cX1_takeSeedOf 39 = .ok (.ireturn, 1) := by decide +kernel
theorem dX1_takeSeedOf_40 : decode cX1_takeSeedOf 40 = .ok (.iinc 2 1, 3) := by decide +kernel
theorem dX1_takeSeedOf_43 : decode cX1_takeSeedOf 43 = .ok (.goto (-37), 3) := by decide +kernel
theorem dX1_takeSeedOf_46 : decode cX1_takeSeedOf 46 = .ok (.iconst 0, 1) := by decide +kernel
theorem dX1_takeSeedOf_47 : decode cX1_takeSeedOf 47 = .ok (.ireturn, 1) := by decide +kernel
theorem dX1_growWithin_0 : decode cX1_growWithin 0 = .ok (.iconst 0, 1) := by decide +kernel
theorem dX1_growWithin_1 : decode cX1_growWithin 1 = .ok (.istore_n 2, 1) := by decide +kernel
theorem dX1_growWithin_2 : decode cX1_growWithin 2 = .ok (.iconst 0, 1) := by decide +kernel
theorem dX1_growWithin_3 : decode cX1_growWithin 3 = .ok (.istore_n 3, 1) := by decide +kernel
theorem dX1_growWithin_4 : decode cX1_growWithin 4 = .ok (.iload_n 3, 1) := by decide +kernel
theorem dX1_growWithin_5 : decode cX1_growWithin 5 = .ok (.bipush 8, 2) := by decide +kernel
theorem dX1_growWithin_7 : decode cX1_growWithin 7 = .ok (.if_icmp .ge 86, 3) := by decide +kernel
theorem dX1_growWithin_10 : decode cX1_growWithin 10 = .ok (.aload_n 0, 1) := by decide +kernel
theorem dX1_growWithin_11 : decode cX1_growWithin 11 = .ok (.getfield 9, 3) := by decide +kernel
theorem dX1_growWithin_14 : decode cX1_growWithin 14 = .ok (.iload_n 3, 1) := by decide +kernel
theorem dX1_growWithin_15 : decode cX1_growWithin 15 = .ok (.laload, 1) := by decide +kernel
theorem dX1_growWithin_16 : decode cX1_growWithin 16 = .ok (.lstore 4, 2) := by decide +kernel
theorem dX1_growWithin_18 : decode cX1_growWithin 18 = .ok (.iconst 0, 1) := by decide +kernel
theorem dX1_growWithin_19 : decode cX1_growWithin 19 = .ok (.istore 6, 2) := by decide +kernel
theorem dX1_growWithin_21 : decode cX1_growWithin 21 = .ok (.iload 6, 2) := by decide +kernel
theorem dX1_growWithin_23 : decode cX1_growWithin 23 = .ok (.bipush 6, 2) := by decide +kernel
theorem dX1_growWithin_25 : decode cX1_growWithin 25 = .ok (.if_icmp .ge 21, 3) := by decide +kernel
theorem dX1_growWithin_28 : decode cX1_growWithin 28 = .ok (.lload 4, 2) := by decide +kernel
theorem dX1_growWithin_30 : decode cX1_growWithin 30 = .ok (.aload_n 0, 1) := by decide +kernel
theorem dX1_growWithin_31 : decode cX1_growWithin 31 = .ok (.iload 6, 2) := by decide +kernel
theorem dX1_growWithin_33 : decode cX1_growWithin 33 = .ok (.iload_n 3, 1) := by decide +kernel
theorem dX1_growWithin_34 : decode cX1_growWithin 34 = .ok (.invokevirtual 33, 3) := by decide +kernel
theorem dX1_growWithin_37 : decode cX1_growWithin 37 = .ok (.lor, 1) := by decide +kernel
theorem dX1_growWithin_38 : decode cX1_growWithin 38 = .ok (.lstore 4, 2) := by decide +kernel
theorem dX1_growWithin_40 : decode cX1_growWithin 40 = .ok (.iinc 6 1, 3) := by decide +kernel
theorem dX1_growWithin_43 : decode cX1_growWithin 43 = .ok (.goto (-22), 3) := by decide +kernel
theorem dX1_growWithin_46 : decode cX1_growWithin 46 = .ok (.lload 4, 2) := by decide +kernel
theorem dX1_growWithin_48 : decode cX1_growWithin 48 = .ok (.aload_n 1, 1) := by decide +kernel
theorem dX1_growWithin_49 : decode cX1_growWithin 49 = .ok (.getfield 9, 3) := by decide +kernel
theorem dX1_growWithin_52 : decode cX1_growWithin 52 = .ok (.iload_n 3, 1) := by decide +kernel
theorem dX1_growWithin_53 : decode cX1_growWithin 53 = .ok (.laload, 1) := by decide +kernel
theorem dX1_growWithin_54 : decode cX1_growWithin 54 = .ok (.land, 1) := by decide +kernel
theorem dX1_growWithin_55 : decode cX1_growWithin 55 = .ok (.lstore 4, 2) := by decide +kernel
theorem dX1_growWithin_57 : decode cX1_growWithin 57 = .ok (.iload_n 2, 1) := by decide +kernel
theorem dX1_growWithin_58 : decode cX1_growWithin 58 = .ok (.ifCond .ne 15, 3) := by decide +kernel
theorem dX1_growWithin_61 : decode cX1_growWithin 61 = .ok (.lload 4, 2) := by decide +kernel
theorem dX1_growWithin_63 : decode cX1_growWithin 63 = .ok (.aload_n 0, 1) := by decide +kernel
theorem dX1_growWithin_64 : decode cX1_growWithin 64 = .ok (.getfield 9, 3) := by decide +kernel
theorem dX1_growWithin_67 : decode cX1_growWithin 67 = .ok (.iload_n 3, 1) := by decide +kernel
theorem dX1_growWithin_68 : decode cX1_growWithin 68 = .ok (.laload, 1) := by decide +kernel
theorem dX1_growWithin_69 : decode cX1_growWithin 69 = .ok (.lcmp, 1) := by decide +kernel
theorem dX1_growWithin_70 : decode cX1_growWithin 70 = .ok (.ifCond .eq 7, 3) := by decide +kernel
theorem dX1_growWithin_73 : decode cX1_growWithin 73 = .ok (.iconst 1, 1) := by decide +kernel
theorem dX1_growWithin_74 : decode cX1_growWithin 74 = .ok (.goto 4, 3) := by decide +kernel
theorem dX1_growWithin_77 : decode cX1_growWithin 77 = .ok (.iconst 0, 1) := by decide +kernel
theorem dX1_growWithin_78 : decode cX1_growWithin 78 = .ok (.istore_n 2, 1) := by decide +kernel
theorem dX1_growWithin_79 : decode cX1_growWithin 79 = .ok (.aload_n 0, 1) := by decide +kernel
theorem dX1_growWithin_80 : decode cX1_growWithin 80 = .ok (.getfield 9, 3) := by decide +kernel
theorem dX1_growWithin_83 : decode cX1_growWithin 83 = .ok (.iload_n 3, 1) := by decide +kernel
theorem dX1_growWithin_84 : decode cX1_growWithin 84 = .ok (.lload 4, 2) := by decide +kernel
theorem dX1_growWithin_86 : decode cX1_growWithin 86 = .ok (.lastore, 1) := by decide +kernel
theorem dX1_growWithin_87 : decode cX1_growWithin 87 = .ok (.iinc 3 1, 3) := by decide +kernel
theorem dX1_growWithin_90 : decode cX1_growWithin 90 = .ok (.goto (-86), 3) := by decide +kernel
theorem dX1_growWithin_93 : decode cX1_growWithin 93 = .ok (.iload_n 2, 1) := by decide +kernel
theorem dX1_growWithin_94 : decode cX1_growWithin 94 = .ok (.ireturn, 1) := by decide +kernel
theorem dX2_init_0 : decode cX2_init 0 = .ok (.aload_n 0, 1) := by decide +kernel
theorem dX2_init_1 : decode cX2_init 1 = .ok (.invokespecial 3, 3) := by decide +kernel
theorem dX2_init_4 : decode cX2_init 4 = .ok (.aload_n 0, 1) := by decide +kernel
theorem dX2_init_5 : decode cX2_init 5 = .ok (.new 9, 3) := by decide +kernel
theorem dX2_init_8 : decode cX2_init 8 = .ok (.dup, 1) := by decide +kernel
theorem dX2_init_9 : decode cX2_init 9 = .ok (.invokespecial 11, 3) := by decide +kernel
theorem dX2_init_12 : decode cX2_init 12 = .ok (.putfield 12, 3) := by decide +kernel
theorem dX2_init_15 : decode cX2_init 15 = .ok (.aload_n 0, 1) := by decide +kernel
theorem dX2_init_16 : decode cX2_init 16 = .ok (.bipush 12, 2) := by decide +kernel
theorem dX2_init_18 : decode cX2_init 18 = .ok (.newarray .int, 2) := by decide +kernel
theorem dX2_init_20 : decode cX2_init 20 = .ok (.putfield 18, 3) := by decide +kernel
theorem dX2_init_23 : decode cX2_init 23 = .ok (.aload_n 0, 1) := by decide +kernel
theorem dX2_init_24 : decode cX2_init 24 = .ok (.bipush 40, 2) := by decide +kernel
theorem dX2_init_26 : decode cX2_init 26 = .ok (.newarray .char, 2) := by decide +kernel
theorem dX2_init_28 : decode cX2_init 28 = .ok (.putfield 22, 3) := by decide +kernel
theorem dX2_init_31 : decode cX2_init 31 = .ok (.aload_n 0, 1) := by decide +kernel
theorem dX2_init_32 : decode cX2_init 32 = .ok (.sipush 240, 3) := by decide +kernel
theorem dX2_init_35 : decode cX2_init 35 = .ok (.newarray .int, 2) := by decide +kernel
theorem dX2_init_37 : decode cX2_init 37 = .ok (.putfield 26, 3) := by decide +kernel
theorem dX2_init_40 : decode cX2_init 40 = .ok (.aload_n 0, 1) := by decide +kernel
theorem dX2_init_41 : decode cX2_init 41 = .ok (.bipush 40, 2) := by decide +kernel
theorem dX2_init_43 : decode cX2_init 43 = .ok (.newarray .boolean, 2) := by decide +kernel
theorem dX2_init_45 : decode cX2_init 45 = .ok (.putfield 29, 3) := by decide +kernel
theorem dX2_init_48 : decode cX2_init 48 = .ok (.return_, 1) := by decide +kernel
theorem dX2_findPlace_0 : decode cX2_findPlace 0 = .ok (.iconst 0, 1) := by decide +kernel
theorem dX2_findPlace_1 : decode cX2_findPlace 1 = .ok (.istore_n 2, 1) := by decide +kernel
theorem dX2_findPlace_2 : decode cX2_findPlace 2 = .ok (.iload_n 2, 1) := by decide +kernel
theorem dX2_findPlace_3 : decode cX2_findPlace 3 = .ok (.aload_n 0, 1) := by decide +kernel
theorem dX2_findPlace_4 : decode cX2_findPlace 4 = .ok (.getfield 33, 3) := by decide +kernel
theorem dX2_findPlace_7 : decode cX2_findPlace 7 = .ok (.if_icmp .ge 21, 3) := by decide +kernel
theorem dX2_findPlace_10 : decode cX2_findPlace 10 = .ok (.aload_n 0, 1) := by decide +kernel
theorem dX2_findPlace_11 : decode cX2_findPlace 11 = .ok (.getfield 18, 3) := by decide +kernel
theorem dX2_findPlace_14 : decode cX2_findPlace 14 = .ok (.iload_n 2, 1) := by decide +kernel
theorem dX2_findPlace_15 : decode cX2_findPlace 15 = .ok (.iaload, 1) := by decide +kernel
theorem dX2_findPlace_16 : decode cX2_findPlace 16 = .ok (.iload_n 1, 1) := by decide +kernel
theorem dX2_findPlace_17 : decode cX2_findPlace 17 = .ok (.if_icmp .ne 5, 3) := by decide +kernel
theorem dX2_findPlace_20 : decode cX2_findPlace 20 = .ok (.iload_n 2, 1) := by decide +kernel
theorem dX2_findPlace_21 : decode cX2_findPlace 21 = .ok (.ireturn, 1) := by decide +kernel
theorem dX2_findPlace_22 : decode cX2_findPlace 22 = .ok (.iinc 2 1, 3) := by decide +kernel
theorem dX2_findPlace_25 : decode cX2_findPlace 25 = .ok (.goto (-23), 3) := by decide +kernel
theorem dX2_findPlace_28 : decode cX2_findPlace 28 = .ok (.iconst (-1), 1) := by decide +kernel
theorem dX2_findPlace_29 : decode cX2_findPlace 29 = .ok (.ireturn, 1) := by decide +kernel
theorem dX2_sizeOf_0 : decode cX2_sizeOf 0 = .ok (.aload_n 0, 1) := by decide +kernel
theorem dX2_sizeOf_1 : decode cX2_sizeOf 1 = .ok (.getfield 12, 3) := by decide +kernel
theorem dX2_sizeOf_4 : decode cX2_sizeOf 4 = .ok (.aload_n 0, 1) := by decide +kernel
theorem dX2_sizeOf_5 : decode cX2_sizeOf 5 = .ok (.getfield 26, 3) := by decide +kernel
theorem dX2_sizeOf_8 : decode cX2_sizeOf 8 = .ok (.iload_n 1, 1) := by decide +kernel
theorem dX2_sizeOf_9 : decode cX2_sizeOf 9 = .ok (.bipush 6, 2) := by decide +kernel
theorem dX2_sizeOf_11 : decode cX2_sizeOf 11 = .ok (.imul, 1) := by decide +kernel
theorem dX2_sizeOf_12 : decode cX2_sizeOf 12 = .ok (.iload_n 2, 1) := by decide +kernel
theorem dX2_sizeOf_13 : decode cX2_sizeOf 13 = .ok (.iadd, 1) := by decide +kernel
theorem dX2_sizeOf_14 : decode cX2_sizeOf 14 = .ok (.iaload, 1) := by decide +kernel
theorem dX2_sizeOf_15 : decode cX2_sizeOf 15 = .ok (.invokevirtual 37, 3) := by decide +kernel
theorem dX2_sizeOf_18 : decode cX2_sizeOf 18 = .ok (.ireturn, 1) := by decide +kernel
theorem dX2_append_0 : decode cX2_append 0 = .ok (.aload_n 0, 1) := by decide +kernel
theorem dX2_append_1 : decode cX2_append 1 = .ok (.getfield 41, 3) := by decide +kernel
theorem dX2_append_4 : decode cX2_append 4 = .ok (.istore 5, 2) := by decide +kernel
theorem dX2_append_6 : decode cX2_append 6 = .ok (.iload 5, 2) := by decide +kernel
theorem dX2_append_8 : decode cX2_append 8 = .ok (.bipush 6, 2) := by decide +kernel
theorem dX2_append_10 : decode cX2_append 10 = .ok (.imul, 1) := by decide +kernel
theorem dX2_append_11 : decode cX2_append 11 = .ok (.istore 6, 2) := by decide +kernel
theorem dX2_append_13 : decode cX2_append 13 = .ok (.aload_n 0, 1) := by decide +kernel
theorem dX2_append_14 : decode cX2_append 14 = .ok (.getfield 22, 3) := by decide +kernel
theorem dX2_append_17 : decode cX2_append 17 = .ok (.iload 5, 2) := by decide +kernel
theorem dX2_append_19 : decode cX2_append 19 = .ok (.iload_n 1, 1) := by decide +kernel
theorem dX2_append_20 : decode cX2_append 20 = .ok (.castore, 1) := by decide +kernel
theorem dX2_append_21 : decode cX2_append 21 = .ok (.aload_n 0, 1) := by decide +kernel
theorem dX2_append_22 : decode cX2_append 22 = .ok (.getfield 26, 3) := by decide +kernel
theorem dX2_append_25 : decode cX2_append 25 = .ok (.iload 6, 2) := by decide +kernel
theorem dX2_append_27 : decode cX2_append 27 = .ok (.iload_n 2, 1) := by decide +kernel
theorem dX2_append_28 : decode cX2_append 28 = .ok (.iastore, 1) := by decide +kernel
theorem dX2_append_29 : decode cX2_append 29 = .ok (.aload_n 0, 1) := by decide +kernel
theorem dX2_append_30 : decode cX2_append 30 = .ok (.getfield 26, 3) := by decide +kernel
theorem dX2_append_33 : decode cX2_append 33 = .ok (.iload 6, 2) := by decide +kernel
theorem dX2_append_35 : decode cX2_append 35 = .ok (.iconst 1, 1) := by decide +kernel
theorem dX2_append_36 : decode cX2_append 36 = .ok (.iadd, 1) := by decide +kernel
theorem dX2_append_37 : decode cX2_append 37 = .ok (.iload_n 3, 1) := by decide +kernel
theorem dX2_append_38 : decode cX2_append 38 = .ok (.iastore, 1) := by decide +kernel
theorem dX2_append_39 : decode cX2_append 39 = .ok (.aload_n 0, 1) := by decide +kernel
theorem dX2_append_40 : decode cX2_append 40 = .ok (.getfield 26, 3) := by decide +kernel
theorem dX2_append_43 : decode cX2_append 43 = .ok (.iload 6, 2) := by decide +kernel
theorem dX2_append_45 : decode cX2_append 45 = .ok (.iconst 2, 1) := by decide +kernel
theorem dX2_append_46 : decode cX2_append 46 = .ok (.iadd, 1) := by decide +kernel
theorem dX2_append_47 : decode cX2_append 47 = .ok (.iload 4, 2) := by decide +kernel
theorem dX2_append_49 : decode cX2_append 49 = .ok (.iastore, 1) := by decide +kernel
theorem dX2_append_50 : decode cX2_append 50 = .ok (.iconst 3, 1) := by decide +kernel
theorem dX2_append_51 : decode cX2_append 51 = .ok (.istore 7, 2) := by decide +kernel
theorem dX2_append_53 : decode cX2_append 53 = .ok (.iload 7, 2) := by decide +kernel
theorem dX2_append_55 : decode cX2_append 55 = .ok (.bipush 6, 2) := by decide +kernel
theorem dX2_append_57 : decode cX2_append 57 = .ok (.if_icmp .ge 20, 3) := by decide +kernel
theorem dX2_append_60 : decode cX2_append 60 = .ok (.aload_n 0, 1) := by decide +kernel
theorem dX2_append_61 : decode cX2_append 61 = .ok (.getfield 26, 3) := by decide +kernel
theorem dX2_append_64 : decode cX2_append 64 = .ok (.iload 6, 2) := by decide +kernel
theorem dX2_append_66 : decode cX2_append 66 = .ok (.iload 7, 2) := by decide +kernel
theorem dX2_append_68 : decode cX2_append 68 = .ok (.iadd, 1) := by decide +kernel
theorem dX2_append_69 : decode cX2_append 69 = .ok (.iconst 1, 1) := by decide +kernel
theorem dX2_append_70 : decode cX2_append 70 = .ok (.iastore, 1) := by decide +kernel
theorem dX2_append_71 : decode cX2_append 71 = .ok (.iinc 7 1, 3) := by decide +kernel
theorem dX2_append_74 : decode cX2_append 74 = .ok (.goto (-21), 3) := by decide +kernel
theorem dX2_append_77 : decode cX2_append 77 = .ok (.aload_n 0, 1) := by decide +kernel
theorem dX2_append_78 : decode cX2_append 78 = .ok (.getfield 18, 3) := by decide +kernel
theorem dX2_append_81 : decode cX2_append 81 = .ok (.aload_n 0, 1) := by decide +kernel
theorem dX2_append_82 : decode cX2_append 82 = .ok (.getfield 33, 3) := by decide +kernel
theorem dX2_append_85 : decode cX2_append 85 = .ok (.iload 5, 2) := by decide +kernel
theorem dX2_append_87 : decode cX2_append 87 = .ok (.iastore, 1) := by decide +kernel
theorem dX2_append_88 : decode cX2_append 88 = .ok (.aload_n 0, 1) := by decide +kernel
theorem dX2_append_89 : decode cX2_append 89 = .ok (.dup, 1) := by decide +kernel
theorem dX2_append_90 : decode cX2_append 90 = .ok (.getfield 41, 3) := by decide +kernel
theorem dX2_append_93 : decode cX2_append 93 = .ok (.iconst 1, 1) := by decide +kernel
theorem dX2_append_94 : decode cX2_append 94 = .ok (.iadd, 1) := by decide +kernel
theorem dX2_append_95 : decode cX2_append 95 = .ok (.putfield 41, 3) := by decide +kernel
theorem dX2_append_98 : decode cX2_append 98 = .ok (.aload_n 0, 1) := by decide +kernel
theorem dX2_append_99 : decode cX2_append 99 = .ok (.aload_n 0, 1) := by decide +kernel
theorem dX2_append_100 : decode cX2_append 100 = .ok (.getfield 44, 3) := by decide +kernel
theorem dX2_append_103 : decode cX2_append 103 = .ok (.aload_n 0, 1) := by decide +kernel
theorem dX2_append_104 : decode cX2_append 104 = .ok (.getfield 33, 3) := by decide +kernel
theorem dX2_append_107 : decode cX2_append 107 = .ok (.if_icmp .ne 12, 3) := by decide +kernel
theorem dX2_append_110 : decode cX2_append 110 = .ok (.aload_n 0, 1) := by decide +kernel
theorem dX2_append_111 : decode cX2_append 111 = .ok (.getfield 33, 3) := by decide +kernel
theorem dX2_append_114 : decode cX2_append 114 = .ok (.iconst 1, 1) := by decide +kernel
theorem dX2_append_115 : decode cX2_append 115 = .ok (.iadd, 1) := by decide +kernel
theorem dX2_append_116 : decode cX2_append 116 = .ok (.goto 7, 3) := by decide +kernel
theorem dX2_append_119 : decode cX2_append 119 = .ok (.aload_n 0, 1) := by decide +kernel
theorem dX2_append_120 : decode cX2_append 120 = .ok (.getfield 44, 3) := by decide +kernel
theorem dX2_append_123 : decode cX2_append 123 = .ok (.putfield 44, 3) := by decide +kernel
theorem dX2_append_126 : decode cX2_append 126 = .ok (.aload_n 0, 1) := by decide +kernel
theorem dX2_append_127 : decode cX2_append 127 = .ok (.dup, 1) := by decide +kernel
theorem dX2_append_128 : decode cX2_append 128 = .ok (.getfield 33, 3) := by decide +kernel
theorem dX2_append_131 : decode cX2_append 131 = .ok (.iconst 1, 1) := by decide +kernel
theorem dX2_append_132 : decode cX2_append 132 = .ok (.iadd, 1) := by decide +kernel
theorem dX2_append_133 : decode cX2_append 133 = .ok (.putfield 33, 3) := by decide +kernel
theorem dX2_append_136 : decode cX2_append 136 = .ok (.iload 5, 2) := by decide +kernel
theorem dX2_append_138 : decode cX2_append 138 = .ok (.ireturn, 1) := by decide +kernel
theorem dX2_putFurther_0 : decode cX2_putFurther 0 = .ok (.aload_n 0, 1) := by decide +kernel
theorem dX2_putFurther_1 : decode cX2_putFurther 1 = .ok (.iload_n 1, 1) := by decide +kernel
theorem dX2_putFurther_2 : decode cX2_putFurther 2 = .ok (.iconst 3, 1) := by decide +kernel
theorem dX2_putFurther_3 : decode cX2_putFurther 3 = .ok (.iload_n 2, 1) := by decide +kernel
theorem dX2_putFurther_4 : decode cX2_putFurther 4 = .ok (.iadd, 1) := by decide +kernel
theorem dX2_putFurther_5 : decode cX2_putFurther 5 = .ok (.invokevirtual 47, 3) := by decide +kernel
theorem dX2_putFurther_8 : decode cX2_putFurther 8 = .ok (.istore 4, 2) := by decide +kernel
theorem dX2_putFurther_10 : decode cX2_putFurther 10 = .ok (.aload_n 0, 1) := by decide +kernel
theorem dX2_putFurther_11 : decode cX2_putFurther 11 = .ok (.getfield 26, 3) := by decide +kernel
theorem dX2_putFurther_14 : decode cX2_putFurther 14 = .ok (.iload_n 1, 1) := by decide +kernel
theorem dX2_putFurther_15 : decode cX2_putFurther 15 = .ok (.bipush 6, 2) := by decide +kernel
theorem dX2_putFurther_17 : decode cX2_putFurther 17 = .ok (.imul, 1) := by decide +kernel
theorem dX2_putFurther_18 : decode cX2_putFurther 18 = .ok (.iconst 3, 1) := by decide +kernel
theorem dX2_putFurther_19 : decode cX2_putFurther 19 = .ok (.iadd, 1) := by decide +kernel
theorem dX2_putFurther_20 : decode cX2_putFurther 20 = .ok (.iload_n 2, 1) := by decide +kernel
theorem dX2_putFurther_21 : decode cX2_putFurther 21 = .ok (.iadd, 1) := by decide +kernel
theorem dX2_putFurther_22 : decode cX2_putFurther 22 = .ok (.iload_n 3, 1) := by decide +kernel
theorem dX2_putFurther_23 : decode cX2_putFurther 23 = .ok (.iastore, 1) := by decide +kernel
theorem dX2_putFurther_24 : decode cX2_putFurther 24 = .ok (.aload_n 0, 1) := by decide +kernel
theorem dX2_putFurther_25 : decode cX2_putFurther 25 = .ok (.iload_n 1, 1) := by decide +kernel
theorem dX2_putFurther_26 : decode cX2_putFurther 26 = .ok (.iconst 3, 1) := by decide +kernel
theorem dX2_putFurther_27 : decode cX2_putFurther 27 = .ok (.iload_n 2, 1) := by decide +kernel
theorem dX2_putFurther_28 : decode cX2_putFurther 28 = .ok (.iadd, 1) := by decide +kernel
theorem dX2_putFurther_29 : decode cX2_putFurther 29 = .ok (.invokevirtual 47, 3) := by decide +kernel
theorem dX2_putFurther_32 : decode cX2_putFurther 32 = .ok (.iload 4, 2) := by decide +kernel
theorem dX2_putFurther_34 : decode cX2_putFurther 34 = .ok (.if_icmp .ne 7, 3) := by decide +kernel
theorem dX2_putFurther_37 : decode cX2_putFurther 37 = .ok (.iconst 0, 1) := by decide +kernel
theorem dX2_putFurther_38 : decode cX2_putFurther 38 = .ok (.goto 4, 3) := by decide +kernel
theorem dX2_putFurther_41 : decode cX2_putFurther 41 = .ok (.iconst 1, 1) := by decide +kernel
theorem dX2_putFurther_42 : decode cX2_putFurther 42 = .ok (.ireturn, 1) := by decide +kernel
theorem dX2_takeOutAt_0 : decode cX2_takeOutAt 0 = .ok (.aload_n 0, 1) := by decide +kernel
theorem dX2_takeOutAt_1 : decode cX2_takeOutAt 1 = .ok (.iload_n 1, 1) := by decide +kernel
theorem dX2_takeOutAt_2 : decode cX2_takeOutAt 2 = .ok (.aload_n 0, 1) := by decide +kernel
theorem dX2_takeOutAt_3 : decode cX2_takeOutAt 3 = .ok (.getfield 33, 3) := by decide +kernel
theorem dX2_takeOutAt_6 : decode cX2_takeOutAt 6 = .ok (.iconst 1, 1) := by decide +kernel
theorem dX2_takeOutAt_7 : decode cX2_takeOutAt 7 = .ok (.isub, 1) := by decide +kernel
theorem dX2_takeOutAt_8 : decode cX2_takeOutAt 8 = .ok (.invokevirtual 51, 3) := by decide +kernel
theorem dX2_takeOutAt_11 : decode cX2_takeOutAt 11 = .ok (.aload_n 0, 1) := by decide +kernel
theorem dX2_takeOutAt_12 : decode cX2_takeOutAt 12 = .ok (.dup, 1) := by decide +kernel
theorem dX2_takeOutAt_13 : decode cX2_takeOutAt 13 = .ok (.getfield 33, 3) := by decide +kernel
theorem dX2_takeOutAt_16 : decode cX2_takeOutAt 16 = .ok (.iconst 1, 1) := by decide +kernel
theorem dX2_takeOutAt_17 : decode cX2_takeOutAt 17 = .ok (.isub, 1) := by decide +kernel
theorem dX2_takeOutAt_18 : decode cX2_takeOutAt 18 = .ok (.putfield 33, 3) := by decide +kernel
theorem dX2_takeOutAt_21 : decode cX2_takeOutAt 21 = .ok (.aload_n 0, 1) := by decide +kernel
theorem dX2_takeOutAt_22 : decode cX2_takeOutAt 22 = .ok (.aload_n 0, 1) := by decide +kernel
theorem dX2_takeOutAt_23 : decode cX2_takeOutAt 23 = .ok (.getfield 44, 3) := by decide +kernel
theorem dX2_takeOutAt_26 : decode cX2_takeOutAt 26 = .ok (.aload_n 0, 1) := by decide +kernel
theorem dX2_takeOutAt_27 : decode cX2_takeOutAt 27 = .ok (.getfield 33, 3) := by decide +kernel
theorem dX2_takeOutAt_30 : decode cX2_takeOutAt 30 = .ok (.invokestatic 55, 3) := by decide +kernel
theorem dX2_takeOutAt_33 : decode cX2_takeOutAt 33 = .ok (.putfield 44, 3) := by decide +kernel
theorem dX2_takeOutAt_36 : decode cX2_takeOutAt 36 = .ok (.return_, 1) := by decide +kernel
theorem dX2_shift_0 : decode cX2_shift 0 = .ok (.aload_n 0, 1) := by decide +kernel
theorem dX2_shift_1 : decode cX2_shift 1 = .ok (.getfield 18, 3) := by decide +kernel
theorem dX2_shift_4 : decode cX2_shift 4 = .ok (.iload_n 1, 1) := by decide +kernel
theorem dX2_shift_5 : decode cX2_shift 5 = .ok (.iaload, 1) := by decide +kernel
theorem dX2_shift_6 : decode cX2_shift 6 = .ok (.istore_n 3, 1) := by decide +kernel
theorem dX2_shift_7 : decode cX2_shift 7 = .ok (.iload_n 1, 1) := by decide +kernel
theorem dX2_shift_8 : decode cX2_shift 8 = .ok (.istore 4, 2) := by decide +kernel
theorem dX2_shift_10 : decode cX2_shift 10 = .ok (.iload 4, 2) := by decide +kernel
theorem dX2_shift_12 : decode cX2_shift 12 = .ok (.iload_n 2, 1) := by decide +kernel
theorem dX2_shift_13 : decode cX2_shift 13 = .ok (.if_icmp .ge 25, 3) := by decide +kernel
theorem dX2_shift_16 : decode cX2_shift 16 = .ok (.aload_n 0, 1) := by decide +kernel
theorem dX2_shift_17 : decode cX2_shift 17 = .ok (.getfield 18, 3) := by decide +kernel
theorem dX2_shift_20 : decode cX2_shift 20 = .ok (.iload 4, 2) := by decide +kernel
theorem dX2_shift_22 : decode cX2_shift 22 = .ok (.aload_n 0, 1) := by decide +kernel
theorem dX2_shift_23 : decode cX2_shift 23 = .ok (.getfield 18, 3) := by decide +kernel
theorem dX2_shift_26 : decode cX2_shift 26 = .ok (.iload 4, 2) := by decide +kernel
theorem dX2_shift_28 : decode cX2_shift 28 = .ok (.iconst 1, 1) := by decide +kernel
theorem dX2_shift_29 : decode cX2_shift 29 = .ok (.iadd, 1) := by decide +kernel
theorem dX2_shift_30 : decode cX2_shift 30 = .ok (.iaload, 1) := by decide +kernel
theorem dX2_shift_31 : decode cX2_shift 31 = .ok (.iastore, 1) := by decide +kernel
theorem dX2_shift_32 : decode cX2_shift 32 = .ok (.iinc 4 1, 3) := by decide +kernel
theorem dX2_shift_35 : decode cX2_shift 35 = .ok (.goto (-25), 3) := by decide +kernel
theorem dX2_shift_38 : decode cX2_shift 38 = .ok (.iload_n 1, 1) := by decide +kernel
theorem dX2_shift_39 : decode cX2_shift 39 = .ok (.istore 4, 2) := by decide +kernel
theorem dX2_shift_41 : decode cX2_shift 41 = .ok (.iload 4, 2) := by decide +kernel
theorem dX2_shift_43 : decode cX2_shift 43 = .ok (.iload_n 2, 1) := by decide +kernel
theorem dX2_shift_44 : decode cX2_shift 44 = .ok (.if_icmp .le 25, 3) := by decide +kernel
theorem dX2_shift_47 : decode cX2_shift 47 = .ok (.aload_n 0, 1) := by decide +kernel
theorem dX2_shift_48 : decode cX2_shift 48 = .ok (.getfield 18, 3) := by decide +kernel
theorem dX2_shift_51 : decode cX2_shift 51 = .ok (.iload 4, 2) := by decide +kernel
theorem dX2_shift_53 : decode cX2_shift 53 = .ok (.aload_n 0, 1) := by decide +kernel
theorem dX2_shift_54 : decode cX2_shift 54 = .ok (.getfield 18, 3) := by decide +kernel
theorem dX2_shift_57 : decode cX2_shift 57 = .ok (.iload 4, 2) := by decide +kernel
theorem dX2_shift_59 : decode cX2_shift 59 = .ok (.iconst 1, 1) := by decide +kernel
theorem dX2_shift_60 : decode cX2_shift 60 = .ok (.isub, 1) := by decide +kernel
theorem dX2_shift_61 : decode cX2_shift 61 = .ok (.iaload, 1) := by decide +kernel
theorem dX2_shift_62 : decode cX2_shift 62 = .ok (.iastore, 1) := by decide +kernel
theorem dX2_shift_63 : decode cX2_shift 63 = .ok (.iinc 4 (-1), 3) := by decide +kernel
theorem dX2_shift_66 : decode cX2_shift 66 = .ok (.goto (-25), 3) := by decide +kernel
theorem dX2_shift_69 : decode cX2_shift 69 = .ok (.aload_n 0, 1) := by decide +kernel
theorem dX2_shift_70 : decode cX2_shift 70 = .ok (.getfield 18, 3) := by decide +kernel
theorem dX2_shift_73 : decode cX2_shift 73 = .ok (.iload_n 2, 1) := by decide +kernel
theorem dX2_shift_74 : decode cX2_shift 74 = .ok (.iload_n 3, 1) := by decide +kernel
theorem dX2_shift_75 : decode cX2_shift 75 = .ok (.iastore, 1) := by decide +kernel
theorem dX2_shift_76 : decode cX2_shift 76 = .ok (.return_, 1) := by decide +kernel
theorem dX2_isNeededByOther_0 : decode cX2_isNeededByOther 0 = .ok (.iconst 0, 1) := by decide +kernel
theorem dX2_isNeededByOther_1 : decode cX2_isNeededByOther 1 = .ok (.istore_n 2, 1) := by decide +kernel
theorem dX2_isNeededByOther_2 : decode cX2_isNeededByOther 2 = .ok (.iload_n 2, 1) := by decide +kernel
theorem dX2_isNeededByOther_3 : decode cX2_isNeededByOther 3 = .ok (.aload_n 0, 1) := by decide +kernel
theorem dX2_isNeededByOther_4 : decode cX2_isNeededByOther 4 = .ok (.getfield 33, 3) := by decide +kernel
theorem dX2_isNeededByOther_7 : decode cX2_isNeededByOther 7 = .ok (.if_icmp .ge 44, 3) := by decide +kernel
theorem dX2_isNeededByOther_10 : decode cX2_isNeededByOther 10 = .ok (.aload_n 0, 1) := by decide +kernel
theorem dX2_isNeededByOther_11 : decode cX2_isNeededByOther 11 = .ok (.getfield 18, 3) := by decide +kernel
theorem dX2_isNeededByOther_14 : decode cX2_isNeededByOther 14 = .ok (.iload_n 2, 1) := by decide +kernel
theorem dX2_isNeededByOther_15 : decode cX2_isNeededByOther 15 = .ok (.iaload, 1) := by decide +kernel
theorem dX2_isNeededByOther_16 : decode cX2_isNeededByOther 16 = .ok (.istore_n 3, 1) := by decide +kernel
theorem dX2_isNeededByOther_17 : decode cX2_isNeededByOther 17 = .ok (.iload_n 3, 1) := by decide +kernel
theorem dX2_isNeededByOther_18 : decode cX2_isNeededByOther 18 = .ok (.iload_n 1, 1) := by decide +kernel
theorem dX2_isNeededByOther_19 : decode cX2_isNeededByOther 19 = .ok (.if_icmp .eq 26, 3) := by decide +kernel
theorem dX2_isNeededByOther_22 : decode cX2_isNeededByOther 22 = .ok (.aload_n 0, 1) := by decide +kernel
theorem dX2_isNeededByOther_23 : decode cX2_isNeededByOther 23 = .ok (.getfield 22, 3) := by decide +kernel
theorem dX2_isNeededByOther_26 : decode cX2_isNeededByOther 26 = .ok (.iload_n 3, 1) := by decide +kernel
theorem dX2_isNeededByOther_27 : decode cX2_isNeededByOther 27 = .ok (.caload, 1) := by decide +kernel
theorem dX2_isNeededByOther_28 : decode cX2_isNeededByOther 28 = .ok (.bipush 101, 2) := by decide +kernel
theorem dX2_isNeededByOther_30 : decode cX2_isNeededByOther 30 = .ok (.if_icmp .ne 15, 3) := by decide +kernel
theorem dX2_isNeededByOther_33 : decode cX2_isNeededByOther 33 = .ok (.aload_n 0, 1) := by decide +kernel
theorem dX2_isNeededByOther_34 : decode cX2_isNeededByOther 34 = .ok (.iload_n 3, 1) := by decide +kernel
theorem dX2_isNeededByOther_35 : decode cX2_isNeededByOther 35 = .ok (.iconst 0, 1) := by decide +kernel
theorem dX2_isNeededByOther_36 : decode cX2_isNeededByOther 36 = .ok (.invokevirtual 47, 3) := by decide +kernel
theorem dX2_isNeededByOther_39 : decode cX2_isNeededByOther 39 = .ok (.iload_n 1, 1) := by decide +kernel
theorem dX2_isNeededByOther_40 : decode cX2_isNeededByOther 40 = .ok (.if_icmp .ne 5, 3) := by decide +kernel
theorem dX2_isNeededByOther_43 : decode cX2_isNeededByOther 43 = .ok (.iconst 1, 1) := by decide +kernel
theorem dX2_isNeededByOther_44 : decode cX2_isNeededByOther 44 = .ok (.ireturn, 1) := by decide +kernel
theorem dX2_isNeededByOther_45 : decode cX2_isNeededByOther 45 = .ok (.iinc 2 1, 3) := by decide +kernel
theorem dX2_isNeededByOther_48 : decode cX2_isNeededByOther 48 = .ok (.goto (-46), 3) := by decide +kernel
theorem dX2_isNeededByOther_51 : decode cX2_isNeededByOther 51 = .ok (.iconst 0, 1) := by decide +kernel
theorem dX2_isNeededByOther_52 : decode cX2_isNeededByOther 52 = .ok (.ireturn, 1) := by decide +kernel
theorem dX2_standBehindNeeded_0 : decode cX2_standBehindNeeded 0 = .ok (.iconst 0, 1) := by decide +kernel
theorem dX2_standBehindNeeded_1 : decode cX2_standBehindNeeded 1 = .ok (.istore_n 1, 1) := by decide +kernel
theorem dX2_standBehindNeeded_2 : decode cX2_standBehindNeeded 2 = .ok (.iload_n 1, 1) := by decide +kernel
theorem dX2_standBehindNeeded_3 : decode cX2_standBehindNeeded 3 = .ok (.aload_n 0, 1) := by decide +kernel
theorem dX2_standBehindNeeded_4 : decode cX2_standBehindNeeded 4 = .ok (.getfield 33, 3) := by decide +kernel
theorem dX2_standBehindNeeded_7 : decode cX2_standBehindNeeded 7 = .ok (.if_icmp .ge 43, 3) := by decide +kernel
theorem dX2_standBehindNeeded_10 : decode cX2_standBehindNeeded 10 = .ok (.aload_n 0, 1) := by decide +kernel
theorem dX2_standBehindNeeded_11 : decode cX2_standBehindNeeded 11 = .ok (.getfield 18, 3) := by decide +kernel
theorem dX2_standBehindNeeded_14 : decode cX2_standBehindNeeded 14 = .ok (.iload_n 1, 1) := by decide +kernel
theorem dX2_standBehindNeeded_15 : decode cX2_standBehindNeeded 15 = .ok (.iaload, 1) := by decide +kernel
theorem dX2_standBehindNeeded_16 : decode cX2_standBehindNeeded 16 = .ok (.istore_n 2, 1) := by decide +kernel
theorem dX2_standBehindNeeded_17 : decode cX2_standBehindNeeded 17 = .ok (.aload_n 0, 1) := by decide +kernel
theorem dX2_standBehindNeeded_18 : decode cX2_standBehindNeeded 18 = .ok (.getfield 22, 3) := by decide +kernel
theorem dX2_standBehindNeeded_21 : decode cX2_standBehindNeeded 21 = .ok (.iload_n 2, 1) := by decide +kernel
theorem dX2_standBehindNeeded_22 : decode cX2_standBehindNeeded 22 = .ok (.caload, 1) := by decide +kernel
theorem dX2_standBehindNeeded_23 : decode cX2_standBehindNeeded 23 = .ok (.bipush 101, 2) := by decide +kernel
theorem dX2_standBehindNeeded_25 : decode cX2_standBehindNeeded 25 = .ok (.if_icmp .ne 19, 3) := by decide +kernel
theorem dX2_standBehindNeeded_28 : decode cX2_standBehindNeeded 28 = .ok (.aload_n 0, 1) := by decide +kernel
theorem dX2_standBehindNeeded_29 : decode cX2_standBehindNeeded 29 = .ok (.aload_n 0, 1) := by decide +kernel
theorem dX2_standBehindNeeded_30 : decode cX2_standBehindNeeded 30 = .ok (.iload_n 2, 1) := by decide +kernel
theorem dX2_standBehindNeeded_31 : decode cX2_standBehindNeeded 31 = .ok (.iconst 0, 1) := by decide +kernel
theorem dX2_standBehindNeeded_32 : decode cX2_standBehindNeeded 32 = .ok (.invokevirtual 47, 3) := by decide +kernel
theorem dX2_standBehindNeeded_35 : decode cX2_standBehindNeeded 35 = .ok (.invokevirtual 60, 3) := by decide +kernel
theorem dX2_standBehindNeeded_38 : decode cX2_standBehindNeeded 38 = .ok (.iload_n 1, 1) := by decide +kernel
theorem dX2_standBehindNeeded_39 : decode cX2_standBehindNeeded 39 = .ok (.if_icmp .le 5, 3) := by decide +kernel
theorem dX2_standBehindNeeded_42 : decode cX2_standBehindNeeded 42 = .ok (.iconst 0, 1) := by decide +kernel
theorem dX2_standBehindNeeded_43 : decode cX2_standBehindNeeded 43 = .ok (.ireturn, 1) := by decide +kernel
theorem dX2_standBehindNeeded_44 : decode cX2_standBehindNeeded 44 = .ok (.iinc 1 1, 3) := by decide +kernel
theorem dX2_standBehindNeeded_47 : decode cX2_standBehindNeeded 47 = .ok (.goto (-45), 3) := by decide +kernel
theorem dX2_standBehindNeeded_50 : decode cX2_standBehindNeeded 50 = .ok (.iconst 1, 1) := by decide +kernel
theorem dX2_standBehindNeeded_51 : decode cX2_standBehindNeeded 51 = .ok (.ireturn, 1) := by decide +kernel
theorem dX3_init_0 : decode cX3_init 0 = .ok (.aload_n 0, 1) := by decide +kernel
theorem dX3_init_1 : decode cX3_init 1 = .ok (.invokespecial 3, 3) := by decide +kernel
theorem dX3_init_4 : decode cX3_init 4 = .ok (.aload_n 0, 1) := by decide +kernel
theorem dX3_init_5 : decode cX3_init 5 = .ok (.new 9, 3) := by decide +kernel
theorem dX3_init_8 : decode cX3_init 8 = .ok (.dup, 1) := by decide +kernel
theorem dX3_init_9 : decode cX3_init 9 = .ok (.invokespecial 11, 3) := by decide +kernel
theorem dX3_init_12 : decode cX3_init 12 = .ok (.putfield 12, 3) := by decide +kernel
theorem dX3_init_15 : decode cX3_init 15 = .ok (.aload_n 0, 1) := by decide +kernel
theorem dX3_init_16 : decode cX3_init 16 = .ok (.bipush 40, 2) := by decide +kernel
theorem dX3_init_18 : decode cX3_init 18 = .ok (.newarray .char, 2) := by decide +kernel
theorem dX3_init_20 : decode cX3_init 20 = .ok (.putfield 18, 3) := by decide +kernel
theorem dX3_init_23 : decode cX3_init 23 = .ok (.aload_n 0, 1) := by decide +kernel
theorem dX3_init_24 : decode cX3_init 24 = .ok (.bipush 13, 2) := by decide +kernel
theorem dX3_init_26 : decode cX3_init 26 = .ok (.anewarray 22, 3) := by decide +kernel
theorem dX3_init_29 : decode cX3_init 29 = .ok (.putfield 24, 3) := by decide +kernel
theorem dX3_init_32 : decode cX3_init 32 = .ok (.aload_n 0, 1) := by decide +kernel
theorem dX3_init_33 : decode cX3_init 33 = .ok (.new 22, 3) := by decide +kernel
theorem dX3_init_36 : decode cX3_init 36 = .ok (.dup, 1) := by decide +kernel
theorem dX3_init_37 : decode cX3_init 37 = .ok (.invokespecial 28, 3) := by decide +kernel
theorem dX3_init_40 : decode cX3_init 40 = .ok (.putfield 29, 3) := by decide +kernel
theorem dX3_init_43 : decode cX3_init 43 = .ok (.aload_n 0, 1) := by decide +kernel
theorem dX3_init_44 : decode cX3_init 44 = .ok (.new 22, 3) := by decide +kernel
theorem dX3_init_47 : decode cX3_init 47 = .ok (.dup, 1) := by decide +kernel
theorem dX3_init_48 : decode cX3_init 48 = .ok (.invokespecial 28, 3) := by decide +kernel
theorem dX3_init_51 : decode cX3_init 51 = .ok (.putfield 33, 3) := by decide +kernel
theorem dX3_init_54 : decode cX3_init 54 = .ok (.aload_n 0, 1) := by decide +kernel
theorem dX3_init_55 : decode cX3_init 55 = .ok (.new 36, 3) := by decide +kernel
theorem dX3_init_58 : decode cX3_init 58 = .ok (.dup, 1) := by decide +kernel
theorem dX3_init_59 : decode cX3_init 59 = .ok (.invokespecial 38, 3) := by decide +kernel
theorem dX3_init_62 : decode cX3_init 62 = .ok (.putfield 39, 3) := by decide +kernel
theorem dX3_init_65 : decode cX3_init 65 = .ok (.aload_n 0, 1) := by decide +kernel
theorem dX3_init_66 : decode cX3_init 66 = .ok (.bipush 6, 2) := by decide +kernel
theorem dX3_init_68 : decode cX3_init 68 = .ok (.newarray .int, 2) := by decide +kernel
theorem dX3_init_70 : decode cX3_init 70 = .ok (.putfield 43, 3) := by decide +kernel
theorem dX3_init_73 : decode cX3_init 73 = .ok (.aload_n 0, 1) := by decide +kernel
theorem dX3_init_74 : decode cX3_init 74 = .ok (.bipush 12, 2) := by decide +kernel
theorem dX3_init_76 : decode cX3_init 76 = .ok (.newarray .int, 2) := by decide +kernel
theorem dX3_init_78 : decode cX3_init 78 = .ok (.putfield 47, 3) := by decide +kernel
theorem dX3_init_81 : decode cX3_init 81 = .ok (.aload_n 0, 1) := by decide +kernel
theorem dX3_init_82 : decode cX3_init 82 = .ok (.bipush 12, 2) := by decide +kernel
theorem dX3_init_84 : decode cX3_init 84 = .ok (.newarray .boolean, 2) := by decide +kernel
theorem dX3_init_86 : decode cX3_init 86 = .ok (.putfield 50, 3) := by decide +kernel
theorem dX3_init_89 : decode cX3_init 89 = .ok (.aload_n 0, 1) := by decide +kernel
theorem dX3_init_90 : decode cX3_init 90 = .ok (.bipush 72, 2) := by decide +kernel
theorem dX3_init_92 : decode cX3_init 92 = .ok (.newarray .int, 2) := by decide +kernel
theorem dX3_init_94 : decode cX3_init 94 = .ok (.putfield 54, 3) := by decide +kernel
theorem dX3_init_97 : decode cX3_init 97 = .ok (.iconst 0, 1) := by decide +kernel
theorem dX3_init_98 : decode cX3_init 98 = .ok (.istore_n 1, 1) := by decide +kernel
theorem dX3_init_99 : decode cX3_init 99 = .ok (.iload_n 1, 1) := by decide +kernel
theorem dX3_init_100 : decode cX3_init 100 = .ok (.bipush 12, 2) := by decide +kernel
theorem dX3_init_102 : decode cX3_init 102 = .ok (.if_icmp .gt 22, 3) := by decide +kernel
theorem dX3_init_105 : decode cX3_init 105 = .ok (.aload_n 0, 1) := by decide +kernel
theorem dX3_init_106 : decode cX3_init 106 = .ok (.getfield 24, 3) := by decide +kernel
theorem dX3_init_109 : decode cX3_init 109 = .ok (.iload_n 1, 1) := by decide +kernel
theorem dX3_init_110 : decode cX3_init 110 = .ok (.new 22, 3) := by decide +kernel
theorem dX3_init_113 : decode cX3_init 113 = .ok (.dup, 1) := by decide +kernel
theorem dX3_init_114 : decode cX3_init 114 = .ok (.invokespecial 28, 3) := by decide +kernel
theorem dX3_init_117 : decode cX3_init 117 = .ok (.aastore, 1) := by decide +kernel
theorem dX3_init_118 : decode cX3_init 118 = .ok (.iinc 1 1, 3) := by decide +kernel
theorem dX3_init_121 : decode cX3_init 121 = .ok (.goto (-22), 3) := by decide +kernel
theorem dX3_init_124 : decode cX3_init 124 = .ok (.return_, 1) := by decide +kernel
theorem dX3_body_0 : decode cX3_body 0 = .ok (.aload_n 0, 1) := by decide +kernel
theorem dX3_body_1 : decode cX3_body 1 = .ok (.getfield 24, 3) := by decide +kernel
theorem dX3_body_4 : decode cX3_body 4 = .ok (.aload_n 0, 1) := by decide +kernel
theorem dX3_body_5 : decode cX3_body 5 = .ok (.getfield 12, 3) := by decide +kernel
theorem dX3_body_8 : decode cX3_body 8 = .ok (.getfield 57, 3) := by decide +kernel
theorem dX3_body_11 : decode cX3_body 11 = .ok (.aaload, 1) := by decide +kernel
theorem dX3_body_12 : decode cX3_body 12 = .ok (.areturn, 1) := by decide +kernel
theorem dX3_carryOutChanged_0 : decode cX3_carryOutChanged 0 = .ok (.aload_n 0, 1) := by decide +kernel
theorem dX3_carryOutChanged_1 : decode cX3_carryOutChanged 1 = .ok (.invokevirtual 61, 3) := by decide +kernel
theorem dX3_carryOutChanged_4 : decode cX3_carryOutChanged 4 = .ok (.istore_n 1, 1) := by decide +kernel
theorem dX3_carryOutChanged_5 : decode cX3_carryOutChanged 5 = .ok (.iload_n 1, 1) := by decide +kernel
theorem dX3_carryOutChanged_6 : decode cX3_carryOutChanged 6 = .ok (.aload_n 0, 1) := by decide +kernel
theorem dX3_carryOutChanged_7 : decode cX3_carryOutChanged 7 = .ok (.getfield 12, 3) := by decide +kernel
theorem dX3_carryOutChanged_10 : decode cX3_carryOutChanged 10 = .ok (.getfield 57, 3) := by decide +kernel
theorem dX3_carryOutChanged_13 : decode cX3_carryOutChanged 13 = .ok (.if_icmp .ge 113, 3) := by decide +kernel
theorem dX3_carryOutChanged_16 : decode cX3_carryOutChanged 16 = .ok (.aload_n 0, 1) := by decide +kernel
theorem dX3_carryOutChanged_17 : decode cX3_carryOutChanged 17 = .ok (.getfield 12, 3) := by decide +kernel
theorem dX3_carryOutChanged_20 : decode cX3_carryOutChanged 20 = .ok (.getfield 65, 3) := by decide +kernel
theorem dX3_carryOutChanged_23 : decode cX3_carryOutChanged 23 = .ok (.iload_n 1, 1) := by decide +kernel
theorem dX3_carryOutChanged_24 : decode cX3_carryOutChanged 24 = .ok (.iaload, 1) := by decide +kernel
theorem dX3_carryOutChanged_25 : decode cX3_carryOutChanged 25 = .ok (.istore_n 2, 1) := by decide +kernel
theorem dX3_carryOutChanged_26 : decode cX3_carryOutChanged 26 = .ok (.aload_n 0, 1) := by decide +kernel
theorem dX3_carryOutChanged_27 : decode cX3_carryOutChanged 27 = .ok (.iload_n 2, 1) := by decide +kernel
theorem dX3_carryOutChanged_28 : decode cX3_carryOutChanged 28 = .ok (.invokevirtual 68, 3) := by decide +kernel
theorem dX3_carryOutChanged_31 : decode cX3_carryOutChanged 31 = .ok (.aload_n 0, 1) := by decide +kernel
theorem dX3_carryOutChanged_32 : decode cX3_carryOutChanged 32 = .ok (.iload_n 1, 1) := by decide +kernel
theorem dX3_carryOutChanged_33 : decode cX3_carryOutChanged 33 = .ok (.iload_n 2, 1) := by decide +kernel
theorem dX3_carryOutChanged_34 : decode cX3_carryOutChanged 34 = .ok (.invokevirtual 72, 3) := by decide +kernel
theorem dX3_carryOutChanged_37 : decode cX3_carryOutChanged 37 = .ok (.aload_n 0, 1) := by decide +kernel
theorem dX3_carryOutChanged_38 : decode cX3_carryOutChanged 38 = .ok (.getfield 12, 3) := by decide +kernel
theorem dX3_carryOutChanged_41 : decode cX3_carryOutChanged 41 = .ok (.getfield 76, 3) := by decide +kernel
theorem dX3_carryOutChanged_44 : decode cX3_carryOutChanged 44 = .ok (.iload_n 2, 1) := by decide +kernel
theorem dX3_carryOutChanged_45 : decode cX3_carryOutChanged 45 = .ok (.baload, 1) := by decide +kernel
theorem dX3_carryOutChanged_46 : decode cX3_carryOutChanged 46 = .ok (.ifCond .eq 23, 3) := by decide +kernel
theorem dX3_carryOutChanged_49 : decode cX3_carryOutChanged 49 = .ok (.aload_n 0, 1) := by decide +kernel
theorem dX3_carryOutChanged_50 : decode cX3_carryOutChanged 50 = .ok (.getfield 24, 3) := by decide +kernel
theorem dX3_carryOutChanged_53 : decode cX3_carryOutChanged 53 = .ok (.iload_n 1, 1) := by decide +kernel
theorem dX3_carryOutChanged_54 : decode cX3_carryOutChanged 54 = .ok (.iconst 1, 1) := by decide +kernel
theorem dX3_carryOutChanged_55 : decode cX3_carryOutChanged 55 = .ok (.iadd, 1) := by decide +kernel
theorem dX3_carryOutChanged_56 : decode cX3_carryOutChanged 56 = .ok (.aaload, 1) := by decide +kernel
theorem dX3_carryOutChanged_57 : decode cX3_carryOutChanged 57 = .ok (.aload_n 0, 1) := by decide +kernel
theorem dX3_carryOutChanged_58 : decode cX3_carryOutChanged 58 = .ok (.getfield 24, 3) := by decide +kernel
theorem dX3_carryOutChanged_61 : decode cX3_carryOutChanged 61 = .ok (.iload_n 1, 1) := by decide +kernel
theorem dX3_carryOutChanged_62 : decode cX3_carryOutChanged 62 = .ok (.aaload, 1) := by decide +kernel
theorem dX3_carryOutChanged_63 : decode cX3_carryOutChanged 63 = .ok (.invokevirtual 79, 3) := by decide +kernel
theorem dX3_carryOutChanged_66 : decode cX3_carryOutChanged 66 = .ok (.goto 54, 3) := by decide +kernel
theorem dX3_carryOutChanged_69 : decode cX3_carryOutChanged 69 = .ok (.aload_n 0, 1) := by decide +kernel
theorem dX3_carryOutChanged_70 : decode cX3_carryOutChanged 70 = .ok (.getfield 18, 3) := by decide +kernel
theorem dX3_carryOutChanged_73 : decode cX3_carryOutChanged 73 = .ok (.iload_n 2, 1) := by decide +kernel
theorem dX3_carryOutChanged_74 : decode cX3_carryOutChanged 74 = .ok (.aload_n 0, 1) := by decide +kernel
theorem dX3_carryOutChanged_75 : decode cX3_carryOutChanged 75 = .ok (.getfield 39, 3) := by decide +kernel
theorem dX3_carryOutChanged_78 : decode cX3_carryOutChanged 78 = .ok (.aload_n 0, 1) := by decide +kernel
theorem dX3_carryOutChanged_79 : decode cX3_carryOutChanged 79 = .ok (.getfield 12, 3) := by decide +kernel
theorem dX3_carryOutChanged_82 : decode cX3_carryOutChanged 82 = .ok (.getfield 83, 3) := by decide +kernel
theorem dX3_carryOutChanged_85 : decode cX3_carryOutChanged 85 = .ok (.iload_n 2, 1) := by decide +kernel
theorem dX3_carryOutChanged_86 : decode cX3_carryOutChanged 86 = .ok (.caload, 1) := by decide +kernel
theorem dX3_carryOutChanged_87 : decode cX3_carryOutChanged 87 = .ok (.iload_n 2, 1) := by decide +kernel
theorem dX3_carryOutChanged_88 : decode cX3_carryOutChanged 88 = .ok (.aload_n 0, 1) := by decide +kernel
theorem dX3_carryOutChanged_89 : decode cX3_carryOutChanged 89 = .ok (.getfield 43, 3) := by decide +kernel
theorem dX3_carryOutChanged_92 : decode cX3_carryOutChanged 92 = .ok (.aload_n 0, 1) := by decide +kernel
theorem dX3_carryOutChanged_93 : decode cX3_carryOutChanged 93 = .ok (.getfield 24, 3) := by decide +kernel
theorem dX3_carryOutChanged_96 : decode cX3_carryOutChanged 96 = .ok (.iload_n 1, 1) := by decide +kernel
theorem dX3_carryOutChanged_97 : decode cX3_carryOutChanged 97 = .ok (.aaload, 1) := by decide +kernel
theorem dX3_carryOutChanged_98 : decode cX3_carryOutChanged 98 = .ok (.aload_n 0, 1) := by decide +kernel
theorem dX3_carryOutChanged_99 : decode cX3_carryOutChanged 99 = .ok (.getfield 24, 3) := by decide +kernel
theorem dX3_carryOutChanged_102 : decode cX3_carryOutChanged 102 = .ok (.iload_n 1, 1) := by decide +kernel
theorem dX3_carryOutChanged_103 : decode cX3_carryOutChanged 103 = .ok (.iconst 1, 1) := by decide +kernel
theorem dX3_carryOutChanged_104 : decode cX3_carryOutChanged 104 = .ok (.iadd, 1) := by decide +kernel
theorem dX3_carryOutChanged_105 : decode cX3_carryOutChanged 105 = .ok (.aaload, 1) := by decide +kernel
theorem dX3_carryOutChanged_106 : decode cX3_carryOutChanged 106 = .ok (.invokevirtual 86, 3) := by decide +kernel
theorem dX3_carryOutChanged_109 : decode cX3_carryOutChanged 109 = .ok (.castore, 1) := by decide +kernel
theorem dX3_carryOutChanged_110 : decode cX3_carryOutChanged 110 = .ok (.aload_n 0, 1) := by decide +kernel
theorem dX3_carryOutChanged_111 : decode cX3_carryOutChanged 111 = .ok (.dup, 1) := by decide +kernel
theorem dX3_carryOutChanged_112 : decode cX3_carryOutChanged 112 = .ok (.getfield 90, 3) := by decide +kernel
theorem dX3_carryOutChanged_115 : decode cX3_carryOutChanged 115 = .ok (.lconst 1, 1) := by decide +kernel
theorem dX3_carryOutChanged_116 : decode cX3_carryOutChanged 116 = .ok (.ladd, 1) := by decide +kernel
theorem dX3_carryOutChanged_117 : decode cX3_carryOutChanged 117 = .ok (.putfield 90, 3) := by decide +kernel
theorem dX3_carryOutChanged_120 : decode cX3_carryOutChanged 120 = .ok (.iinc 1 1, 3) := by decide +kernel
theorem dX3_carryOutChanged_123 : decode cX3_carryOutChanged 123 = .ok (.goto (-118), 3) := by decide +kernel
theorem dX3_carryOutChanged_126 : decode cX3_carryOutChanged 126 = .ok (.aload_n 0, 1) := by decide +kernel
theorem dX3_carryOutChanged_127 : decode cX3_carryOutChanged 127 = .ok (.aload_n 0, 1) := by decide +kernel
theorem dX3_carryOutChanged_128 : decode cX3_carryOutChanged 128 = .ok (.getfield 12, 3) := by decide +kernel
theorem dX3_carryOutChanged_131 : decode cX3_carryOutChanged 131 = .ok (.getfield 57, 3) := by decide +kernel
theorem dX3_carryOutChanged_134 : decode cX3_carryOutChanged 134 = .ok (.putfield 94, 3) := by decide +kernel
theorem dX3_carryOutChanged_137 : decode cX3_carryOutChanged 137 = .ok (.return_, 1) := by decide +kernel
theorem dX3_lowestChanged_0 : decode cX3_lowestChanged 0 = .ok (.iconst 0, 1) := by decide +kernel
theorem dX3_lowestChanged_1 : decode cX3_lowestChanged 1 = .ok (.istore_n 1, 1) := by decide +kernel
theorem dX3_lowestChanged_2 : decode cX3_lowestChanged 2 = .ok (.iload_n 1, 1) := by decide +kernel
theorem dX3_lowestChanged_3 : decode cX3_lowestChanged 3 = .ok (.aload_n 0, 1) := by decide +kernel
theorem dX3_lowestChanged_4 : decode cX3_lowestChanged 4 = .ok (.getfield 12, 3) := by decide +kernel
theorem dX3_lowestChanged_7 : decode cX3_lowestChanged 7 = .ok (.getfield 57, 3) := by decide +kernel
theorem dX3_lowestChanged_10 : decode cX3_lowestChanged 10 = .ok (.if_icmp .ge 34, 3) := by decide +kernel
theorem dX3_lowestChanged_13 : decode cX3_lowestChanged 13 = .ok (.iload_n 1, 1) := by decide +kernel
theorem dX3_lowestChanged_14 : decode cX3_lowestChanged 14 = .ok (.aload_n 0, 1) := by decide +kernel
theorem dX3_lowestChanged_15 : decode cX3_lowestChanged 15 = .ok (.getfield 94, 3) := by decide +kernel
theorem dX3_lowestChanged_18 : decode cX3_lowestChanged 18 = .ok (.if_icmp .ge 26, 3) := by decide +kernel
theorem dX3_lowestChanged_21 : decode cX3_lowestChanged 21 = .ok (.aload_n 0, 1) := by decide +kernel
theorem dX3_lowestChanged_22 : decode cX3_lowestChanged 22 = .ok (.iload_n 1, 1) := by decide +kernel
theorem dX3_lowestChanged_23 : decode cX3_lowestChanged 23 = .ok (.aload_n 0, 1) := by decide +kernel
theorem dX3_lowestChanged_24 : decode cX3_lowestChanged 24 = .ok (.getfield 12, 3) := by decide +kernel
theorem dX3_lowestChanged_27 : decode cX3_lowestChanged 27 = .ok (.getfield 65, 3) := by decide +kernel
theorem dX3_lowestChanged_30 : decode cX3_lowestChanged 30 = .ok (.iload_n 1, 1) := by decide +kernel
theorem dX3_lowestChanged_31 : decode cX3_lowestChanged 31 = .ok (.iaload, 1) := by decide +kernel
theorem dX3_lowestChanged_32 : decode cX3_lowestChanged 32 = .ok (.invokevirtual 97, 3) := by decide +kernel
theorem dX3_lowestChanged_35 : decode cX3_lowestChanged 35 = .ok (.ifCond .eq 9, 3) := by decide +kernel
theorem dX3_lowestChanged_38 : decode cX3_lowestChanged 38 = .ok (.iinc 1 1, 3) := by decide +kernel
theorem dX3_lowestChanged_41 : decode cX3_lowestChanged 41 = .ok (.goto (-39), 3) := by decide +kernel
theorem dX3_lowestChanged_44 : decode cX3_lowestChanged 44 = .ok (.iload_n 1, 1) := by decide +kernel
theorem dX3_lowestChanged_45 : decode cX3_lowestChanged 45 = .ok (.ireturn, 1) := by decide +kernel
theorem dX3_isAsCarried_0 : decode cX3_isAsCarried 0 = .ok (.iconst 0, 1) := by decide +kernel
theorem dX3_isAsCarried_1 : decode cX3_isAsCarried 1 = .ok (.istore_n 3, 1) := by decide +kernel
theorem dX3_isAsCarried_2 : decode cX3_isAsCarried 2 = .ok (.iload_n 3, 1) := by decide +kernel
theorem dX3_isAsCarried_3 : decode cX3_isAsCarried 3 = .ok (.bipush 6, 2) := by decide +kernel
theorem dX3_isAsCarried_5 : decode cX3_isAsCarried 5 = .ok (.if_icmp .ge 34, 3) := by decide +kernel
theorem dX3_isAsCarried_8 : decode cX3_isAsCarried 8 = .ok (.aload_n 0, 1) := by decide +kernel
theorem dX3_isAsCarried_9 : decode cX3_isAsCarried 9 = .ok (.getfield 54, 3) := by decide +kernel
theorem dX3_isAsCarried_12 : decode cX3_isAsCarried 12 = .ok (.iload_n 1, 1) := by decide +kernel
theorem dX3_isAsCarried_13 : decode cX3_isAsCarried 13 = .ok (.bipush 6, 2) := by decide +kernel
theorem dX3_isAsCarried_15 : decode cX3_isAsCarried 15 = .ok (.imul, 1) := by decide +kernel
theorem dX3_isAsCarried_16 : decode cX3_isAsCarried 16 = .ok (.iload_n 3, 1) := by decide +kernel
theorem dX3_isAsCarried_17 : decode cX3_isAsCarried 17 = .ok (.iadd, 1) := by decide +kernel
theorem dX3_isAsCarried_18 : decode cX3_isAsCarried 18 = .ok (.iaload, 1) := by decide +kernel
theorem dX3_isAsCarried_19 : decode cX3_isAsCarried 19 = .ok (.aload_n 0, 1) := by decide +kernel
theorem dX3_isAsCarried_20 : decode cX3_isAsCarried 20 = .ok (.getfield 12, 3) := by decide +kernel
theorem dX3_isAsCarried_23 : decode cX3_isAsCarried 23 = .ok (.iload_n 2, 1) := by decide +kernel
theorem dX3_isAsCarried_24 : decode cX3_isAsCarried 24 = .ok (.iload_n 3, 1) := by decide +kernel
theorem dX3_isAsCarried_25 : decode cX3_isAsCarried 25 = .ok (.invokevirtual 101, 3) := by decide +kernel
theorem dX3_isAsCarried_28 : decode cX3_isAsCarried 28 = .ok (.if_icmp .eq 5, 3) := by decide +kernel
theorem dX3_isAsCarried_31 : decode cX3_isAsCarried 31 = .ok (.iconst 0, 1) := by decide +kernel
theorem dX3_isAsCarried_32 : decode cX3_isAsCarried 32 = .ok (.ireturn, 1) := by decide +kernel
theorem dX3_isAsCarried_33 : decode cX3_isAsCarried 33 = .ok (.iinc 3 1, 3) := by decide +kernel
theorem dX3_isAsCarried_36 : decode cX3_isAsCarried 36 = .ok (.goto (-34), 3) := by decide +kernel
theorem dX3_isAsCarried_39 : decode cX3_isAsCarried 39 = .ok (.aload_n 0, 1) := by decide +kernel
theorem dX3_isAsCarried_40 : decode cX3_isAsCarried 40 = .ok (.getfield 47, 3) := by decide +kernel
theorem dX3_isAsCarried_43 : decode cX3_isAsCarried 43 = .ok (.iload_n 1, 1) := by decide +kernel
theorem dX3_isAsCarried_44 : decode cX3_isAsCarried 44 = .ok (.iaload, 1) := by decide +kernel
theorem dX3_isAsCarried_45 : decode cX3_isAsCarried 45 = .ok (.iload_n 2, 1) := by decide +kernel
theorem dX3_isAsCarried_46 : decode cX3_isAsCarried 46 = .ok (.if_icmp .ne 25, 3) := by decide +kernel
theorem dX3_isAsCarried_49 : decode cX3_isAsCarried 49 = .ok (.aload_n 0, 1) := by decide +kernel
theorem dX3_isAsCarried_50 : decode cX3_isAsCarried 50 = .ok (.getfield 50, 3) := by decide +kernel
theorem dX3_isAsCarried_53 : decode cX3_isAsCarried 53 = .ok (.iload_n 1, 1) := by decide +kernel
theorem dX3_isAsCarried_54 : decode cX3_isAsCarried 54 = .ok (.baload, 1) := by decide +kernel
theorem dX3_isAsCarried_55 : decode cX3_isAsCarried 55 = .ok (.aload_n 0, 1) := by decide +kernel
theorem dX3_isAsCarried_56 : decode cX3_isAsCarried 56 = .ok (.getfield 12, 3) := by decide +kernel
theorem dX3_isAsCarried_59 : decode cX3_isAsCarried 59 = .ok (.getfield 76, 3) := by decide +kernel
theorem dX3_isAsCarried_62 : decode cX3_isAsCarried 62 = .ok (.iload_n 2, 1) := by decide +kernel
theorem dX3_isAsCarried_63 : decode cX3_isAsCarried 63 = .ok (.baload, 1) := by decide +kernel
theorem dX3_isAsCarried_64 : decode cX3_isAsCarried 64 = .ok (.if_icmp .ne 7, 3) := by decide +kernel
theorem dX3_isAsCarried_67 : decode cX3_isAsCarried 67 = .ok (.iconst 1, 1) := by decide +kernel
theorem dX3_isAsCarried_68 : decode cX3_isAsCarried 68 = .ok (.goto 4, 3) := by decide +kernel
theorem dX3_isAsCarried_71 : decode cX3_isAsCarried 71 = .ok (.iconst 0, 1) := by decide +kernel
theorem dX3_isAsCarried_72 : decode cX3_isAsCarried 72 = .ok (.ireturn, 1) := by decide +kernel
theorem dX3_remember_0 : decode cX3_remember 0 = .ok (.aload_n 0, 1) := by decide +kernel
theorem dX3_remember_1 : decode cX3_remember 1 = .ok (.getfield 47, 3) := by decide +kernel
theorem dX3_remember_4 : decode cX3_remember 4 = .ok (.iload_n 1, 1) := by decide +kernel
theorem dX3_remember_5 : decode cX3_remember 5 = .ok (.iload_n 2, 1) := by decide +kernel
theorem dX3_remember_6 : decode cX3_remember 6 = .ok (.iastore, 1) := by decide +kernel
theorem dX3_remember_7 : decode cX3_remember 7 = .ok (.aload_n 0, 1) := by decide +kernel
theorem dX3_remember_8 : decode cX3_remember 8 = .ok (.getfield 50, 3) := by decide +kernel
theorem dX3_remember_11 : decode cX3_remember 11 = .ok (.iload_n 1, 1) := by decide +kernel
theorem dX3_remember_12 : decode cX3_remember 12 = .ok (.aload_n 0, 1) := by decide +kernel
theorem dX3_remember_13 : decode cX3_remember 13 = .ok (.getfield 12, 3) := by decide +kernel
theorem dX3_remember_16 : decode cX3_remember 16 = .ok (.getfield 76, 3) := by decide +kernel
theorem dX3_remember_19 : decode cX3_remember 19 = .ok (.iload_n 2, 1) := by decide +kernel
theorem dX3_remember_20 : decode cX3_remember 20 = .ok (.baload, 1) := by decide +kernel
theorem dX3_remember_21 : decode cX3_remember 21 = .ok (.bastore, 1) := by decide +kernel
theorem dX3_remember_22 : decode cX3_remember 22 = .ok (.aload_n 0, 1) := by decide +kernel
theorem dX3_remember_23 : decode cX3_remember 23 = .ok (.getfield 43, 3) := by decide +kernel
theorem dX3_remember_26 : decode cX3_remember 26 = .ok (.iconst 0, 1) := by decide +kernel
theorem dX3_remember_27 : decode cX3_remember 27 = .ok (.aload_n 0, 1) := by decide +kernel
theorem dX3_remember_28 : decode cX3_remember 28 = .ok (.getfield 54, 3) := by decide +kernel
theorem dX3_remember_31 : decode cX3_remember 31 = .ok (.iload_n 1, 1) := by decide +kernel
theorem dX3_remember_32 : decode cX3_remember 32 = .ok (.bipush 6, 2) := by decide +kernel
theorem dX3_remember_34 : decode cX3_remember 34 = .ok (.imul, 1) := by decide +kernel
theorem dX3_remember_35 : decode cX3_remember 35 = .ok (.bipush 6, 2) := by decide +kernel
theorem dX3_remember_37 : decode cX3_remember 37 = .ok (.invokestatic 105, 3) := by decide +kernel
theorem dX3_remember_40 : decode cX3_remember 40 = .ok (.return_, 1) := by decide +kernel
theorem dX3_readSizes_0 : decode cX3_readSizes 0 = .ok (.iconst 0, 1) := by decide +kernel
theorem dX3_readSizes_1 : decode cX3_readSizes 1 = .ok (.istore_n 2, 1) := by decide +kernel
theorem dX3_readSizes_2 : decode cX3_readSizes 2 = .ok (.iload_n 2, 1) := by decide +kernel
theorem dX3_readSizes_3 : decode cX3_readSizes 3 = .ok (.bipush 6, 2) := by decide +kernel
theorem dX3_readSizes_5 : decode cX3_readSizes 5 = .ok (.if_icmp .ge 24, 3) := by decide +kernel
theorem dX3_readSizes_8 : decode cX3_readSizes 8 = .ok (.aload_n 0, 1) := by decide +kernel
theorem dX3_readSizes_9 : decode cX3_readSizes 9 = .ok (.getfield 43, 3) := by decide +kernel
theorem dX3_readSizes_12 : decode cX3_readSizes 12 = .ok (.iload_n 2, 1) := by decide +kernel
theorem dX3_readSizes_13 : decode cX3_readSizes 13 = .ok (.aload_n 0, 1) := by decide +kernel
theorem dX3_readSizes_14 : decode cX3_readSizes 14 = .ok (.getfield 12, 3) := by decide +kernel
theorem dX3_readSizes_17 : decode cX3_readSizes 17 = .ok (.iload_n 1, 1) := by decide +kernel
theorem dX3_readSizes_18 : decode cX3_readSizes 18 = .ok (.iload_n 2, 1) := by decide +kernel
theorem dX3_readSizes_19 : decode cX3_readSizes 19 = .ok (.invokevirtual 101, 3) := by decide +kernel
theorem dX3_readSizes_22 : decode cX3_readSizes 22 = .ok (.iastore, 1) := by decide +kernel
theorem dX3_readSizes_23 : decode cX3_readSizes 23 = .ok (.iinc 2 1, 3) := by decide +kernel
theorem dX3_readSizes_26 : decode cX3_readSizes 26 = .ok (.goto (-24), 3) := by decide +kernel
theorem dX3_readSizes_29 : decode cX3_readSizes 29 = .ok (.return_, 1) := by decide +kernel
theorem dX3_bodyFromNothing_0 : decode cX3_bodyFromNothing 0 = .ok (.aload_n 0, 1) := by decide +kernel
theorem dX3_bodyFromNothing_1 : decode cX3_bodyFromNothing 1 = .ok (.getfield 29, 3) := by decide +kernel
theorem dX3_bodyFromNothing_4 : decode cX3_bodyFromNothing 4 = .ok (.invokevirtual 111, 3) := by decide +kernel
theorem dX3_bodyFromNothing_7 : decode cX3_bodyFromNothing 7 = .ok (.iconst 0, 1) := by decide +kernel
theorem dX3_bodyFromNothing_8 : decode cX3_bodyFromNothing 8 = .ok (.istore_n 1, 1) := by decide +kernel
theorem dX3_bodyFromNothing_9 : decode cX3_bodyFromNothing 9 = .ok (.iload_n 1, 1) := by decide +kernel
theorem dX3_bodyFromNothing_10 : decode cX3_bodyFromNothing 10 = .ok (.aload_n 0, 1) := by decide +kernel
theorem dX3_bodyFromNothing_11 : decode cX3_bodyFromNothing 11 = .ok (.getfield 12, 3) := by decide +kernel
theorem dX3_bodyFromNothing_14 : decode cX3_bodyFromNothing 14 = .ok (.getfield 57, 3) := by decide +kernel
theorem dX3_bodyFromNothing_17 : decode cX3_bodyFromNothing 17 = .ok (.if_icmp .ge 77, 3) := by decide +kernel
theorem dX3_bodyFromNothing_20 : decode cX3_bodyFromNothing 20 = .ok (.aload_n 0, 1) := by decide +kernel
theorem dX3_bodyFromNothing_21 : decode cX3_bodyFromNothing 21 = .ok (.getfield 12, 3) := by decide +kernel
theorem dX3_bodyFromNothing_24 : decode cX3_bodyFromNothing 24 = .ok (.getfield 65, 3) := by decide +kernel
theorem dX3_bodyFromNothing_27 : decode cX3_bodyFromNothing 27 = .ok (.iload_n 1, 1) := by decide +kernel
theorem dX3_bodyFromNothing_28 : decode cX3_bodyFromNothing 28 = .ok (.iaload, 1) := by decide +kernel
theorem dX3_bodyFromNothing_29 : decode cX3_bodyFromNothing 29 = .ok (.istore_n 2, 1) := by decide +kernel
theorem dX3_bodyFromNothing_30 : decode cX3_bodyFromNothing 30 = .ok (.aload_n 0, 1) := by decide +kernel
theorem dX3_bodyFromNothing_31 : decode cX3_bodyFromNothing 31 = .ok (.getfield 12, 3) := by decide +kernel
theorem dX3_bodyFromNothing_34 : decode cX3_bodyFromNothing 34 = .ok (.getfield 76, 3) := by decide +kernel
theorem dX3_bodyFromNothing_37 : decode cX3_bodyFromNothing 37 = .ok (.iload_n 2, 1) := by decide +kernel
theorem dX3_bodyFromNothing_38 : decode cX3_bodyFromNothing 38 = .ok (.baload, 1) := by decide +kernel
theorem dX3_bodyFromNothing_39 : decode cX3_bodyFromNothing 39 = .ok (.ifCond .ne 49, 3) := by decide +kernel
theorem dX3_bodyFromNothing_42 : decode cX3_bodyFromNothing 42 = .ok (.aload_n 0, 1) := by decide +kernel
theorem dX3_bodyFromNothing_43 : decode cX3_bodyFromNothing 43 = .ok (.iload_n 2, 1) := by decide +kernel
theorem dX3_bodyFromNothing_44 : decode cX3_bodyFromNothing 44 = .ok (.invokevirtual 68, 3) := by decide +kernel
theorem dX3_bodyFromNothing_47 : decode cX3_bodyFromNothing 47 = .ok (.aload_n 0, 1) := by decide +kernel
theorem dX3_bodyFromNothing_48 : decode cX3_bodyFromNothing 48 = .ok (.getfield 39, 3) := by decide +kernel
theorem dX3_bodyFromNothing_51 : decode cX3_bodyFromNothing 51 = .ok (.aload_n 0, 1) := by decide +kernel
theorem dX3_bodyFromNothing_52 : decode cX3_bodyFromNothing 52 = .ok (.getfield 12, 3) := by decide +kernel
theorem dX3_bodyFromNothing_55 : decode cX3_bodyFromNothing 55 = .ok (.getfield 83, 3) := by decide +kernel
theorem dX3_bodyFromNothing_58 : decode cX3_bodyFromNothing 58 = .ok (.iload_n 2, 1) := by decide +kernel
theorem dX3_bodyFromNothing_59 : decode cX3_bodyFromNothing 59 = .ok (.caload, 1) := by decide +kernel
theorem dX3_bodyFromNothing_60 : decode cX3_bodyFromNothing 60 = .ok (.iload_n 2, 1) := by decide +kernel
theorem dX3_bodyFromNothing_61 : decode cX3_bodyFromNothing 61 = .ok (.aload_n 0, 1) := by decide +kernel
theorem dX3_bodyFromNothing_62 : decode cX3_bodyFromNothing 62 = .ok (.getfield 43, 3) := by decide +kernel
theorem dX3_bodyFromNothing_65 : decode cX3_bodyFromNothing 65 = .ok (.aload_n 0, 1) := by decide +kernel
theorem dX3_bodyFromNothing_66 : decode cX3_bodyFromNothing 66 = .ok (.getfield 29, 3) := by decide +kernel
theorem dX3_bodyFromNothing_69 : decode cX3_bodyFromNothing 69 = .ok (.aload_n 0, 1) := by decide +kernel
theorem dX3_bodyFromNothing_70 : decode cX3_bodyFromNothing 70 = .ok (.getfield 33, 3) := by decide +kernel
theorem dX3_bodyFromNothing_73 : decode cX3_bodyFromNothing 73 = .ok (.invokevirtual 86, 3) := by decide +kernel
theorem dX3_bodyFromNothing_76 : decode cX3_bodyFromNothing 76 = .ok (.pop, 1) := by decide +kernel
theorem dX3_bodyFromNothing_77 : decode cX3_bodyFromNothing 77 = .ok (.aload_n 0, 1) := by decide +kernel
theorem dX3_bodyFromNothing_78 : decode cX3_bodyFromNothing 78 = .ok (.getfield 29, 3) := by decide +kernel
theorem dX3_bodyFromNothing_81 : decode cX3_bodyFromNothing 81 = .ok (.aload_n 0, 1) := by decide +kernel
theorem dX3_bodyFromNothing_82 : decode cX3_bodyFromNothing 82 = .ok (.getfield 33, 3) := by decide +kernel
theorem dX3_bodyFromNothing_85 : decode cX3_bodyFromNothing 85 = .ok (.invokevirtual 79, 3) := by decide +kernel
theorem dX3_bodyFromNothing_88 : decode cX3_bodyFromNothing 88 = .ok (.iinc 1 1, 3) := by decide +kernel
theorem dX3_bodyFromNothing_91 : decode cX3_bodyFromNothing 91 = .ok (.goto (-82), 3) := by decide +kernel
theorem dX3_bodyFromNothing_94 : decode cX3_bodyFromNothing 94 = .ok (.aload_n 0, 1) := by decide +kernel
theorem dX3_bodyFromNothing_95 : decode cX3_bodyFromNothing 95 = .ok (.getfield 29, 3) := by decide +kernel
theorem dX3_bodyFromNothing_98 : decode cX3_bodyFromNothing 98 = .ok (.areturn, 1) := by decide +kernel
theorem dX3_countNamed_0 : decode cX3_countNamed 0 = .ok (.aload_n 0, 1) := by decide +kernel
theorem dX3_countNamed_1 : decode cX3_countNamed 1 = .ok (.getfield 39, 3) := by decide +kernel
theorem dX3_countNamed_4 : decode cX3_countNamed 4 = .ok (.aload_n 0, 1) := by decide +kernel
theorem dX3_countNamed_5 : decode cX3_countNamed 5 = .ok (.invokevirtual 114, 3) := by decide +kernel
theorem dX3_countNamed_8 : decode cX3_countNamed 8 = .ok (.iload_n 1, 1) := by decide +kernel
theorem dX3_countNamed_9 : decode cX3_countNamed 9 = .ok (.iload_n 2, 1) := by decide +kernel
theorem dX3_countNamed_10 : decode cX3_countNamed 10 = .ok (.invokevirtual 118, 3) := by decide +kernel
theorem dX3_countNamed_13 : decode cX3_countNamed 13 = .ok (.ireturn, 1) := by decide +kernel
theorem dX3_countPieces_0 : decode cX3_countPieces 0 = .ok (.aload_n 0, 1) := by decide +kernel
theorem dX3_countPieces_1 : decode cX3_countPieces 1 = .ok (.getfield 39, 3) := by decide +kernel
theorem dX3_countPieces_4 : decode cX3_countPieces 4 = .ok (.aload_n 0, 1) := by decide +kernel
theorem dX3_countPieces_5 : decode cX3_countPieces 5 = .ok (.invokevirtual 114, 3) := by decide +kernel
theorem dX3_countPieces_8 : decode cX3_countPieces 8 = .ok (.getfield 122, 3) := by decide +kernel
theorem dX3_countPieces_11 : decode cX3_countPieces 11 = .ok (.invokevirtual 126, 3) := by decide +kernel
theorem dX3_countPieces_14 : decode cX3_countPieces 14 = .ok (.ireturn, 1) := by decide +kernel
theorem dX4_isBalanced_0 : decode cX4_isBalanced 0 = .ok (.iconst 0, 1) := by decide +kernel
theorem dX4_isBalanced_1 : decode cX4_isBalanced 1 = .ok (.istore_n 1, 1) := by decide +kernel
theorem dX4_isBalanced_2 : decode cX4_isBalanced 2 = .ok (.iload_n 1, 1) := by decide +kernel
theorem dX4_isBalanced_3 : decode cX4_isBalanced 3 = .ok (.iconst 3, 1) := by decide +kernel
theorem dX4_isBalanced_4 : decode cX4_isBalanced 4 = .ok (.if_icmp .ge 30, 3) := by decide +kernel
theorem dX4_isBalanced_7 : decode cX4_isBalanced 7 = .ok (.aload_n 0, 1) := by decide +kernel
theorem dX4_isBalanced_8 : decode cX4_isBalanced 8 = .ok (.iconst 2, 1) := by decide +kernel
theorem dX4_isBalanced_9 : decode cX4_isBalanced 9 = .ok (.iload_n 1, 1) := by decide +kernel
theorem dX4_isBalanced_10 : decode cX4_isBalanced 10 = .ok (.imul, 1) := by decide +kernel
theorem dX4_isBalanced_11 : decode cX4_isBalanced 11 = .ok (.invokevirtual 9, 3) := by decide +kernel
theorem dX4_isBalanced_14 : decode cX4_isBalanced 14 = .ok (.aload_n 0, 1) := by decide +kernel
theorem dX4_isBalanced_15 : decode cX4_isBalanced 15 = .ok (.iconst 2, 1) := by decide +kernel
theorem dX4_isBalanced_16 : decode cX4_isBalanced 16 = .ok (.iload_n 1, 1) := by decide +kernel
theorem dX4_isBalanced_17 : decode cX4_isBalanced 17 = .ok (.imul, 1) := by decide +kernel
theorem dX4_isBalanced_18 : decode cX4_isBalanced 18 = .ok (.iconst 1, 1) := by decide +kernel
theorem dX4_isBalanced_19 : decode cX4_isBalanced 19 = .ok (.iadd, 1) := by decide +kernel
theorem dX4_isBalanced_20 : decode cX4_isBalanced 20 = .ok (.invokevirtual 9, 3) := by decide +kernel
theorem dX4_isBalanced_23 : decode cX4_isBalanced 23 = .ok (.if_icmp .eq 5, 3) := by decide +kernel
theorem dX4_isBalanced_26 : decode cX4_isBalanced 26 = .ok (.iconst 0, 1) := by decide +kernel
theorem dX4_isBalanced_27 : decode cX4_isBalanced 27 = .ok (.ireturn, 1) := by decide +kernel
theorem dX4_isBalanced_28 : decode cX4_isBalanced 28 = .ok (.iinc 1 1, 3) := by decide +kernel
theorem dX4_isBalanced_31 : decode cX4_isBalanced 31 = .ok (.goto (-29), 3) := by decide +kernel
theorem dX4_isBalanced_34 : decode cX4_isBalanced 34 = .ok (.iconst 1, 1) := by decide +kernel
theorem dX4_isBalanced_35 : decode cX4_isBalanced 35 = .ok (.ireturn, 1) := by decide +kernel
theorem dX4_sumAlong_0 : decode cX4_sumAlong 0 = .ok (.iconst 0, 1) := by decide +kernel
theorem dX4_sumAlong_1 : decode cX4_sumAlong 1 = .ok (.istore_n 2, 1) := by decide +kernel
theorem dX4_sumAlong_2 : decode cX4_sumAlong 2 = .ok (.iconst 0, 1) := by decide +kernel
theorem dX4_sumAlong_3 : decode cX4_sumAlong 3 = .ok (.istore_n 3, 1) := by decide +kernel
theorem dX4_sumAlong_4 : decode cX4_sumAlong 4 = .ok (.iload_n 3, 1) := by decide +kernel
theorem dX4_sumAlong_5 : decode cX4_sumAlong 5 = .ok (.bipush 8, 2) := by decide +kernel
theorem dX4_sumAlong_7 : decode cX4_sumAlong 7 = .ok (.if_icmp .ge 76, 3) := by decide +kernel
theorem dX4_sumAlong_10 : decode cX4_sumAlong 10 = .ok (.iconst 0, 1) := by decide +kernel
theorem dX4_sumAlong_11 : decode cX4_sumAlong 11 = .ok (.istore 4, 2) := by decide +kernel
theorem dX4_sumAlong_13 : decode cX4_sumAlong 13 = .ok (.iload 4, 2) := by decide +kernel
theorem dX4_sumAlong_15 : decode cX4_sumAlong 15 = .ok (.bipush 8, 2) := by decide +kernel
theorem dX4_sumAlong_17 : decode cX4_sumAlong 17 = .ok (.if_icmp .ge 60, 3) := by decide +kernel
theorem dX4_sumAlong_20 : decode cX4_sumAlong 20 = .ok (.iconst 0, 1) := by decide +kernel
theorem dX4_sumAlong_21 : decode cX4_sumAlong 21 = .ok (.istore 5, 2) := by decide +kernel
theorem dX4_sumAlong_23 : decode cX4_sumAlong 23 = .ok (.iload 5, 2) := by decide +kernel
theorem dX4_sumAlong_25 : decode cX4_sumAlong 25 = .ok (.bipush 8, 2) := by decide +kernel
theorem dX4_sumAlong_27 : decode cX4_sumAlong 27 = .ok (.if_icmp .ge 44, 3) := by decide +kernel
theorem dX4_sumAlong_30 : decode cX4_sumAlong 30 = .ok (.aload_n 0, 1) := by decide +kernel
theorem dX4_sumAlong_31 : decode cX4_sumAlong 31 = .ok (.iload 5, 2) := by decide +kernel
theorem dX4_sumAlong_33 : decode cX4_sumAlong 33 = .ok (.iload 4, 2) := by decide +kernel
theorem dX4_sumAlong_35 : decode cX4_sumAlong 35 = .ok (.iload_n 3, 1) := by decide +kernel
theorem dX4_sumAlong_36 : decode cX4_sumAlong 36 = .ok (.invokevirtual 29, 3) := by decide +kernel
theorem dX4_sumAlong_39 : decode cX4_sumAlong 39 = .ok (.ifCond .eq 26, 3) := by decide +kernel
theorem dX4_sumAlong_42 : decode cX4_sumAlong 42 = .ok (.iload_n 2, 1) := by decide +kernel
theorem dX4_sumAlong_43 : decode cX4_sumAlong 43 = .ok (.iload_n 1, 1) := by decide +kernel
theorem dX4_sumAlong_44 : decode cX4_sumAlong 44 = .ok (.ifCond .ne 8, 3) := by decide +kernel
theorem dX4_sumAlong_47 : decode cX4_sumAlong 47 = .ok (.iload 5, 2) := by decide +kernel
theorem dX4_sumAlong_49 : decode cX4_sumAlong 49 = .ok (.goto 14, 3) := by decide +kernel
theorem dX4_sumAlong_52 : decode cX4_sumAlong 52 = .ok (.iload_n 1, 1) := by decide +kernel
theorem dX4_sumAlong_53 : decode cX4_sumAlong 53 = .ok (.iconst 1, 1) := by decide +kernel
theorem dX4_sumAlong_54 : decode cX4_sumAlong 54 = .ok (.if_icmp .ne 8, 3) := by decide +kernel
theorem dX4_sumAlong_57 : decode cX4_sumAlong 57 = .ok (.iload 4, 2) := by decide +kernel
theorem dX4_sumAlong_59 : decode cX4_sumAlong 59 = .ok (.goto 4, 3) := by decide +kernel
theorem dX4_sumAlong_62 : decode cX4_sumAlong 62 = .ok (.iload_n 3, 1) := by decide +kernel
theorem dX4_sumAlong_63 : decode cX4_sumAlong 63 = .ok (.iadd, 1) := by decide +kernel
theorem dX4_sumAlong_64 : decode cX4_sumAlong 64 = .ok (.istore_n 2, 1) := by decide +kernel
theorem dX4_sumAlong_65 : decode cX4_sumAlong 65 = .ok (.iinc 5 1, 3) := by decide +kernel
theorem dX4_sumAlong_68 : decode cX4_sumAlong 68 = .ok (.goto (-45), 3) := by decide +kernel
theorem dX4_sumAlong_71 : decode cX4_sumAlong 71 = .ok (.iinc 4 1, 3) := by decide +kernel
theorem dX4_sumAlong_74 : decode cX4_sumAlong 74 = .ok (.goto (-61), 3) := by decide +kernel
theorem dX4_sumAlong_77 : decode cX4_sumAlong 77 = .ok (.iinc 3 1, 3) := by decide +kernel
theorem dX4_sumAlong_80 : decode cX4_sumAlong 80 = .ok (.goto (-76), 3) := by decide +kernel
theorem dX4_sumAlong_83 : decode cX4_sumAlong 83 = .ok (.iload_n 2, 1) := by decide +kernel
theorem dX4_sumAlong_84 : decode cX4_sumAlong 84 = .ok (.ireturn, 1) := by decide +kernel
theorem dX5_init_0 : decode cX5_init 0 = .ok (.aload_n 0, 1) := by decide +kernel
theorem dX5_init_1 : decode cX5_init 1 = .ok (.invokespecial 3, 3) := by decide +kernel
theorem dX5_init_4 : decode cX5_init 4 = .ok (.aload_n 0, 1) := by decide +kernel
theorem dX5_init_5 : decode cX5_init 5 = .ok (.bipush 8, 2) := by decide +kernel
theorem dX5_init_7 : decode cX5_init 7 = .ok (.newarray .int, 2) := by decide +kernel
theorem dX5_init_9 : decode cX5_init 9 = .ok (.putfield 9, 3) := by decide +kernel
theorem dX5_init_12 : decode cX5_init 12 = .ok (.aload_n 0, 1) := by decide +kernel
theorem dX5_init_13 : decode cX5_init 13 = .ok (.bipush 8, 2) := by decide +kernel
theorem dX5_init_15 : decode cX5_init 15 = .ok (.newarray .char, 2) := by decide +kernel
theorem dX5_init_17 : decode cX5_init 17 = .ok (.putfield 15, 3) := by decide +kernel
theorem dX5_init_20 : decode cX5_init 20 = .ok (.aload_n 0, 1) := by decide +kernel
theorem dX5_init_21 : decode cX5_init 21 = .ok (.bipush 8, 2) := by decide +kernel
theorem dX5_init_23 : decode cX5_init 23 = .ok (.newarray .int, 2) := by decide +kernel
theorem dX5_init_25 : decode cX5_init 25 = .ok (.putfield 19, 3) := by decide +kernel
theorem dX5_init_28 : decode cX5_init 28 = .ok (.aload_n 0, 1) := by decide +kernel
theorem dX5_init_29 : decode cX5_init 29 = .ok (.bipush 8, 2) := by decide +kernel
theorem dX5_init_31 : decode cX5_init 31 = .ok (.newarray .int, 2) := by decide +kernel
theorem dX5_init_33 : decode cX5_init 33 = .ok (.putfield 22, 3) := by decide +kernel
theorem dX5_init_36 : decode cX5_init 36 = .ok (.return_, 1) := by decide +kernel
theorem dX5_isName_0 : decode cX5_isName 0 = .ok (.iload_n 0, 1) := by decide +kernel
theorem dX5_isName_1 : decode cX5_isName 1 = .ok (.ifCond .lt 13, 3) := by decide +kernel
theorem dX5_isName_4 : decode cX5_isName 4 = .ok (.iload_n 0, 1) := by decide +kernel
theorem dX5_isName_5 : decode cX5_isName 5 = .ok (.bipush 8, 2) := by decide +kernel
theorem dX5_isName_7 : decode cX5_isName 7 = .ok (.if_icmp .ge 7, 3) := by decide +kernel
theorem dX5_isName_10 : decode cX5_isName 10 = .ok (.iconst 1, 1) := by decide +kernel
theorem dX5_isName_11 : decode cX5_isName 11 = .ok (.goto 4, 3) := by decide +kernel
theorem dX5_isName_14 : decode cX5_isName 14 = .ok (.iconst 0, 1) := by decide +kernel
theorem dX5_isName_15 : decode cX5_isName 15 = .ok (.ireturn, 1) := by decide +kernel
theorem dX5_isNamed_0 : decode cX5_isNamed 0 = .ok (.iload_n 0, 1) := by decide +kernel
theorem dX5_isNamed_1 : decode cX5_isNamed 1 = .ok (.bipush 100, 2) := by decide +kernel
theorem dX5_isNamed_3 : decode cX5_isNamed 3 = .ok (.if_icmp .lt 13, 3) := by decide +kernel
theorem dX5_isNamed_6 : decode cX5_isNamed 6 = .ok (.iload_n 0, 1) := by decide +kernel
theorem dX5_isNamed_7 : decode cX5_isNamed 7 = .ok (.bipush 108, 2) := by decide +kernel
theorem dX5_isNamed_9 : decode cX5_isNamed 9 = .ok (.if_icmp .ge 7, 3) := by decide +kernel
theorem dX5_isNamed_12 : decode cX5_isNamed 12 = .ok (.iconst 1, 1) := by decide +kernel
theorem dX5_isNamed_13 : decode cX5_isNamed 13 = .ok (.goto 4, 3) := by decide +kernel
theorem dX5_isNamed_16 : decode cX5_isNamed 16 = .ok (.iconst 0, 1) := by decide +kernel
theorem dX5_isNamed_17 : decode cX5_isNamed 17 = .ok (.ireturn, 1) := by decide +kernel
theorem dX5_isTerm_0 : decode cX5_isTerm 0 = .ok (.iload_n 0, 1) := by decide +kernel
theorem dX5_isTerm_1 : decode cX5_isTerm 1 = .ok (.invokestatic 25, 3) := by decide +kernel
theorem dX5_isTerm_4 : decode cX5_isTerm 4 = .ok (.ifCond .ne 10, 3) := by decide +kernel
theorem dX5_isTerm_7 : decode cX5_isTerm 7 = .ok (.iload_n 0, 1) := by decide +kernel
theorem dX5_isTerm_8 : decode cX5_isTerm 8 = .ok (.invokestatic 29, 3) := by decide +kernel
theorem dX5_isTerm_11 : decode cX5_isTerm 11 = .ok (.ifCond .eq 7, 3) := by decide +kernel
theorem dX5_isTerm_14 : decode cX5_isTerm 14 = .ok (.iconst 1, 1) := by decide +kernel
theorem dX5_isTerm_15 : decode cX5_isTerm 15 = .ok (.goto 4, 3) := by decide +kernel
theorem dX5_isTerm_18 : decode cX5_isTerm 18 = .ok (.iconst 0, 1) := by decide +kernel
theorem dX5_isTerm_19 : decode cX5_isTerm 19 = .ok (.ireturn, 1) := by decide +kernel
theorem dX5_isOperation_0 : decode cX5_isOperation 0 = .ok (.iload_n 0, 1) := by decide +kernel
theorem dX5_isOperation_1 : decode cX5_isOperation 1 = .ok (.bipush 43, 2) := by decide +kernel
theorem dX5_isOperation_3 : decode cX5_isOperation 3 = .ok (.if_icmp .eq 15, 3) := by decide +kernel
theorem dX5_isOperation_6 : decode cX5_isOperation 6 = .ok (.iload_n 0, 1) := by decide +kernel
theorem dX5_isOperation_7 : decode cX5_isOperation 7 = .ok (.bipush 45, 2) := by decide +kernel
theorem dX5_isOperation_9 : decode cX5_isOperation 9 = .ok (.if_icmp .eq 9, 3) := by decide +kernel
theorem dX5_isOperation_12 : decode cX5_isOperation 12 = .ok (.iload_n 0, 1) := by decide +kernel
theorem dX5_isOperation_13 : decode cX5_isOperation 13 = .ok (.bipush 42, 2) := by decide +kernel
theorem dX5_isOperation_15 : decode cX5_isOperation 15 = .ok (.if_icmp .ne 7, 3) := by decide +kernel
theorem dX5_isOperation_18 : decode cX5_isOperation 18 = .ok (.iconst 1, 1) := by decide +kernel
theorem dX5_isOperation_19 : decode cX5_isOperation 19 = .ok (.goto 4, 3) := by decide +kernel
theorem dX5_isOperation_22 : decode cX5_isOperation 22 = .ok (.iconst 0, 1) := by decide +kernel
theorem dX5_isOperation_23 : decode cX5_isOperation 23 = .ok (.ireturn, 1) := by decide +kernel
theorem dX5_valueOf_0 : decode cX5_valueOf 0 = .ok (.iload_n 1, 1) := by decide +kernel
theorem dX5_valueOf_1 : decode cX5_valueOf 1 = .ok (.invokestatic 29, 3) := by decide +kernel
theorem dX5_valueOf_4 : decode cX5_valueOf 4 = .ok (.ifCond .eq 15, 3) := by decide +kernel
theorem dX5_valueOf_7 : decode cX5_valueOf 7 = .ok (.aload_n 0, 1) := by decide +kernel
theorem dX5_valueOf_8 : decode cX5_valueOf 8 = .ok (.getfield 22, 3) := by decide +kernel
theorem dX5_valueOf_11 : decode cX5_valueOf 11 = .ok (.iload_n 1, 1) := by decide +kernel
theorem dX5_valueOf_12 : decode cX5_valueOf 12 = .ok (.bipush 100, 2) := by decide +kernel
theorem dX5_valueOf_14 : decode cX5_valueOf 14 = .ok (.isub, 1) := by decide +kernel
theorem dX5_valueOf_15 : decode cX5_valueOf 15 = .ok (.iaload, 1) := by decide +kernel
theorem dX5_valueOf_16 : decode cX5_valueOf 16 = .ok (.goto 4, 3) := by decide +kernel
theorem dX5_valueOf_19 : decode cX5_valueOf 19 = .ok (.iload_n 1, 1) := by decide +kernel
theorem dX5_valueOf_20 : decode cX5_valueOf 20 = .ok (.ireturn, 1) := by decide +kernel
theorem dX5_wouldNeedItself_0 : decode cX5_wouldNeedItself 0 = .ok (.iload_n 2, 1) := by decide +kernel
theorem dX5_wouldNeedItself_1 : decode cX5_wouldNeedItself 1 = .ok (.invokestatic 32, 3) := by decide +kernel
theorem dX5_wouldNeedItself_4 : decode cX5_wouldNeedItself 4 = .ok (.iload_n 3, 1) := by decide +kernel
theorem dX5_wouldNeedItself_5 : decode cX5_wouldNeedItself 5 = .ok (.invokestatic 32, 3) := by decide +kernel
theorem dX5_wouldNeedItself_8 : decode cX5_wouldNeedItself 8 = .ok (.ior, 1) := by decide +kernel
theorem dX5_wouldNeedItself_9 : decode cX5_wouldNeedItself 9 = .ok (.istore 4, 2) := by decide +kernel
theorem dX5_wouldNeedItself_11 : decode cX5_wouldNeedItself 11 = .ok (.iconst 0, 1) := by decide +kernel
theorem dX5_wouldNeedItself_12 : decode cX5_wouldNeedItself 12 = .ok (.istore 5, 2) := by decide +kernel
theorem dX5_wouldNeedItself_14 : decode cX5_wouldNeedItself 14 = .ok (.iload 5, 2) := by decide +kernel
theorem dX5_wouldNeedItself_16 : decode cX5_wouldNeedItself 16 = .ok (.bipush 8, 2) := by decide +kernel
theorem dX5_wouldNeedItself_18 : decode cX5_wouldNeedItself 18 = .ok (.if_icmp .ge 62, 3) := by decide +kernel
theorem dX5_wouldNeedItself_21 : decode cX5_wouldNeedItself 21 = .ok (.iconst 0, 1) := by decide +kernel
theorem dX5_wouldNeedItself_22 : decode cX5_wouldNeedItself 22 = .ok (.istore 6, 2) := by decide +kernel
theorem dX5_wouldNeedItself_24 : decode cX5_wouldNeedItself 24 = .ok (.iload 6, 2) := by decide +kernel
theorem dX5_wouldNeedItself_26 : decode cX5_wouldNeedItself 26 = .ok (.bipush 8, 2) := by decide +kernel
theorem dX5_wouldNeedItself_28 : decode cX5_wouldNeedItself 28 = .ok (.if_icmp .ge 46, 3) := by decide +kernel
theorem dX5_wouldNeedItself_31 : decode cX5_wouldNeedItself 31 = .ok (.iload 4, 2) := by decide +kernel
theorem dX5_wouldNeedItself_33 : decode cX5_wouldNeedItself 33 = .ok (.iload 6, 2) := by decide +kernel
theorem dX5_wouldNeedItself_35 : decode cX5_wouldNeedItself 35 = .ok (.ishr, 1) := by decide +kernel
theorem dX5_wouldNeedItself_36 : decode cX5_wouldNeedItself 36 = .ok (.iconst 1, 1) := by decide +kernel
theorem dX5_wouldNeedItself_37 : decode cX5_wouldNeedItself 37 = .ok (.iand, 1) := by decide +kernel
theorem dX5_wouldNeedItself_38 : decode cX5_wouldNeedItself 38 = .ok (.iconst 1, 1) := by decide +kernel
theorem dX5_wouldNeedItself_39 : decode cX5_wouldNeedItself 39 = .ok (.if_icmp .ne 29, 3) := by decide +kernel
theorem dX5_wouldNeedItself_42 : decode cX5_wouldNeedItself 42 = .ok (.iload 4, 2) := by decide +kernel
theorem dX5_wouldNeedItself_44 : decode cX5_wouldNeedItself 44 = .ok (.aload_n 0, 1) := by decide +kernel
theorem dX5_wouldNeedItself_45 : decode cX5_wouldNeedItself 45 = .ok (.getfield 9, 3) := by decide +kernel
theorem dX5_wouldNeedItself_48 : decode cX5_wouldNeedItself 48 = .ok (.iload 6, 2) := by decide +kernel
theorem dX5_wouldNeedItself_50 : decode cX5_wouldNeedItself 50 = .ok (.iaload, 1) := by decide +kernel
theorem dX5_wouldNeedItself_51 : decode cX5_wouldNeedItself 51 = .ok (.invokestatic 32, 3) := by decide +kernel
theorem dX5_wouldNeedItself_54 : decode cX5_wouldNeedItself 54 = .ok (.aload_n 0, 1) := by decide +kernel
theorem dX5_wouldNeedItself_55 : decode cX5_wouldNeedItself 55 = .ok (.getfield 19, 3) := by decide +kernel
theorem dX5_wouldNeedItself_58 : decode cX5_wouldNeedItself 58 = .ok (.iload 6, 2) := by decide +kernel
theorem dX5_wouldNeedItself_60 : decode cX5_wouldNeedItself 60 = .ok (.iaload, 1) := by decide +kernel
theorem dX5_wouldNeedItself_61 : decode cX5_wouldNeedItself 61 = .ok (.invokestatic 32, 3) := by decide +kernel
theorem dX5_wouldNeedItself_64 : decode cX5_wouldNeedItself 64 = .ok (.ior, 1) := by decide +kernel
theorem dX5_wouldNeedItself_65 : decode cX5_wouldNeedItself 65 = .ok (.ior, 1) := by decide +kernel
theorem dX5_wouldNeedItself_66 : decode cX5_wouldNeedItself 66 = .ok (.istore 4, 2) := by decide +kernel
theorem dX5_wouldNeedItself_68 : decode cX5_wouldNeedItself 68 = .ok (.iinc 6 1, 3) := by decide +kernel
theorem dX5_wouldNeedItself_71 : decode cX5_wouldNeedItself 71 = .ok (.goto (-47), 3) := by decide +kernel
theorem dX5_wouldNeedItself_74 : decode cX5_wouldNeedItself 74 = .ok (.iinc 5 1, 3) := by decide +kernel
theorem dX5_wouldNeedItself_77 : decode cX5_wouldNeedItself 77 = .ok (.goto (-63), 3) := by decide +kernel
theorem dX5_wouldNeedItself_80 : decode cX5_wouldNeedItself 80 = .ok (.iload 4, 2) := by decide +kernel
theorem dX5_wouldNeedItself_82 : decode cX5_wouldNeedItself 82 = .ok (.iload_n 1, 1) := by decide +kernel
theorem dX5_wouldNeedItself_83 : decode cX5_wouldNeedItself 83 = .ok (.ishr, 1) := by decide +kernel
theorem dX5_wouldNeedItself_84 : decode cX5_wouldNeedItself 84 = .ok (.iconst 1, 1) := by decide +kernel
theorem dX5_wouldNeedItself_85 : decode cX5_wouldNeedItself 85 = .ok (.iand, 1) := by decide +kernel
theorem dX5_wouldNeedItself_86 : decode cX5_wouldNeedItself 86 = .ok (.iconst 1, 1) := by decide +kernel
theorem dX5_wouldNeedItself_87 : decode cX5_wouldNeedItself 87 = .ok (.if_icmp .ne 7, 3) := by decide +kernel
theorem dX5_wouldNeedItself_90 : decode cX5_wouldNeedItself 90 = .ok (.iconst 1, 1) := by decide +kernel
theorem dX5_wouldNeedItself_91 : decode cX5_wouldNeedItself 91 = .ok (.goto 4, 3) := by decide +kernel
theorem dX5_wouldNeedItself_94 : decode cX5_wouldNeedItself 94 = .ok (.iconst 0, 1) := by decide +kernel
theorem dX5_wouldNeedItself_95 : decode cX5_wouldNeedItself 95 = .ok (.ireturn, 1) := by decide +kernel
theorem dX5_needOf_0 : decode cX5_needOf 0 = .ok (.iload_n 0, 1) := by decide +kernel
theorem dX5_needOf_1 : decode cX5_needOf 1 = .ok (.invokestatic 29, 3) := by decide +kernel
theorem dX5_needOf_4 : decode cX5_needOf 4 = .ok (.ifCond .eq 12, 3) := by decide +kernel
theorem dX5_needOf_7 : decode cX5_needOf 7 = .ok (.iconst 1, 1) := by decide +kernel
theorem dX5_needOf_8 : decode cX5_needOf 8 = .ok (.iload_n 0, 1) := by decide +kernel
theorem dX5_needOf_9 : decode cX5_needOf 9 = .ok (.bipush 100, 2) := by decide +kernel
theorem dX5_needOf_11 : decode cX5_needOf 11 = .ok (.isub, 1) := by decide +kernel
theorem dX5_needOf_12 : decode cX5_needOf 12 = .ok (.ishl, 1) := by decide +kernel
theorem dX5_needOf_13 : decode cX5_needOf 13 = .ok (.goto 4, 3) := by decide +kernel
theorem dX5_needOf_16 : decode cX5_needOf 16 = .ok (.iconst 0, 1) := by decide +kernel
theorem dX5_needOf_17 : decode cX5_needOf 17 = .ok (.ireturn, 1) := by decide +kernel
theorem dX5_putFormula_0 : decode cX5_putFormula 0 = .ok (.aload_n 0, 1) := by decide +kernel
theorem dX5_putFormula_1 : decode cX5_putFormula 1 = .ok (.getfield 9, 3) := by decide +kernel
theorem dX5_putFormula_4 : decode cX5_putFormula 4 = .ok (.iload_n 1, 1) := by decide +kernel
theorem dX5_putFormula_5 : decode cX5_putFormula 5 = .ok (.iload_n 2, 1) := by decide +kernel
theorem dX5_putFormula_6 : decode cX5_putFormula 6 = .ok (.iastore, 1) := by decide +kernel
theorem dX5_putFormula_7 : decode cX5_putFormula 7 = .ok (.aload_n 0, 1) := by decide +kernel
theorem dX5_putFormula_8 : decode cX5_putFormula 8 = .ok (.getfield 15, 3) := by decide +kernel
theorem dX5_putFormula_11 : decode cX5_putFormula 11 = .ok (.iload_n 1, 1) := by decide +kernel
theorem dX5_putFormula_12 : decode cX5_putFormula 12 = .ok (.iload_n 3, 1) := by decide +kernel
theorem dX5_putFormula_13 : decode cX5_putFormula 13 = .ok (.castore, 1) := by decide +kernel
theorem dX5_putFormula_14 : decode cX5_putFormula 14 = .ok (.aload_n 0, 1) := by decide +kernel
theorem dX5_putFormula_15 : decode cX5_putFormula 15 = .ok (.getfield 19, 3) := by decide +kernel
theorem dX5_putFormula_18 : decode cX5_putFormula 18 = .ok (.iload_n 1, 1) := by decide +kernel
theorem dX5_putFormula_19 : decode cX5_putFormula 19 = .ok (.iload 4, 2) := by decide +kernel
theorem dX5_putFormula_21 : decode cX5_putFormula 21 = .ok (.iastore, 1) := by decide +kernel
theorem dX5_putFormula_22 : decode cX5_putFormula 22 = .ok (.iconst 0, 1) := by decide +kernel
theorem dX5_putFormula_23 : decode cX5_putFormula 23 = .ok (.istore 5, 2) := by decide +kernel
theorem dX5_putFormula_25 : decode cX5_putFormula 25 = .ok (.iload 5, 2) := by decide +kernel
theorem dX5_putFormula_27 : decode cX5_putFormula 27 = .ok (.bipush 8, 2) := by decide +kernel
theorem dX5_putFormula_29 : decode cX5_putFormula 29 = .ok (.if_icmp .ge 41, 3) := by decide +kernel
theorem dX5_putFormula_32 : decode cX5_putFormula 32 = .ok (.iconst 0, 1) := by decide +kernel
theorem dX5_putFormula_33 : decode cX5_putFormula 33 = .ok (.istore 6, 2) := by decide +kernel
theorem dX5_putFormula_35 : decode cX5_putFormula 35 = .ok (.iload 6, 2) := by decide +kernel
theorem dX5_putFormula_37 : decode cX5_putFormula 37 = .ok (.bipush 8, 2) := by decide +kernel
theorem dX5_putFormula_39 : decode cX5_putFormula 39 = .ok (.if_icmp .ge 25, 3) := by decide +kernel
theorem dX5_putFormula_42 : decode cX5_putFormula 42 = .ok (.aload_n 0, 1) := by decide +kernel
theorem dX5_putFormula_43 : decode cX5_putFormula 43 = .ok (.getfield 22, 3) := by decide +kernel
theorem dX5_putFormula_46 : decode cX5_putFormula 46 = .ok (.iload 6, 2) := by decide +kernel
theorem dX5_putFormula_48 : decode cX5_putFormula 48 = .ok (.aload_n 0, 1) := by decide +kernel
theorem dX5_putFormula_49 : decode cX5_putFormula 49 = .ok (.iload 6, 2) := by decide +kernel
theorem dX5_putFormula_51 : decode cX5_putFormula 51 = .ok (.invokevirtual 36, 3) := by decide +kernel
theorem dX5_putFormula_54 : decode cX5_putFormula 54 = .ok (.invokestatic 39, 3) := by decide +kernel
theorem dX5_putFormula_57 : decode cX5_putFormula 57 = .ok (.iastore, 1) := by decide +kernel
theorem dX5_putFormula_58 : decode cX5_putFormula 58 = .ok (.iinc 6 1, 3) := by decide +kernel
theorem dX5_putFormula_61 : decode cX5_putFormula 61 = .ok (.goto (-26), 3) := by decide +kernel
theorem dX5_putFormula_64 : decode cX5_putFormula 64 = .ok (.iinc 5 1, 3) := by decide +kernel
theorem dX5_putFormula_67 : decode cX5_putFormula 67 = .ok (.goto (-42), 3) := by decide +kernel
theorem dX5_putFormula_70 : decode cX5_putFormula 70 = .ok (.return_, 1) := by decide +kernel
theorem dX5_outcome_0 : decode cX5_outcome 0 = .ok (.aload_n 0, 1) := by decide +kernel
theorem dX5_outcome_1 : decode cX5_outcome 1 = .ok (.aload_n 0, 1) := by decide +kernel
theorem dX5_outcome_2 : decode cX5_outcome 2 = .ok (.getfield 9, 3) := by decide +kernel
theorem dX5_outcome_5 : decode cX5_outcome 5 = .ok (.iload_n 1, 1) := by decide +kernel
theorem dX5_outcome_6 : decode cX5_outcome 6 = .ok (.iaload, 1) := by decide +kernel
theorem dX5_outcome_7 : decode cX5_outcome 7 = .ok (.invokevirtual 42, 3) := by decide +kernel
theorem dX5_outcome_10 : decode cX5_outcome 10 = .ok (.istore_n 2, 1) := by decide +kernel
theorem dX5_outcome_11 : decode cX5_outcome 11 = .ok (.aload_n 0, 1) := by decide +kernel
theorem dX5_outcome_12 : decode cX5_outcome 12 = .ok (.aload_n 0, 1) := by decide +kernel
theorem dX5_outcome_13 : decode cX5_outcome 13 = .ok (.getfield 19, 3) := by decide +kernel
theorem dX5_outcome_16 : decode cX5_outcome 16 = .ok (.iload_n 1, 1) := by decide +kernel
theorem dX5_outcome_17 : decode cX5_outcome 17 = .ok (.iaload, 1) := by decide +kernel
theorem dX5_outcome_18 : decode cX5_outcome 18 = .ok (.invokevirtual 42, 3) := by decide +kernel
theorem dX5_outcome_21 : decode cX5_outcome 21 = .ok (.istore_n 3, 1) := by decide +kernel
theorem dX5_outcome_22 : decode cX5_outcome 22 = .ok (.aload_n 0, 1) := by decide +kernel
theorem dX5_outcome_23 : decode cX5_outcome 23 = .ok (.getfield 15, 3) := by decide +kernel
theorem dX5_outcome_26 : decode cX5_outcome 26 = .ok (.iload_n 1, 1) := by decide +kernel
theorem dX5_outcome_27 : decode cX5_outcome 27 = .ok (.caload, 1) := by decide +kernel
theorem dX5_outcome_28 : decode cX5_outcome 28 = .ok (.bipush 42, 2) := by decide +kernel
theorem dX5_outcome_30 : decode cX5_outcome 30 = .ok (.if_icmp .ne 7, 3) := by decide +kernel
theorem dX5_outcome_33 : decode cX5_outcome 33 = .ok (.iload_n 2, 1) := by decide +kernel
theorem dX5_outcome_34 : decode cX5_outcome 34 = .ok (.iload_n 3, 1) := by decide +kernel
theorem dX5_outcome_35 : decode cX5_outcome 35 = .ok (.imul, 1) := by decide +kernel
theorem dX5_outcome_36 : decode cX5_outcome 36 = .ok (.ireturn, 1) := by decide +kernel
theorem dX5_outcome_37 : decode cX5_outcome 37 = .ok (.aload_n 0, 1) := by decide +kernel
theorem dX5_outcome_38 : decode cX5_outcome 38 = .ok (.getfield 15, 3) := by decide +kernel
theorem dX5_outcome_41 : decode cX5_outcome 41 = .ok (.iload_n 1, 1) := by decide +kernel
theorem dX5_outcome_42 : decode cX5_outcome 42 = .ok (.caload, 1) := by decide +kernel
theorem dX5_outcome_43 : decode cX5_outcome 43 = .ok (.bipush 45, 2) := by decide +kernel
theorem dX5_outcome_45 : decode cX5_outcome 45 = .ok (.if_icmp .ne 9, 3) := by decide +kernel
theorem dX5_outcome_48 : decode cX5_outcome 48 = .ok (.iload_n 2, 1) := by decide +kernel
theorem dX5_outcome_49 : decode cX5_outcome 49 = .ok (.iload_n 3, 1) := by decide +kernel
theorem dX5_outcome_50 : decode cX5_outcome 50 = .ok (.isub, 1) := by decide +kernel
theorem dX5_outcome_51 : decode cX5_outcome 51 = .ok (.goto 6, 3) := by decide +kernel
theorem dX5_outcome_54 : decode cX5_outcome 54 = .ok (.iload_n 2, 1) := by decide +kernel
theorem dX5_outcome_55 : decode cX5_outcome 55 = .ok (.iload_n 3, 1) := by decide +kernel
theorem dX5_outcome_56 : decode cX5_outcome 56 = .ok (.iadd, 1) := by decide +kernel
theorem dX5_outcome_57 : decode cX5_outcome 57 = .ok (.ireturn, 1) := by decide +kernel
theorem dX5_cut_0 : decode cX5_cut 0 = .ok (.bipush (-99), 2) := by decide +kernel
theorem dX5_cut_2 : decode cX5_cut 2 = .ok (.bipush 99, 2) := by decide +kernel
theorem dX5_cut_4 : decode cX5_cut 4 = .ok (.iload_n 0, 1) := by decide +kernel
theorem dX5_cut_5 : decode cX5_cut 5 = .ok (.invokestatic 45, 3) := by decide +kernel
theorem dX5_cut_8 : decode cX5_cut 8 = .ok (.invokestatic 51, 3) := by decide +kernel
theorem dX5_cut_11 : decode cX5_cut 11 = .ok (.ireturn, 1) := by decide +kernel
theorem dX6_init_0 : decode cX6_init 0 = .ok (.aload_n 0, 1) := by decide +kernel
theorem dX6_init_1 : decode cX6_init 1 = .ok (.invokespecial 3, 3) := by decide +kernel
theorem dX6_init_4 : decode cX6_init 4 = .ok (.aload_n 0, 1) := by decide +kernel
theorem dX6_init_5 : decode cX6_init 5 = .ok (.bipush 6, 2) := by decide +kernel
theorem dX6_init_7 : decode cX6_init 7 = .ok (.newarray .boolean, 2) := by decide +kernel
theorem dX6_init_9 : decode cX6_init 9 = .ok (.putfield 9, 3) := by decide +kernel
theorem dX6_init_12 : decode cX6_init 12 = .ok (.aload_n 0, 1) := by decide +kernel
theorem dX6_init_13 : decode cX6_init 13 = .ok (.bipush 6, 2) := by decide +kernel
theorem dX6_init_15 : decode cX6_init 15 = .ok (.anewarray 15, 3) := by decide +kernel
theorem dX6_init_18 : decode cX6_init 18 = .ok (.putfield 17, 3) := by decide +kernel
theorem dX6_init_21 : decode cX6_init 21 = .ok (.aload_n 0, 1) := by decide +kernel
theorem dX6_init_22 : decode cX6_init 22 = .ok (.bipush 18, 2) := by decide +kernel
theorem dX6_init_24 : decode cX6_init 24 = .ok (.newarray .int, 2) := by decide +kernel
theorem dX6_init_26 : decode cX6_init 26 = .ok (.putfield 21, 3) := by decide +kernel
theorem dX6_init_29 : decode cX6_init 29 = .ok (.aload_n 0, 1) := by decide +kernel
theorem dX6_init_30 : decode cX6_init 30 = .ok (.bipush 12, 2) := by decide +kernel
theorem dX6_init_32 : decode cX6_init 32 = .ok (.newarray .int, 2) := by decide +kernel
theorem dX6_init_34 : decode cX6_init 34 = .ok (.putfield 25, 3) := by decide +kernel
theorem dX6_init_37 : decode cX6_init 37 = .ok (.aload_n 0, 1) := by decide +kernel
theorem dX6_init_38 : decode cX6_init 38 = .ok (.bipush 12, 2) := by decide +kernel
theorem dX6_init_40 : decode cX6_init 40 = .ok (.newarray .int, 2) := by decide +kernel
theorem dX6_init_42 : decode cX6_init 42 = .ok (.putfield 28, 3) := by decide +kernel
theorem dX6_init_45 : decode cX6_init 45 = .ok (.aload_n 0, 1) := by decide +kernel
theorem dX6_init_46 : decode cX6_init 46 = .ok (.bipush 12, 2) := by decide +kernel
theorem dX6_init_48 : decode cX6_init 48 = .ok (.newarray .int, 2) := by decide +kernel
theorem dX6_init_50 : decode cX6_init 50 = .ok (.putfield 31, 3) := by decide +kernel
theorem dX6_init_53 : decode cX6_init 53 = .ok (.aload_n 0, 1) := by decide +kernel
theorem dX6_init_54 : decode cX6_init 54 = .ok (.bipush 12, 2) := by decide +kernel
theorem dX6_init_56 : decode cX6_init 56 = .ok (.newarray .int, 2) := by decide +kernel
theorem dX6_init_58 : decode cX6_init 58 = .ok (.putfield 34, 3) := by decide +kernel
theorem dX6_init_61 : decode cX6_init 61 = .ok (.iconst 0, 1) := by decide +kernel
theorem dX6_init_62 : decode cX6_init 62 = .ok (.istore_n 1, 1) := by decide +kernel
theorem dX6_init_63 : decode cX6_init 63 = .ok (.iload_n 1, 1) := by decide +kernel
theorem dX6_init_64 : decode cX6_init 64 = .ok (.bipush 6, 2) := by decide +kernel
theorem dX6_init_66 : decode cX6_init 66 = .ok (.if_icmp .ge 22, 3) := by decide +kernel
theorem dX6_init_69 : decode cX6_init 69 = .ok (.aload_n 0, 1) := by decide +kernel
theorem dX6_init_70 : decode cX6_init 70 = .ok (.getfield 17, 3) := by decide +kernel
theorem dX6_init_73 : decode cX6_init 73 = .ok (.iload_n 1, 1) := by decide +kernel
theorem dX6_init_74 : decode cX6_init 74 = .ok (.new 15, 3) := by decide +kernel
theorem dX6_init_77 : decode cX6_init 77 = .ok (.dup, 1) := by decide +kernel
theorem dX6_init_78 : decode cX6_init 78 = .ok (.invokespecial 37, 3) := by decide +kernel
theorem dX6_init_81 : decode cX6_init 81 = .ok (.aastore, 1) := by decide +kernel
theorem dX6_init_82 : decode cX6_init 82 = .ok (.iinc 1 1, 3) := by decide +kernel
theorem dX6_init_85 : decode cX6_init 85 = .ok (.goto (-22), 3) := by decide +kernel
theorem dX6_init_88 : decode cX6_init 88 = .ok (.return_, 1) := by decide +kernel
theorem dX6_isPart_0 : decode cX6_isPart 0 = .ok (.iload_n 1, 1) := by decide +kernel
theorem dX6_isPart_1 : decode cX6_isPart 1 = .ok (.ifCond .lt 15, 3) := by decide +kernel
theorem dX6_isPart_4 : decode cX6_isPart 4 = .ok (.iload_n 1, 1) := by decide +kernel
theorem dX6_isPart_5 : decode cX6_isPart 5 = .ok (.aload_n 0, 1) := by decide +kernel
theorem dX6_isPart_6 : decode cX6_isPart 6 = .ok (.getfield 38, 3) := by decide +kernel
theorem dX6_isPart_9 : decode cX6_isPart 9 = .ok (.if_icmp .ge 7, 3) := by decide +kernel
theorem dX6_isPart_12 : decode cX6_isPart 12 = .ok (.iconst 1, 1) := by decide +kernel
theorem dX6_isPart_13 : decode cX6_isPart 13 = .ok (.goto 4, 3) := by decide +kernel
theorem dX6_isPart_16 : decode cX6_isPart 16 = .ok (.iconst 0, 1) := by decide +kernel
theorem dX6_isPart_17 : decode cX6_isPart 17 = .ok (.ireturn, 1) := by decide +kernel
theorem dX6_append_0 : decode cX6_append 0 = .ok (.aload_n 0, 1) := by decide +kernel
theorem dX6_append_1 : decode cX6_append 1 = .ok (.getfield 38, 3) := by decide +kernel
theorem dX6_append_4 : decode cX6_append 4 = .ok (.istore 4, 2) := by decide +kernel
theorem dX6_append_6 : decode cX6_append 6 = .ok (.aload_n 0, 1) := by decide +kernel
theorem dX6_append_7 : decode cX6_append 7 = .ok (.getfield 21, 3) := by decide +kernel
theorem dX6_append_10 : decode cX6_append 10 = .ok (.iload 4, 2) := by decide +kernel
theorem dX6_append_12 : decode cX6_append 12 = .ok (.iconst 3, 1) := by decide +kernel
theorem dX6_append_13 : decode cX6_append 13 = .ok (.imul, 1) := by decide +kernel
theorem dX6_append_14 : decode cX6_append 14 = .ok (.iload_n 1, 1) := by decide +kernel
theorem dX6_append_15 : decode cX6_append 15 = .ok (.iastore, 1) := by decide +kernel
theorem dX6_append_16 : decode cX6_append 16 = .ok (.aload_n 0, 1) := by decide +kernel
theorem dX6_append_17 : decode cX6_append 17 = .ok (.getfield 21, 3) := by decide +kernel
theorem dX6_append_20 : decode cX6_append 20 = .ok (.iload 4, 2) := by decide +kernel
theorem dX6_append_22 : decode cX6_append 22 = .ok (.iconst 3, 1) := by decide +kernel
theorem dX6_append_23 : decode cX6_append 23 = .ok (.imul, 1) := by decide +kernel
theorem dX6_append_24 : decode cX6_append 24 = .ok (.iconst 1, 1) := by decide +kernel
theorem dX6_append_25 : decode cX6_append 25 = .ok (.iadd, 1) := by decide +kernel
theorem dX6_append_26 : decode cX6_append 26 = .ok (.iload_n 2, 1) := by decide +kernel
theorem dX6_append_27 : decode cX6_append 27 = .ok (.iastore, 1) := by decide +kernel
theorem dX6_append_28 : decode cX6_append 28 = .ok (.aload_n 0, 1) := by decide +kernel
theorem dX6_append_29 : decode cX6_append 29 = .ok (.getfield 21, 3) := by decide +kernel
theorem dX6_append_32 : decode cX6_append 32 = .ok (.iload 4, 2) := by decide +kernel
theorem dX6_append_34 : decode cX6_append 34 = .ok (.iconst 3, 1) := by decide +kernel
theorem dX6_append_35 : decode cX6_append 35 = .ok (.imul, 1) := by decide +kernel
theorem dX6_append_36 : decode cX6_append 36 = .ok (.iconst 2, 1) := by decide +kernel
theorem dX6_append_37 : decode cX6_append 37 = .ok (.iadd, 1) := by decide +kernel
theorem dX6_append_38 : decode cX6_append 38 = .ok (.iload_n 3, 1) := by decide +kernel
theorem dX6_append_39 : decode cX6_append 39 = .ok (.iastore, 1) := by decide +kernel
theorem dX6_append_40 : decode cX6_append 40 = .ok (.aload_n 0, 1) := by decide +kernel
theorem dX6_append_41 : decode cX6_append 41 = .ok (.dup, 1) := by decide +kernel
theorem dX6_append_42 : decode cX6_append 42 = .ok (.getfield 38, 3) := by decide +kernel
theorem dX6_append_45 : decode cX6_append 45 = .ok (.iconst 1, 1) := by decide +kernel
theorem dX6_append_46 : decode cX6_append 46 = .ok (.iadd, 1) := by decide +kernel
theorem dX6_append_47 : decode cX6_append 47 = .ok (.putfield 38, 3) := by decide +kernel
theorem dX6_append_50 : decode cX6_append 50 = .ok (.iload 4, 2) := by decide +kernel
theorem dX6_append_52 : decode cX6_append 52 = .ok (.ireturn, 1) := by decide +kernel
theorem dX6_moveAlong_0 : decode cX6_moveAlong 0 = .ok (.iload_n 1, 1) := by decide +kernel
theorem dX6_moveAlong_1 : decode cX6_moveAlong 1 = .ok (.iconst (-1), 1) := by decide +kernel
theorem dX6_moveAlong_2 : decode cX6_moveAlong 2 = .ok (.if_icmp .ne 7, 3) := by decide +kernel
theorem dX6_moveAlong_5 : decode cX6_moveAlong 5 = .ok (.iconst 0, 1) := by decide +kernel
theorem dX6_moveAlong_6 : decode cX6_moveAlong 6 = .ok (.goto 13, 3) := by decide +kernel
theorem dX6_moveAlong_9 : decode cX6_moveAlong 9 = .ok (.aload_n 0, 1) := by decide +kernel
theorem dX6_moveAlong_10 : decode cX6_moveAlong 10 = .ok (.getfield 21, 3) := by decide +kernel
theorem dX6_moveAlong_13 : decode cX6_moveAlong 13 = .ok (.iload_n 1, 1) := by decide +kernel
theorem dX6_moveAlong_14 : decode cX6_moveAlong 14 = .ok (.iconst 3, 1) := by decide +kernel
theorem dX6_moveAlong_15 : decode cX6_moveAlong 15 = .ok (.imul, 1) := by decide +kernel
theorem dX6_moveAlong_16 : decode cX6_moveAlong 16 = .ok (.iload_n 2, 1) := by decide +kernel
theorem dX6_moveAlong_17 : decode cX6_moveAlong 17 = .ok (.iadd, 1) := by decide +kernel
theorem dX6_moveAlong_18 : decode cX6_moveAlong 18 = .ok (.iaload, 1) := by decide +kernel
theorem dX6_moveAlong_19 : decode cX6_moveAlong 19 = .ok (.ireturn, 1) := by decide +kernel
theorem dX6_apart_0 : decode cX6_apart 0 = .ok (.aload_n 0, 1) := by decide +kernel
theorem dX6_apart_1 : decode cX6_apart 1 = .ok (.iload_n 2, 1) := by decide +kernel
theorem dX6_apart_2 : decode cX6_apart 2 = .ok (.iload_n 1, 1) := by decide +kernel
theorem dX6_apart_3 : decode cX6_apart 3 = .ok (.invokevirtual 42, 3) := by decide +kernel
theorem dX6_apart_6 : decode cX6_apart 6 = .ok (.aload_n 0, 1) := by decide +kernel
theorem dX6_apart_7 : decode cX6_apart 7 = .ok (.iload_n 3, 1) := by decide +kernel
theorem dX6_apart_8 : decode cX6_apart 8 = .ok (.iload_n 1, 1) := by decide +kernel
theorem dX6_apart_9 : decode cX6_apart 9 = .ok (.invokevirtual 42, 3) := by decide +kernel
theorem dX6_apart_12 : decode cX6_apart 12 = .ok (.isub, 1) := by decide +kernel
theorem dX6_apart_13 : decode cX6_apart 13 = .ok (.ireturn, 1) := by decide +kernel
theorem dX6_bitOf_0 : decode cX6_bitOf 0 = .ok (.iconst 1, 1) := by decide +kernel
theorem dX6_bitOf_1 : decode cX6_bitOf 1 = .ok (.iload_n 0, 1) := by decide +kernel
theorem dX6_bitOf_2 : decode cX6_bitOf 2 = .ok (.iconst (-1), 1) := by decide +kernel
theorem dX6_bitOf_3 : decode cX6_bitOf 3 = .ok (.isub, 1) := by decide +kernel
theorem dX6_bitOf_4 : decode cX6_bitOf 4 = .ok (.ishl, 1) := by decide +kernel
theorem dX6_bitOf_5 : decode cX6_bitOf 5 = .ok (.ireturn, 1) := by decide +kernel
theorem dX6_groupOf_0 : decode cX6_groupOf 0 = .ok (.iload_n 2, 1) := by decide +kernel
theorem dX6_groupOf_1 : decode cX6_groupOf 1 = .ok (.invokestatic 46, 3) := by decide +kernel
theorem dX6_groupOf_4 : decode cX6_groupOf 4 = .ok (.istore_n 3, 1) := by decide +kernel
theorem dX6_groupOf_5 : decode cX6_groupOf 5 = .ok (.iconst 0, 1) := by decide +kernel
theorem dX6_groupOf_6 : decode cX6_groupOf 6 = .ok (.istore 4, 2) := by decide +kernel
theorem dX6_groupOf_8 : decode cX6_groupOf 8 = .ok (.iload 4, 2) := by decide +kernel
theorem dX6_groupOf_10 : decode cX6_groupOf 10 = .ok (.aload_n 0, 1) := by decide +kernel
theorem dX6_groupOf_11 : decode cX6_groupOf 11 = .ok (.getfield 50, 3) := by decide +kernel
theorem dX6_groupOf_14 : decode cX6_groupOf 14 = .ok (.if_icmp .ge 73, 3) := by decide +kernel
theorem dX6_groupOf_17 : decode cX6_groupOf 17 = .ok (.iconst 0, 1) := by decide +kernel
theorem dX6_groupOf_18 : decode cX6_groupOf 18 = .ok (.istore 5, 2) := by decide +kernel
theorem dX6_groupOf_20 : decode cX6_groupOf 20 = .ok (.iload 5, 2) := by decide +kernel
theorem dX6_groupOf_22 : decode cX6_groupOf 22 = .ok (.aload_n 0, 1) := by decide +kernel
theorem dX6_groupOf_23 : decode cX6_groupOf 23 = .ok (.getfield 50, 3) := by decide +kernel
theorem dX6_groupOf_26 : decode cX6_groupOf 26 = .ok (.if_icmp .ge 55, 3) := by decide +kernel
theorem dX6_groupOf_29 : decode cX6_groupOf 29 = .ok (.aload_n 0, 1) := by decide +kernel
theorem dX6_groupOf_30 : decode cX6_groupOf 30 = .ok (.getfield 28, 3) := by decide +kernel
theorem dX6_groupOf_33 : decode cX6_groupOf 33 = .ok (.iload 5, 2) := by decide +kernel
theorem dX6_groupOf_35 : decode cX6_groupOf 35 = .ok (.iaload, 1) := by decide +kernel
theorem dX6_groupOf_36 : decode cX6_groupOf 36 = .ok (.invokestatic 46, 3) := by decide +kernel
theorem dX6_groupOf_39 : decode cX6_groupOf 39 = .ok (.aload_n 0, 1) := by decide +kernel
theorem dX6_groupOf_40 : decode cX6_groupOf 40 = .ok (.getfield 31, 3) := by decide +kernel
theorem dX6_groupOf_43 : decode cX6_groupOf 43 = .ok (.iload 5, 2) := by decide +kernel
theorem dX6_groupOf_45 : decode cX6_groupOf 45 = .ok (.iaload, 1) := by decide +kernel
theorem dX6_groupOf_46 : decode cX6_groupOf 46 = .ok (.invokestatic 46, 3) := by decide +kernel
theorem dX6_groupOf_49 : decode cX6_groupOf 49 = .ok (.ior, 1) := by decide +kernel
theorem dX6_groupOf_50 : decode cX6_groupOf 50 = .ok (.istore 6, 2) := by decide +kernel
theorem dX6_groupOf_52 : decode cX6_groupOf 52 = .ok (.aload_n 0, 1) := by decide +kernel
theorem dX6_groupOf_53 : decode cX6_groupOf 53 = .ok (.getfield 25, 3) := by decide +kernel
theorem dX6_groupOf_56 : decode cX6_groupOf 56 = .ok (.iload 5, 2) := by decide +kernel
theorem dX6_groupOf_58 : decode cX6_groupOf 58 = .ok (.iaload, 1) := by decide +kernel
theorem dX6_groupOf_59 : decode cX6_groupOf 59 = .ok (.iload_n 1, 1) := by decide +kernel
theorem dX6_groupOf_60 : decode cX6_groupOf 60 = .ok (.if_icmp .ne 15, 3) := by decide +kernel
theorem dX6_groupOf_63 : decode cX6_groupOf 63 = .ok (.iload_n 3, 1) := by decide +kernel
theorem dX6_groupOf_64 : decode cX6_groupOf 64 = .ok (.iload 6, 2) := by decide +kernel
theorem dX6_groupOf_66 : decode cX6_groupOf 66 = .ok (.iand, 1) := by decide +kernel
theorem dX6_groupOf_67 : decode cX6_groupOf 67 = .ok (.ifCond .eq 8, 3) := by decide +kernel
theorem dX6_groupOf_70 : decode cX6_groupOf 70 = .ok (.iload_n 3, 1) := by decide +kernel
theorem dX6_groupOf_71 : decode cX6_groupOf 71 = .ok (.iload 6, 2) := by decide +kernel
theorem dX6_groupOf_73 : decode cX6_groupOf 73 = .ok (.ior, 1) := by decide +kernel
theorem dX6_groupOf_74 : decode cX6_groupOf 74 = .ok (.istore_n 3, 1) := by decide +kernel
theorem dX6_groupOf_75 : decode cX6_groupOf 75 = .ok (.iinc 5 1, 3) := by decide +kernel
theorem dX6_groupOf_78 : decode cX6_groupOf 78 = .ok (.goto (-58), 3) := by decide +kernel
theorem dX6_groupOf_81 : decode cX6_groupOf 81 = .ok (.iinc 4 1, 3) := by decide +kernel
theorem dX6_groupOf_84 : decode cX6_groupOf 84 = .ok (.goto (-76), 3) := by decide +kernel
theorem dX6_groupOf_87 : decode cX6_groupOf 87 = .ok (.iload_n 3, 1) := by decide +kernel
theorem dX6_groupOf_88 : decode cX6_groupOf 88 = .ok (.ireturn, 1) := by decide +kernel
theorem dX6_areTied_0 : decode cX6_areTied 0 = .ok (.aload_n 0, 1) := by decide +kernel
theorem dX6_areTied_1 : decode cX6_areTied 1 = .ok (.iload_n 1, 1) := by decide +kernel
theorem dX6_areTied_2 : decode cX6_areTied 2 = .ok (.iload_n 2, 1) := by decide +kernel
theorem dX6_areTied_3 : decode cX6_areTied 3 = .ok (.invokevirtual 53, 3) := by decide +kernel
theorem dX6_areTied_6 : decode cX6_areTied 6 = .ok (.iload_n 3, 1) := by decide +kernel
theorem dX6_areTied_7 : decode cX6_areTied 7 = .ok (.invokestatic 46, 3) := by decide +kernel
theorem dX6_areTied_10 : decode cX6_areTied 10 = .ok (.iand, 1) := by decide +kernel
theorem dX6_areTied_11 : decode cX6_areTied 11 = .ok (.ifCond .eq 7, 3) := by decide +kernel
theorem dX6_areTied_14 : decode cX6_areTied 14 = .ok (.iconst 1, 1) := by decide +kernel
theorem dX6_areTied_15 : decode cX6_areTied 15 = .ok (.goto 4, 3) := by decide +kernel
theorem dX6_areTied_18 : decode cX6_areTied 18 = .ok (.iconst 0, 1) := by decide +kernel
theorem dX6_areTied_19 : decode cX6_areTied 19 = .ok (.ireturn, 1) := by decide +kernel
theorem dX6_slideGroup_0 : decode cX6_slideGroup 0 = .ok (.iconst 0, 1) := by decide +kernel
theorem dX6_slideGroup_1 : decode cX6_slideGroup 1 = .ok (.istore 4, 2) := by decide +kernel
theorem dX6_slideGroup_3 : decode cX6_slideGroup 3 = .ok (.iconst 0, 1) := by decide +kernel
theorem dX6_slideGroup_4 : decode cX6_slideGroup 4 = .ok (.istore 5, 2) := by decide +kernel
theorem dX6_slideGroup_6 : decode cX6_slideGroup 6 = .ok (.iload 5, 2) := by decide +kernel
theorem dX6_slideGroup_8 : decode cX6_slideGroup 8 = .ok (.aload_n 0, 1) := by decide +kernel
theorem dX6_slideGroup_9 : decode cX6_slideGroup 9 = .ok (.getfield 38, 3) := by decide +kernel
theorem dX6_slideGroup_12 : decode cX6_slideGroup 12 = .ok (.if_icmp .ge 41, 3) := by decide +kernel
theorem dX6_slideGroup_15 : decode cX6_slideGroup 15 = .ok (.iload_n 3, 1) := by decide +kernel
theorem dX6_slideGroup_16 : decode cX6_slideGroup 16 = .ok (.ifCond .eq 37, 3) := by decide +kernel
theorem dX6_slideGroup_19 : decode cX6_slideGroup 19 = .ok (.iload_n 2, 1) := by decide +kernel
theorem dX6_slideGroup_20 : decode cX6_slideGroup 20 = .ok (.iload 5, 2) := by decide +kernel
theorem dX6_slideGroup_22 : decode cX6_slideGroup 22 = .ok (.invokestatic 46, 3) := by decide +kernel
theorem dX6_slideGroup_25 : decode cX6_slideGroup 25 = .ok (.iand, 1) := by decide +kernel
theorem dX6_slideGroup_26 : decode cX6_slideGroup 26 = .ok (.ifCond .eq 21, 3) := by decide +kernel
theorem dX6_slideGroup_29 : decode cX6_slideGroup 29 = .ok (.aload_n 0, 1) := by decide +kernel
theorem dX6_slideGroup_30 : decode cX6_slideGroup 30 = .ok (.getfield 21, 3) := by decide +kernel
theorem dX6_slideGroup_33 : decode cX6_slideGroup 33 = .ok (.iload 5, 2) := by decide +kernel
theorem dX6_slideGroup_35 : decode cX6_slideGroup 35 = .ok (.iconst 3, 1) := by decide +kernel
theorem dX6_slideGroup_36 : decode cX6_slideGroup 36 = .ok (.imul, 1) := by decide +kernel
theorem dX6_slideGroup_37 : decode cX6_slideGroup 37 = .ok (.iload_n 1, 1) := by decide +kernel
theorem dX6_slideGroup_38 : decode cX6_slideGroup 38 = .ok (.iadd, 1) := by decide +kernel
theorem dX6_slideGroup_39 : decode cX6_slideGroup 39 = .ok (.dup2, 1) := by decide +kernel
theorem dX6_slideGroup_40 : decode cX6_slideGroup 40 = .ok (.iaload, 1) := by decide +kernel
theorem dX6_slideGroup_41 : decode cX6_slideGroup 41 = .ok (.iload_n 3, 1) := by decide +kernel
theorem dX6_slideGroup_42 : decode cX6_slideGroup 42 = .ok (.iadd, 1) := by decide +kernel
theorem dX6_slideGroup_43 : decode cX6_slideGroup 43 = .ok (.iastore, 1) := by decide +kernel
theorem dX6_slideGroup_44 : decode cX6_slideGroup 44 = .ok (.iinc 4 1, 3) := by decide +kernel
theorem dX6_slideGroup_47 : decode cX6_slideGroup 47 = .ok (.iinc 5 1, 3) := by decide +kernel
theorem dX6_slideGroup_50 : decode cX6_slideGroup 50 = .ok (.goto (-44), 3) := by decide +kernel
theorem dX6_slideGroup_53 : decode cX6_slideGroup 53 = .ok (.iload 4, 2) := by decide +kernel
theorem dX6_slideGroup_55 : decode cX6_slideGroup 55 = .ok (.ireturn, 1) := by decide +kernel
theorem dX6_tie_0 : decode cX6_tie 0 = .ok (.iload 4, 2) := by decide +kernel
theorem dX6_tie_2 : decode cX6_tie 2 = .ok (.aload_n 0, 1) := by decide +kernel
theorem dX6_tie_3 : decode cX6_tie 3 = .ok (.iload_n 1, 1) := by decide +kernel
theorem dX6_tie_4 : decode cX6_tie 4 = .ok (.iload_n 2, 1) := by decide +kernel
theorem dX6_tie_5 : decode cX6_tie 5 = .ok (.iload_n 3, 1) := by decide +kernel
theorem dX6_tie_6 : decode cX6_tie 6 = .ok (.invokevirtual 56, 3) := by decide +kernel
theorem dX6_tie_9 : decode cX6_tie 9 = .ok (.isub, 1) := by decide +kernel
theorem dX6_tie_10 : decode cX6_tie 10 = .ok (.istore 5, 2) := by decide +kernel
theorem dX6_tie_12 : decode cX6_tie 12 = .ok (.aload_n 0, 1) := by decide +kernel
theorem dX6_tie_13 : decode cX6_tie 13 = .ok (.iload_n 1, 1) := by decide +kernel
theorem dX6_tie_14 : decode cX6_tie 14 = .ok (.iload_n 2, 1) := by decide +kernel
theorem dX6_tie_15 : decode cX6_tie 15 = .ok (.iconst (-1), 1) := by decide +kernel
theorem dX6_tie_16 : decode cX6_tie 16 = .ok (.invokevirtual 60, 3) := by decide +kernel
theorem dX6_tie_19 : decode cX6_tie 19 = .ok (.istore 6, 2) := by decide +kernel
theorem dX6_tie_21 : decode cX6_tie 21 = .ok (.aload_n 0, 1) := by decide +kernel
theorem dX6_tie_22 : decode cX6_tie 22 = .ok (.iload_n 1, 1) := by decide +kernel
theorem dX6_tie_23 : decode cX6_tie 23 = .ok (.iload 6, 2) := by decide +kernel
theorem dX6_tie_25 : decode cX6_tie 25 = .ok (.ifCond .eq 7, 3) := by decide +kernel
theorem dX6_tie_28 : decode cX6_tie 28 = .ok (.iload_n 3, 1) := by decide +kernel
theorem dX6_tie_29 : decode cX6_tie 29 = .ok (.goto 4, 3) := by decide +kernel
theorem dX6_tie_32 : decode cX6_tie 32 = .ok (.iload_n 2, 1) := by decide +kernel
theorem dX6_tie_33 : decode cX6_tie 33 = .ok (.invokevirtual 53, 3) := by decide +kernel
theorem dX6_tie_36 : decode cX6_tie 36 = .ok (.istore 7, 2) := by decide +kernel
theorem dX6_tie_38 : decode cX6_tie 38 = .ok (.aload_n 0, 1) := by decide +kernel
theorem dX6_tie_39 : decode cX6_tie 39 = .ok (.iload_n 1, 1) := by decide +kernel
theorem dX6_tie_40 : decode cX6_tie 40 = .ok (.iload 7, 2) := by decide +kernel
theorem dX6_tie_42 : decode cX6_tie 42 = .ok (.iload 6, 2) := by decide +kernel
theorem dX6_tie_44 : decode cX6_tie 44 = .ok (.ifCond .eq 9, 3) := by decide +kernel
theorem dX6_tie_47 : decode cX6_tie 47 = .ok (.iload 5, 2) := by decide +kernel
theorem dX6_tie_49 : decode cX6_tie 49 = .ok (.ineg, 1) := by decide +kernel
theorem dX6_tie_50 : decode cX6_tie 50 = .ok (.goto 5, 3) := by decide +kernel
theorem dX6_tie_53 : decode cX6_tie 53 = .ok (.iload 5, 2) := by decide +kernel
theorem dX6_tie_55 : decode cX6_tie 55 = .ok (.invokevirtual 64, 3) := by decide +kernel
theorem dX6_tie_58 : decode cX6_tie 58 = .ok (.istore 8, 2) := by decide +kernel
theorem dX6_tie_60 : decode cX6_tie 60 = .ok (.aload_n 0, 1) := by decide +kernel
theorem dX6_tie_61 : decode cX6_tie 61 = .ok (.getfield 25, 3) := by decide +kernel
theorem dX6_tie_64 : decode cX6_tie 64 = .ok (.aload_n 0, 1) := by decide +kernel
theorem dX6_tie_65 : decode cX6_tie 65 = .ok (.getfield 50, 3) := by decide +kernel
theorem dX6_tie_68 : decode cX6_tie 68 = .ok (.iload_n 1, 1) := by decide +kernel
theorem dX6_tie_69 : decode cX6_tie 69 = .ok (.iastore, 1) := by decide +kernel
theorem dX6_tie_70 : decode cX6_tie 70 = .ok (.aload_n 0, 1) := by decide +kernel
theorem dX6_tie_71 : decode cX6_tie 71 = .ok (.getfield 28, 3) := by decide +kernel
theorem dX6_tie_74 : decode cX6_tie 74 = .ok (.aload_n 0, 1) := by decide +kernel
theorem dX6_tie_75 : decode cX6_tie 75 = .ok (.getfield 50, 3) := by decide +kernel
theorem dX6_tie_78 : decode cX6_tie 78 = .ok (.iload_n 2, 1) := by decide +kernel
theorem dX6_tie_79 : decode cX6_tie 79 = .ok (.iastore, 1) := by decide +kernel
theorem dX6_tie_80 : decode cX6_tie 80 = .ok (.aload_n 0, 1) := by decide +kernel
theorem dX6_tie_81 : decode cX6_tie 81 = .ok (.getfield 31, 3) := by decide +kernel
theorem dX6_tie_84 : decode cX6_tie 84 = .ok (.aload_n 0, 1) := by decide +kernel
theorem dX6_tie_85 : decode cX6_tie 85 = .ok (.getfield 50, 3) := by decide +kernel
theorem dX6_tie_88 : decode cX6_tie 88 = .ok (.iload_n 3, 1) := by decide +kernel
theorem dX6_tie_89 : decode cX6_tie 89 = .ok (.iastore, 1) := by decide +kernel
theorem dX6_tie_90 : decode cX6_tie 90 = .ok (.aload_n 0, 1) := by decide +kernel
theorem dX6_tie_91 : decode cX6_tie 91 = .ok (.getfield 34, 3) := by decide +kernel
theorem dX6_tie_94 : decode cX6_tie 94 = .ok (.aload_n 0, 1) := by decide +kernel
theorem dX6_tie_95 : decode cX6_tie 95 = .ok (.getfield 50, 3) := by decide +kernel
theorem dX6_tie_98 : decode cX6_tie 98 = .ok (.iload 4, 2) := by decide +kernel
theorem dX6_tie_100 : decode cX6_tie 100 = .ok (.iastore, 1) := by decide +kernel
theorem dX6_tie_101 : decode cX6_tie 101 = .ok (.aload_n 0, 1) := by decide +kernel
theorem dX6_tie_102 : decode cX6_tie 102 = .ok (.dup, 1) := by decide +kernel
theorem dX6_tie_103 : decode cX6_tie 103 = .ok (.getfield 50, 3) := by decide +kernel
theorem dX6_tie_106 : decode cX6_tie 106 = .ok (.iconst 1, 1) := by decide +kernel
theorem dX6_tie_107 : decode cX6_tie 107 = .ok (.iadd, 1) := by decide +kernel
theorem dX6_tie_108 : decode cX6_tie 108 = .ok (.putfield 50, 3) := by decide +kernel
theorem dX6_tie_111 : decode cX6_tie 111 = .ok (.iload 8, 2) := by decide +kernel
theorem dX6_tie_113 : decode cX6_tie 113 = .ok (.ireturn, 1) := by decide +kernel
theorem dX6_doMatesFit_0 : decode cX6_doMatesFit 0 = .ok (.iconst 0, 1) := by decide +kernel
theorem dX6_doMatesFit_1 : decode cX6_doMatesFit 1 = .ok (.istore_n 1, 1) := by decide +kernel
theorem dX6_doMatesFit_2 : decode cX6_doMatesFit 2 = .ok (.iload_n 1, 1) := by decide +kernel
theorem dX6_doMatesFit_3 : decode cX6_doMatesFit 3 = .ok (.aload_n 0, 1) := by decide +kernel
theorem dX6_doMatesFit_4 : decode cX6_doMatesFit 4 = .ok (.getfield 50, 3) := by decide +kernel
theorem dX6_doMatesFit_7 : decode cX6_doMatesFit 7 = .ok (.if_icmp .ge 44, 3) := by decide +kernel
theorem dX6_doMatesFit_10 : decode cX6_doMatesFit 10 = .ok (.aload_n 0, 1) := by decide +kernel
theorem dX6_doMatesFit_11 : decode cX6_doMatesFit 11 = .ok (.getfield 25, 3) := by decide +kernel
theorem dX6_doMatesFit_14 : decode cX6_doMatesFit 14 = .ok (.iload_n 1, 1) := by decide +kernel
theorem dX6_doMatesFit_15 : decode cX6_doMatesFit 15 = .ok (.iaload, 1) := by decide +kernel
theorem dX6_doMatesFit_16 : decode cX6_doMatesFit 16 = .ok (.istore_n 2, 1) := by decide +kernel
theorem dX6_doMatesFit_17 : decode cX6_doMatesFit 17 = .ok (.aload_n 0, 1) := by decide +kernel
theorem dX6_doMatesFit_18 : decode cX6_doMatesFit 18 = .ok (.iload_n 2, 1) := by decide +kernel
theorem dX6_doMatesFit_19 : decode cX6_doMatesFit 19 = .ok (.aload_n 0, 1) := by decide +kernel
theorem dX6_doMatesFit_20 : decode cX6_doMatesFit 20 = .ok (.getfield 28, 3) := by decide +kernel
theorem dX6_doMatesFit_23 : decode cX6_doMatesFit 23 = .ok (.iload_n 1, 1) := by decide +kernel
theorem dX6_doMatesFit_24 : decode cX6_doMatesFit 24 = .ok (.iaload, 1) := by decide +kernel
theorem dX6_doMatesFit_25 : decode cX6_doMatesFit 25 = .ok (.aload_n 0, 1) := by decide +kernel
theorem dX6_doMatesFit_26 : decode cX6_doMatesFit 26 = .ok (.getfield 31, 3) := by decide +kernel
theorem dX6_doMatesFit_29 : decode cX6_doMatesFit 29 = .ok (.iload_n 1, 1) := by decide +kernel
theorem dX6_doMatesFit_30 : decode cX6_doMatesFit 30 = .ok (.iaload, 1) := by decide +kernel
theorem dX6_doMatesFit_31 : decode cX6_doMatesFit 31 = .ok (.invokevirtual 56, 3) := by decide +kernel
theorem dX6_doMatesFit_34 : decode cX6_doMatesFit 34 = .ok (.aload_n 0, 1) := by decide +kernel
theorem dX6_doMatesFit_35 : decode cX6_doMatesFit 35 = .ok (.getfield 34, 3) := by decide +kernel
theorem dX6_doMatesFit_38 : decode cX6_doMatesFit 38 = .ok (.iload_n 1, 1) := by decide +kernel
theorem dX6_doMatesFit_39 : decode cX6_doMatesFit 39 = .ok (.iaload, 1) := by decide +kernel
theorem dX6_doMatesFit_40 : decode cX6_doMatesFit 40 = .ok (.if_icmp .eq 5, 3) := by decide +kernel
theorem dX6_doMatesFit_43 : decode cX6_doMatesFit 43 = .ok (.iconst 0, 1) := by decide +kernel
theorem dX6_doMatesFit_44 : decode cX6_doMatesFit 44 = .ok (.ireturn, 1) := by decide +kernel
theorem dX6_doMatesFit_45 : decode cX6_doMatesFit 45 = .ok (.iinc 1 1, 3) := by decide +kernel
theorem dX6_doMatesFit_48 : decode cX6_doMatesFit 48 = .ok (.goto (-46), 3) := by decide +kernel
theorem dX6_doMatesFit_51 : decode cX6_doMatesFit 51 = .ok (.iconst 1, 1) := by decide +kernel
theorem dX6_doMatesFit_52 : decode cX6_doMatesFit 52 = .ok (.ireturn, 1) := by decide +kernel
theorem dX6_countShared_0 : decode cX6_countShared 0 = .ok (.aload_n 0, 1) := by decide +kernel
theorem dX6_countShared_1 : decode cX6_countShared 1 = .ok (.getfield 9, 3) := by decide +kernel
theorem dX6_countShared_4 : decode cX6_countShared 4 = .ok (.iload_n 1, 1) := by decide +kernel
theorem dX6_countShared_5 : decode cX6_countShared 5 = .ok (.baload, 1) := by decide +kernel
theorem dX6_countShared_6 : decode cX6_countShared 6 = .ok (.ifCond .eq 12, 3) := by decide +kernel
theorem dX6_countShared_9 : decode cX6_countShared 9 = .ok (.aload_n 0, 1) := by decide +kernel
theorem dX6_countShared_10 : decode cX6_countShared 10 = .ok (.getfield 17, 3) := by decide +kernel
theorem dX6_countShared_13 : decode cX6_countShared 13 = .ok (.iload_n 1, 1) := by decide +kernel
theorem dX6_countShared_14 : decode cX6_countShared 14 = .ok (.aaload, 1) := by decide +kernel
theorem dX6_countShared_15 : decode cX6_countShared 15 = .ok (.goto 4, 3) := by decide +kernel
theorem dX6_countShared_18 : decode cX6_countShared 18 = .ok (.aload_n 3, 1) := by decide +kernel
theorem dX6_countShared_19 : decode cX6_countShared 19 = .ok (.astore 4, 2) := by decide +kernel
theorem dX6_countShared_21 : decode cX6_countShared 21 = .ok (.aload_n 0, 1) := by decide +kernel
theorem dX6_countShared_22 : decode cX6_countShared 22 = .ok (.getfield 9, 3) := by decide +kernel
theorem dX6_countShared_25 : decode cX6_countShared 25 = .ok (.iload_n 2, 1) := by decide +kernel
theorem dX6_countShared_26 : decode cX6_countShared 26 = .ok (.baload, 1) := by decide +kernel
theorem dX6_countShared_27 : decode cX6_countShared 27 = .ok (.ifCond .eq 12, 3) := by decide +kernel
theorem dX6_countShared_30 : decode cX6_countShared 30 = .ok (.aload_n 0, 1) := by decide +kernel
theorem dX6_countShared_31 : decode cX6_countShared 31 = .ok (.getfield 17, 3) := by decide +kernel
theorem dX6_countShared_34 : decode cX6_countShared 34 = .ok (.iload_n 2, 1) := by decide +kernel
theorem dX6_countShared_35 : decode cX6_countShared 35 = .ok (.aaload, 1) := by decide +kernel
theorem dX6_countShared_36 : decode cX6_countShared 36 = .ok (.goto 4, 3) := by decide +kernel
theorem dX6_countShared_39 : decode cX6_countShared 39 = .ok (.aload_n 3, 1) := by decide +kernel
theorem dX6_countShared_40 : decode cX6_countShared 40 = .ok (.astore 5, 2) := by decide +kernel
theorem dX6_countShared_42 : decode cX6_countShared 42 = .ok (.aload_n 0, 1) := by decide +kernel
theorem dX6_countShared_43 : decode cX6_countShared 43 = .ok (.iconst 0, 1) := by decide +kernel
theorem dX6_countShared_44 : decode cX6_countShared 44 = .ok (.iload_n 1, 1) := by decide +kernel
theorem dX6_countShared_45 : decode cX6_countShared 45 = .ok (.iload_n 2, 1) := by decide +kernel
theorem dX6_countShared_46 : decode cX6_countShared 46 = .ok (.invokevirtual 56, 3) := by decide +kernel
theorem dX6_countShared_49 : decode cX6_countShared 49 = .ok (.istore 6, 2) := by decide +kernel
theorem dX6_countShared_51 : decode cX6_countShared 51 = .ok (.aload_n 0, 1) := by decide +kernel
theorem dX6_countShared_52 : decode cX6_countShared 52 = .ok (.iconst 1, 1) := by decide +kernel
theorem dX6_countShared_53 : decode cX6_countShared 53 = .ok (.iload_n 1, 1) := by decide +kernel
theorem dX6_countShared_54 : decode cX6_countShared 54 = .ok (.iload_n 2, 1) := by decide +kernel
theorem dX6_countShared_55 : decode cX6_countShared 55 = .ok (.invokevirtual 56, 3) := by decide +kernel
theorem dX6_countShared_58 : decode cX6_countShared 58 = .ok (.istore 7, 2) := by decide +kernel
theorem dX6_countShared_60 : decode cX6_countShared 60 = .ok (.aload_n 0, 1) := by decide +kernel
theorem dX6_countShared_61 : decode cX6_countShared 61 = .ok (.iconst 2, 1) := by decide +kernel
theorem dX6_countShared_62 : decode cX6_countShared 62 = .ok (.iload_n 1, 1) := by decide +kernel
theorem dX6_countShared_63 : decode cX6_countShared 63 = .ok (.iload_n 2, 1) := by decide +kernel
theorem dX6_countShared_64 : decode cX6_countShared 64 = .ok (.invokevirtual 56, 3) := by decide +kernel
theorem dX6_countShared_67 : decode cX6_countShared 67 = .ok (.istore 8, 2) := by decide +kernel
theorem dX6_countShared_69 : decode cX6_countShared 69 = .ok (.iconst 0, 1) := by decide +kernel
theorem dX6_countShared_70 : decode cX6_countShared 70 = .ok (.istore 9, 2) := by decide +kernel
theorem dX6_countShared_72 : decode cX6_countShared 72 = .ok (.iconst 0, 1) := by decide +kernel
theorem dX6_countShared_73 : decode cX6_countShared 73 = .ok (.istore 10, 2) := by decide +kernel
theorem dX6_countShared_75 : decode cX6_countShared 75 = .ok (.iload 10, 2) := by decide +kernel
theorem dX6_countShared_77 : decode cX6_countShared 77 = .ok (.bipush 8, 2) := by decide +kernel
theorem dX6_countShared_79 : decode cX6_countShared 79 = .ok (.if_icmp .ge 60, 3) := by decide +kernel
theorem dX6_countShared_82 : decode cX6_countShared 82 = .ok (.iload 10, 2) := by decide +kernel
theorem dX6_countShared_84 : decode cX6_countShared 84 = .ok (.iload 8, 2) := by decide +kernel
theorem dX6_countShared_86 : decode cX6_countShared 86 = .ok (.iadd, 1) := by decide +kernel
theorem dX6_countShared_87 : decode cX6_countShared 87 = .ok (.istore 11, 2) := by decide +kernel
theorem dX6_countShared_89 : decode cX6_countShared 89 = .ok (.iload 11, 2) := by decide +kernel
theorem dX6_countShared_91 : decode cX6_countShared 91 = .ok (.ifCond .lt 42, 3) := by decide +kernel
theorem dX6_countShared_94 : decode cX6_countShared 94 = .ok (.iload 11, 2) := by decide +kernel
theorem dX6_countShared_96 : decode cX6_countShared 96 = .ok (.bipush 8, 2) := by decide +kernel
theorem dX6_countShared_98 : decode cX6_countShared 98 = .ok (.if_icmp .ge 35, 3) := by decide +kernel
theorem dX6_countShared_101 : decode cX6_countShared 101 = .ok (.iload 9, 2) := by decide +kernel
theorem dX6_countShared_103 : decode cX6_countShared 103 = .ok (.aload 4, 2) := by decide +kernel
theorem dX6_countShared_105 : decode cX6_countShared 105 = .ok (.getfield 67, 3) := by decide +kernel
theorem dX6_countShared_108 : decode cX6_countShared 108 = .ok (.iload 10, 2) := by decide +kernel
theorem dX6_countShared_110 : decode cX6_countShared 110 = .ok (.laload, 1) := by decide +kernel
theorem dX6_countShared_111 : decode cX6_countShared 111 = .ok (.iload 6, 2) := by decide +kernel
theorem dX6_countShared_113 : decode cX6_countShared 113 = .ok (.iload 7, 2) := by decide +kernel
theorem dX6_countShared_115 : decode cX6_countShared 115 = .ok (.invokestatic 71, 3) := by decide +kernel
theorem dX6_countShared_118 : decode cX6_countShared 118 = .ok (.aload 5, 2) := by decide +kernel
theorem dX6_countShared_120 : decode cX6_countShared 120 = .ok (.getfield 67, 3) := by decide +kernel
theorem dX6_countShared_123 : decode cX6_countShared 123 = .ok (.iload 11, 2) := by decide +kernel
theorem dX6_countShared_125 : decode cX6_countShared 125 = .ok (.laload, 1) := by decide +kernel
theorem dX6_countShared_126 : decode cX6_countShared 126 = .ok (.land, 1) := by decide +kernel
theorem dX6_countShared_127 : decode cX6_countShared 127 = .ok (.invokestatic 75, 3) := by decide +kernel
theorem dX6_countShared_130 : decode cX6_countShared 130 = .ok (.iadd, 1) := by decide +kernel
theorem dX6_countShared_131 : decode cX6_countShared 131 = .ok (.istore 9, 2) := by decide +kernel
theorem dX6_countShared_133 : decode cX6_countShared 133 = .ok (.iinc 10 1, 3) := by decide +kernel
theorem dX6_countShared_136 : decode cX6_countShared 136 = .ok (.goto (-61), 3) := by decide +kernel
theorem dX6_countShared_139 : decode cX6_countShared 139 = .ok (.iload 9, 2) := by decide +kernel
theorem dX6_countShared_141 : decode cX6_countShared 141 = .ok (.ireturn, 1) := by decide +kernel
theorem dX7_depthOf_0 : decode cX7_depthOf 0 = .ok (.iconst 0, 1) := by decide +kernel
theorem dX7_depthOf_1 : decode cX7_depthOf 1 = .ok (.istore 5, 2) := by decide +kernel
theorem dX7_depthOf_3 : decode cX7_depthOf 3 = .ok (.iload 5, 2) := by decide +kernel
theorem dX7_depthOf_5 : decode cX7_depthOf 5 = .ok (.bipush 8, 2) := by decide +kernel
theorem dX7_depthOf_7 : decode cX7_depthOf 7 = .ok (.if_icmp .ge 89, 3) := by decide +kernel
theorem dX7_depthOf_10 : decode cX7_depthOf 10 = .ok (.iload_n 2, 1) := by decide +kernel
theorem dX7_depthOf_11 : decode cX7_depthOf 11 = .ok (.ifCond .eq 8, 3) := by decide +kernel
theorem dX7_depthOf_14 : decode cX7_depthOf 14 = .ok (.iload 5, 2) := by decide +kernel
theorem dX7_depthOf_16 : decode cX7_depthOf 16 = .ok (.goto 8, 3) := by decide +kernel
theorem dX7_depthOf_19 : decode cX7_depthOf 19 = .ok (.bipush 7, 2) := by decide +kernel
theorem dX7_depthOf_21 : decode cX7_depthOf 21 = .ok (.iload 5, 2) := by decide +kernel
theorem dX7_depthOf_23 : decode cX7_depthOf 23 = .ok (.isub, 1) := by decide +kernel
theorem dX7_depthOf_24 : decode cX7_depthOf 24 = .ok (.istore 6, 2) := by decide +kernel
theorem dX7_depthOf_26 : decode cX7_depthOf 26 = .ok (.iload_n 1, 1) := by decide +kernel
theorem dX7_depthOf_27 : decode cX7_depthOf 27 = .ok (.ifCond .ne 8, 3) := by decide +kernel
theorem dX7_depthOf_30 : decode cX7_depthOf 30 = .ok (.iload 6, 2) := by decide +kernel
theorem dX7_depthOf_32 : decode cX7_depthOf 32 = .ok (.goto 4, 3) := by decide +kernel
theorem dX7_depthOf_35 : decode cX7_depthOf 35 = .ok (.iload_n 3, 1) := by decide +kernel
theorem dX7_depthOf_36 : decode cX7_depthOf 36 = .ok (.istore 7, 2) := by decide +kernel
theorem dX7_depthOf_38 : decode cX7_depthOf 38 = .ok (.iload_n 1, 1) := by decide +kernel
theorem dX7_depthOf_39 : decode cX7_depthOf 39 = .ok (.ifCond .ne 7, 3) := by decide +kernel
theorem dX7_depthOf_42 : decode cX7_depthOf 42 = .ok (.iload_n 3, 1) := by decide +kernel
theorem dX7_depthOf_43 : decode cX7_depthOf 43 = .ok (.goto 15, 3) := by decide +kernel
theorem dX7_depthOf_46 : decode cX7_depthOf 46 = .ok (.iload_n 1, 1) := by decide +kernel
theorem dX7_depthOf_47 : decode cX7_depthOf 47 = .ok (.iconst 1, 1) := by decide +kernel
theorem dX7_depthOf_48 : decode cX7_depthOf 48 = .ok (.if_icmp .ne 8, 3) := by decide +kernel
theorem dX7_depthOf_51 : decode cX7_depthOf 51 = .ok (.iload 6, 2) := by decide +kernel
theorem dX7_depthOf_53 : decode cX7_depthOf 53 = .ok (.goto 5, 3) := by decide +kernel
theorem dX7_depthOf_56 : decode cX7_depthOf 56 = .ok (.iload 4, 2) := by decide +kernel
theorem dX7_depthOf_58 : decode cX7_depthOf 58 = .ok (.istore 8, 2) := by decide +kernel
theorem dX7_depthOf_60 : decode cX7_depthOf 60 = .ok (.iload_n 1, 1) := by decide +kernel
theorem dX7_depthOf_61 : decode cX7_depthOf 61 = .ok (.iconst 2, 1) := by decide +kernel
theorem dX7_depthOf_62 : decode cX7_depthOf 62 = .ok (.if_icmp .ne 8, 3) := by decide +kernel
theorem dX7_depthOf_65 : decode cX7_depthOf 65 = .ok (.iload 6, 2) := by decide +kernel
theorem dX7_depthOf_67 : decode cX7_depthOf 67 = .ok (.goto 5, 3) := by decide +kernel
theorem dX7_depthOf_70 : decode cX7_depthOf 70 = .ok (.iload 4, 2) := by decide +kernel
theorem dX7_depthOf_72 : decode cX7_depthOf 72 = .ok (.istore 9, 2) := by decide +kernel
theorem dX7_depthOf_74 : decode cX7_depthOf 74 = .ok (.aload_n 0, 1) := by decide +kernel
theorem dX7_depthOf_75 : decode cX7_depthOf 75 = .ok (.iload 7, 2) := by decide +kernel
theorem dX7_depthOf_77 : decode cX7_depthOf 77 = .ok (.iload 8, 2) := by decide +kernel
theorem dX7_depthOf_79 : decode cX7_depthOf 79 = .ok (.iload 9, 2) := by decide +kernel
theorem dX7_depthOf_81 : decode cX7_depthOf 81 = .ok (.invokevirtual 9, 3) := by decide +kernel
theorem dX7_depthOf_84 : decode cX7_depthOf 84 = .ok (.ifCond .eq 6, 3) := by decide +kernel
theorem dX7_depthOf_87 : decode cX7_depthOf 87 = .ok (.iload 5, 2) := by decide +kernel
theorem dX7_depthOf_89 : decode cX7_depthOf 89 = .ok (.ireturn, 1) := by decide +kernel
theorem dX7_depthOf_90 : decode cX7_depthOf 90 = .ok (.iinc 5 1, 3) := by decide +kernel
theorem dX7_depthOf_93 : decode cX7_depthOf 93 = .ok (.goto (-90), 3) := by decide +kernel
theorem dX7_depthOf_96 : decode cX7_depthOf 96 = .ok (.bipush 8, 2) := by decide +kernel
theorem dX7_depthOf_98 : decode cX7_depthOf 98 = .ok (.ireturn, 1) := by decide +kernel
theorem dX7_countLines_0 : decode cX7_countLines 0 = .ok (.iconst 0, 1) := by decide +kernel
theorem dX7_countLines_1 : decode cX7_countLines 1 = .ok (.istore_n 3, 1) := by decide +kernel
theorem dX7_countLines_2 : decode cX7_countLines 2 = .ok (.iconst 0, 1) := by decide +kernel
theorem dX7_countLines_3 : decode cX7_countLines 3 = .ok (.istore 4, 2) := by decide +kernel
theorem dX7_countLines_5 : decode cX7_countLines 5 = .ok (.iload 4, 2) := by decide +kernel
theorem dX7_countLines_7 : decode cX7_countLines 7 = .ok (.bipush 8, 2) := by decide +kernel
theorem dX7_countLines_9 : decode cX7_countLines 9 = .ok (.if_icmp .gt 87, 3) := by decide +kernel
theorem dX7_countLines_12 : decode cX7_countLines 12 = .ok (.iconst 0, 1) := by decide +kernel
theorem dX7_countLines_13 : decode cX7_countLines 13 = .ok (.istore 5, 2) := by decide +kernel
theorem dX7_countLines_15 : decode cX7_countLines 15 = .ok (.iload 5, 2) := by decide +kernel
theorem dX7_countLines_17 : decode cX7_countLines 17 = .ok (.bipush 8, 2) := by decide +kernel
theorem dX7_countLines_19 : decode cX7_countLines 19 = .ok (.if_icmp .gt 71, 3) := by decide +kernel
theorem dX7_countLines_22 : decode cX7_countLines 22 = .ok (.aload_n 0, 1) := by decide +kernel
theorem dX7_countLines_23 : decode cX7_countLines 23 = .ok (.iload_n 1, 1) := by decide +kernel
theorem dX7_countLines_24 : decode cX7_countLines 24 = .ok (.iload_n 2, 1) := by decide +kernel
theorem dX7_countLines_25 : decode cX7_countLines 25 = .ok (.iload 4, 2) := by decide +kernel
theorem dX7_countLines_27 : decode cX7_countLines 27 = .ok (.iload 5, 2) := by decide +kernel
theorem dX7_countLines_29 : decode cX7_countLines 29 = .ok (.invokestatic 15, 3) := by decide +kernel
theorem dX7_countLines_32 : decode cX7_countLines 32 = .ok (.istore 6, 2) := by decide +kernel
theorem dX7_countLines_34 : decode cX7_countLines 34 = .ok (.iload_n 3, 1) := by decide +kernel
theorem dX7_countLines_35 : decode cX7_countLines 35 = .ok (.iload 6, 2) := by decide +kernel
theorem dX7_countLines_37 : decode cX7_countLines 37 = .ok (.aload_n 0, 1) := by decide +kernel
theorem dX7_countLines_38 : decode cX7_countLines 38 = .ok (.iload_n 1, 1) := by decide +kernel
theorem dX7_countLines_39 : decode cX7_countLines 39 = .ok (.iload_n 2, 1) := by decide +kernel
theorem dX7_countLines_40 : decode cX7_countLines 40 = .ok (.iload 4, 2) := by decide +kernel
theorem dX7_countLines_42 : decode cX7_countLines 42 = .ok (.iconst 1, 1) := by decide +kernel
theorem dX7_countLines_43 : decode cX7_countLines 43 = .ok (.isub, 1) := by decide +kernel
theorem dX7_countLines_44 : decode cX7_countLines 44 = .ok (.iload 5, 2) := by decide +kernel
theorem dX7_countLines_46 : decode cX7_countLines 46 = .ok (.invokestatic 15, 3) := by decide +kernel
theorem dX7_countLines_49 : decode cX7_countLines 49 = .ok (.if_icmp .ne 7, 3) := by decide +kernel
theorem dX7_countLines_52 : decode cX7_countLines 52 = .ok (.iconst 0, 1) := by decide +kernel
theorem dX7_countLines_53 : decode cX7_countLines 53 = .ok (.goto 4, 3) := by decide +kernel
theorem dX7_countLines_56 : decode cX7_countLines 56 = .ok (.iconst 1, 1) := by decide +kernel
theorem dX7_countLines_57 : decode cX7_countLines 57 = .ok (.iadd, 1) := by decide +kernel
theorem dX7_countLines_58 : decode cX7_countLines 58 = .ok (.istore_n 3, 1) := by decide +kernel
theorem dX7_countLines_59 : decode cX7_countLines 59 = .ok (.iload_n 3, 1) := by decide +kernel
theorem dX7_countLines_60 : decode cX7_countLines 60 = .ok (.iload 6, 2) := by decide +kernel
theorem dX7_countLines_62 : decode cX7_countLines 62 = .ok (.aload_n 0, 1) := by decide +kernel
theorem dX7_countLines_63 : decode cX7_countLines 63 = .ok (.iload_n 1, 1) := by decide +kernel
theorem dX7_countLines_64 : decode cX7_countLines 64 = .ok (.iload_n 2, 1) := by decide +kernel
theorem dX7_countLines_65 : decode cX7_countLines 65 = .ok (.iload 4, 2) := by decide +kernel
theorem dX7_countLines_67 : decode cX7_countLines 67 = .ok (.iload 5, 2) := by decide +kernel
theorem dX7_countLines_69 : decode cX7_countLines 69 = .ok (.iconst 1, 1) := by decide +kernel
theorem dX7_countLines_70 : decode cX7_countLines 70 = .ok (.isub, 1) := by decide +kernel
theorem dX7_countLines_71 : decode cX7_countLines 71 = .ok (.invokestatic 15, 3) := by decide +kernel
theorem dX7_countLines_74 : decode cX7_countLines 74 = .ok (.if_icmp .ne 7, 3) := by decide +kernel
theorem dX7_countLines_77 : decode cX7_countLines 77 = .ok (.iconst 0, 1) := by decide +kernel
theorem dX7_countLines_78 : decode cX7_countLines 78 = .ok (.goto 4, 3) := by decide +kernel
theorem dX7_countLines_81 : decode cX7_countLines 81 = .ok (.iconst 1, 1) := by decide +kernel
theorem dX7_countLines_82 : decode cX7_countLines 82 = .ok (.iadd, 1) := by decide +kernel
theorem dX7_countLines_83 : decode cX7_countLines 83 = .ok (.istore_n 3, 1) := by decide +kernel
theorem dX7_countLines_84 : decode cX7_countLines 84 = .ok (.iinc 5 1, 3) := by decide +kernel
theorem dX7_countLines_87 : decode cX7_countLines 87 = .ok (.goto (-72), 3) := by decide +kernel
theorem dX7_countLines_90 : decode cX7_countLines 90 = .ok (.iinc 4 1, 3) := by decide +kernel
theorem dX7_countLines_93 : decode cX7_countLines 93 = .ok (.goto (-88), 3) := by decide +kernel
theorem dX7_countLines_96 : decode cX7_countLines 96 = .ok (.iload_n 3, 1) := by decide +kernel
theorem dX7_countLines_97 : decode cX7_countLines 97 = .ok (.ireturn, 1) := by decide +kernel
theorem dX8_init_0 : decode cX8_init 0 = .ok (.aload_n 0, 1) := by decide +kernel
theorem dX8_init_1 : decode cX8_init 1 = .ok (.invokespecial 3, 3) := by decide +kernel
theorem dX8_init_4 : decode cX8_init 4 = .ok (.aload_n 0, 1) := by decide +kernel
theorem dX8_init_5 : decode cX8_init 5 = .ok (.new 9, 3) := by decide +kernel
theorem dX8_init_8 : decode cX8_init 8 = .ok (.dup, 1) := by decide +kernel
theorem dX8_init_9 : decode cX8_init 9 = .ok (.invokespecial 11, 3) := by decide +kernel
theorem dX8_init_12 : decode cX8_init 12 = .ok (.putfield 12, 3) := by decide +kernel
theorem dX8_init_15 : decode cX8_init 15 = .ok (.aload_n 0, 1) := by decide +kernel
theorem dX8_init_16 : decode cX8_init 16 = .ok (.new 9, 3) := by decide +kernel
theorem dX8_init_19 : decode cX8_init 19 = .ok (.dup, 1) := by decide +kernel
theorem dX8_init_20 : decode cX8_init 20 = .ok (.invokespecial 11, 3) := by decide +kernel
theorem dX8_init_23 : decode cX8_init 23 = .ok (.putfield 18, 3) := by decide +kernel
theorem dX8_init_26 : decode cX8_init 26 = .ok (.aload_n 0, 1) := by decide +kernel
theorem dX8_init_27 : decode cX8_init 27 = .ok (.new 9, 3) := by decide +kernel
theorem dX8_init_30 : decode cX8_init 30 = .ok (.dup, 1) := by decide +kernel
theorem dX8_init_31 : decode cX8_init 31 = .ok (.invokespecial 11, 3) := by decide +kernel
theorem dX8_init_34 : decode cX8_init 34 = .ok (.putfield 21, 3) := by decide +kernel
theorem dX8_init_37 : decode cX8_init 37 = .ok (.aload_n 0, 1) := by decide +kernel
theorem dX8_init_38 : decode cX8_init 38 = .ok (.new 9, 3) := by decide +kernel
theorem dX8_init_41 : decode cX8_init 41 = .ok (.dup, 1) := by decide +kernel
theorem dX8_init_42 : decode cX8_init 42 = .ok (.invokespecial 11, 3) := by decide +kernel
theorem dX8_init_45 : decode cX8_init 45 = .ok (.putfield 24, 3) := by decide +kernel
theorem dX8_init_48 : decode cX8_init 48 = .ok (.return_, 1) := by decide +kernel
theorem dX8_carryOut_0 : decode cX8_carryOut 0 = .ok (.aload 5, 2) := by decide +kernel
theorem dX8_carryOut_2 : decode cX8_carryOut 2 = .ok (.aload 4, 2) := by decide +kernel
theorem dX8_carryOut_4 : decode cX8_carryOut 4 = .ok (.invokevirtual 27, 3) := by decide +kernel
theorem dX8_carryOut_7 : decode cX8_carryOut 7 = .ok (.aload_n 0, 1) := by decide +kernel
theorem dX8_carryOut_8 : decode cX8_carryOut 8 = .ok (.iload_n 1, 1) := by decide +kernel
theorem dX8_carryOut_9 : decode cX8_carryOut 9 = .ok (.aload_n 3, 1) := by decide +kernel
theorem dX8_carryOut_10 : decode cX8_carryOut 10 = .ok (.aload 4, 2) := by decide +kernel
theorem dX8_carryOut_12 : decode cX8_carryOut 12 = .ok (.invokevirtual 33, 3) := by decide +kernel
theorem dX8_carryOut_15 : decode cX8_carryOut 15 = .ok (.istore 6, 2) := by decide +kernel
theorem dX8_carryOut_17 : decode cX8_carryOut 17 = .ok (.iload 6, 2) := by decide +kernel
theorem dX8_carryOut_19 : decode cX8_carryOut 19 = .ok (.bipush 45, 2) := by decide +kernel
theorem dX8_carryOut_21 : decode cX8_carryOut 21 = .ok (.if_icmp .ne 27, 3) := by decide +kernel
theorem dX8_carryOut_24 : decode cX8_carryOut 24 = .ok (.aload_n 0, 1) := by decide +kernel
theorem dX8_carryOut_25 : decode cX8_carryOut 25 = .ok (.iload_n 1, 1) := by decide +kernel
theorem dX8_carryOut_26 : decode cX8_carryOut 26 = .ok (.aload_n 3, 1) := by decide +kernel
theorem dX8_carryOut_27 : decode cX8_carryOut 27 = .ok (.aload 4, 2) := by decide +kernel
theorem dX8_carryOut_29 : decode cX8_carryOut 29 = .ok (.getfield 37, 3) := by decide +kernel
theorem dX8_carryOut_32 : decode cX8_carryOut 32 = .ok (.aload 5, 2) := by decide +kernel
theorem dX8_carryOut_34 : decode cX8_carryOut 34 = .ok (.getfield 37, 3) := by decide +kernel
theorem dX8_carryOut_37 : decode cX8_carryOut 37 = .ok (.invokevirtual 40, 3) := by decide +kernel
theorem dX8_carryOut_40 : decode cX8_carryOut 40 = .ok (.aload 5, 2) := by decide +kernel
theorem dX8_carryOut_42 : decode cX8_carryOut 42 = .ok (.aload 4, 2) := by decide +kernel
theorem dX8_carryOut_44 : decode cX8_carryOut 44 = .ok (.iload_n 2, 1) := by decide +kernel
theorem dX8_carryOut_45 : decode cX8_carryOut 45 = .ok (.invokevirtual 44, 3) := by decide +kernel
theorem dX8_carryOut_48 : decode cX8_carryOut 48 = .ok (.iload 6, 2) := by decide +kernel
theorem dX8_carryOut_50 : decode cX8_carryOut 50 = .ok (.ireturn, 1) := by decide +kernel
theorem dX8_faultOf_0 : decode cX8_faultOf 0 = .ok (.iload_n 1, 1) := by decide +kernel
theorem dX8_faultOf_1 : decode cX8_faultOf 1 = .ok (.aload_n 2, 1) := by decide +kernel
theorem dX8_faultOf_2 : decode cX8_faultOf 2 = .ok (.invokestatic 48, 3) := by decide +kernel
theorem dX8_faultOf_5 : decode cX8_faultOf 5 = .ok (.ifCond .eq 6, 3) := by decide +kernel
theorem dX8_faultOf_8 : decode cX8_faultOf 8 = .ok (.bipush 120, 2) := by decide +kernel
theorem dX8_faultOf_10 : decode cX8_faultOf 10 = .ok (.ireturn, 1) := by decide +kernel
theorem dX8_faultOf_11 : decode cX8_faultOf 11 = .ok (.iload_n 1, 1) := by decide +kernel
theorem dX8_faultOf_12 : decode cX8_faultOf 12 = .ok (.bipush 101, 2) := by decide +kernel
theorem dX8_faultOf_14 : decode cX8_faultOf 14 = .ok (.if_icmp .eq 6, 3) := by decide +kernel
theorem dX8_faultOf_17 : decode cX8_faultOf 17 = .ok (.bipush 45, 2) := by decide +kernel
theorem dX8_faultOf_19 : decode cX8_faultOf 19 = .ok (.ireturn, 1) := by decide +kernel
theorem dX8_faultOf_20 : decode cX8_faultOf 20 = .ok (.aload_n 3, 1) := by decide +kernel
theorem dX8_faultOf_21 : decode cX8_faultOf 21 = .ok (.aload_n 2, 1) := by decide +kernel
theorem dX8_faultOf_22 : decode cX8_faultOf 22 = .ok (.iconst 0, 1) := by decide +kernel
theorem dX8_faultOf_23 : decode cX8_faultOf 23 = .ok (.iaload, 1) := by decide +kernel
theorem dX8_faultOf_24 : decode cX8_faultOf 24 = .ok (.aload_n 2, 1) := by decide +kernel
theorem dX8_faultOf_25 : decode cX8_faultOf 25 = .ok (.iconst 1, 1) := by decide +kernel
theorem dX8_faultOf_26 : decode cX8_faultOf 26 = .ok (.iaload, 1) := by decide +kernel
theorem dX8_faultOf_27 : decode cX8_faultOf 27 = .ok (.aload_n 0, 1) := by decide +kernel
theorem dX8_faultOf_28 : decode cX8_faultOf 28 = .ok (.getfield 18, 3) := by decide +kernel
theorem dX8_faultOf_31 : decode cX8_faultOf 31 = .ok (.invokevirtual 52, 3) := by decide +kernel
theorem dX8_faultOf_34 : decode cX8_faultOf 34 = .ok (.aload_n 0, 1) := by decide +kernel
theorem dX8_faultOf_35 : decode cX8_faultOf 35 = .ok (.aload_n 0, 1) := by decide +kernel
theorem dX8_faultOf_36 : decode cX8_faultOf 36 = .ok (.getfield 18, 3) := by decide +kernel
theorem dX8_faultOf_39 : decode cX8_faultOf 39 = .ok (.invokevirtual 56, 3) := by decide +kernel
theorem dX8_faultOf_42 : decode cX8_faultOf 42 = .ok (.istore 4, 2) := by decide +kernel
theorem dX8_faultOf_44 : decode cX8_faultOf 44 = .ok (.iload 4, 2) := by decide +kernel
theorem dX8_faultOf_46 : decode cX8_faultOf 46 = .ok (.ifCond .ne 6, 3) := by decide +kernel
theorem dX8_faultOf_49 : decode cX8_faultOf 49 = .ok (.bipush 108, 2) := by decide +kernel
theorem dX8_faultOf_51 : decode cX8_faultOf 51 = .ok (.ireturn, 1) := by decide +kernel
theorem dX8_faultOf_52 : decode cX8_faultOf 52 = .ok (.iload 4, 2) := by decide +kernel
theorem dX8_faultOf_54 : decode cX8_faultOf 54 = .ok (.iconst 1, 1) := by decide +kernel
theorem dX8_faultOf_55 : decode cX8_faultOf 55 = .ok (.if_icmp .ne 8, 3) := by decide +kernel
theorem dX8_faultOf_58 : decode cX8_faultOf 58 = .ok (.bipush 45, 2) := by decide +kernel
theorem dX8_faultOf_60 : decode cX8_faultOf 60 = .ok (.goto 5, 3) := by decide +kernel
theorem dX8_faultOf_63 : decode cX8_faultOf 63 = .ok (.bipush 100, 2) := by decide +kernel
theorem dX8_faultOf_65 : decode cX8_faultOf 65 = .ok (.ireturn, 1) := by decide +kernel
theorem dX8_isUnfit_0 : decode cX8_isUnfit 0 = .ok (.iload_n 0, 1) := by decide +kernel
theorem dX8_isUnfit_1 : decode cX8_isUnfit 1 = .ok (.bipush 98, 2) := by decide +kernel
theorem dX8_isUnfit_3 : decode cX8_isUnfit 3 = .ok (.if_icmp .eq 15, 3) := by decide +kernel
theorem dX8_isUnfit_6 : decode cX8_isUnfit 6 = .ok (.iload_n 0, 1) := by decide +kernel
theorem dX8_isUnfit_7 : decode cX8_isUnfit 7 = .ok (.bipush 99, 2) := by decide +kernel
theorem dX8_isUnfit_9 : decode cX8_isUnfit 9 = .ok (.if_icmp .eq 9, 3) := by decide +kernel
theorem dX8_isUnfit_12 : decode cX8_isUnfit 12 = .ok (.iload_n 0, 1) := by decide +kernel
theorem dX8_isUnfit_13 : decode cX8_isUnfit 13 = .ok (.bipush 105, 2) := by decide +kernel
theorem dX8_isUnfit_15 : decode cX8_isUnfit 15 = .ok (.if_icmp .ne 30, 3) := by decide +kernel
theorem dX8_isUnfit_18 : decode cX8_isUnfit 18 = .ok (.aload_n 1, 1) := by decide +kernel
theorem dX8_isUnfit_19 : decode cX8_isUnfit 19 = .ok (.iconst 3, 1) := by decide +kernel
theorem dX8_isUnfit_20 : decode cX8_isUnfit 20 = .ok (.iaload, 1) := by decide +kernel
theorem dX8_isUnfit_21 : decode cX8_isUnfit 21 = .ok (.iconst 1, 1) := by decide +kernel
theorem dX8_isUnfit_22 : decode cX8_isUnfit 22 = .ok (.if_icmp .lt 17, 3) := by decide +kernel
theorem dX8_isUnfit_25 : decode cX8_isUnfit 25 = .ok (.aload_n 1, 1) := by decide +kernel
theorem dX8_isUnfit_26 : decode cX8_isUnfit 26 = .ok (.iconst 4, 1) := by decide +kernel
theorem dX8_isUnfit_27 : decode cX8_isUnfit 27 = .ok (.iaload, 1) := by decide +kernel
theorem dX8_isUnfit_28 : decode cX8_isUnfit 28 = .ok (.iconst 1, 1) := by decide +kernel
theorem dX8_isUnfit_29 : decode cX8_isUnfit 29 = .ok (.if_icmp .lt 10, 3) := by decide +kernel
theorem dX8_isUnfit_32 : decode cX8_isUnfit 32 = .ok (.aload_n 1, 1) := by decide +kernel
theorem dX8_isUnfit_33 : decode cX8_isUnfit 33 = .ok (.iconst 5, 1) := by decide +kernel
theorem dX8_isUnfit_34 : decode cX8_isUnfit 34 = .ok (.iaload, 1) := by decide +kernel
theorem dX8_isUnfit_35 : decode cX8_isUnfit 35 = .ok (.iconst 1, 1) := by decide +kernel
theorem dX8_isUnfit_36 : decode cX8_isUnfit 36 = .ok (.if_icmp .ge 7, 3) := by decide +kernel
theorem dX8_isUnfit_39 : decode cX8_isUnfit 39 = .ok (.iconst 1, 1) := by decide +kernel
theorem dX8_isUnfit_40 : decode cX8_isUnfit 40 = .ok (.goto 4, 3) := by decide +kernel
theorem dX8_isUnfit_43 : decode cX8_isUnfit 43 = .ok (.iconst 0, 1) := by decide +kernel
theorem dX8_isUnfit_44 : decode cX8_isUnfit 44 = .ok (.ireturn, 1) := by decide +kernel
theorem dX8_isUnfit_45 : decode cX8_isUnfit 45 = .ok (.iload_n 0, 1) := by decide +kernel
theorem dX8_isUnfit_46 : decode cX8_isUnfit 46 = .ok (.bipush 109, 2) := by decide +kernel
theorem dX8_isUnfit_48 : decode cX8_isUnfit 48 = .ok (.if_icmp .ne 18, 3) := by decide +kernel
theorem dX8_isUnfit_51 : decode cX8_isUnfit 51 = .ok (.aload_n 1, 1) := by decide +kernel
theorem dX8_isUnfit_52 : decode cX8_isUnfit 52 = .ok (.iconst 0, 1) := by decide +kernel
theorem dX8_isUnfit_53 : decode cX8_isUnfit 53 = .ok (.iaload, 1) := by decide +kernel
theorem dX8_isUnfit_54 : decode cX8_isUnfit 54 = .ok (.invokestatic 60, 3) := by decide +kernel
theorem dX8_isUnfit_57 : decode cX8_isUnfit 57 = .ok (.ifCond .ne 7, 3) := by decide +kernel
theorem dX8_isUnfit_60 : decode cX8_isUnfit 60 = .ok (.iconst 1, 1) := by decide +kernel
theorem dX8_isUnfit_61 : decode cX8_isUnfit 61 = .ok (.goto 4, 3) := by decide +kernel
theorem dX8_isUnfit_64 : decode cX8_isUnfit 64 = .ok (.iconst 0, 1) := by decide +kernel
theorem dX8_isUnfit_65 : decode cX8_isUnfit 65 = .ok (.ireturn, 1) := by decide +kernel
theorem dX8_isUnfit_66 : decode cX8_isUnfit 66 = .ok (.iload_n 0, 1) := by decide +kernel
theorem dX8_isUnfit_67 : decode cX8_isUnfit 67 = .ok (.bipush 112, 2) := by decide +kernel
theorem dX8_isUnfit_69 : decode cX8_isUnfit 69 = .ok (.if_icmp .ne 15, 3) := by decide +kernel
theorem dX8_isUnfit_72 : decode cX8_isUnfit 72 = .ok (.aload_n 1, 1) := by decide +kernel
theorem dX8_isUnfit_73 : decode cX8_isUnfit 73 = .ok (.iconst 3, 1) := by decide +kernel
theorem dX8_isUnfit_74 : decode cX8_isUnfit 74 = .ok (.iaload, 1) := by decide +kernel
theorem dX8_isUnfit_75 : decode cX8_isUnfit 75 = .ok (.ifCond .ge 7, 3) := by decide +kernel
theorem dX8_isUnfit_78 : decode cX8_isUnfit 78 = .ok (.iconst 1, 1) := by decide +kernel
theorem dX8_isUnfit_79 : decode cX8_isUnfit 79 = .ok (.goto 4, 3) := by decide +kernel
theorem dX8_isUnfit_82 : decode cX8_isUnfit 82 = .ok (.iconst 0, 1) := by decide +kernel
theorem dX8_isUnfit_83 : decode cX8_isUnfit 83 = .ok (.ireturn, 1) := by decide +kernel
theorem dX8_isUnfit_84 : decode cX8_isUnfit 84 = .ok (.iload_n 0, 1) := by decide +kernel
theorem dX8_isUnfit_85 : decode cX8_isUnfit 85 = .ok (.bipush 101, 2) := by decide +kernel
theorem dX8_isUnfit_87 : decode cX8_isUnfit 87 = .ok (.if_icmp .ne 22, 3) := by decide +kernel
theorem dX8_isUnfit_90 : decode cX8_isUnfit 90 = .ok (.aload_n 1, 1) := by decide +kernel
theorem dX8_isUnfit_91 : decode cX8_isUnfit 91 = .ok (.iconst 1, 1) := by decide +kernel
theorem dX8_isUnfit_92 : decode cX8_isUnfit 92 = .ok (.iaload, 1) := by decide +kernel
theorem dX8_isUnfit_93 : decode cX8_isUnfit 93 = .ok (.invokestatic 64, 3) := by decide +kernel
theorem dX8_isUnfit_96 : decode cX8_isUnfit 96 = .ok (.ifCond .eq 9, 3) := by decide +kernel
theorem dX8_isUnfit_99 : decode cX8_isUnfit 99 = .ok (.aload_n 1, 1) := by decide +kernel
theorem dX8_isUnfit_100 : decode cX8_isUnfit 100 = .ok (.iconst 2, 1) := by decide +kernel
theorem dX8_isUnfit_101 : decode cX8_isUnfit 101 = .ok (.iaload, 1) := by decide +kernel
theorem dX8_isUnfit_102 : decode cX8_isUnfit 102 = .ok (.ifCond .ge 7, 3) := by decide +kernel
theorem dX8_isUnfit_105 : decode cX8_isUnfit 105 = .ok (.iconst 1, 1) := by decide +kernel
theorem dX8_isUnfit_106 : decode cX8_isUnfit 106 = .ok (.goto 4, 3) := by decide +kernel
theorem dX8_isUnfit_109 : decode cX8_isUnfit 109 = .ok (.iconst 0, 1) := by decide +kernel
theorem dX8_isUnfit_110 : decode cX8_isUnfit 110 = .ok (.ireturn, 1) := by decide +kernel
theorem dX8_reshape_0 : decode cX8_reshape 0 = .ok (.iload_n 1, 1) := by decide +kernel
theorem dX8_reshape_1 : decode cX8_reshape 1 = .ok (.bipush 98, 2) := by decide +kernel
theorem dX8_reshape_3 : decode cX8_reshape 3 = .ok (.if_icmp .ne 23, 3) := by decide +kernel
theorem dX8_reshape_6 : decode cX8_reshape 6 = .ok (.aload_n 0, 1) := by decide +kernel
theorem dX8_reshape_7 : decode cX8_reshape 7 = .ok (.getfield 12, 3) := by decide +kernel
theorem dX8_reshape_10 : decode cX8_reshape 10 = .ok (.aload_n 2, 1) := by decide +kernel
theorem dX8_reshape_11 : decode cX8_reshape 11 = .ok (.invokevirtual 67, 3) := by decide +kernel
theorem dX8_reshape_14 : decode cX8_reshape 14 = .ok (.aload 4, 2) := by decide +kernel
theorem dX8_reshape_16 : decode cX8_reshape 16 = .ok (.aload_n 0, 1) := by decide +kernel
theorem dX8_reshape_17 : decode cX8_reshape 17 = .ok (.getfield 12, 3) := by decide +kernel
theorem dX8_reshape_20 : decode cX8_reshape 20 = .ok (.invokevirtual 71, 3) := by decide +kernel
theorem dX8_reshape_23 : decode cX8_reshape 23 = .ok (.goto 123, 3) := by decide +kernel
theorem dX8_reshape_26 : decode cX8_reshape 26 = .ok (.iload_n 1, 1) := by decide +kernel
theorem dX8_reshape_27 : decode cX8_reshape 27 = .ok (.bipush 99, 2) := by decide +kernel
theorem dX8_reshape_29 : decode cX8_reshape 29 = .ok (.if_icmp .ne 23, 3) := by decide +kernel
theorem dX8_reshape_32 : decode cX8_reshape 32 = .ok (.aload_n 0, 1) := by decide +kernel
theorem dX8_reshape_33 : decode cX8_reshape 33 = .ok (.getfield 12, 3) := by decide +kernel
theorem dX8_reshape_36 : decode cX8_reshape 36 = .ok (.aload_n 2, 1) := by decide +kernel
theorem dX8_reshape_37 : decode cX8_reshape 37 = .ok (.invokevirtual 67, 3) := by decide +kernel
theorem dX8_reshape_40 : decode cX8_reshape 40 = .ok (.aload 4, 2) := by decide +kernel
theorem dX8_reshape_42 : decode cX8_reshape 42 = .ok (.aload_n 0, 1) := by decide +kernel
theorem dX8_reshape_43 : decode cX8_reshape 43 = .ok (.getfield 12, 3) := by decide +kernel
theorem dX8_reshape_46 : decode cX8_reshape 46 = .ok (.invokevirtual 75, 3) := by decide +kernel
theorem dX8_reshape_49 : decode cX8_reshape 49 = .ok (.goto 97, 3) := by decide +kernel
theorem dX8_reshape_52 : decode cX8_reshape 52 = .ok (.iload_n 1, 1) := by decide +kernel
theorem dX8_reshape_53 : decode cX8_reshape 53 = .ok (.bipush 105, 2) := by decide +kernel
theorem dX8_reshape_55 : decode cX8_reshape 55 = .ok (.if_icmp .ne 23, 3) := by decide +kernel
theorem dX8_reshape_58 : decode cX8_reshape 58 = .ok (.aload_n 0, 1) := by decide +kernel
theorem dX8_reshape_59 : decode cX8_reshape 59 = .ok (.getfield 12, 3) := by decide +kernel
theorem dX8_reshape_62 : decode cX8_reshape 62 = .ok (.aload_n 2, 1) := by decide +kernel
theorem dX8_reshape_63 : decode cX8_reshape 63 = .ok (.invokevirtual 67, 3) := by decide +kernel
theorem dX8_reshape_66 : decode cX8_reshape 66 = .ok (.aload 4, 2) := by decide +kernel
theorem dX8_reshape_68 : decode cX8_reshape 68 = .ok (.aload_n 0, 1) := by decide +kernel
theorem dX8_reshape_69 : decode cX8_reshape 69 = .ok (.getfield 12, 3) := by decide +kernel
theorem dX8_reshape_72 : decode cX8_reshape 72 = .ok (.invokevirtual 78, 3) := by decide +kernel
theorem dX8_reshape_75 : decode cX8_reshape 75 = .ok (.goto 71, 3) := by decide +kernel
theorem dX8_reshape_78 : decode cX8_reshape 78 = .ok (.iload_n 1, 1) := by decide +kernel
theorem dX8_reshape_79 : decode cX8_reshape 79 = .ok (.bipush 109, 2) := by decide +kernel
theorem dX8_reshape_81 : decode cX8_reshape 81 = .ok (.if_icmp .ne 22, 3) := by decide +kernel
theorem dX8_reshape_84 : decode cX8_reshape 84 = .ok (.aload_n 2, 1) := by decide +kernel
theorem dX8_reshape_85 : decode cX8_reshape 85 = .ok (.iconst 0, 1) := by decide +kernel
theorem dX8_reshape_86 : decode cX8_reshape 86 = .ok (.iaload, 1) := by decide +kernel
theorem dX8_reshape_87 : decode cX8_reshape 87 = .ok (.iconst 2, 1) := by decide +kernel
theorem dX8_reshape_88 : decode cX8_reshape 88 = .ok (.aload_n 2, 1) := by decide +kernel
theorem dX8_reshape_89 : decode cX8_reshape 89 = .ok (.iconst 1, 1) := by decide +kernel
theorem dX8_reshape_90 : decode cX8_reshape 90 = .ok (.iaload, 1) := by decide +kernel
theorem dX8_reshape_91 : decode cX8_reshape 91 = .ok (.imul, 1) := by decide +kernel
theorem dX8_reshape_92 : decode cX8_reshape 92 = .ok (.iconst 1, 1) := by decide +kernel
theorem dX8_reshape_93 : decode cX8_reshape 93 = .ok (.isub, 1) := by decide +kernel
theorem dX8_reshape_94 : decode cX8_reshape 94 = .ok (.aload_n 3, 1) := by decide +kernel
theorem dX8_reshape_95 : decode cX8_reshape 95 = .ok (.aload 4, 2) := by decide +kernel
theorem dX8_reshape_97 : decode cX8_reshape 97 = .ok (.invokestatic 81, 3) := by decide +kernel
theorem dX8_reshape_100 : decode cX8_reshape 100 = .ok (.goto 46, 3) := by decide +kernel
theorem dX8_reshape_103 : decode cX8_reshape 103 = .ok (.iload_n 1, 1) := by decide +kernel
theorem dX8_reshape_104 : decode cX8_reshape 104 = .ok (.bipush 112, 2) := by decide +kernel
theorem dX8_reshape_106 : decode cX8_reshape 106 = .ok (.if_icmp .ne 13, 3) := by decide +kernel
theorem dX8_reshape_109 : decode cX8_reshape 109 = .ok (.aload_n 2, 1) := by decide +kernel
theorem dX8_reshape_110 : decode cX8_reshape 110 = .ok (.aload_n 3, 1) := by decide +kernel
theorem dX8_reshape_111 : decode cX8_reshape 111 = .ok (.aload 4, 2) := by decide +kernel
theorem dX8_reshape_113 : decode cX8_reshape 113 = .ok (.invokestatic 85, 3) := by decide +kernel
theorem dX8_reshape_116 : decode cX8_reshape 116 = .ok (.goto 30, 3) := by decide +kernel
theorem dX8_reshape_119 : decode cX8_reshape 119 = .ok (.iload_n 1, 1) := by decide +kernel
theorem dX8_reshape_120 : decode cX8_reshape 120 = .ok (.bipush 104, 2) := by decide +kernel
theorem dX8_reshape_122 : decode cX8_reshape 122 = .ok (.if_icmp .ne 12, 3) := by decide +kernel
theorem dX8_reshape_125 : decode cX8_reshape 125 = .ok (.aload 4, 2) := by decide +kernel
theorem dX8_reshape_127 : decode cX8_reshape 127 = .ok (.aload_n 3, 1) := by decide +kernel
theorem dX8_reshape_128 : decode cX8_reshape 128 = .ok (.invokevirtual 89, 3) := by decide +kernel
theorem dX8_reshape_131 : decode cX8_reshape 131 = .ok (.goto 15, 3) := by decide +kernel
theorem dX8_reshape_134 : decode cX8_reshape 134 = .ok (.aload_n 0, 1) := by decide +kernel
theorem dX8_reshape_135 : decode cX8_reshape 135 = .ok (.aload_n 2, 1) := by decide +kernel
theorem dX8_reshape_136 : decode cX8_reshape 136 = .ok (.iconst 1, 1) := by decide +kernel
theorem dX8_reshape_137 : decode cX8_reshape 137 = .ok (.iaload, 1) := by decide +kernel
theorem dX8_reshape_138 : decode cX8_reshape 138 = .ok (.aload_n 2, 1) := by decide +kernel
theorem dX8_reshape_139 : decode cX8_reshape 139 = .ok (.iconst 2, 1) := by decide +kernel
theorem dX8_reshape_140 : decode cX8_reshape 140 = .ok (.iaload, 1) := by decide +kernel
theorem dX8_reshape_141 : decode cX8_reshape 141 = .ok (.aload 4, 2) := by decide +kernel
theorem dX8_reshape_143 : decode cX8_reshape 143 = .ok (.invokevirtual 92, 3) := by decide +kernel
theorem dX8_reshape_146 : decode cX8_reshape 146 = .ok (.return_, 1) := by decide +kernel
theorem dX8_mirror_0 : decode cX8_mirror 0 = .ok (.iconst 0, 1) := by decide +kernel
theorem dX8_mirror_1 : decode cX8_mirror 1 = .ok (.istore 4, 2) := by decide +kernel
theorem dX8_mirror_3 : decode cX8_mirror 3 = .ok (.iload 4, 2) := by decide +kernel
theorem dX8_mirror_5 : decode cX8_mirror 5 = .ok (.bipush 8, 2) := by decide +kernel
theorem dX8_mirror_7 : decode cX8_mirror 7 = .ok (.if_icmp .ge 99, 3) := by decide +kernel
theorem dX8_mirror_10 : decode cX8_mirror 10 = .ok (.iconst 0, 1) := by decide +kernel
theorem dX8_mirror_11 : decode cX8_mirror 11 = .ok (.istore 5, 2) := by decide +kernel
theorem dX8_mirror_13 : decode cX8_mirror 13 = .ok (.iload 5, 2) := by decide +kernel
theorem dX8_mirror_15 : decode cX8_mirror 15 = .ok (.bipush 8, 2) := by decide +kernel
theorem dX8_mirror_17 : decode cX8_mirror 17 = .ok (.if_icmp .ge 83, 3) := by decide +kernel
theorem dX8_mirror_20 : decode cX8_mirror 20 = .ok (.iconst 0, 1) := by decide +kernel
theorem dX8_mirror_21 : decode cX8_mirror 21 = .ok (.istore 6, 2) := by decide +kernel
theorem dX8_mirror_23 : decode cX8_mirror 23 = .ok (.iload 6, 2) := by decide +kernel
theorem dX8_mirror_25 : decode cX8_mirror 25 = .ok (.bipush 8, 2) := by decide +kernel
theorem dX8_mirror_27 : decode cX8_mirror 27 = .ok (.if_icmp .ge 67, 3) := by decide +kernel
theorem dX8_mirror_30 : decode cX8_mirror 30 = .ok (.aload_n 2, 1) := by decide +kernel
theorem dX8_mirror_31 : decode cX8_mirror 31 = .ok (.iload 6, 2) := by decide +kernel
theorem dX8_mirror_33 : decode cX8_mirror 33 = .ok (.iload 5, 2) := by decide +kernel
theorem dX8_mirror_35 : decode cX8_mirror 35 = .ok (.iload 4, 2) := by decide +kernel
theorem dX8_mirror_37 : decode cX8_mirror 37 = .ok (.invokevirtual 95, 3) := by decide +kernel
theorem dX8_mirror_40 : decode cX8_mirror 40 = .ok (.ifCond .eq 48, 3) := by decide +kernel
theorem dX8_mirror_43 : decode cX8_mirror 43 = .ok (.aload_n 3, 1) := by decide +kernel
theorem dX8_mirror_44 : decode cX8_mirror 44 = .ok (.iload_n 0, 1) := by decide +kernel
theorem dX8_mirror_45 : decode cX8_mirror 45 = .ok (.ifCond .ne 10, 3) := by decide +kernel
theorem dX8_mirror_48 : decode cX8_mirror 48 = .ok (.iload_n 1, 1) := by decide +kernel
theorem dX8_mirror_49 : decode cX8_mirror 49 = .ok (.iload 6, 2) := by decide +kernel
theorem dX8_mirror_51 : decode cX8_mirror 51 = .ok (.isub, 1) := by decide +kernel
theorem dX8_mirror_52 : decode cX8_mirror 52 = .ok (.goto 5, 3) := by decide +kernel
theorem dX8_mirror_55 : decode cX8_mirror 55 = .ok (.iload 6, 2) := by decide +kernel
theorem dX8_mirror_57 : decode cX8_mirror 57 = .ok (.iload_n 0, 1) := by decide +kernel
theorem dX8_mirror_58 : decode cX8_mirror 58 = .ok (.iconst 1, 1) := by decide +kernel
theorem dX8_mirror_59 : decode cX8_mirror 59 = .ok (.if_icmp .ne 10, 3) := by decide +kernel
theorem dX8_mirror_62 : decode cX8_mirror 62 = .ok (.iload_n 1, 1) := by decide +kernel
theorem dX8_mirror_63 : decode cX8_mirror 63 = .ok (.iload 5, 2) := by decide +kernel
theorem dX8_mirror_65 : decode cX8_mirror 65 = .ok (.isub, 1) := by decide +kernel
theorem dX8_mirror_66 : decode cX8_mirror 66 = .ok (.goto 5, 3) := by decide +kernel
theorem dX8_mirror_69 : decode cX8_mirror 69 = .ok (.iload 5, 2) := by decide +kernel
theorem dX8_mirror_71 : decode cX8_mirror 71 = .ok (.iload_n 0, 1) := by decide +kernel
theorem dX8_mirror_72 : decode cX8_mirror 72 = .ok (.iconst 2, 1) := by decide +kernel
theorem dX8_mirror_73 : decode cX8_mirror 73 = .ok (.if_icmp .ne 10, 3) := by decide +kernel
theorem dX8_mirror_76 : decode cX8_mirror 76 = .ok (.iload_n 1, 1) := by decide +kernel
theorem dX8_mirror_77 : decode cX8_mirror 77 = .ok (.iload 4, 2) := by decide +kernel
theorem dX8_mirror_79 : decode cX8_mirror 79 = .ok (.isub, 1) := by decide +kernel
theorem dX8_mirror_80 : decode cX8_mirror 80 = .ok (.goto 5, 3) := by decide +kernel
theorem dX8_mirror_83 : decode cX8_mirror 83 = .ok (.iload 4, 2) := by decide +kernel
theorem dX8_mirror_85 : decode cX8_mirror 85 = .ok (.invokevirtual 99, 3) := by decide +kernel
theorem dX8_mirror_88 : decode cX8_mirror 88 = .ok (.iinc 6 1, 3) := by decide +kernel
theorem dX8_mirror_91 : decode cX8_mirror 91 = .ok (.goto (-68), 3) := by decide +kernel
theorem dX8_mirror_94 : decode cX8_mirror 94 = .ok (.iinc 5 1, 3) := by decide +kernel
theorem dX8_mirror_97 : decode cX8_mirror 97 = .ok (.goto (-84), 3) := by decide +kernel
theorem dX8_mirror_100 : decode cX8_mirror 100 = .ok (.iinc 4 1, 3) := by decide +kernel
theorem dX8_mirror_103 : decode cX8_mirror 103 = .ok (.goto (-100), 3) := by decide +kernel
theorem dX8_mirror_106 : decode cX8_mirror 106 = .ok (.return_, 1) := by decide +kernel
theorem dX8_repeat_0 : decode cX8_repeat 0 = .ok (.iconst 1, 1) := by decide +kernel
theorem dX8_repeat_1 : decode cX8_repeat 1 = .ok (.istore_n 3, 1) := by decide +kernel
theorem dX8_repeat_2 : decode cX8_repeat 2 = .ok (.iload_n 3, 1) := by decide +kernel
theorem dX8_repeat_3 : decode cX8_repeat 3 = .ok (.bipush 8, 2) := by decide +kernel
theorem dX8_repeat_5 : decode cX8_repeat 5 = .ok (.if_icmp .ge 36, 3) := by decide +kernel
theorem dX8_repeat_8 : decode cX8_repeat 8 = .ok (.iload_n 3, 1) := by decide +kernel
theorem dX8_repeat_9 : decode cX8_repeat 9 = .ok (.aload_n 0, 1) := by decide +kernel
theorem dX8_repeat_10 : decode cX8_repeat 10 = .ok (.iconst 3, 1) := by decide +kernel
theorem dX8_repeat_11 : decode cX8_repeat 11 = .ok (.iaload, 1) := by decide +kernel
theorem dX8_repeat_12 : decode cX8_repeat 12 = .ok (.if_icmp .gt 29, 3) := by decide +kernel
theorem dX8_repeat_15 : decode cX8_repeat 15 = .ok (.aload_n 2, 1) := by decide +kernel
theorem dX8_repeat_16 : decode cX8_repeat 16 = .ok (.aload_n 1, 1) := by decide +kernel
theorem dX8_repeat_17 : decode cX8_repeat 17 = .ok (.aload_n 0, 1) := by decide +kernel
theorem dX8_repeat_18 : decode cX8_repeat 18 = .ok (.iconst 0, 1) := by decide +kernel
theorem dX8_repeat_19 : decode cX8_repeat 19 = .ok (.iaload, 1) := by decide +kernel
theorem dX8_repeat_20 : decode cX8_repeat 20 = .ok (.iload_n 3, 1) := by decide +kernel
theorem dX8_repeat_21 : decode cX8_repeat 21 = .ok (.imul, 1) := by decide +kernel
theorem dX8_repeat_22 : decode cX8_repeat 22 = .ok (.aload_n 0, 1) := by decide +kernel
theorem dX8_repeat_23 : decode cX8_repeat 23 = .ok (.iconst 1, 1) := by decide +kernel
theorem dX8_repeat_24 : decode cX8_repeat 24 = .ok (.iaload, 1) := by decide +kernel
theorem dX8_repeat_25 : decode cX8_repeat 25 = .ok (.iload_n 3, 1) := by decide +kernel
theorem dX8_repeat_26 : decode cX8_repeat 26 = .ok (.imul, 1) := by decide +kernel
theorem dX8_repeat_27 : decode cX8_repeat 27 = .ok (.aload_n 0, 1) := by decide +kernel
theorem dX8_repeat_28 : decode cX8_repeat 28 = .ok (.iconst 2, 1) := by decide +kernel
theorem dX8_repeat_29 : decode cX8_repeat 29 = .ok (.iaload, 1) := by decide +kernel
theorem dX8_repeat_30 : decode cX8_repeat 30 = .ok (.iload_n 3, 1) := by decide +kernel
theorem dX8_repeat_31 : decode cX8_repeat 31 = .ok (.imul, 1) := by decide +kernel
theorem dX8_repeat_32 : decode cX8_repeat 32 = .ok (.invokevirtual 103, 3) := by decide +kernel
theorem dX8_repeat_35 : decode cX8_repeat 35 = .ok (.iinc 3 1, 3) := by decide +kernel
theorem dX8_repeat_38 : decode cX8_repeat 38 = .ok (.goto (-36), 3) := by decide +kernel
theorem dX8_repeat_41 : decode cX8_repeat 41 = .ok (.return_, 1) := by decide +kernel
theorem dX8_push_0 : decode cX8_push 0 = .ok (.iload_n 1, 1) := by decide +kernel
theorem dX8_push_1 : decode cX8_push 1 = .ok (.iconst 2, 1) := by decide +kernel
theorem dX8_push_2 : decode cX8_push 2 = .ok (.idiv, 1) := by decide +kernel
theorem dX8_push_3 : decode cX8_push 3 = .ok (.istore 4, 2) := by decide +kernel
theorem dX8_push_5 : decode cX8_push 5 = .ok (.iload_n 1, 1) := by decide +kernel
theorem dX8_push_6 : decode cX8_push 6 = .ok (.iconst 2, 1) := by decide +kernel
theorem dX8_push_7 : decode cX8_push 7 = .ok (.irem, 1) := by decide +kernel
theorem dX8_push_8 : decode cX8_push 8 = .ok (.ifCond .ne 7, 3) := by decide +kernel
theorem dX8_push_11 : decode cX8_push 11 = .ok (.iconst (-1), 1) := by decide +kernel
theorem dX8_push_12 : decode cX8_push 12 = .ok (.goto 4, 3) := by decide +kernel
theorem dX8_push_15 : decode cX8_push 15 = .ok (.iconst 1, 1) := by decide +kernel
theorem dX8_push_16 : decode cX8_push 16 = .ok (.istore 5, 2) := by decide +kernel
theorem dX8_push_18 : decode cX8_push 18 = .ok (.iconst 1, 1) := by decide +kernel
theorem dX8_push_19 : decode cX8_push 19 = .ok (.istore 6, 2) := by decide +kernel
theorem dX8_push_21 : decode cX8_push 21 = .ok (.iload 6, 2) := by decide +kernel
theorem dX8_push_23 : decode cX8_push 23 = .ok (.bipush 8, 2) := by decide +kernel
theorem dX8_push_25 : decode cX8_push 25 = .ok (.if_icmp .ge 65, 3) := by decide +kernel
theorem dX8_push_28 : decode cX8_push 28 = .ok (.iload 6, 2) := by decide +kernel
theorem dX8_push_30 : decode cX8_push 30 = .ok (.iload_n 2, 1) := by decide +kernel
theorem dX8_push_31 : decode cX8_push 31 = .ok (.if_icmp .gt 59, 3) := by decide +kernel
theorem dX8_push_34 : decode cX8_push 34 = .ok (.iload 5, 2) := by decide +kernel
theorem dX8_push_36 : decode cX8_push 36 = .ok (.iload 6, 2) := by decide +kernel
theorem dX8_push_38 : decode cX8_push 38 = .ok (.imul, 1) := by decide +kernel
theorem dX8_push_39 : decode cX8_push 39 = .ok (.istore 7, 2) := by decide +kernel
theorem dX8_push_41 : decode cX8_push 41 = .ok (.aload_n 3, 1) := by decide +kernel
theorem dX8_push_42 : decode cX8_push 42 = .ok (.aload_n 0, 1) := by decide +kernel
theorem dX8_push_43 : decode cX8_push 43 = .ok (.getfield 18, 3) := by decide +kernel
theorem dX8_push_46 : decode cX8_push 46 = .ok (.iload 4, 2) := by decide +kernel
theorem dX8_push_48 : decode cX8_push 48 = .ok (.ifCond .ne 8, 3) := by decide +kernel
theorem dX8_push_51 : decode cX8_push 51 = .ok (.iload 7, 2) := by decide +kernel
theorem dX8_push_53 : decode cX8_push 53 = .ok (.goto 4, 3) := by decide +kernel
theorem dX8_push_56 : decode cX8_push 56 = .ok (.iconst 0, 1) := by decide +kernel
theorem dX8_push_57 : decode cX8_push 57 = .ok (.iload 4, 2) := by decide +kernel
theorem dX8_push_59 : decode cX8_push 59 = .ok (.iconst 1, 1) := by decide +kernel
theorem dX8_push_60 : decode cX8_push 60 = .ok (.if_icmp .ne 8, 3) := by decide +kernel
theorem dX8_push_63 : decode cX8_push 63 = .ok (.iload 7, 2) := by decide +kernel
theorem dX8_push_65 : decode cX8_push 65 = .ok (.goto 4, 3) := by decide +kernel
theorem dX8_push_68 : decode cX8_push 68 = .ok (.iconst 0, 1) := by decide +kernel
theorem dX8_push_69 : decode cX8_push 69 = .ok (.iload 4, 2) := by decide +kernel
theorem dX8_push_71 : decode cX8_push 71 = .ok (.iconst 2, 1) := by decide +kernel
theorem dX8_push_72 : decode cX8_push 72 = .ok (.if_icmp .ne 8, 3) := by decide +kernel
theorem dX8_push_75 : decode cX8_push 75 = .ok (.iload 7, 2) := by decide +kernel
theorem dX8_push_77 : decode cX8_push 77 = .ok (.goto 4, 3) := by decide +kernel
theorem dX8_push_80 : decode cX8_push 80 = .ok (.iconst 0, 1) := by decide +kernel
theorem dX8_push_81 : decode cX8_push 81 = .ok (.invokevirtual 103, 3) := by decide +kernel
theorem dX8_push_84 : decode cX8_push 84 = .ok (.iinc 6 1, 3) := by decide +kernel
theorem dX8_push_87 : decode cX8_push 87 = .ok (.goto (-66), 3) := by decide +kernel
theorem dX8_push_90 : decode cX8_push 90 = .ok (.return_, 1) := by decide +kernel
theorem dX8_countNamed_0 : decode cX8_countNamed 0 = .ok (.aload_n 1, 1) := by decide +kernel
theorem dX8_countNamed_1 : decode cX8_countNamed 1 = .ok (.iload_n 2, 1) := by decide +kernel
theorem dX8_countNamed_2 : decode cX8_countNamed 2 = .ok (.iload_n 3, 1) := by decide +kernel
theorem dX8_countNamed_3 : decode cX8_countNamed 3 = .ok (.aload_n 0, 1) := by decide +kernel
theorem dX8_countNamed_4 : decode cX8_countNamed 4 = .ok (.getfield 18, 3) := by decide +kernel
theorem dX8_countNamed_7 : decode cX8_countNamed 7 = .ok (.invokevirtual 52, 3) := by decide +kernel
theorem dX8_countNamed_10 : decode cX8_countNamed 10 = .ok (.aload_n 0, 1) := by decide +kernel
theorem dX8_countNamed_11 : decode cX8_countNamed 11 = .ok (.getfield 18, 3) := by decide +kernel
theorem dX8_countNamed_14 : decode cX8_countNamed 14 = .ok (.invokevirtual 107, 3) := by decide +kernel
theorem dX8_countNamed_17 : decode cX8_countNamed 17 = .ok (.ireturn, 1) := by decide +kernel
theorem dX8_countPieces_0 : decode cX8_countPieces 0 = .ok (.iconst 0, 1) := by decide +kernel
theorem dX8_countPieces_1 : decode cX8_countPieces 1 = .ok (.istore_n 2, 1) := by decide +kernel
theorem dX8_countPieces_2 : decode cX8_countPieces 2 = .ok (.aload_n 0, 1) := by decide +kernel
theorem dX8_countPieces_3 : decode cX8_countPieces 3 = .ok (.getfield 21, 3) := by decide +kernel
theorem dX8_countPieces_6 : decode cX8_countPieces 6 = .ok (.aload_n 1, 1) := by decide +kernel
theorem dX8_countPieces_7 : decode cX8_countPieces 7 = .ok (.invokevirtual 111, 3) := by decide +kernel
theorem dX8_countPieces_10 : decode cX8_countPieces 10 = .ok (.iload_n 2, 1) := by decide +kernel
theorem dX8_countPieces_11 : decode cX8_countPieces 11 = .ok (.sipush 512, 3) := by decide +kernel
theorem dX8_countPieces_14 : decode cX8_countPieces 14 = .ok (.if_icmp .ge 69, 3) := by decide +kernel
theorem dX8_countPieces_17 : decode cX8_countPieces 17 = .ok (.aload_n 0, 1) := by decide +kernel
theorem dX8_countPieces_18 : decode cX8_countPieces 18 = .ok (.getfield 24, 3) := by decide +kernel
theorem dX8_countPieces_21 : decode cX8_countPieces 21 = .ok (.aload_n 0, 1) := by decide +kernel
theorem dX8_countPieces_22 : decode cX8_countPieces 22 = .ok (.getfield 21, 3) := by decide +kernel
theorem dX8_countPieces_25 : decode cX8_countPieces 25 = .ok (.invokevirtual 113, 3) := by decide +kernel
theorem dX8_countPieces_28 : decode cX8_countPieces 28 = .ok (.ifCond .eq 55, 3) := by decide +kernel
theorem dX8_countPieces_31 : decode cX8_countPieces 31 = .ok (.iconst 1, 1) := by decide +kernel
theorem dX8_countPieces_32 : decode cX8_countPieces 32 = .ok (.istore_n 3, 1) := by decide +kernel
theorem dX8_countPieces_33 : decode cX8_countPieces 33 = .ok (.iconst 0, 1) := by decide +kernel
theorem dX8_countPieces_34 : decode cX8_countPieces 34 = .ok (.istore 4, 2) := by decide +kernel
theorem dX8_countPieces_36 : decode cX8_countPieces 36 = .ok (.iload_n 3, 1) := by decide +kernel
theorem dX8_countPieces_37 : decode cX8_countPieces 37 = .ok (.ifCond .eq 29, 3) := by decide +kernel
theorem dX8_countPieces_40 : decode cX8_countPieces 40 = .ok (.iload 4, 2) := by decide +kernel
theorem dX8_countPieces_42 : decode cX8_countPieces 42 = .ok (.sipush 512, 3) := by decide +kernel
theorem dX8_countPieces_45 : decode cX8_countPieces 45 = .ok (.if_icmp .ge 21, 3) := by decide +kernel
theorem dX8_countPieces_48 : decode cX8_countPieces 48 = .ok (.aload_n 0, 1) := by decide +kernel
theorem dX8_countPieces_49 : decode cX8_countPieces 49 = .ok (.getfield 24, 3) := by decide +kernel
theorem dX8_countPieces_52 : decode cX8_countPieces 52 = .ok (.aload_n 0, 1) := by decide +kernel
theorem dX8_countPieces_53 : decode cX8_countPieces 53 = .ok (.getfield 21, 3) := by decide +kernel
theorem dX8_countPieces_56 : decode cX8_countPieces 56 = .ok (.invokevirtual 117, 3) := by decide +kernel
theorem dX8_countPieces_59 : decode cX8_countPieces 59 = .ok (.istore_n 3, 1) := by decide +kernel
theorem dX8_countPieces_60 : decode cX8_countPieces 60 = .ok (.iinc 4 1, 3) := by decide +kernel
theorem dX8_countPieces_63 : decode cX8_countPieces 63 = .ok (.goto (-27), 3) := by decide +kernel
theorem dX8_countPieces_66 : decode cX8_countPieces 66 = .ok (.aload_n 0, 1) := by decide +kernel
theorem dX8_countPieces_67 : decode cX8_countPieces 67 = .ok (.getfield 21, 3) := by decide +kernel
theorem dX8_countPieces_70 : decode cX8_countPieces 70 = .ok (.aload_n 0, 1) := by decide +kernel
theorem dX8_countPieces_71 : decode cX8_countPieces 71 = .ok (.getfield 24, 3) := by decide +kernel
theorem dX8_countPieces_74 : decode cX8_countPieces 74 = .ok (.invokevirtual 75, 3) := by decide +kernel
theorem dX8_countPieces_77 : decode cX8_countPieces 77 = .ok (.iinc 2 1, 3) := by decide +kernel
theorem dX8_countPieces_80 : decode cX8_countPieces 80 = .ok (.goto (-70), 3) := by decide +kernel
theorem dX8_countPieces_83 : decode cX8_countPieces 83 = .ok (.iload_n 2, 1) := by decide +kernel
theorem dX8_countPieces_84 : decode cX8_countPieces 84 = .ok (.ireturn, 1) := by decide +kernel
theorem dX9_init_0 : decode cX9_init 0 = .ok (.aload_n 0, 1) := by decide +kernel
theorem dX9_init_1 : decode cX9_init 1 = .ok (.invokespecial 1, 3) := by decide +kernel
theorem dX9_init_4 : decode cX9_init 4 = .ok (.aload_n 0, 1) := by decide +kernel
theorem dX9_init_5 : decode cX9_init 5 = .ok (.new 7, 3) := by decide +kernel
theorem dX9_init_8 : decode cX9_init 8 = .ok (.dup, 1) := by decide +kernel
theorem dX9_init_9 : decode cX9_init 9 = .ok (.invokespecial 9, 3) := by decide +kernel
theorem dX9_init_12 : decode cX9_init 12 = .ok (.putfield 10, 3) := by decide +kernel
theorem dX9_init_15 : decode cX9_init 15 = .ok (.aload_n 0, 1) := by decide +kernel
theorem dX9_init_16 : decode cX9_init 16 = .ok (.new 16, 3) := by decide +kernel
theorem dX9_init_19 : decode cX9_init 19 = .ok (.dup, 1) := by decide +kernel
theorem dX9_init_20 : decode cX9_init 20 = .ok (.invokespecial 18, 3) := by decide +kernel
theorem dX9_init_23 : decode cX9_init 23 = .ok (.putfield 19, 3) := by decide +kernel
theorem dX9_init_26 : decode cX9_init 26 = .ok (.return_, 1) := by decide +kernel
theorem dX9_setNumber_0 : decode cX9_setNumber 0 = .ok (.iload_n 1, 1) := by decide +kernel
theorem dX9_setNumber_1 : decode cX9_setNumber 1 = .ok (.invokestatic 23, 3) := by decide +kernel
theorem dX9_setNumber_4 : decode cX9_setNumber 4 = .ok (.ifCond .eq 25, 3) := by decide +kernel
theorem dX9_setNumber_7 : decode cX9_setNumber 7 = .ok (.iload_n 3, 1) := by decide +kernel
theorem dX9_setNumber_8 : decode cX9_setNumber 8 = .ok (.invokestatic 29, 3) := by decide +kernel
theorem dX9_setNumber_11 : decode cX9_setNumber 11 = .ok (.ifCond .eq 18, 3) := by decide +kernel
theorem dX9_setNumber_14 : decode cX9_setNumber 14 = .ok (.iload_n 2, 1) := by decide +kernel
theorem dX9_setNumber_15 : decode cX9_setNumber 15 = .ok (.invokestatic 33, 3) := by decide +kernel
theorem dX9_setNumber_18 : decode cX9_setNumber 18 = .ok (.ifCond .eq 11, 3) := by decide +kernel
theorem dX9_setNumber_21 : decode cX9_setNumber 21 = .ok (.iload 4, 2) := by decide +kernel
theorem dX9_setNumber_23 : decode cX9_setNumber 23 = .ok (.invokestatic 33, 3) := by decide +kernel
theorem dX9_setNumber_26 : decode cX9_setNumber 26 = .ok (.ifCond .ne 13, 3) := by decide +kernel
theorem dX9_setNumber_29 : decode cX9_setNumber 29 = .ok (.new 36, 3) := by decide +kernel
theorem dX9_setNumber_32 : decode cX9_setNumber 32 = .ok (.dup, 1) := by decide +kernel
theorem dX9_setNumber_33 : decode cX9_setNumber 33 = .ok (.ldc 38, 2) := by decide +kernel
theorem dX9_setNumber_35 : decode cX9_setNumber 35 = .ok (.invokespecial 40, 3) := by decide +kernel
theorem dX9_setNumber_38 : decode cX9_setNumber 38 = .ok (.athrow, 1) := by decide +kernel
theorem dX9_setNumber_39 : decode cX9_setNumber 39 = .ok (.aload_n 0, 1) := by decide +kernel
theorem dX9_setNumber_40 : decode cX9_setNumber 40 = .ok (.getfield 10, 3) := by decide +kernel
theorem dX9_setNumber_43 : decode cX9_setNumber 43 = .ok (.getfield 43, 3) := by decide +kernel
theorem dX9_setNumber_46 : decode cX9_setNumber 46 = .ok (.getfield 47, 3) := by decide +kernel
theorem dX9_setNumber_49 : decode cX9_setNumber 49 = .ok (.astore 5, 2) := by decide +kernel
theorem dX9_setNumber_51 : decode cX9_setNumber 51 = .ok (.aload 5, 2) := by decide +kernel
theorem dX9_setNumber_53 : decode cX9_setNumber 53 = .ok (.iload_n 1, 1) := by decide +kernel
theorem dX9_setNumber_54 : decode cX9_setNumber 54 = .ok (.iload_n 2, 1) := by decide +kernel
theorem dX9_setNumber_55 : decode cX9_setNumber 55 = .ok (.iload 4, 2) := by decide +kernel
theorem dX9_setNumber_57 : decode cX9_setNumber 57 = .ok (.invokevirtual 53, 3) := by decide +kernel
theorem dX9_setNumber_60 : decode cX9_setNumber 60 = .ok (.ifCond .eq 13, 3) := by decide +kernel
theorem dX9_setNumber_63 : decode cX9_setNumber 63 = .ok (.new 57, 3) := by decide +kernel
theorem dX9_setNumber_66 : decode cX9_setNumber 66 = .ok (.dup, 1) := by decide +kernel
theorem dX9_setNumber_67 : decode cX9_setNumber 67 = .ok (.ldc 59, 2) := by decide +kernel
theorem dX9_setNumber_69 : decode cX9_setNumber 69 = .ok (.invokespecial 61, 3) := by decide +kernel
theorem dX9_setNumber_72 : decode cX9_setNumber 72 = .ok (.athrow, 1) := by decide +kernel
theorem dX9_setNumber_73 : decode cX9_setNumber 73 = .ok (.aload 5, 2) := by decide +kernel
theorem dX9_setNumber_75 : decode cX9_setNumber 75 = .ok (.getfield 62, 3) := by decide +kernel
theorem dX9_setNumber_78 : decode cX9_setNumber 78 = .ok (.iload_n 1, 1) := by decide +kernel
theorem dX9_setNumber_79 : decode cX9_setNumber 79 = .ok (.iaload, 1) := by decide +kernel
theorem dX9_setNumber_80 : decode cX9_setNumber 80 = .ok (.istore 6, 2) := by decide +kernel
theorem dX9_setNumber_82 : decode cX9_setNumber 82 = .ok (.aload 5, 2) := by decide +kernel
theorem dX9_setNumber_84 : decode cX9_setNumber 84 = .ok (.getfield 66, 3) := by decide +kernel
theorem dX9_setNumber_87 : decode cX9_setNumber 87 = .ok (.iload_n 1, 1) := by decide +kernel
theorem dX9_setNumber_88 : decode cX9_setNumber 88 = .ok (.caload, 1) := by decide +kernel
theorem dX9_setNumber_89 : decode cX9_setNumber 89 = .ok (.istore 7, 2) := by decide +kernel
theorem dX9_setNumber_91 : decode cX9_setNumber 91 = .ok (.aload 5, 2) := by decide +kernel
theorem dX9_setNumber_93 : decode cX9_setNumber 93 = .ok (.getfield 70, 3) := by decide +kernel
theorem dX9_setNumber_96 : decode cX9_setNumber 96 = .ok (.iload_n 1, 1) := by decide +kernel
theorem dX9_setNumber_97 : decode cX9_setNumber 97 = .ok (.iaload, 1) := by decide +kernel
theorem dX9_setNumber_98 : decode cX9_setNumber 98 = .ok (.istore 8, 2) := by decide +kernel
theorem dX9_setNumber_100 : decode cX9_setNumber 100 = .ok (.aload 5, 2) := by decide +kernel
theorem dX9_setNumber_102 : decode cX9_setNumber 102 = .ok (.iload_n 1, 1) := by decide +kernel
theorem dX9_setNumber_103 : decode cX9_setNumber 103 = .ok (.iload_n 2, 1) := by decide +kernel
theorem dX9_setNumber_104 : decode cX9_setNumber 104 = .ok (.iload_n 3, 1) := by decide +kernel
theorem dX9_setNumber_105 : decode cX9_setNumber 105 = .ok (.iload 4, 2) := by decide +kernel
theorem dX9_setNumber_107 : decode cX9_setNumber 107 = .ok (.invokevirtual 73, 3) := by decide +kernel
theorem dX9_setNumber_110 : decode cX9_setNumber 110 = .ok (.aload_n 0, 1) := by decide +kernel
theorem dX9_setNumber_111 : decode cX9_setNumber 111 = .ok (.getfield 10, 3) := by decide +kernel
theorem dX9_setNumber_114 : decode cX9_setNumber 114 = .ok (.getfield 43, 3) := by decide +kernel
theorem dX9_setNumber_117 : decode cX9_setNumber 117 = .ok (.invokevirtual 77, 3) := by decide +kernel
theorem dX9_setNumber_120 : decode cX9_setNumber 120 = .ok (.ifCond .ne 25, 3) := by decide +kernel
theorem dX9_setNumber_123 : decode cX9_setNumber 123 = .ok (.aload 5, 2) := by decide +kernel
theorem dX9_setNumber_125 : decode cX9_setNumber 125 = .ok (.iload_n 1, 1) := by decide +kernel
theorem dX9_setNumber_126 : decode cX9_setNumber 126 = .ok (.iload 6, 2) := by decide +kernel
theorem dX9_setNumber_128 : decode cX9_setNumber 128 = .ok (.iload 7, 2) := by decide +kernel
theorem dX9_setNumber_130 : decode cX9_setNumber 130 = .ok (.iload 8, 2) := by decide +kernel
theorem dX9_setNumber_132 : decode cX9_setNumber 132 = .ok (.invokevirtual 73, 3) := by decide +kernel
theorem dX9_setNumber_135 : decode cX9_setNumber 135 = .ok (.new 57, 3) := by decide +kernel
theorem dX9_setNumber_138 : decode cX9_setNumber 138 = .ok (.dup, 1) := by decide +kernel
theorem dX9_setNumber_139 : decode cX9_setNumber 139 = .ok (.ldc 81, 2) := by decide +kernel
theorem dX9_setNumber_141 : decode cX9_setNumber 141 = .ok (.invokespecial 61, 3) := by decide +kernel
theorem dX9_setNumber_144 : decode cX9_setNumber 144 = .ok (.athrow, 1) := by decide +kernel
theorem dX9_setNumber_145 : decode cX9_setNumber 145 = .ok (.aload_n 0, 1) := by decide +kernel
theorem dX9_setNumber_146 : decode cX9_setNumber 146 = .ok (.getfield 10, 3) := by decide +kernel
theorem dX9_setNumber_149 : decode cX9_setNumber 149 = .ok (.invokevirtual 83, 3) := by decide +kernel
theorem dX9_setNumber_152 : decode cX9_setNumber 152 = .ok (.aload 5, 2) := by decide +kernel
theorem dX9_setNumber_154 : decode cX9_setNumber 154 = .ok (.getfield 86, 3) := by decide +kernel
theorem dX9_setNumber_157 : decode cX9_setNumber 157 = .ok (.iload_n 1, 1) := by decide +kernel
theorem dX9_setNumber_158 : decode cX9_setNumber 158 = .ok (.iaload, 1) := by decide +kernel
theorem dX9_setNumber_159 : decode cX9_setNumber 159 = .ok (.ireturn, 1) := by decide +kernel
theorem dX9_number_0 : decode cX9_number 0 = .ok (.iload_n 1, 1) := by decide +kernel
theorem dX9_number_1 : decode cX9_number 1 = .ok (.invokestatic 23, 3) := by decide +kernel
theorem dX9_number_4 : decode cX9_number 4 = .ok (.ifCond .ne 13, 3) := by decide +kernel
theorem dX9_number_7 : decode cX9_number 7 = .ok (.new 36, 3) := by decide +kernel
theorem dX9_number_10 : decode cX9_number 10 = .ok (.dup, 1) := by decide +kernel
theorem dX9_number_11 : decode cX9_number 11 = .ok (.ldc 89, 2) := by decide +kernel
theorem dX9_number_13 : decode cX9_number 13 = .ok (.invokespecial 40, 3) := by decide +kernel
theorem dX9_number_16 : decode cX9_number 16 = .ok (.athrow, 1) := by decide +kernel
theorem dX9_number_17 : decode cX9_number 17 = .ok (.aload_n 0, 1) := by decide +kernel
theorem dX9_number_18 : decode cX9_number 18 = .ok (.getfield 10, 3) := by decide +kernel
theorem dX9_number_21 : decode cX9_number 21 = .ok (.getfield 43, 3) := by decide +kernel
theorem dX9_number_24 : decode cX9_number 24 = .ok (.getfield 47, 3) := by decide +kernel
theorem dX9_number_27 : decode cX9_number 27 = .ok (.getfield 86, 3) := by decide +kernel
theorem dX9_number_30 : decode cX9_number 30 = .ok (.iload_n 1, 1) := by decide +kernel
theorem dX9_number_31 : decode cX9_number 31 = .ok (.iaload, 1) := by decide +kernel
theorem dX9_number_32 : decode cX9_number 32 = .ok (.ireturn, 1) := by decide +kernel
theorem dX9_addFeature_0 : decode cX9_addFeature 0 = .ok (.ldc 91, 2) := by decide +kernel
theorem dX9_addFeature_2 : decode cX9_addFeature 2 = .ok (.iload_n 1, 1) := by decide +kernel
theorem dX9_addFeature_3 : decode cX9_addFeature 3 = .ok (.invokevirtual 93, 3) := by decide +kernel
theorem dX9_addFeature_6 : decode cX9_addFeature 6 = .ok (.ifCond .lt 13, 3) := by decide +kernel
theorem dX9_addFeature_9 : decode cX9_addFeature 9 = .ok (.iload_n 2, 1) := by decide +kernel
theorem dX9_addFeature_10 : decode cX9_addFeature 10 = .ok (.iload_n 3, 1) := by decide +kernel
theorem dX9_addFeature_11 : decode cX9_addFeature 11 = .ok (.iload 4, 2) := by decide +kernel
theorem dX9_addFeature_13 : decode cX9_addFeature 13 = .ok (.invokestatic 99, 3) := by decide +kernel
theorem dX9_addFeature_16 : decode cX9_addFeature 16 = .ok (.ifCond .ne 13, 3) := by decide +kernel
theorem dX9_addFeature_19 : decode cX9_addFeature 19 = .ok (.new 36, 3) := by decide +kernel
theorem dX9_addFeature_22 : decode cX9_addFeature 22 = .ok (.dup, 1) := by decide +kernel
theorem dX9_addFeature_23 : decode cX9_addFeature 23 = .ok (.ldc 102, 2) := by decide +kernel
theorem dX9_addFeature_25 : decode cX9_addFeature 25 = .ok (.invokespecial 40, 3) := by decide +kernel
theorem dX9_addFeature_28 : decode cX9_addFeature 28 = .ok (.athrow, 1) := by decide +kernel
theorem dX9_addFeature_29 : decode cX9_addFeature 29 = .ok (.aload_n 0, 1) := by decide +kernel
theorem dX9_addFeature_30 : decode cX9_addFeature 30 = .ok (.getfield 10, 3) := by decide +kernel
theorem dX9_addFeature_33 : decode cX9_addFeature 33 = .ok (.getfield 43, 3) := by decide +kernel
theorem dX9_addFeature_36 : decode cX9_addFeature 36 = .ok (.astore 5, 2) := by decide +kernel
theorem dX9_addFeature_38 : decode cX9_addFeature 38 = .ok (.aload 5, 2) := by decide +kernel
theorem dX9_addFeature_40 : decode cX9_addFeature 40 = .ok (.getfield 104, 3) := by decide +kernel
theorem dX9_addFeature_43 : decode cX9_addFeature 43 = .ok (.bipush 12, 2) := by decide +kernel
theorem dX9_addFeature_45 : decode cX9_addFeature 45 = .ok (.if_icmp .ge 13, 3) := by decide +kernel
theorem dX9_addFeature_48 : decode cX9_addFeature 48 = .ok (.aload 5, 2) := by decide +kernel
theorem dX9_addFeature_50 : decode cX9_addFeature 50 = .ok (.getfield 108, 3) := by decide +kernel
theorem dX9_addFeature_53 : decode cX9_addFeature 53 = .ok (.bipush 40, 2) := by decide +kernel
theorem dX9_addFeature_55 : decode cX9_addFeature 55 = .ok (.if_icmp .lt 13, 3) := by decide +kernel
theorem dX9_addFeature_58 : decode cX9_addFeature 58 = .ok (.new 111, 3) := by decide +kernel
theorem dX9_addFeature_61 : decode cX9_addFeature 61 = .ok (.dup, 1) := by decide +kernel
theorem dX9_addFeature_62 : decode cX9_addFeature 62 = .ok (.ldc 113, 2) := by decide +kernel
theorem dX9_addFeature_64 : decode cX9_addFeature 64 = .ok (.invokespecial 115, 3) := by decide +kernel
theorem dX9_addFeature_67 : decode cX9_addFeature 67 = .ok (.athrow, 1) := by decide +kernel
theorem dX9_addFeature_68 : decode cX9_addFeature 68 = .ok (.aload 5, 2) := by decide +kernel
theorem dX9_addFeature_70 : decode cX9_addFeature 70 = .ok (.aload 5, 2) := by decide +kernel
theorem dX9_addFeature_72 : decode cX9_addFeature 72 = .ok (.getfield 108, 3) := by decide +kernel
theorem dX9_addFeature_75 : decode cX9_addFeature 75 = .ok (.invokevirtual 116, 3) := by decide +kernel
theorem dX9_addFeature_78 : decode cX9_addFeature 78 = .ok (.ifCond .eq 13, 3) := by decide +kernel
theorem dX9_addFeature_81 : decode cX9_addFeature 81 = .ok (.new 57, 3) := by decide +kernel
theorem dX9_addFeature_84 : decode cX9_addFeature 84 = .ok (.dup, 1) := by decide +kernel
theorem dX9_addFeature_85 : decode cX9_addFeature 85 = .ok (.ldc 81, 2) := by decide +kernel
theorem dX9_addFeature_87 : decode cX9_addFeature 87 = .ok (.invokespecial 61, 3) := by decide +kernel
theorem dX9_addFeature_90 : decode cX9_addFeature 90 = .ok (.athrow, 1) := by decide +kernel
theorem dX9_addFeature_91 : decode cX9_addFeature 91 = .ok (.aload 5, 2) := by decide +kernel
theorem dX9_addFeature_93 : decode cX9_addFeature 93 = .ok (.iload_n 1, 1) := by decide +kernel
theorem dX9_addFeature_94 : decode cX9_addFeature 94 = .ok (.iload_n 2, 1) := by decide +kernel
theorem dX9_addFeature_95 : decode cX9_addFeature 95 = .ok (.iload_n 3, 1) := by decide +kernel
theorem dX9_addFeature_96 : decode cX9_addFeature 96 = .ok (.iload 4, 2) := by decide +kernel
theorem dX9_addFeature_98 : decode cX9_addFeature 98 = .ok (.invokevirtual 119, 3) := by decide +kernel
theorem dX9_addFeature_101 : decode cX9_addFeature 101 = .ok (.istore 6, 2) := by decide +kernel
theorem dX9_addFeature_103 : decode cX9_addFeature 103 = .ok (.aload_n 0, 1) := by decide +kernel
theorem dX9_addFeature_104 : decode cX9_addFeature 104 = .ok (.getfield 10, 3) := by decide +kernel
theorem dX9_addFeature_107 : decode cX9_addFeature 107 = .ok (.invokevirtual 83, 3) := by decide +kernel
theorem dX9_addFeature_110 : decode cX9_addFeature 110 = .ok (.iload 6, 2) := by decide +kernel
theorem dX9_addFeature_112 : decode cX9_addFeature 112 = .ok (.ireturn, 1) := by decide +kernel
theorem dX9_setSize_0 : decode cX9_setSize 0 = .ok (.aload_n 0, 1) := by decide +kernel
theorem dX9_setSize_1 : decode cX9_setSize 1 = .ok (.getfield 10, 3) := by decide +kernel
theorem dX9_setSize_4 : decode cX9_setSize 4 = .ok (.getfield 43, 3) := by decide +kernel
theorem dX9_setSize_7 : decode cX9_setSize 7 = .ok (.astore 5, 2) := by decide +kernel
theorem dX9_setSize_9 : decode cX9_setSize 9 = .ok (.aload 5, 2) := by decide +kernel
theorem dX9_setSize_11 : decode cX9_setSize 11 = .ok (.iload_n 1, 1) := by decide +kernel
theorem dX9_setSize_12 : decode cX9_setSize 12 = .ok (.invokevirtual 123, 3) := by decide +kernel
theorem dX9_setSize_15 : decode cX9_setSize 15 = .ok (.ifCond .ge 13, 3) := by decide +kernel
theorem dX9_setSize_18 : decode cX9_setSize 18 = .ok (.new 126, 3) := by decide +kernel
theorem dX9_setSize_21 : decode cX9_setSize 21 = .ok (.dup, 1) := by decide +kernel
theorem dX9_setSize_22 : decode cX9_setSize 22 = .ok (.ldc 128, 2) := by decide +kernel
theorem dX9_setSize_24 : decode cX9_setSize 24 = .ok (.invokespecial 130, 3) := by decide +kernel
theorem dX9_setSize_27 : decode cX9_setSize 27 = .ok (.athrow, 1) := by decide +kernel
theorem dX9_setSize_28 : decode cX9_setSize 28 = .ok (.iload_n 2, 1) := by decide +kernel
theorem dX9_setSize_29 : decode cX9_setSize 29 = .ok (.iload_n 3, 1) := by decide +kernel
theorem dX9_setSize_30 : decode cX9_setSize 30 = .ok (.iload 4, 2) := by decide +kernel
theorem dX9_setSize_32 : decode cX9_setSize 32 = .ok (.invokestatic 99, 3) := by decide +kernel
theorem dX9_setSize_35 : decode cX9_setSize 35 = .ok (.ifCond .ne 13, 3) := by decide +kernel
theorem dX9_setSize_38 : decode cX9_setSize 38 = .ok (.new 36, 3) := by decide +kernel
theorem dX9_setSize_41 : decode cX9_setSize 41 = .ok (.dup, 1) := by decide +kernel
theorem dX9_setSize_42 : decode cX9_setSize 42 = .ok (.ldc 131, 2) := by decide +kernel
theorem dX9_setSize_44 : decode cX9_setSize 44 = .ok (.invokespecial 40, 3) := by decide +kernel
theorem dX9_setSize_47 : decode cX9_setSize 47 = .ok (.athrow, 1) := by decide +kernel
theorem dX9_setSize_48 : decode cX9_setSize 48 = .ok (.aload 5, 2) := by decide +kernel
theorem dX9_setSize_50 : decode cX9_setSize 50 = .ok (.iload_n 1, 1) := by decide +kernel
theorem dX9_setSize_51 : decode cX9_setSize 51 = .ok (.iconst 0, 1) := by decide +kernel
theorem dX9_setSize_52 : decode cX9_setSize 52 = .ok (.iload_n 2, 1) := by decide +kernel
theorem dX9_setSize_53 : decode cX9_setSize 53 = .ok (.invokevirtual 133, 3) := by decide +kernel
theorem dX9_setSize_56 : decode cX9_setSize 56 = .ok (.istore 6, 2) := by decide +kernel
theorem dX9_setSize_58 : decode cX9_setSize 58 = .ok (.iload 6, 2) := by decide +kernel
theorem dX9_setSize_60 : decode cX9_setSize 60 = .ok (.aload 5, 2) := by decide +kernel
theorem dX9_setSize_62 : decode cX9_setSize 62 = .ok (.iload_n 1, 1) := by decide +kernel
theorem dX9_setSize_63 : decode cX9_setSize 63 = .ok (.iconst 1, 1) := by decide +kernel
theorem dX9_setSize_64 : decode cX9_setSize 64 = .ok (.iload_n 3, 1) := by decide +kernel
theorem dX9_setSize_65 : decode cX9_setSize 65 = .ok (.invokevirtual 133, 3) := by decide +kernel
theorem dX9_setSize_68 : decode cX9_setSize 68 = .ok (.iadd, 1) := by decide +kernel
theorem dX9_setSize_69 : decode cX9_setSize 69 = .ok (.istore 6, 2) := by decide +kernel
theorem dX9_setSize_71 : decode cX9_setSize 71 = .ok (.iload 6, 2) := by decide +kernel
theorem dX9_setSize_73 : decode cX9_setSize 73 = .ok (.aload 5, 2) := by decide +kernel
theorem dX9_setSize_75 : decode cX9_setSize 75 = .ok (.iload_n 1, 1) := by decide +kernel
theorem dX9_setSize_76 : decode cX9_setSize 76 = .ok (.iconst 2, 1) := by decide +kernel
theorem dX9_setSize_77 : decode cX9_setSize 77 = .ok (.iload 4, 2) := by decide +kernel
theorem dX9_setSize_79 : decode cX9_setSize 79 = .ok (.invokevirtual 133, 3) := by decide +kernel
theorem dX9_setSize_82 : decode cX9_setSize 82 = .ok (.iadd, 1) := by decide +kernel
theorem dX9_setSize_83 : decode cX9_setSize 83 = .ok (.istore 6, 2) := by decide +kernel
theorem dX9_setSize_85 : decode cX9_setSize 85 = .ok (.aload_n 0, 1) := by decide +kernel
theorem dX9_setSize_86 : decode cX9_setSize 86 = .ok (.getfield 10, 3) := by decide +kernel
theorem dX9_setSize_89 : decode cX9_setSize 89 = .ok (.invokevirtual 83, 3) := by decide +kernel
theorem dX9_setSize_92 : decode cX9_setSize 92 = .ok (.iload 6, 2) := by decide +kernel
theorem dX9_setSize_94 : decode cX9_setSize 94 = .ok (.ireturn, 1) := by decide +kernel
theorem dX9_remove_0 : decode cX9_remove 0 = .ok (.aload_n 0, 1) := by decide +kernel
theorem dX9_remove_1 : decode cX9_remove 1 = .ok (.getfield 10, 3) := by decide +kernel
theorem dX9_remove_4 : decode cX9_remove 4 = .ok (.getfield 43, 3) := by decide +kernel
theorem dX9_remove_7 : decode cX9_remove 7 = .ok (.astore_n 2, 1) := by decide +kernel
theorem dX9_remove_8 : decode cX9_remove 8 = .ok (.aload_n 2, 1) := by decide +kernel
theorem dX9_remove_9 : decode cX9_remove 9 = .ok (.iload_n 1, 1) := by decide +kernel
theorem dX9_remove_10 : decode cX9_remove 10 = .ok (.invokevirtual 123, 3) := by decide +kernel
theorem dX9_remove_13 : decode cX9_remove 13 = .ok (.istore_n 3, 1) := by decide +kernel
theorem dX9_remove_14 : decode cX9_remove 14 = .ok (.iload_n 3, 1) := by decide +kernel
theorem dX9_remove_15 : decode cX9_remove 15 = .ok (.ifCond .ge 13, 3) := by decide +kernel
theorem dX9_remove_18 : decode cX9_remove 18 = .ok (.new 126, 3) := by decide +kernel
theorem dX9_remove_21 : decode cX9_remove 21 = .ok (.dup, 1) := by decide +kernel
theorem dX9_remove_22 : decode cX9_remove 22 = .ok (.ldc 128, 2) := by decide +kernel
theorem dX9_remove_24 : decode cX9_remove 24 = .ok (.invokespecial 130, 3) := by decide +kernel
theorem dX9_remove_27 : decode cX9_remove 27 = .ok (.athrow, 1) := by decide +kernel
theorem dX9_remove_28 : decode cX9_remove 28 = .ok (.aload_n 2, 1) := by decide +kernel
theorem dX9_remove_29 : decode cX9_remove 29 = .ok (.iload_n 1, 1) := by decide +kernel
theorem dX9_remove_30 : decode cX9_remove 30 = .ok (.invokevirtual 116, 3) := by decide +kernel
theorem dX9_remove_33 : decode cX9_remove 33 = .ok (.ifCond .eq 13, 3) := by decide +kernel
theorem dX9_remove_36 : decode cX9_remove 36 = .ok (.new 57, 3) := by decide +kernel
theorem dX9_remove_39 : decode cX9_remove 39 = .ok (.dup, 1) := by decide +kernel
theorem dX9_remove_40 : decode cX9_remove 40 = .ok (.ldc 137, 2) := by decide +kernel
theorem dX9_remove_42 : decode cX9_remove 42 = .ok (.invokespecial 61, 3) := by decide +kernel
theorem dX9_remove_45 : decode cX9_remove 45 = .ok (.athrow, 1) := by decide +kernel
theorem dX9_remove_46 : decode cX9_remove 46 = .ok (.aload_n 2, 1) := by decide +kernel
theorem dX9_remove_47 : decode cX9_remove 47 = .ok (.iload_n 3, 1) := by decide +kernel
theorem dX9_remove_48 : decode cX9_remove 48 = .ok (.invokevirtual 139, 3) := by decide +kernel
theorem dX9_remove_51 : decode cX9_remove 51 = .ok (.aload_n 0, 1) := by decide +kernel
theorem dX9_remove_52 : decode cX9_remove 52 = .ok (.getfield 10, 3) := by decide +kernel
theorem dX9_remove_55 : decode cX9_remove 55 = .ok (.invokevirtual 83, 3) := by decide +kernel
theorem dX9_remove_58 : decode cX9_remove 58 = .ok (.aload_n 2, 1) := by decide +kernel
theorem dX9_remove_59 : decode cX9_remove 59 = .ok (.getfield 104, 3) := by decide +kernel
theorem dX9_remove_62 : decode cX9_remove 62 = .ok (.ireturn, 1) := by decide +kernel
theorem dX9_move_0 : decode cX9_move 0 = .ok (.aload_n 0, 1) := by decide +kernel
theorem dX9_move_1 : decode cX9_move 1 = .ok (.getfield 10, 3) := by decide +kernel
theorem dX9_move_4 : decode cX9_move 4 = .ok (.getfield 43, 3) := by decide +kernel
theorem dX9_move_7 : decode cX9_move 7 = .ok (.astore_n 3, 1) := by decide +kernel
theorem dX9_move_8 : decode cX9_move 8 = .ok (.aload_n 3, 1) := by decide +kernel
theorem dX9_move_9 : decode cX9_move 9 = .ok (.iload_n 1, 1) := by decide +kernel
theorem dX9_move_10 : decode cX9_move 10 = .ok (.invokevirtual 123, 3) := by decide +kernel
theorem dX9_move_13 : decode cX9_move 13 = .ok (.istore 4, 2) := by decide +kernel
theorem dX9_move_15 : decode cX9_move 15 = .ok (.iload 4, 2) := by decide +kernel
theorem dX9_move_17 : decode cX9_move 17 = .ok (.ifCond .ge 13, 3) := by decide +kernel
theorem dX9_move_20 : decode cX9_move 20 = .ok (.new 126, 3) := by decide +kernel
theorem dX9_move_23 : decode cX9_move 23 = .ok (.dup, 1) := by decide +kernel
theorem dX9_move_24 : decode cX9_move 24 = .ok (.ldc 128, 2) := by decide +kernel
theorem dX9_move_26 : decode cX9_move 26 = .ok (.invokespecial 130, 3) := by decide +kernel
theorem dX9_move_29 : decode cX9_move 29 = .ok (.athrow, 1) := by decide +kernel
theorem dX9_move_30 : decode cX9_move 30 = .ok (.iload_n 2, 1) := by decide +kernel
theorem dX9_move_31 : decode cX9_move 31 = .ok (.ifCond .lt 11, 3) := by decide +kernel
theorem dX9_move_34 : decode cX9_move 34 = .ok (.iload_n 2, 1) := by decide +kernel
theorem dX9_move_35 : decode cX9_move 35 = .ok (.aload_n 3, 1) := by decide +kernel
theorem dX9_move_36 : decode cX9_move 36 = .ok (.getfield 104, 3) := by decide +kernel
theorem dX9_move_39 : decode cX9_move 39 = .ok (.if_icmp .lt 13, 3) := by decide +kernel
theorem dX9_move_42 : decode cX9_move 42 = .ok (.new 143, 3) := by decide +kernel
theorem dX9_move_45 : decode cX9_move 45 = .ok (.dup, 1) := by decide +kernel
theorem dX9_move_46 : decode cX9_move 46 = .ok (.ldc 145, 2) := by decide +kernel
theorem dX9_move_48 : decode cX9_move 48 = .ok (.invokespecial 147, 3) := by decide +kernel
theorem dX9_move_51 : decode cX9_move 51 = .ok (.athrow, 1) := by decide +kernel
theorem dX9_move_52 : decode cX9_move 52 = .ok (.aload_n 3, 1) := by decide +kernel
theorem dX9_move_53 : decode cX9_move 53 = .ok (.iload 4, 2) := by decide +kernel
theorem dX9_move_55 : decode cX9_move 55 = .ok (.iload_n 2, 1) := by decide +kernel
theorem dX9_move_56 : decode cX9_move 56 = .ok (.invokevirtual 148, 3) := by decide +kernel
theorem dX9_move_59 : decode cX9_move 59 = .ok (.aload_n 3, 1) := by decide +kernel
theorem dX9_move_60 : decode cX9_move 60 = .ok (.invokevirtual 77, 3) := by decide +kernel
theorem dX9_move_63 : decode cX9_move 63 = .ok (.ifCond .ne 20, 3) := by decide +kernel
theorem dX9_move_66 : decode cX9_move 66 = .ok (.aload_n 3, 1) := by decide +kernel
theorem dX9_move_67 : decode cX9_move 67 = .ok (.iload_n 2, 1) := by decide +kernel
theorem dX9_move_68 : decode cX9_move 68 = .ok (.iload 4, 2) := by decide +kernel
theorem dX9_move_70 : decode cX9_move 70 = .ok (.invokevirtual 148, 3) := by decide +kernel
theorem dX9_move_73 : decode cX9_move 73 = .ok (.new 57, 3) := by decide +kernel
theorem dX9_move_76 : decode cX9_move 76 = .ok (.dup, 1) := by decide +kernel
theorem dX9_move_77 : decode cX9_move 77 = .ok (.ldc 81, 2) := by decide +kernel
theorem dX9_move_79 : decode cX9_move 79 = .ok (.invokespecial 61, 3) := by decide +kernel
theorem dX9_move_82 : decode cX9_move 82 = .ok (.athrow, 1) := by decide +kernel
theorem dX9_move_83 : decode cX9_move 83 = .ok (.aload_n 0, 1) := by decide +kernel
theorem dX9_move_84 : decode cX9_move 84 = .ok (.getfield 10, 3) := by decide +kernel
theorem dX9_move_87 : decode cX9_move 87 = .ok (.invokevirtual 83, 3) := by decide +kernel
theorem dX9_move_90 : decode cX9_move 90 = .ok (.iload 4, 2) := by decide +kernel
theorem dX9_move_92 : decode cX9_move 92 = .ok (.ireturn, 1) := by decide +kernel
theorem dX9_putOff_0 : decode cX9_putOff 0 = .ok (.aload_n 0, 1) := by decide +kernel
theorem dX9_putOff_1 : decode cX9_putOff 1 = .ok (.getfield 10, 3) := by decide +kernel
theorem dX9_putOff_4 : decode cX9_putOff 4 = .ok (.getfield 43, 3) := by decide +kernel
theorem dX9_putOff_7 : decode cX9_putOff 7 = .ok (.astore_n 3, 1) := by decide +kernel
theorem dX9_putOff_8 : decode cX9_putOff 8 = .ok (.aload_n 3, 1) := by decide +kernel
theorem dX9_putOff_9 : decode cX9_putOff 9 = .ok (.iload_n 1, 1) := by decide +kernel
theorem dX9_putOff_10 : decode cX9_putOff 10 = .ok (.invokevirtual 123, 3) := by decide +kernel
theorem dX9_putOff_13 : decode cX9_putOff 13 = .ok (.ifCond .ge 13, 3) := by decide +kernel
theorem dX9_putOff_16 : decode cX9_putOff 16 = .ok (.new 126, 3) := by decide +kernel
theorem dX9_putOff_19 : decode cX9_putOff 19 = .ok (.dup, 1) := by decide +kernel
theorem dX9_putOff_20 : decode cX9_putOff 20 = .ok (.ldc 128, 2) := by decide +kernel
theorem dX9_putOff_22 : decode cX9_putOff 22 = .ok (.invokespecial 130, 3) := by decide +kernel
theorem dX9_putOff_25 : decode cX9_putOff 25 = .ok (.athrow, 1) := by decide +kernel
theorem dX9_putOff_26 : decode cX9_putOff 26 = .ok (.aload_n 3, 1) := by decide +kernel
theorem dX9_putOff_27 : decode cX9_putOff 27 = .ok (.getfield 152, 3) := by decide +kernel
theorem dX9_putOff_30 : decode cX9_putOff 30 = .ok (.iload_n 1, 1) := by decide +kernel
theorem dX9_putOff_31 : decode cX9_putOff 31 = .ok (.baload, 1) := by decide +kernel
theorem dX9_putOff_32 : decode cX9_putOff 32 = .ok (.iload_n 2, 1) := by decide +kernel
theorem dX9_putOff_33 : decode cX9_putOff 33 = .ok (.if_icmp .eq 7, 3) := by decide +kernel
theorem dX9_putOff_36 : decode cX9_putOff 36 = .ok (.iconst 1, 1) := by decide +kernel
theorem dX9_putOff_37 : decode cX9_putOff 37 = .ok (.goto 4, 3) := by decide +kernel
theorem dX9_putOff_40 : decode cX9_putOff 40 = .ok (.iconst 0, 1) := by decide +kernel
theorem dX9_putOff_41 : decode cX9_putOff 41 = .ok (.istore 4, 2) := by decide +kernel
theorem dX9_putOff_43 : decode cX9_putOff 43 = .ok (.aload_n 3, 1) := by decide +kernel
theorem dX9_putOff_44 : decode cX9_putOff 44 = .ok (.getfield 152, 3) := by decide +kernel
theorem dX9_putOff_47 : decode cX9_putOff 47 = .ok (.iload_n 1, 1) := by decide +kernel
theorem dX9_putOff_48 : decode cX9_putOff 48 = .ok (.iload_n 2, 1) := by decide +kernel
theorem dX9_putOff_49 : decode cX9_putOff 49 = .ok (.bastore, 1) := by decide +kernel
theorem dX9_putOff_50 : decode cX9_putOff 50 = .ok (.aload_n 0, 1) := by decide +kernel
theorem dX9_putOff_51 : decode cX9_putOff 51 = .ok (.getfield 10, 3) := by decide +kernel
theorem dX9_putOff_54 : decode cX9_putOff 54 = .ok (.invokevirtual 83, 3) := by decide +kernel
theorem dX9_putOff_57 : decode cX9_putOff 57 = .ok (.iload 4, 2) := by decide +kernel
theorem dX9_putOff_59 : decode cX9_putOff 59 = .ok (.ireturn, 1) := by decide +kernel
theorem dX9_setBar_0 : decode cX9_setBar 0 = .ok (.aload_n 0, 1) := by decide +kernel
theorem dX9_setBar_1 : decode cX9_setBar 1 = .ok (.getfield 10, 3) := by decide +kernel
theorem dX9_setBar_4 : decode cX9_setBar 4 = .ok (.getfield 43, 3) := by decide +kernel
theorem dX9_setBar_7 : decode cX9_setBar 7 = .ok (.astore_n 2, 1) := by decide +kernel
theorem dX9_setBar_8 : decode cX9_setBar 8 = .ok (.iload_n 1, 1) := by decide +kernel
theorem dX9_setBar_9 : decode cX9_setBar 9 = .ok (.ifCond .lt 11, 3) := by decide +kernel
theorem dX9_setBar_12 : decode cX9_setBar 12 = .ok (.iload_n 1, 1) := by decide +kernel
theorem dX9_setBar_13 : decode cX9_setBar 13 = .ok (.aload_n 2, 1) := by decide +kernel
theorem dX9_setBar_14 : decode cX9_setBar 14 = .ok (.getfield 104, 3) := by decide +kernel
theorem dX9_setBar_17 : decode cX9_setBar 17 = .ok (.if_icmp .le 13, 3) := by decide +kernel
theorem dX9_setBar_20 : decode cX9_setBar 20 = .ok (.new 143, 3) := by decide +kernel
theorem dX9_setBar_23 : decode cX9_setBar 23 = .ok (.dup, 1) := by decide +kernel
theorem dX9_setBar_24 : decode cX9_setBar 24 = .ok (.ldc 145, 2) := by decide +kernel
theorem dX9_setBar_26 : decode cX9_setBar 26 = .ok (.invokespecial 147, 3) := by decide +kernel
theorem dX9_setBar_29 : decode cX9_setBar 29 = .ok (.athrow, 1) := by decide +kernel
theorem dX9_setBar_30 : decode cX9_setBar 30 = .ok (.aload_n 2, 1) := by decide +kernel
theorem dX9_setBar_31 : decode cX9_setBar 31 = .ok (.getfield 156, 3) := by decide +kernel
theorem dX9_setBar_34 : decode cX9_setBar 34 = .ok (.istore_n 3, 1) := by decide +kernel
theorem dX9_setBar_35 : decode cX9_setBar 35 = .ok (.aload_n 2, 1) := by decide +kernel
theorem dX9_setBar_36 : decode cX9_setBar 36 = .ok (.iload_n 1, 1) := by decide +kernel
theorem dX9_setBar_37 : decode cX9_setBar 37 = .ok (.putfield 156, 3) := by decide +kernel
theorem dX9_setBar_40 : decode cX9_setBar 40 = .ok (.aload_n 0, 1) := by decide +kernel
theorem dX9_setBar_41 : decode cX9_setBar 41 = .ok (.getfield 10, 3) := by decide +kernel
theorem dX9_setBar_44 : decode cX9_setBar 44 = .ok (.invokevirtual 83, 3) := by decide +kernel
theorem dX9_setBar_47 : decode cX9_setBar 47 = .ok (.iload_n 3, 1) := by decide +kernel
theorem dX9_setBar_48 : decode cX9_setBar 48 = .ok (.ireturn, 1) := by decide +kernel
theorem dX9_place_0 : decode cX9_place 0 = .ok (.aload_n 0, 1) := by decide +kernel
theorem dX9_place_1 : decode cX9_place 1 = .ok (.getfield 10, 3) := by decide +kernel
theorem dX9_place_4 : decode cX9_place 4 = .ok (.getfield 43, 3) := by decide +kernel
theorem dX9_place_7 : decode cX9_place 7 = .ok (.iload_n 1, 1) := by decide +kernel
theorem dX9_place_8 : decode cX9_place 8 = .ok (.invokevirtual 123, 3) := by decide +kernel
theorem dX9_place_11 : decode cX9_place 11 = .ok (.istore_n 2, 1) := by decide +kernel
theorem dX9_place_12 : decode cX9_place 12 = .ok (.iload_n 2, 1) := by decide +kernel
theorem dX9_place_13 : decode cX9_place 13 = .ok (.ifCond .ge 13, 3) := by decide +kernel
theorem dX9_place_16 : decode cX9_place 16 = .ok (.new 126, 3) := by decide +kernel
theorem dX9_place_19 : decode cX9_place 19 = .ok (.dup, 1) := by decide +kernel
theorem dX9_place_20 : decode cX9_place 20 = .ok (.ldc 128, 2) := by decide +kernel
theorem dX9_place_22 : decode cX9_place 22 = .ok (.invokespecial 130, 3) := by decide +kernel
theorem dX9_place_25 : decode cX9_place 25 = .ok (.athrow, 1) := by decide +kernel
theorem dX9_place_26 : decode cX9_place 26 = .ok (.iload_n 2, 1) := by decide +kernel
theorem dX9_place_27 : decode cX9_place 27 = .ok (.ireturn, 1) := by decide +kernel
theorem dX9_state_0 : decode cX9_state 0 = .ok (.aload_n 0, 1) := by decide +kernel
theorem dX9_state_1 : decode cX9_state 1 = .ok (.getfield 10, 3) := by decide +kernel
theorem dX9_state_4 : decode cX9_state 4 = .ok (.getfield 43, 3) := by decide +kernel
theorem dX9_state_7 : decode cX9_state 7 = .ok (.astore_n 2, 1) := by decide +kernel
theorem dX9_state_8 : decode cX9_state 8 = .ok (.aload_n 2, 1) := by decide +kernel
theorem dX9_state_9 : decode cX9_state 9 = .ok (.iload_n 1, 1) := by decide +kernel
theorem dX9_state_10 : decode cX9_state 10 = .ok (.invokevirtual 123, 3) := by decide +kernel
theorem dX9_state_13 : decode cX9_state 13 = .ok (.istore_n 3, 1) := by decide +kernel
theorem dX9_state_14 : decode cX9_state 14 = .ok (.iload_n 3, 1) := by decide +kernel
theorem dX9_state_15 : decode cX9_state 15 = .ok (.ifCond .ge 13, 3) := by decide +kernel
theorem dX9_state_18 : decode cX9_state 18 = .ok (.new 126, 3) := by decide +kernel
theorem dX9_state_21 : decode cX9_state 21 = .ok (.dup, 1) := by decide +kernel
theorem dX9_state_22 : decode cX9_state 22 = .ok (.ldc 128, 2) := by decide +kernel
theorem dX9_state_24 : decode cX9_state 24 = .ok (.invokespecial 130, 3) := by decide +kernel
theorem dX9_state_27 : decode cX9_state 27 = .ok (.athrow, 1) := by decide +kernel
theorem dX9_state_28 : decode cX9_state 28 = .ok (.aload_n 2, 1) := by decide +kernel
theorem dX9_state_29 : decode cX9_state 29 = .ok (.getfield 152, 3) := by decide +kernel
theorem dX9_state_32 : decode cX9_state 32 = .ok (.iload_n 1, 1) := by decide +kernel
theorem dX9_state_33 : decode cX9_state 33 = .ok (.baload, 1) := by decide +kernel
theorem dX9_state_34 : decode cX9_state 34 = .ok (.ifCond .eq 6, 3) := by decide +kernel
theorem dX9_state_37 : decode cX9_state 37 = .ok (.bipush 111, 2) := by decide +kernel
theorem dX9_state_39 : decode cX9_state 39 = .ok (.ireturn, 1) := by decide +kernel
theorem dX9_state_40 : decode cX9_state 40 = .ok (.iload_n 3, 1) := by decide +kernel
theorem dX9_state_41 : decode cX9_state 41 = .ok (.aload_n 2, 1) := by decide +kernel
theorem dX9_state_42 : decode cX9_state 42 = .ok (.getfield 156, 3) := by decide +kernel
theorem dX9_state_45 : decode cX9_state 45 = .ok (.if_icmp .lt 8, 3) := by decide +kernel
theorem dX9_state_48 : decode cX9_state 48 = .ok (.bipush 98, 2) := by decide +kernel
theorem dX9_state_50 : decode cX9_state 50 = .ok (.goto 12, 3) := by decide +kernel
theorem dX9_state_53 : decode cX9_state 53 = .ok (.aload_n 0, 1) := by decide +kernel
theorem dX9_state_54 : decode cX9_state 54 = .ok (.getfield 10, 3) := by decide +kernel
theorem dX9_state_57 : decode cX9_state 57 = .ok (.getfield 159, 3) := by decide +kernel
theorem dX9_state_60 : decode cX9_state 60 = .ok (.iload_n 1, 1) := by decide +kernel
theorem dX9_state_61 : decode cX9_state 61 = .ok (.caload, 1) := by decide +kernel
theorem dX9_state_62 : decode cX9_state 62 = .ok (.ireturn, 1) := by decide +kernel
theorem dX9_worked_0 : decode cX9_worked 0 = .ok (.aload_n 0, 1) := by decide +kernel
theorem dX9_worked_1 : decode cX9_worked 1 = .ok (.getfield 10, 3) := by decide +kernel
theorem dX9_worked_4 : decode cX9_worked 4 = .ok (.getfield 162, 3) := by decide +kernel
theorem dX9_worked_7 : decode cX9_worked 7 = .ok (.lreturn, 1) := by decide +kernel
theorem dX9_has_0 : decode cX9_has 0 = .ok (.iload_n 1, 1) := by decide +kernel
theorem dX9_has_1 : decode cX9_has 1 = .ok (.iload_n 2, 1) := by decide +kernel
theorem dX9_has_2 : decode cX9_has 2 = .ok (.iload_n 3, 1) := by decide +kernel
theorem dX9_has_3 : decode cX9_has 3 = .ok (.invokestatic 166, 3) := by decide +kernel
theorem dX9_has_6 : decode cX9_has 6 = .ok (.ifCond .ne 13, 3) := by decide +kernel
theorem dX9_has_9 : decode cX9_has 9 = .ok (.new 143, 3) := by decide +kernel
theorem dX9_has_12 : decode cX9_has 12 = .ok (.dup, 1) := by decide +kernel
theorem dX9_has_13 : decode cX9_has 13 = .ok (.ldc 171, 2) := by decide +kernel
theorem dX9_has_15 : decode cX9_has 15 = .ok (.invokespecial 147, 3) := by decide +kernel
theorem dX9_has_18 : decode cX9_has 18 = .ok (.athrow, 1) := by decide +kernel
theorem dX9_has_19 : decode cX9_has 19 = .ok (.aload_n 0, 1) := by decide +kernel
theorem dX9_has_20 : decode cX9_has 20 = .ok (.getfield 10, 3) := by decide +kernel
theorem dX9_has_23 : decode cX9_has 23 = .ok (.invokevirtual 173, 3) := by decide +kernel
theorem dX9_has_26 : decode cX9_has 26 = .ok (.getfield 177, 3) := by decide +kernel
theorem dX9_has_29 : decode cX9_has 29 = .ok (.iload_n 1, 1) := by decide +kernel
theorem dX9_has_30 : decode cX9_has 30 = .ok (.iload_n 2, 1) := by decide +kernel
theorem dX9_has_31 : decode cX9_has 31 = .ok (.iload_n 3, 1) := by decide +kernel
theorem dX9_has_32 : decode cX9_has 32 = .ok (.invokevirtual 183, 3) := by decide +kernel
theorem dX9_has_35 : decode cX9_has 35 = .ok (.ireturn, 1) := by decide +kernel
theorem dX9_hasAnew_0 : decode cX9_hasAnew 0 = .ok (.iload_n 1, 1) := by decide +kernel
theorem dX9_hasAnew_1 : decode cX9_hasAnew 1 = .ok (.iload_n 2, 1) := by decide +kernel
theorem dX9_hasAnew_2 : decode cX9_hasAnew 2 = .ok (.iload_n 3, 1) := by decide +kernel
theorem dX9_hasAnew_3 : decode cX9_hasAnew 3 = .ok (.invokestatic 166, 3) := by decide +kernel
theorem dX9_hasAnew_6 : decode cX9_hasAnew 6 = .ok (.ifCond .ne 13, 3) := by decide +kernel
theorem dX9_hasAnew_9 : decode cX9_hasAnew 9 = .ok (.new 143, 3) := by decide +kernel
theorem dX9_hasAnew_12 : decode cX9_hasAnew 12 = .ok (.dup, 1) := by decide +kernel
theorem dX9_hasAnew_13 : decode cX9_hasAnew 13 = .ok (.ldc 171, 2) := by decide +kernel
theorem dX9_hasAnew_15 : decode cX9_hasAnew 15 = .ok (.invokespecial 147, 3) := by decide +kernel
theorem dX9_hasAnew_18 : decode cX9_hasAnew 18 = .ok (.athrow, 1) := by decide +kernel
theorem dX9_hasAnew_19 : decode cX9_hasAnew 19 = .ok (.aload_n 0, 1) := by decide +kernel
theorem dX9_hasAnew_20 : decode cX9_hasAnew 20 = .ok (.getfield 10, 3) := by decide +kernel
theorem dX9_hasAnew_23 : decode cX9_hasAnew 23 = .ok (.invokevirtual 186, 3) := by decide +kernel
theorem dX9_hasAnew_26 : decode cX9_hasAnew 26 = .ok (.getfield 177, 3) := by decide +kernel
theorem dX9_hasAnew_29 : decode cX9_hasAnew 29 = .ok (.iload_n 1, 1) := by decide +kernel
theorem dX9_hasAnew_30 : decode cX9_hasAnew 30 = .ok (.iload_n 2, 1) := by decide +kernel
theorem dX9_hasAnew_31 : decode cX9_hasAnew 31 = .ok (.iload_n 3, 1) := by decide +kernel
theorem dX9_hasAnew_32 : decode cX9_hasAnew 32 = .ok (.invokevirtual 183, 3) := by decide +kernel
theorem dX9_hasAnew_35 : decode cX9_hasAnew 35 = .ok (.ireturn, 1) := by decide +kernel
theorem dX9_nameOf_0 : decode cX9_nameOf 0 = .ok (.iload_n 1, 1) := by decide +kernel
theorem dX9_nameOf_1 : decode cX9_nameOf 1 = .ok (.iload_n 2, 1) := by decide +kernel
theorem dX9_nameOf_2 : decode cX9_nameOf 2 = .ok (.iload_n 3, 1) := by decide +kernel
theorem dX9_nameOf_3 : decode cX9_nameOf 3 = .ok (.invokestatic 166, 3) := by decide +kernel
theorem dX9_nameOf_6 : decode cX9_nameOf 6 = .ok (.ifCond .ne 13, 3) := by decide +kernel
theorem dX9_nameOf_9 : decode cX9_nameOf 9 = .ok (.new 143, 3) := by decide +kernel
theorem dX9_nameOf_12 : decode cX9_nameOf 12 = .ok (.dup, 1) := by decide +kernel
theorem dX9_nameOf_13 : decode cX9_nameOf 13 = .ok (.ldc 171, 2) := by decide +kernel
theorem dX9_nameOf_15 : decode cX9_nameOf 15 = .ok (.invokespecial 147, 3) := by decide +kernel
theorem dX9_nameOf_18 : decode cX9_nameOf 18 = .ok (.athrow, 1) := by decide +kernel
theorem dX9_nameOf_19 : decode cX9_nameOf 19 = .ok (.iload 4, 2) := by decide +kernel
theorem dX9_nameOf_21 : decode cX9_nameOf 21 = .ok (.invokestatic 189, 3) := by decide +kernel
theorem dX9_nameOf_24 : decode cX9_nameOf 24 = .ok (.ifCond .ne 13, 3) := by decide +kernel
theorem dX9_nameOf_27 : decode cX9_nameOf 27 = .ok (.new 36, 3) := by decide +kernel
theorem dX9_nameOf_30 : decode cX9_nameOf 30 = .ok (.dup, 1) := by decide +kernel
theorem dX9_nameOf_31 : decode cX9_nameOf 31 = .ok (.ldc 192, 2) := by decide +kernel
theorem dX9_nameOf_33 : decode cX9_nameOf 33 = .ok (.invokespecial 40, 3) := by decide +kernel
theorem dX9_nameOf_36 : decode cX9_nameOf 36 = .ok (.athrow, 1) := by decide +kernel
theorem dX9_nameOf_37 : decode cX9_nameOf 37 = .ok (.aload_n 0, 1) := by decide +kernel
theorem dX9_nameOf_38 : decode cX9_nameOf 38 = .ok (.getfield 10, 3) := by decide +kernel
theorem dX9_nameOf_41 : decode cX9_nameOf 41 = .ok (.invokevirtual 173, 3) := by decide +kernel
theorem dX9_nameOf_44 : decode cX9_nameOf 44 = .ok (.iload_n 1, 1) := by decide +kernel
theorem dX9_nameOf_45 : decode cX9_nameOf 45 = .ok (.iload_n 2, 1) := by decide +kernel
theorem dX9_nameOf_46 : decode cX9_nameOf 46 = .ok (.iload_n 3, 1) := by decide +kernel
theorem dX9_nameOf_47 : decode cX9_nameOf 47 = .ok (.iload 4, 2) := by decide +kernel
theorem dX9_nameOf_49 : decode cX9_nameOf 49 = .ok (.invokevirtual 194, 3) := by decide +kernel
theorem dX9_nameOf_52 : decode cX9_nameOf 52 = .ok (.istore 5, 2) := by decide +kernel
theorem dX9_nameOf_54 : decode cX9_nameOf 54 = .ok (.iload 5, 2) := by decide +kernel
theorem dX9_nameOf_56 : decode cX9_nameOf 56 = .ok (.ifCond .ge 13, 3) := by decide +kernel
theorem dX9_nameOf_59 : decode cX9_nameOf 59 = .ok (.new 126, 3) := by decide +kernel
theorem dX9_nameOf_62 : decode cX9_nameOf 62 = .ok (.dup, 1) := by decide +kernel
theorem dX9_nameOf_63 : decode cX9_nameOf 63 = .ok (.ldc 198, 2) := by decide +kernel
theorem dX9_nameOf_65 : decode cX9_nameOf 65 = .ok (.invokespecial 130, 3) := by decide +kernel
theorem dX9_nameOf_68 : decode cX9_nameOf 68 = .ok (.athrow, 1) := by decide +kernel
theorem dX9_nameOf_69 : decode cX9_nameOf 69 = .ok (.iload 5, 2) := by decide +kernel
theorem dX9_nameOf_71 : decode cX9_nameOf 71 = .ok (.ireturn, 1) := by decide +kernel
theorem dX9_squares_0 : decode cX9_squares 0 = .ok (.iload_n 1, 1) := by decide +kernel
theorem dX9_squares_1 : decode cX9_squares 1 = .ok (.ifCond .lt 16, 3) := by decide +kernel
theorem dX9_squares_4 : decode cX9_squares 4 = .ok (.iload_n 1, 1) := by decide +kernel
theorem dX9_squares_5 : decode cX9_squares 5 = .ok (.bipush 40, 2) := by decide +kernel
theorem dX9_squares_7 : decode cX9_squares 7 = .ok (.if_icmp .ge 10, 3) := by decide +kernel
theorem dX9_squares_10 : decode cX9_squares 10 = .ok (.iload_n 2, 1) := by decide +kernel
theorem dX9_squares_11 : decode cX9_squares 11 = .ok (.invokestatic 189, 3) := by decide +kernel
theorem dX9_squares_14 : decode cX9_squares 14 = .ok (.ifCond .ne 13, 3) := by decide +kernel
theorem dX9_squares_17 : decode cX9_squares 17 = .ok (.new 36, 3) := by decide +kernel
theorem dX9_squares_20 : decode cX9_squares 20 = .ok (.dup, 1) := by decide +kernel
theorem dX9_squares_21 : decode cX9_squares 21 = .ok (.ldc 200, 2) := by decide +kernel
theorem dX9_squares_23 : decode cX9_squares 23 = .ok (.invokespecial 40, 3) := by decide +kernel
theorem dX9_squares_26 : decode cX9_squares 26 = .ok (.athrow, 1) := by decide +kernel
theorem dX9_squares_27 : decode cX9_squares 27 = .ok (.aload_n 0, 1) := by decide +kernel
theorem dX9_squares_28 : decode cX9_squares 28 = .ok (.getfield 10, 3) := by decide +kernel
theorem dX9_squares_31 : decode cX9_squares 31 = .ok (.iload_n 1, 1) := by decide +kernel
theorem dX9_squares_32 : decode cX9_squares 32 = .ok (.iload_n 2, 1) := by decide +kernel
theorem dX9_squares_33 : decode cX9_squares 33 = .ok (.invokevirtual 202, 3) := by decide +kernel
theorem dX9_squares_36 : decode cX9_squares 36 = .ok (.ireturn, 1) := by decide +kernel
theorem dX9_volume_0 : decode cX9_volume 0 = .ok (.aload_n 0, 1) := by decide +kernel
theorem dX9_volume_1 : decode cX9_volume 1 = .ok (.getfield 10, 3) := by decide +kernel
theorem dX9_volume_4 : decode cX9_volume 4 = .ok (.invokevirtual 173, 3) := by decide +kernel
theorem dX9_volume_7 : decode cX9_volume 7 = .ok (.getfield 177, 3) := by decide +kernel
theorem dX9_volume_10 : decode cX9_volume 10 = .ok (.invokevirtual 206, 3) := by decide +kernel
theorem dX9_volume_13 : decode cX9_volume 13 = .ok (.ireturn, 1) := by decide +kernel
theorem dX9_area_0 : decode cX9_area 0 = .ok (.iconst 0, 1) := by decide +kernel
theorem dX9_area_1 : decode cX9_area 1 = .ok (.istore_n 1, 1) := by decide +kernel
theorem dX9_area_2 : decode cX9_area 2 = .ok (.iconst 0, 1) := by decide +kernel
theorem dX9_area_3 : decode cX9_area 3 = .ok (.istore_n 2, 1) := by decide +kernel
theorem dX9_area_4 : decode cX9_area 4 = .ok (.iload_n 2, 1) := by decide +kernel
theorem dX9_area_5 : decode cX9_area 5 = .ok (.bipush 6, 2) := by decide +kernel
theorem dX9_area_7 : decode cX9_area 7 = .ok (.if_icmp .ge 26, 3) := by decide +kernel
theorem dX9_area_10 : decode cX9_area 10 = .ok (.iload_n 1, 1) := by decide +kernel
theorem dX9_area_11 : decode cX9_area 11 = .ok (.aload_n 0, 1) := by decide +kernel
theorem dX9_area_12 : decode cX9_area 12 = .ok (.getfield 10, 3) := by decide +kernel
theorem dX9_area_15 : decode cX9_area 15 = .ok (.invokevirtual 173, 3) := by decide +kernel
theorem dX9_area_18 : decode cX9_area 18 = .ok (.getfield 177, 3) := by decide +kernel
theorem dX9_area_21 : decode cX9_area 21 = .ok (.iload_n 2, 1) := by decide +kernel
theorem dX9_area_22 : decode cX9_area 22 = .ok (.invokevirtual 209, 3) := by decide +kernel
theorem dX9_area_25 : decode cX9_area 25 = .ok (.iadd, 1) := by decide +kernel
theorem dX9_area_26 : decode cX9_area 26 = .ok (.istore_n 1, 1) := by decide +kernel
theorem dX9_area_27 : decode cX9_area 27 = .ok (.iinc 2 1, 3) := by decide +kernel
theorem dX9_area_30 : decode cX9_area 30 = .ok (.goto (-26), 3) := by decide +kernel
theorem dX9_area_33 : decode cX9_area 33 = .ok (.iload_n 1, 1) := by decide +kernel
theorem dX9_area_34 : decode cX9_area 34 = .ok (.ireturn, 1) := by decide +kernel
theorem dX9_bodies_0 : decode cX9_bodies 0 = .ok (.aload_n 0, 1) := by decide +kernel
theorem dX9_bodies_1 : decode cX9_bodies 1 = .ok (.getfield 10, 3) := by decide +kernel
theorem dX9_bodies_4 : decode cX9_bodies 4 = .ok (.invokevirtual 212, 3) := by decide +kernel
theorem dX9_bodies_7 : decode cX9_bodies 7 = .ok (.ireturn, 1) := by decide +kernel
theorem dX9_centre_0 : decode cX9_centre 0 = .ok (.iload_n 1, 1) := by decide +kernel
theorem dX9_centre_1 : decode cX9_centre 1 = .ok (.invokestatic 221, 3) := by decide +kernel
theorem dX9_centre_4 : decode cX9_centre 4 = .ok (.ifCond .ne 13, 3) := by decide +kernel
theorem dX9_centre_7 : decode cX9_centre 7 = .ok (.new 36, 3) := by decide +kernel
theorem dX9_centre_10 : decode cX9_centre 10 = .ok (.dup, 1) := by decide +kernel
theorem dX9_centre_11 : decode cX9_centre 11 = .ok (.ldc 224, 2) := by decide +kernel
theorem dX9_centre_13 : decode cX9_centre 13 = .ok (.invokespecial 40, 3) := by decide +kernel
theorem dX9_centre_16 : decode cX9_centre 16 = .ok (.athrow, 1) := by decide +kernel
theorem dX9_centre_17 : decode cX9_centre 17 = .ok (.aload_n 0, 1) := by decide +kernel
theorem dX9_centre_18 : decode cX9_centre 18 = .ok (.getfield 10, 3) := by decide +kernel
theorem dX9_centre_21 : decode cX9_centre 21 = .ok (.invokevirtual 173, 3) := by decide +kernel
theorem dX9_centre_24 : decode cX9_centre 24 = .ok (.getfield 177, 3) := by decide +kernel
theorem dX9_centre_27 : decode cX9_centre 27 = .ok (.astore_n 2, 1) := by decide +kernel
theorem dX9_centre_28 : decode cX9_centre 28 = .ok (.aload_n 2, 1) := by decide +kernel
theorem dX9_centre_29 : decode cX9_centre 29 = .ok (.invokevirtual 206, 3) := by decide +kernel
theorem dX9_centre_32 : decode cX9_centre 32 = .ok (.istore_n 3, 1) := by decide +kernel
theorem dX9_centre_33 : decode cX9_centre 33 = .ok (.iload_n 3, 1) := by decide +kernel
theorem dX9_centre_34 : decode cX9_centre 34 = .ok (.ifCond .ne 13, 3) := by decide +kernel
theorem dX9_centre_37 : decode cX9_centre 37 = .ok (.new 226, 3) := by decide +kernel
theorem dX9_centre_40 : decode cX9_centre 40 = .ok (.dup, 1) := by decide +kernel
theorem dX9_centre_41 : decode cX9_centre 41 = .ok (.ldc 228, 2) := by decide +kernel
theorem dX9_centre_43 : decode cX9_centre 43 = .ok (.invokespecial 230, 3) := by decide +kernel
theorem dX9_centre_46 : decode cX9_centre 46 = .ok (.athrow, 1) := by decide +kernel
theorem dX9_centre_47 : decode cX9_centre 47 = .ok (.aload_n 2, 1) := by decide +kernel
theorem dX9_centre_48 : decode cX9_centre 48 = .ok (.iload_n 1, 1) := by decide +kernel
theorem dX9_centre_49 : decode cX9_centre 49 = .ok (.invokestatic 231, 3) := by decide +kernel
theorem dX9_centre_52 : decode cX9_centre 52 = .ok (.i2d, 1) := by decide +kernel
theorem dX9_centre_53 : decode cX9_centre 53 = .ok (.iload_n 3, 1) := by decide +kernel
theorem dX9_centre_54 : decode cX9_centre 54 = .ok (.i2d, 1) := by decide +kernel
theorem dX9_centre_55 : decode cX9_centre 55 = .ok (.ddiv, 1) := by decide +kernel
theorem dX9_centre_56 : decode cX9_centre 56 = .ok (.dreturn, 1) := by decide +kernel
theorem dX9_addPart_0 : decode cX9_addPart 0 = .ok (.iload_n 1, 1) := by decide +kernel
theorem dX9_addPart_1 : decode cX9_addPart 1 = .ok (.invokestatic 236, 3) := by decide +kernel
theorem dX9_addPart_4 : decode cX9_addPart 4 = .ok (.ifCond .eq 17, 3) := by decide +kernel
theorem dX9_addPart_7 : decode cX9_addPart 7 = .ok (.iload_n 2, 1) := by decide +kernel
theorem dX9_addPart_8 : decode cX9_addPart 8 = .ok (.invokestatic 236, 3) := by decide +kernel
theorem dX9_addPart_11 : decode cX9_addPart 11 = .ok (.ifCond .eq 10, 3) := by decide +kernel
theorem dX9_addPart_14 : decode cX9_addPart 14 = .ok (.iload_n 3, 1) := by decide +kernel
theorem dX9_addPart_15 : decode cX9_addPart 15 = .ok (.invokestatic 236, 3) := by decide +kernel
theorem dX9_addPart_18 : decode cX9_addPart 18 = .ok (.ifCond .ne 13, 3) := by decide +kernel
theorem dX9_addPart_21 : decode cX9_addPart 21 = .ok (.new 36, 3) := by decide +kernel
theorem dX9_addPart_24 : decode cX9_addPart 24 = .ok (.dup, 1) := by decide +kernel
theorem dX9_addPart_25 : decode cX9_addPart 25 = .ok (.ldc 239, 2) := by decide +kernel
theorem dX9_addPart_27 : decode cX9_addPart 27 = .ok (.invokespecial 40, 3) := by decide +kernel
theorem dX9_addPart_30 : decode cX9_addPart 30 = .ok (.athrow, 1) := by decide +kernel
theorem dX9_addPart_31 : decode cX9_addPart 31 = .ok (.aload_n 0, 1) := by decide +kernel
theorem dX9_addPart_32 : decode cX9_addPart 32 = .ok (.getfield 19, 3) := by decide +kernel
theorem dX9_addPart_35 : decode cX9_addPart 35 = .ok (.getfield 241, 3) := by decide +kernel
theorem dX9_addPart_38 : decode cX9_addPart 38 = .ok (.bipush 6, 2) := by decide +kernel
theorem dX9_addPart_40 : decode cX9_addPart 40 = .ok (.if_icmp .lt 13, 3) := by decide +kernel
theorem dX9_addPart_43 : decode cX9_addPart 43 = .ok (.new 111, 3) := by decide +kernel
theorem dX9_addPart_46 : decode cX9_addPart 46 = .ok (.dup, 1) := by decide +kernel
theorem dX9_addPart_47 : decode cX9_addPart 47 = .ok (.ldc 242, 2) := by decide +kernel
theorem dX9_addPart_49 : decode cX9_addPart 49 = .ok (.invokespecial 115, 3) := by decide +kernel
theorem dX9_addPart_52 : decode cX9_addPart 52 = .ok (.athrow, 1) := by decide +kernel
theorem dX9_addPart_53 : decode cX9_addPart 53 = .ok (.aload_n 0, 1) := by decide +kernel
theorem dX9_addPart_54 : decode cX9_addPart 54 = .ok (.getfield 19, 3) := by decide +kernel
theorem dX9_addPart_57 : decode cX9_addPart 57 = .ok (.iload_n 1, 1) := by decide +kernel
theorem dX9_addPart_58 : decode cX9_addPart 58 = .ok (.iload_n 2, 1) := by decide +kernel
theorem dX9_addPart_59 : decode cX9_addPart 59 = .ok (.iload_n 3, 1) := by decide +kernel
theorem dX9_addPart_60 : decode cX9_addPart 60 = .ok (.invokevirtual 244, 3) := by decide +kernel
theorem dX9_addPart_63 : decode cX9_addPart 63 = .ok (.ireturn, 1) := by decide +kernel
theorem dX9_freeze_0 : decode cX9_freeze 0 = .ok (.aload_n 0, 1) := by decide +kernel
theorem dX9_freeze_1 : decode cX9_freeze 1 = .ok (.getfield 19, 3) := by decide +kernel
theorem dX9_freeze_4 : decode cX9_freeze 4 = .ok (.iload_n 1, 1) := by decide +kernel
theorem dX9_freeze_5 : decode cX9_freeze 5 = .ok (.invokevirtual 246, 3) := by decide +kernel
theorem dX9_freeze_8 : decode cX9_freeze 8 = .ok (.ifCond .ne 13, 3) := by decide +kernel
theorem dX9_freeze_11 : decode cX9_freeze 11 = .ok (.new 143, 3) := by decide +kernel
theorem dX9_freeze_14 : decode cX9_freeze 14 = .ok (.dup, 1) := by decide +kernel
theorem dX9_freeze_15 : decode cX9_freeze 15 = .ok (.ldc 249, 2) := by decide +kernel
theorem dX9_freeze_17 : decode cX9_freeze 17 = .ok (.invokespecial 147, 3) := by decide +kernel
theorem dX9_freeze_20 : decode cX9_freeze 20 = .ok (.athrow, 1) := by decide +kernel
theorem dX9_freeze_21 : decode cX9_freeze 21 = .ok (.aload_n 0, 1) := by decide +kernel
theorem dX9_freeze_22 : decode cX9_freeze 22 = .ok (.getfield 19, 3) := by decide +kernel
theorem dX9_freeze_25 : decode cX9_freeze 25 = .ok (.getfield 251, 3) := by decide +kernel
theorem dX9_freeze_28 : decode cX9_freeze 28 = .ok (.iload_n 1, 1) := by decide +kernel
theorem dX9_freeze_29 : decode cX9_freeze 29 = .ok (.baload, 1) := by decide +kernel
theorem dX9_freeze_30 : decode cX9_freeze 30 = .ok (.istore_n 3, 1) := by decide +kernel
theorem dX9_freeze_31 : decode cX9_freeze 31 = .ok (.aload_n 0, 1) := by decide +kernel
theorem dX9_freeze_32 : decode cX9_freeze 32 = .ok (.getfield 19, 3) := by decide +kernel
theorem dX9_freeze_35 : decode cX9_freeze 35 = .ok (.getfield 251, 3) := by decide +kernel
theorem dX9_freeze_38 : decode cX9_freeze 38 = .ok (.iload_n 1, 1) := by decide +kernel
theorem dX9_freeze_39 : decode cX9_freeze 39 = .ok (.iload_n 2, 1) := by decide +kernel
theorem dX9_freeze_40 : decode cX9_freeze 40 = .ok (.bastore, 1) := by decide +kernel
theorem dX9_freeze_41 : decode cX9_freeze 41 = .ok (.iload_n 2, 1) := by decide +kernel
theorem dX9_freeze_42 : decode cX9_freeze 42 = .ok (.ifCond .eq 25, 3) := by decide +kernel
theorem dX9_freeze_45 : decode cX9_freeze 45 = .ok (.aload_n 0, 1) := by decide +kernel
theorem dX9_freeze_46 : decode cX9_freeze 46 = .ok (.getfield 19, 3) := by decide +kernel
theorem dX9_freeze_49 : decode cX9_freeze 49 = .ok (.getfield 254, 3) := by decide +kernel
theorem dX9_freeze_52 : decode cX9_freeze 52 = .ok (.iload_n 1, 1) := by decide +kernel
theorem dX9_freeze_53 : decode cX9_freeze 53 = .ok (.aaload, 1) := by decide +kernel
theorem dX9_freeze_54 : decode cX9_freeze 54 = .ok (.aload_n 0, 1) := by decide +kernel
theorem dX9_freeze_55 : decode cX9_freeze 55 = .ok (.getfield 10, 3) := by decide +kernel
theorem dX9_freeze_58 : decode cX9_freeze 58 = .ok (.invokevirtual 173, 3) := by decide +kernel
theorem dX9_freeze_61 : decode cX9_freeze 61 = .ok (.getfield 177, 3) := by decide +kernel
theorem dX9_freeze_64 : decode cX9_freeze 64 = .ok (.invokevirtual 258, 3) := by decide +kernel
theorem dX9_freeze_67 : decode cX9_freeze 67 = .ok (.iload_n 3, 1) := by decide +kernel
theorem dX9_freeze_68 : decode cX9_freeze 68 = .ok (.ireturn, 1) := by decide +kernel
theorem dX9_mate_0 : decode cX9_mate 0 = .ok (.aload_n 0, 1) := by decide +kernel
theorem dX9_mate_1 : decode cX9_mate 1 = .ok (.getfield 19, 3) := by decide +kernel
theorem dX9_mate_4 : decode cX9_mate 4 = .ok (.iload_n 2, 1) := by decide +kernel
theorem dX9_mate_5 : decode cX9_mate 5 = .ok (.invokevirtual 246, 3) := by decide +kernel
theorem dX9_mate_8 : decode cX9_mate 8 = .ok (.ifCond .eq 19, 3) := by decide +kernel
theorem dX9_mate_11 : decode cX9_mate 11 = .ok (.aload_n 0, 1) := by decide +kernel
theorem dX9_mate_12 : decode cX9_mate 12 = .ok (.getfield 19, 3) := by decide +kernel
theorem dX9_mate_15 : decode cX9_mate 15 = .ok (.iload_n 3, 1) := by decide +kernel
theorem dX9_mate_16 : decode cX9_mate 16 = .ok (.invokevirtual 246, 3) := by decide +kernel
theorem dX9_mate_19 : decode cX9_mate 19 = .ok (.ifCond .ne 18, 3) := by decide +kernel
theorem dX9_mate_22 : decode cX9_mate 22 = .ok (.iload_n 3, 1) := by decide +kernel
theorem dX9_mate_23 : decode cX9_mate 23 = .ok (.iconst (-1), 1) := by decide +kernel
theorem dX9_mate_24 : decode cX9_mate 24 = .ok (.if_icmp .eq 13, 3) := by decide +kernel
theorem dX9_mate_27 : decode cX9_mate 27 = .ok (.new 143, 3) := by decide +kernel
theorem dX9_mate_30 : decode cX9_mate 30 = .ok (.dup, 1) := by decide +kernel
theorem dX9_mate_31 : decode cX9_mate 31 = .ok (.ldc 249, 2) := by decide +kernel
theorem dX9_mate_33 : decode cX9_mate 33 = .ok (.invokespecial 147, 3) := by decide +kernel
theorem dX9_mate_36 : decode cX9_mate 36 = .ok (.athrow, 1) := by decide +kernel
theorem dX9_mate_37 : decode cX9_mate 37 = .ok (.iload_n 1, 1) := by decide +kernel
theorem dX9_mate_38 : decode cX9_mate 38 = .ok (.invokestatic 221, 3) := by decide +kernel
theorem dX9_mate_41 : decode cX9_mate 41 = .ok (.ifCond .eq 16, 3) := by decide +kernel
theorem dX9_mate_44 : decode cX9_mate 44 = .ok (.iload_n 2, 1) := by decide +kernel
theorem dX9_mate_45 : decode cX9_mate 45 = .ok (.iload_n 3, 1) := by decide +kernel
theorem dX9_mate_46 : decode cX9_mate 46 = .ok (.if_icmp .eq 11, 3) := by decide +kernel
theorem dX9_mate_49 : decode cX9_mate 49 = .ok (.iload 4, 2) := by decide +kernel
theorem dX9_mate_51 : decode cX9_mate 51 = .ok (.invokestatic 236, 3) := by decide +kernel
theorem dX9_mate_54 : decode cX9_mate 54 = .ok (.ifCond .ne 14, 3) := by decide +kernel
theorem dX9_mate_57 : decode cX9_mate 57 = .ok (.new 36, 3) := by decide +kernel
theorem dX9_mate_60 : decode cX9_mate 60 = .ok (.dup, 1) := by decide +kernel
theorem dX9_mate_61 : decode cX9_mate 61 = .ok (.ldc_w 262, 3) := by decide +kernel
theorem dX9_mate_64 : decode cX9_mate 64 = .ok (.invokespecial 40, 3) := by decide +kernel
theorem dX9_mate_67 : decode cX9_mate 67 = .ok (.athrow, 1) := by decide +kernel
theorem dX9_mate_68 : decode cX9_mate 68 = .ok (.aload_n 0, 1) := by decide +kernel
theorem dX9_mate_69 : decode cX9_mate 69 = .ok (.getfield 19, 3) := by decide +kernel
theorem dX9_mate_72 : decode cX9_mate 72 = .ok (.iload_n 1, 1) := by decide +kernel
theorem dX9_mate_73 : decode cX9_mate 73 = .ok (.iload_n 2, 1) := by decide +kernel
theorem dX9_mate_74 : decode cX9_mate 74 = .ok (.iload_n 3, 1) := by decide +kernel
theorem dX9_mate_75 : decode cX9_mate 75 = .ok (.invokevirtual 264, 3) := by decide +kernel
theorem dX9_mate_78 : decode cX9_mate 78 = .ok (.ifCond .eq 14, 3) := by decide +kernel
theorem dX9_mate_81 : decode cX9_mate 81 = .ok (.new 57, 3) := by decide +kernel
theorem dX9_mate_84 : decode cX9_mate 84 = .ok (.dup, 1) := by decide +kernel
theorem dX9_mate_85 : decode cX9_mate 85 = .ok (.ldc_w 267, 3) := by decide +kernel
theorem dX9_mate_88 : decode cX9_mate 88 = .ok (.invokespecial 61, 3) := by decide +kernel
theorem dX9_mate_91 : decode cX9_mate 91 = .ok (.athrow, 1) := by decide +kernel
theorem dX9_mate_92 : decode cX9_mate 92 = .ok (.aload_n 0, 1) := by decide +kernel
theorem dX9_mate_93 : decode cX9_mate 93 = .ok (.getfield 19, 3) := by decide +kernel
theorem dX9_mate_96 : decode cX9_mate 96 = .ok (.getfield 269, 3) := by decide +kernel
theorem dX9_mate_99 : decode cX9_mate 99 = .ok (.bipush 12, 2) := by decide +kernel
theorem dX9_mate_101 : decode cX9_mate 101 = .ok (.if_icmp .lt 14, 3) := by decide +kernel
theorem dX9_mate_104 : decode cX9_mate 104 = .ok (.new 111, 3) := by decide +kernel
theorem dX9_mate_107 : decode cX9_mate 107 = .ok (.dup, 1) := by decide +kernel
theorem dX9_mate_108 : decode cX9_mate 108 = .ok (.ldc_w 272, 3) := by decide +kernel
theorem dX9_mate_111 : decode cX9_mate 111 = .ok (.invokespecial 115, 3) := by decide +kernel
theorem dX9_mate_114 : decode cX9_mate 114 = .ok (.athrow, 1) := by decide +kernel
theorem dX9_mate_115 : decode cX9_mate 115 = .ok (.aload_n 0, 1) := by decide +kernel
theorem dX9_mate_116 : decode cX9_mate 116 = .ok (.getfield 19, 3) := by decide +kernel
theorem dX9_mate_119 : decode cX9_mate 119 = .ok (.iload_n 1, 1) := by decide +kernel
theorem dX9_mate_120 : decode cX9_mate 120 = .ok (.iload_n 2, 1) := by decide +kernel
theorem dX9_mate_121 : decode cX9_mate 121 = .ok (.iload_n 3, 1) := by decide +kernel
theorem dX9_mate_122 : decode cX9_mate 122 = .ok (.iload 4, 2) := by decide +kernel
theorem dX9_mate_124 : decode cX9_mate 124 = .ok (.invokevirtual 274, 3) := by decide +kernel
theorem dX9_mate_127 : decode cX9_mate 127 = .ok (.ireturn, 1) := by decide +kernel
theorem dX9_drag_0 : decode cX9_drag 0 = .ok (.aload_n 0, 1) := by decide +kernel
theorem dX9_drag_1 : decode cX9_drag 1 = .ok (.getfield 19, 3) := by decide +kernel
theorem dX9_drag_4 : decode cX9_drag 4 = .ok (.iload_n 1, 1) := by decide +kernel
theorem dX9_drag_5 : decode cX9_drag 5 = .ok (.invokevirtual 246, 3) := by decide +kernel
theorem dX9_drag_8 : decode cX9_drag 8 = .ok (.ifCond .ne 13, 3) := by decide +kernel
theorem dX9_drag_11 : decode cX9_drag 11 = .ok (.new 143, 3) := by decide +kernel
theorem dX9_drag_14 : decode cX9_drag 14 = .ok (.dup, 1) := by decide +kernel
theorem dX9_drag_15 : decode cX9_drag 15 = .ok (.ldc 249, 2) := by decide +kernel
theorem dX9_drag_17 : decode cX9_drag 17 = .ok (.invokespecial 147, 3) := by decide +kernel
theorem dX9_drag_20 : decode cX9_drag 20 = .ok (.athrow, 1) := by decide +kernel
theorem dX9_drag_21 : decode cX9_drag 21 = .ok (.iload_n 2, 1) := by decide +kernel
theorem dX9_drag_22 : decode cX9_drag 22 = .ok (.invokestatic 221, 3) := by decide +kernel
theorem dX9_drag_25 : decode cX9_drag 25 = .ok (.ifCond .eq 10, 3) := by decide +kernel
theorem dX9_drag_28 : decode cX9_drag 28 = .ok (.iload_n 3, 1) := by decide +kernel
theorem dX9_drag_29 : decode cX9_drag 29 = .ok (.invokestatic 236, 3) := by decide +kernel
theorem dX9_drag_32 : decode cX9_drag 32 = .ok (.ifCond .ne 14, 3) := by decide +kernel
theorem dX9_drag_35 : decode cX9_drag 35 = .ok (.new 36, 3) := by decide +kernel
theorem dX9_drag_38 : decode cX9_drag 38 = .ok (.dup, 1) := by decide +kernel
theorem dX9_drag_39 : decode cX9_drag 39 = .ok (.ldc_w 277, 3) := by decide +kernel
theorem dX9_drag_42 : decode cX9_drag 42 = .ok (.invokespecial 40, 3) := by decide +kernel
theorem dX9_drag_45 : decode cX9_drag 45 = .ok (.athrow, 1) := by decide +kernel
theorem dX9_drag_46 : decode cX9_drag 46 = .ok (.aload_n 0, 1) := by decide +kernel
theorem dX9_drag_47 : decode cX9_drag 47 = .ok (.getfield 19, 3) := by decide +kernel
theorem dX9_drag_50 : decode cX9_drag 50 = .ok (.iload_n 2, 1) := by decide +kernel
theorem dX9_drag_51 : decode cX9_drag 51 = .ok (.iload_n 1, 1) := by decide +kernel
theorem dX9_drag_52 : decode cX9_drag 52 = .ok (.iconst (-1), 1) := by decide +kernel
theorem dX9_drag_53 : decode cX9_drag 53 = .ok (.invokevirtual 264, 3) := by decide +kernel
theorem dX9_drag_56 : decode cX9_drag 56 = .ok (.ifCond .eq 14, 3) := by decide +kernel
theorem dX9_drag_59 : decode cX9_drag 59 = .ok (.new 57, 3) := by decide +kernel
theorem dX9_drag_62 : decode cX9_drag 62 = .ok (.dup, 1) := by decide +kernel
theorem dX9_drag_63 : decode cX9_drag 63 = .ok (.ldc_w 279, 3) := by decide +kernel
theorem dX9_drag_66 : decode cX9_drag 66 = .ok (.invokespecial 61, 3) := by decide +kernel
theorem dX9_drag_69 : decode cX9_drag 69 = .ok (.athrow, 1) := by decide +kernel
theorem dX9_drag_70 : decode cX9_drag 70 = .ok (.aload_n 0, 1) := by decide +kernel
theorem dX9_drag_71 : decode cX9_drag 71 = .ok (.getfield 19, 3) := by decide +kernel
theorem dX9_drag_74 : decode cX9_drag 74 = .ok (.iload_n 2, 1) := by decide +kernel
theorem dX9_drag_75 : decode cX9_drag 75 = .ok (.aload_n 0, 1) := by decide +kernel
theorem dX9_drag_76 : decode cX9_drag 76 = .ok (.getfield 19, 3) := by decide +kernel
theorem dX9_drag_79 : decode cX9_drag 79 = .ok (.iload_n 2, 1) := by decide +kernel
theorem dX9_drag_80 : decode cX9_drag 80 = .ok (.iload_n 1, 1) := by decide +kernel
theorem dX9_drag_81 : decode cX9_drag 81 = .ok (.invokevirtual 281, 3) := by decide +kernel
theorem dX9_drag_84 : decode cX9_drag 84 = .ok (.iload_n 3, 1) := by decide +kernel
theorem dX9_drag_85 : decode cX9_drag 85 = .ok (.invokevirtual 284, 3) := by decide +kernel
theorem dX9_drag_88 : decode cX9_drag 88 = .ok (.ireturn, 1) := by decide +kernel
theorem dX9_moved_0 : decode cX9_moved 0 = .ok (.aload_n 0, 1) := by decide +kernel
theorem dX9_moved_1 : decode cX9_moved 1 = .ok (.getfield 19, 3) := by decide +kernel
theorem dX9_moved_4 : decode cX9_moved 4 = .ok (.iload_n 1, 1) := by decide +kernel
theorem dX9_moved_5 : decode cX9_moved 5 = .ok (.invokevirtual 246, 3) := by decide +kernel
theorem dX9_moved_8 : decode cX9_moved 8 = .ok (.ifCond .ne 13, 3) := by decide +kernel
theorem dX9_moved_11 : decode cX9_moved 11 = .ok (.new 143, 3) := by decide +kernel
theorem dX9_moved_14 : decode cX9_moved 14 = .ok (.dup, 1) := by decide +kernel
theorem dX9_moved_15 : decode cX9_moved 15 = .ok (.ldc 249, 2) := by decide +kernel
theorem dX9_moved_17 : decode cX9_moved 17 = .ok (.invokespecial 147, 3) := by decide +kernel
theorem dX9_moved_20 : decode cX9_moved 20 = .ok (.athrow, 1) := by decide +kernel
theorem dX9_moved_21 : decode cX9_moved 21 = .ok (.iload_n 2, 1) := by decide +kernel
theorem dX9_moved_22 : decode cX9_moved 22 = .ok (.invokestatic 221, 3) := by decide +kernel
theorem dX9_moved_25 : decode cX9_moved 25 = .ok (.ifCond .ne 13, 3) := by decide +kernel
theorem dX9_moved_28 : decode cX9_moved 28 = .ok (.new 36, 3) := by decide +kernel
theorem dX9_moved_31 : decode cX9_moved 31 = .ok (.dup, 1) := by decide +kernel
theorem dX9_moved_32 : decode cX9_moved 32 = .ok (.ldc 224, 2) := by decide +kernel
theorem dX9_moved_34 : decode cX9_moved 34 = .ok (.invokespecial 40, 3) := by decide +kernel
theorem dX9_moved_37 : decode cX9_moved 37 = .ok (.athrow, 1) := by decide +kernel
theorem dX9_moved_38 : decode cX9_moved 38 = .ok (.aload_n 0, 1) := by decide +kernel
theorem dX9_moved_39 : decode cX9_moved 39 = .ok (.getfield 19, 3) := by decide +kernel
theorem dX9_moved_42 : decode cX9_moved 42 = .ok (.iload_n 1, 1) := by decide +kernel
theorem dX9_moved_43 : decode cX9_moved 43 = .ok (.iload_n 2, 1) := by decide +kernel
theorem dX9_moved_44 : decode cX9_moved 44 = .ok (.invokevirtual 287, 3) := by decide +kernel
theorem dX9_moved_47 : decode cX9_moved 47 = .ok (.ireturn, 1) := by decide +kernel
theorem dX9_freedoms_0 : decode cX9_freedoms 0 = .ok (.iconst 3, 1) := by decide +kernel
theorem dX9_freedoms_1 : decode cX9_freedoms 1 = .ok (.aload_n 0, 1) := by decide +kernel
theorem dX9_freedoms_2 : decode cX9_freedoms 2 = .ok (.getfield 19, 3) := by decide +kernel
theorem dX9_freedoms_5 : decode cX9_freedoms 5 = .ok (.getfield 241, 3) := by decide +kernel
theorem dX9_freedoms_8 : decode cX9_freedoms 8 = .ok (.imul, 1) := by decide +kernel
theorem dX9_freedoms_9 : decode cX9_freedoms 9 = .ok (.aload_n 0, 1) := by decide +kernel
theorem dX9_freedoms_10 : decode cX9_freedoms 10 = .ok (.getfield 19, 3) := by decide +kernel
theorem dX9_freedoms_13 : decode cX9_freedoms 13 = .ok (.getfield 269, 3) := by decide +kernel
theorem dX9_freedoms_16 : decode cX9_freedoms 16 = .ok (.isub, 1) := by decide +kernel
theorem dX9_freedoms_17 : decode cX9_freedoms 17 = .ok (.ireturn, 1) := by decide +kernel
theorem dX9_clashes_0 : decode cX9_clashes 0 = .ok (.aload_n 0, 1) := by decide +kernel
theorem dX9_clashes_1 : decode cX9_clashes 1 = .ok (.getfield 19, 3) := by decide +kernel
theorem dX9_clashes_4 : decode cX9_clashes 4 = .ok (.iload_n 1, 1) := by decide +kernel
theorem dX9_clashes_5 : decode cX9_clashes 5 = .ok (.invokevirtual 246, 3) := by decide +kernel
theorem dX9_clashes_8 : decode cX9_clashes 8 = .ok (.ifCond .eq 14, 3) := by decide +kernel
theorem dX9_clashes_11 : decode cX9_clashes 11 = .ok (.aload_n 0, 1) := by decide +kernel
theorem dX9_clashes_12 : decode cX9_clashes 12 = .ok (.getfield 19, 3) := by decide +kernel
theorem dX9_clashes_15 : decode cX9_clashes 15 = .ok (.iload_n 2, 1) := by decide +kernel
theorem dX9_clashes_16 : decode cX9_clashes 16 = .ok (.invokevirtual 246, 3) := by decide +kernel
theorem dX9_clashes_19 : decode cX9_clashes 19 = .ok (.ifCond .ne 13, 3) := by decide +kernel
theorem dX9_clashes_22 : decode cX9_clashes 22 = .ok (.new 143, 3) := by decide +kernel
theorem dX9_clashes_25 : decode cX9_clashes 25 = .ok (.dup, 1) := by decide +kernel
theorem dX9_clashes_26 : decode cX9_clashes 26 = .ok (.ldc 249, 2) := by decide +kernel
theorem dX9_clashes_28 : decode cX9_clashes 28 = .ok (.invokespecial 147, 3) := by decide +kernel
theorem dX9_clashes_31 : decode cX9_clashes 31 = .ok (.athrow, 1) := by decide +kernel
theorem dX9_clashes_32 : decode cX9_clashes 32 = .ok (.iload_n 1, 1) := by decide +kernel
theorem dX9_clashes_33 : decode cX9_clashes 33 = .ok (.iload_n 2, 1) := by decide +kernel
theorem dX9_clashes_34 : decode cX9_clashes 34 = .ok (.if_icmp .ne 14, 3) := by decide +kernel
theorem dX9_clashes_37 : decode cX9_clashes 37 = .ok (.new 36, 3) := by decide +kernel
theorem dX9_clashes_40 : decode cX9_clashes 40 = .ok (.dup, 1) := by decide +kernel
theorem dX9_clashes_41 : decode cX9_clashes 41 = .ok (.ldc_w 290, 3) := by decide +kernel
theorem dX9_clashes_44 : decode cX9_clashes 44 = .ok (.invokespecial 40, 3) := by decide +kernel
theorem dX9_clashes_47 : decode cX9_clashes 47 = .ok (.athrow, 1) := by decide +kernel
theorem dX9_clashes_48 : decode cX9_clashes 48 = .ok (.aload_n 0, 1) := by decide +kernel
theorem dX9_clashes_49 : decode cX9_clashes 49 = .ok (.getfield 19, 3) := by decide +kernel
theorem dX9_clashes_52 : decode cX9_clashes 52 = .ok (.iload_n 1, 1) := by decide +kernel
theorem dX9_clashes_53 : decode cX9_clashes 53 = .ok (.iload_n 2, 1) := by decide +kernel
theorem dX9_clashes_54 : decode cX9_clashes 54 = .ok (.aload_n 0, 1) := by decide +kernel
theorem dX9_clashes_55 : decode cX9_clashes 55 = .ok (.getfield 10, 3) := by decide +kernel
theorem dX9_clashes_58 : decode cX9_clashes 58 = .ok (.invokevirtual 173, 3) := by decide +kernel
theorem dX9_clashes_61 : decode cX9_clashes 61 = .ok (.getfield 177, 3) := by decide +kernel
theorem dX9_clashes_64 : decode cX9_clashes 64 = .ok (.invokevirtual 292, 3) := by decide +kernel
theorem dX9_clashes_67 : decode cX9_clashes 67 = .ok (.ireturn, 1) := by decide +kernel
theorem dX9_depth_0 : decode cX9_depth 0 = .ok (.iload_n 1, 1) := by decide +kernel
theorem dX9_depth_1 : decode cX9_depth 1 = .ok (.invokestatic 221, 3) := by decide +kernel
theorem dX9_depth_4 : decode cX9_depth 4 = .ok (.ifCond .ne 13, 3) := by decide +kernel
theorem dX9_depth_7 : decode cX9_depth 7 = .ok (.new 36, 3) := by decide +kernel
theorem dX9_depth_10 : decode cX9_depth 10 = .ok (.dup, 1) := by decide +kernel
theorem dX9_depth_11 : decode cX9_depth 11 = .ok (.ldc 224, 2) := by decide +kernel
theorem dX9_depth_13 : decode cX9_depth 13 = .ok (.invokespecial 40, 3) := by decide +kernel
theorem dX9_depth_16 : decode cX9_depth 16 = .ok (.athrow, 1) := by decide +kernel
theorem dX9_depth_17 : decode cX9_depth 17 = .ok (.iload_n 3, 1) := by decide +kernel
theorem dX9_depth_18 : decode cX9_depth 18 = .ok (.iload 4, 2) := by decide +kernel
theorem dX9_depth_20 : decode cX9_depth 20 = .ok (.iconst 0, 1) := by decide +kernel
theorem dX9_depth_21 : decode cX9_depth 21 = .ok (.invokestatic 166, 3) := by decide +kernel
theorem dX9_depth_24 : decode cX9_depth 24 = .ok (.ifCond .ne 14, 3) := by decide +kernel
theorem dX9_depth_27 : decode cX9_depth 27 = .ok (.new 143, 3) := by decide +kernel
theorem dX9_depth_30 : decode cX9_depth 30 = .ok (.dup, 1) := by decide +kernel
theorem dX9_depth_31 : decode cX9_depth 31 = .ok (.ldc_w 296, 3) := by decide +kernel
theorem dX9_depth_34 : decode cX9_depth 34 = .ok (.invokespecial 147, 3) := by decide +kernel
theorem dX9_depth_37 : decode cX9_depth 37 = .ok (.athrow, 1) := by decide +kernel
theorem dX9_depth_38 : decode cX9_depth 38 = .ok (.aload_n 0, 1) := by decide +kernel
theorem dX9_depth_39 : decode cX9_depth 39 = .ok (.getfield 10, 3) := by decide +kernel
theorem dX9_depth_42 : decode cX9_depth 42 = .ok (.invokevirtual 173, 3) := by decide +kernel
theorem dX9_depth_45 : decode cX9_depth 45 = .ok (.getfield 177, 3) := by decide +kernel
theorem dX9_depth_48 : decode cX9_depth 48 = .ok (.iload_n 1, 1) := by decide +kernel
theorem dX9_depth_49 : decode cX9_depth 49 = .ok (.iload_n 2, 1) := by decide +kernel
theorem dX9_depth_50 : decode cX9_depth 50 = .ok (.iload_n 3, 1) := by decide +kernel
theorem dX9_depth_51 : decode cX9_depth 51 = .ok (.iload 4, 2) := by decide +kernel
theorem dX9_depth_53 : decode cX9_depth 53 = .ok (.invokestatic 298, 3) := by decide +kernel
theorem dX9_depth_56 : decode cX9_depth 56 = .ok (.ireturn, 1) := by decide +kernel
theorem dX9_lines_0 : decode cX9_lines 0 = .ok (.iload_n 1, 1) := by decide +kernel
theorem dX9_lines_1 : decode cX9_lines 1 = .ok (.invokestatic 221, 3) := by decide +kernel
theorem dX9_lines_4 : decode cX9_lines 4 = .ok (.ifCond .ne 13, 3) := by decide +kernel
theorem dX9_lines_7 : decode cX9_lines 7 = .ok (.new 36, 3) := by decide +kernel
theorem dX9_lines_10 : decode cX9_lines 10 = .ok (.dup, 1) := by decide +kernel
theorem dX9_lines_11 : decode cX9_lines 11 = .ok (.ldc 224, 2) := by decide +kernel
theorem dX9_lines_13 : decode cX9_lines 13 = .ok (.invokespecial 40, 3) := by decide +kernel
theorem dX9_lines_16 : decode cX9_lines 16 = .ok (.athrow, 1) := by decide +kernel
theorem dX9_lines_17 : decode cX9_lines 17 = .ok (.aload_n 0, 1) := by decide +kernel
theorem dX9_lines_18 : decode cX9_lines 18 = .ok (.getfield 10, 3) := by decide +kernel
theorem dX9_lines_21 : decode cX9_lines 21 = .ok (.invokevirtual 173, 3) := by decide +kernel
theorem dX9_lines_24 : decode cX9_lines 24 = .ok (.getfield 177, 3) := by decide +kernel
theorem dX9_lines_27 : decode cX9_lines 27 = .ok (.iload_n 1, 1) := by decide +kernel
theorem dX9_lines_28 : decode cX9_lines 28 = .ok (.iload_n 2, 1) := by decide +kernel
theorem dX9_lines_29 : decode cX9_lines 29 = .ok (.invokestatic 304, 3) := by decide +kernel
theorem dX9_lines_32 : decode cX9_lines 32 = .ok (.ireturn, 1) := by decide +kernel
theorem dX9_isSound_0 : decode cX9_isSound 0 = .ok (.aload_n 0, 1) := by decide +kernel
theorem dX9_isSound_1 : decode cX9_isSound 1 = .ok (.getfield 10, 3) := by decide +kernel
theorem dX9_isSound_4 : decode cX9_isSound 4 = .ok (.invokevirtual 173, 3) := by decide +kernel
theorem dX9_isSound_7 : decode cX9_isSound 7 = .ok (.getfield 177, 3) := by decide +kernel
theorem dX9_isSound_10 : decode cX9_isSound 10 = .ok (.astore_n 1, 1) := by decide +kernel
theorem dX9_isSound_11 : decode cX9_isSound 11 = .ok (.aload_n 1, 1) := by decide +kernel
theorem dX9_isSound_12 : decode cX9_isSound 12 = .ok (.aload_n 0, 1) := by decide +kernel
theorem dX9_isSound_13 : decode cX9_isSound 13 = .ok (.getfield 10, 3) := by decide +kernel
theorem dX9_isSound_16 : decode cX9_isSound 16 = .ok (.invokevirtual 186, 3) := by decide +kernel
theorem dX9_isSound_19 : decode cX9_isSound 19 = .ok (.getfield 177, 3) := by decide +kernel
theorem dX9_isSound_22 : decode cX9_isSound 22 = .ok (.invokevirtual 308, 3) := by decide +kernel
theorem dX9_isSound_25 : decode cX9_isSound 25 = .ok (.ifCond .eq 37, 3) := by decide +kernel
theorem dX9_isSound_28 : decode cX9_isSound 28 = .ok (.aload_n 1, 1) := by decide +kernel
theorem dX9_isSound_29 : decode cX9_isSound 29 = .ok (.invokestatic 312, 3) := by decide +kernel
theorem dX9_isSound_32 : decode cX9_isSound 32 = .ok (.ifCond .eq 30, 3) := by decide +kernel
theorem dX9_isSound_35 : decode cX9_isSound 35 = .ok (.aload_n 0, 1) := by decide +kernel
theorem dX9_isSound_36 : decode cX9_isSound 36 = .ok (.getfield 10, 3) := by decide +kernel
theorem dX9_isSound_39 : decode cX9_isSound 39 = .ok (.getfield 43, 3) := by decide +kernel
theorem dX9_isSound_42 : decode cX9_isSound 42 = .ok (.invokevirtual 77, 3) := by decide +kernel
theorem dX9_isSound_45 : decode cX9_isSound 45 = .ok (.ifCond .eq 17, 3) := by decide +kernel
theorem dX9_isSound_48 : decode cX9_isSound 48 = .ok (.aload_n 0, 1) := by decide +kernel
theorem dX9_isSound_49 : decode cX9_isSound 49 = .ok (.getfield 19, 3) := by decide +kernel
theorem dX9_isSound_52 : decode cX9_isSound 52 = .ok (.invokevirtual 315, 3) := by decide +kernel
theorem dX9_isSound_55 : decode cX9_isSound 55 = .ok (.ifCond .eq 7, 3) := by decide +kernel
theorem dX9_isSound_58 : decode cX9_isSound 58 = .ok (.iconst 1, 1) := by decide +kernel
theorem dX9_isSound_59 : decode cX9_isSound 59 = .ok (.goto 4, 3) := by decide +kernel
theorem dX9_isSound_62 : decode cX9_isSound 62 = .ok (.iconst 0, 1) := by decide +kernel
theorem dX9_isSound_63 : decode cX9_isSound 63 = .ok (.ireturn, 1) := by decide +kernel
theorem dX9_isAxis_0 : decode cX9_isAxis 0 = .ok (.iload_n 0, 1) := by decide +kernel
theorem dX9_isAxis_1 : decode cX9_isAxis 1 = .ok (.ifCond .lt 12, 3) := by decide +kernel
theorem dX9_isAxis_4 : decode cX9_isAxis 4 = .ok (.iload_n 0, 1) := by decide +kernel
theorem dX9_isAxis_5 : decode cX9_isAxis 5 = .ok (.iconst 3, 1) := by decide +kernel
theorem dX9_isAxis_6 : decode cX9_isAxis 6 = .ok (.if_icmp .ge 7, 3) := by decide +kernel
theorem dX9_isAxis_9 : decode cX9_isAxis 9 = .ok (.iconst 1, 1) := by decide +kernel
theorem dX9_isAxis_10 : decode cX9_isAxis 10 = .ok (.goto 4, 3) := by decide +kernel
theorem dX9_isAxis_13 : decode cX9_isAxis 13 = .ok (.iconst 0, 1) := by decide +kernel
theorem dX9_isAxis_14 : decode cX9_isAxis 14 = .ok (.ireturn, 1) := by decide +kernel
theorem dX9_isSide_0 : decode cX9_isSide 0 = .ok (.iload_n 0, 1) := by decide +kernel
theorem dX9_isSide_1 : decode cX9_isSide 1 = .ok (.ifCond .lt 13, 3) := by decide +kernel
theorem dX9_isSide_4 : decode cX9_isSide 4 = .ok (.iload_n 0, 1) := by decide +kernel
theorem dX9_isSide_5 : decode cX9_isSide 5 = .ok (.bipush 6, 2) := by decide +kernel
theorem dX9_isSide_7 : decode cX9_isSide 7 = .ok (.if_icmp .ge 7, 3) := by decide +kernel
theorem dX9_isSide_10 : decode cX9_isSide 10 = .ok (.iconst 1, 1) := by decide +kernel
theorem dX9_isSide_11 : decode cX9_isSide 11 = .ok (.goto 4, 3) := by decide +kernel
theorem dX9_isSide_14 : decode cX9_isSide 14 = .ok (.iconst 0, 1) := by decide +kernel
theorem dX9_isSide_15 : decode cX9_isSide 15 = .ok (.ireturn, 1) := by decide +kernel
theorem dX9_isGiven_0 : decode cX9_isGiven 0 = .ok (.iload_n 0, 1) := by decide +kernel
theorem dX9_isGiven_1 : decode cX9_isGiven 1 = .ok (.bipush (-20), 2) := by decide +kernel
theorem dX9_isGiven_3 : decode cX9_isGiven 3 = .ok (.if_icmp .lt 13, 3) := by decide +kernel
theorem dX9_isGiven_6 : decode cX9_isGiven 6 = .ok (.iload_n 0, 1) := by decide +kernel
theorem dX9_isGiven_7 : decode cX9_isGiven 7 = .ok (.bipush 20, 2) := by decide +kernel
theorem dX9_isGiven_9 : decode cX9_isGiven 9 = .ok (.if_icmp .gt 7, 3) := by decide +kernel
theorem dX9_isGiven_12 : decode cX9_isGiven 12 = .ok (.iconst 1, 1) := by decide +kernel
theorem dX9_isGiven_13 : decode cX9_isGiven 13 = .ok (.goto 4, 3) := by decide +kernel
theorem dX9_isGiven_16 : decode cX9_isGiven 16 = .ok (.iconst 0, 1) := by decide +kernel
theorem dX9_isGiven_17 : decode cX9_isGiven 17 = .ok (.ireturn, 1) := by decide +kernel
theorem dX9_areTerms_0 : decode cX9_areTerms 0 = .ok (.iload_n 0, 1) := by decide +kernel
theorem dX9_areTerms_1 : decode cX9_areTerms 1 = .ok (.invokestatic 33, 3) := by decide +kernel
theorem dX9_areTerms_4 : decode cX9_areTerms 4 = .ok (.ifCond .eq 21, 3) := by decide +kernel
theorem dX9_areTerms_7 : decode cX9_areTerms 7 = .ok (.iload_n 1, 1) := by decide +kernel
theorem dX9_areTerms_8 : decode cX9_areTerms 8 = .ok (.invokestatic 33, 3) := by decide +kernel
theorem dX9_areTerms_11 : decode cX9_areTerms 11 = .ok (.ifCond .eq 14, 3) := by decide +kernel
theorem dX9_areTerms_14 : decode cX9_areTerms 14 = .ok (.iload_n 2, 1) := by decide +kernel
theorem dX9_areTerms_15 : decode cX9_areTerms 15 = .ok (.invokestatic 33, 3) := by decide +kernel
theorem dX9_areTerms_18 : decode cX9_areTerms 18 = .ok (.ifCond .eq 7, 3) := by decide +kernel
theorem dX9_areTerms_21 : decode cX9_areTerms 21 = .ok (.iconst 1, 1) := by decide +kernel
theorem dX9_areTerms_22 : decode cX9_areTerms 22 = .ok (.goto 4, 3) := by decide +kernel
theorem dX9_areTerms_25 : decode cX9_areTerms 25 = .ok (.iconst 0, 1) := by decide +kernel
theorem dX9_areTerms_26 : decode cX9_areTerms 26 = .ok (.ireturn, 1) := by decide +kernel
theorem dJx00060_init_a7421_0 : decode cJx00060_init_a7421 0 = .ok (.aload_n 0, 1) := by decide +kernel
theorem dJx00060_init_a7421_1 : decode cJx00060_init_a7421 1 = .ok (.aload_n 1, 1) := by decide +kernel
theorem dJx00060_init_a7421_2 : decode cJx00060_init_a7421 2 = .ok (.invokespecial 7, 3) := by decide +kernel
theorem dJx00060_init_a7421_5 : decode cJx00060_init_a7421 5 = .ok (.return_, 1) := by decide +kernel
theorem dJ11_isValidCodePoint_9a6ad_0 : decode cJ11_isValidCodePoint_9a6ad 0 = .ok (.iload_n 0, 1) := by decide +kernel
theorem dJ11_isValidCodePoint_9a6ad_1 : decode cJ11_isValidCodePoint_9a6ad 1 = .ok (.bipush 16, 2) := by decide +kernel
theorem dJ11_isValidCodePoint_9a6ad_3 : decode cJ11_isValidCodePoint_9a6ad 3 = .ok (.iushr, 1) := by decide +kernel
theorem dJ11_isValidCodePoint_9a6ad_4 : decode cJ11_isValidCodePoint_9a6ad 4 = .ok (.istore_n 1, 1) := by decide +kernel
theorem dJ11_isValidCodePoint_9a6ad_5 : decode cJ11_isValidCodePoint_9a6ad 5 = .ok (.iload_n 1, 1) := by decide +kernel
theorem dJ11_isValidCodePoint_9a6ad_6 : decode cJ11_isValidCodePoint_9a6ad 6 = .ok (.bipush 17, 2) := by decide +kernel
theorem dJ11_isValidCodePoint_9a6ad_8 : decode cJ11_isValidCodePoint_9a6ad 8 = .ok (.if_icmp .ge 7, 3) := by decide +kernel
theorem dJ11_isValidCodePoint_9a6ad_11 : decode cJ11_isValidCodePoint_9a6ad 11 = .ok (.iconst 1, 1) := by decide +kernel
theorem dJ11_isValidCodePoint_9a6ad_12 : decode cJ11_isValidCodePoint_9a6ad 12 = .ok (.goto 4, 3) := by decide +kernel
theorem dJ11_isValidCodePoint_9a6ad_15 : decode cJ11_isValidCodePoint_9a6ad 15 = .ok (.iconst 0, 1) := by decide +kernel
theorem dJ11_isValidCodePoint_9a6ad_16 : decode cJ11_isValidCodePoint_9a6ad 16 = .ok (.ireturn, 1) := by decide +kernel
theorem dJ11_highSurrogate_5068e_0 : decode cJ11_highSurrogate_5068e 0 = .ok (.iload_n 0, 1) := by decide +kernel
theorem dJ11_highSurrogate_5068e_1 : decode cJ11_highSurrogate_5068e 1 = .ok (.bipush 10, 2) := by decide +kernel
theorem dJ11_highSurrogate_5068e_3 : decode cJ11_highSurrogate_5068e 3 = .ok (.iushr, 1) := by decide +kernel
theorem dJ11_highSurrogate_5068e_4 : decode cJ11_highSurrogate_5068e 4 = .ok (.ldc 110, 2) := by decide +kernel
theorem dJ11_highSurrogate_5068e_6 : decode cJ11_highSurrogate_5068e 6 = .ok (.iadd, 1) := by decide +kernel
theorem dJ11_highSurrogate_5068e_7 : decode cJ11_highSurrogate_5068e 7 = .ok (.i2c, 1) := by decide +kernel
theorem dJ11_highSurrogate_5068e_8 : decode cJ11_highSurrogate_5068e 8 = .ok (.ireturn, 1) := by decide +kernel
theorem dJ11_lowSurrogate_5068e_0 : decode cJ11_lowSurrogate_5068e 0 = .ok (.iload_n 0, 1) := by decide +kernel
theorem dJ11_lowSurrogate_5068e_1 : decode cJ11_lowSurrogate_5068e 1 = .ok (.sipush 1023, 3) := by decide +kernel
theorem dJ11_lowSurrogate_5068e_4 : decode cJ11_lowSurrogate_5068e 4 = .ok (.iand, 1) := by decide +kernel
theorem dJ11_lowSurrogate_5068e_5 : decode cJ11_lowSurrogate_5068e 5 = .ok (.ldc 76, 2) := by decide +kernel
theorem dJ11_lowSurrogate_5068e_7 : decode cJ11_lowSurrogate_5068e 7 = .ok (.iadd, 1) := by decide +kernel
theorem dJ11_lowSurrogate_5068e_8 : decode cJ11_lowSurrogate_5068e 8 = .ok (.i2c, 1) := by decide +kernel
theorem dJ11_lowSurrogate_5068e_9 : decode cJ11_lowSurrogate_5068e 9 = .ok (.ireturn, 1) := by decide +kernel
theorem dJ13_lowestOneBit_067f4_0 : decode cJ13_lowestOneBit_067f4 0 = .ok (.lload_n 0, 1) := by decide +kernel
theorem dJ13_lowestOneBit_067f4_1 : decode cJ13_lowestOneBit_067f4 1 = .ok (.lload_n 0, 1) := by decide +kernel
theorem dJ13_lowestOneBit_067f4_2 : decode cJ13_lowestOneBit_067f4 2 = .ok (.lneg, 1) := by decide +kernel
theorem dJ13_lowestOneBit_067f4_3 : decode cJ13_lowestOneBit_067f4 3 = .ok (.land, 1) := by decide +kernel
theorem dJ13_lowestOneBit_067f4_4 : decode cJ13_lowestOneBit_067f4 4 = .ok (.lreturn, 1) := by decide +kernel
theorem dJ13_bitCount_95d88_0 : decode cJ13_bitCount_95d88 0 = .ok (.lload_n 0, 1) := by decide +kernel
theorem dJ13_bitCount_95d88_1 : decode cJ13_bitCount_95d88 1 = .ok (.lload_n 0, 1) := by decide +kernel
theorem dJ13_bitCount_95d88_2 : decode cJ13_bitCount_95d88 2 = .ok (.iconst 1, 1) := by decide +kernel
theorem dJ13_bitCount_95d88_3 : decode cJ13_bitCount_95d88 3 = .ok (.lushr, 1) := by decide +kernel
theorem dJ13_bitCount_95d88_4 : decode cJ13_bitCount_95d88 4 = .ok (.ldc2_w 314, 3) := by decide +kernel
theorem dJ13_bitCount_95d88_7 : decode cJ13_bitCount_95d88 7 = .ok (.land, 1) := by decide +kernel
theorem dJ13_bitCount_95d88_8 : decode cJ13_bitCount_95d88 8 = .ok (.lsub, 1) := by decide +kernel
theorem dJ13_bitCount_95d88_9 : decode cJ13_bitCount_95d88 9 = .ok (.lstore_n 0, 1) := by decide +kernel
theorem dJ13_bitCount_95d88_10 : decode cJ13_bitCount_95d88 10 = .ok (.lload_n 0, 1) := by decide +kernel
theorem dJ13_bitCount_95d88_11 : decode cJ13_bitCount_95d88 11 = .ok (.ldc2_w 316, 3) := by decide +kernel
theorem dJ13_bitCount_95d88_14 : decode cJ13_bitCount_95d88 14 = .ok (.land, 1) := by decide +kernel
theorem dJ13_bitCount_95d88_15 : decode cJ13_bitCount_95d88 15 = .ok (.lload_n 0, 1) := by decide +kernel
theorem dJ13_bitCount_95d88_16 : decode cJ13_bitCount_95d88 16 = .ok (.iconst 2, 1) := by decide +kernel
theorem dJ13_bitCount_95d88_17 : decode cJ13_bitCount_95d88 17 = .ok (.lushr, 1) := by decide +kernel
theorem dJ13_bitCount_95d88_18 : decode cJ13_bitCount_95d88 18 = .ok (.ldc2_w 316, 3) := by decide +kernel
theorem dJ13_bitCount_95d88_21 : decode cJ13_bitCount_95d88 21 = .ok (.land, 1) := by decide +kernel
theorem dJ13_bitCount_95d88_22 : decode cJ13_bitCount_95d88 22 = .ok (.ladd, 1) := by decide +kernel
theorem dJ13_bitCount_95d88_23 : decode cJ13_bitCount_95d88 23 = .ok (.lstore_n 0, 1) := by decide +kernel
theorem dJ13_bitCount_95d88_24 : decode cJ13_bitCount_95d88 24 = .ok (.lload_n 0, 1) := by decide +kernel
theorem dJ13_bitCount_95d88_25 : decode cJ13_bitCount_95d88 25 = .ok (.lload_n 0, 1) := by decide +kernel
theorem dJ13_bitCount_95d88_26 : decode cJ13_bitCount_95d88 26 = .ok (.iconst 4, 1) := by decide +kernel
theorem dJ13_bitCount_95d88_27 : decode cJ13_bitCount_95d88 27 = .ok (.lushr, 1) := by decide +kernel
theorem dJ13_bitCount_95d88_28 : decode cJ13_bitCount_95d88 28 = .ok (.ladd, 1) := by decide +kernel
theorem dJ13_bitCount_95d88_29 : decode cJ13_bitCount_95d88 29 = .ok (.ldc2_w 318, 3) := by decide +kernel
theorem dJ13_bitCount_95d88_32 : decode cJ13_bitCount_95d88 32 = .ok (.land, 1) := by decide +kernel
theorem dJ13_bitCount_95d88_33 : decode cJ13_bitCount_95d88 33 = .ok (.lstore_n 0, 1) := by decide +kernel
theorem dJ13_bitCount_95d88_34 : decode cJ13_bitCount_95d88 34 = .ok (.lload_n 0, 1) := by decide +kernel
theorem dJ13_bitCount_95d88_35 : decode cJ13_bitCount_95d88 35 = .ok (.lload_n 0, 1) := by decide +kernel
theorem dJ13_bitCount_95d88_36 : decode cJ13_bitCount_95d88 36 = .ok (.bipush 8, 2) := by decide +kernel
theorem dJ13_bitCount_95d88_38 : decode cJ13_bitCount_95d88 38 = .ok (.lushr, 1) := by decide +kernel
theorem dJ13_bitCount_95d88_39 : decode cJ13_bitCount_95d88 39 = .ok (.ladd, 1) := by decide +kernel
theorem dJ13_bitCount_95d88_40 : decode cJ13_bitCount_95d88 40 = .ok (.lstore_n 0, 1) := by decide +kernel
theorem dJ13_bitCount_95d88_41 : decode cJ13_bitCount_95d88 41 = .ok (.lload_n 0, 1) := by decide +kernel
theorem dJ13_bitCount_95d88_42 : decode cJ13_bitCount_95d88 42 = .ok (.lload_n 0, 1) := by decide +kernel
theorem dJ13_bitCount_95d88_43 : decode cJ13_bitCount_95d88 43 = .ok (.bipush 16, 2) := by decide +kernel
theorem dJ13_bitCount_95d88_45 : decode cJ13_bitCount_95d88 45 = .ok (.lushr, 1) := by decide +kernel
theorem dJ13_bitCount_95d88_46 : decode cJ13_bitCount_95d88 46 = .ok (.ladd, 1) := by decide +kernel
theorem dJ13_bitCount_95d88_47 : decode cJ13_bitCount_95d88 47 = .ok (.lstore_n 0, 1) := by decide +kernel
theorem dJ13_bitCount_95d88_48 : decode cJ13_bitCount_95d88 48 = .ok (.lload_n 0, 1) := by decide +kernel
theorem dJ13_bitCount_95d88_49 : decode cJ13_bitCount_95d88 49 = .ok (.lload_n 0, 1) := by decide +kernel
theorem dJ13_bitCount_95d88_50 : decode cJ13_bitCount_95d88 50 = .ok (.bipush 32, 2) := by decide +kernel
theorem dJ13_bitCount_95d88_52 : decode cJ13_bitCount_95d88 52 = .ok (.lushr, 1) := by decide +kernel
theorem dJ13_bitCount_95d88_53 : decode cJ13_bitCount_95d88 53 = .ok (.ladd, 1) := by decide +kernel
theorem dJ13_bitCount_95d88_54 : decode cJ13_bitCount_95d88 54 = .ok (.lstore_n 0, 1) := by decide +kernel
theorem dJ13_bitCount_95d88_55 : decode cJ13_bitCount_95d88 55 = .ok (.lload_n 0, 1) := by decide +kernel
theorem dJ13_bitCount_95d88_56 : decode cJ13_bitCount_95d88 56 = .ok (.l2i, 1) := by decide +kernel
theorem dJ13_bitCount_95d88_57 : decode cJ13_bitCount_95d88 57 = .ok (.bipush 127, 2) := by decide +kernel
theorem dJ13_bitCount_95d88_59 : decode cJ13_bitCount_95d88 59 = .ok (.iand, 1) := by decide +kernel
theorem dJ13_bitCount_95d88_60 : decode cJ13_bitCount_95d88 60 = .ok (.ireturn, 1) := by decide +kernel
theorem dJ9_max_7cf53_0 : decode cJ9_max_7cf53 0 = .ok (.iload_n 0, 1) := by decide +kernel
theorem dJ9_max_7cf53_1 : decode cJ9_max_7cf53 1 = .ok (.iload_n 1, 1) := by decide +kernel
theorem dJ9_max_7cf53_2 : decode cJ9_max_7cf53 2 = .ok (.if_icmp .lt 7, 3) := by decide +kernel
theorem dJ9_max_7cf53_5 : decode cJ9_max_7cf53 5 = .ok (.iload_n 0, 1) := by decide +kernel
theorem dJ9_max_7cf53_6 : decode cJ9_max_7cf53 6 = .ok (.goto 4, 3) := by decide +kernel
theorem dJ9_max_7cf53_9 : decode cJ9_max_7cf53 9 = .ok (.iload_n 1, 1) := by decide +kernel
theorem dJ9_max_7cf53_10 : decode cJ9_max_7cf53 10 = .ok (.ireturn, 1) := by decide +kernel
theorem dJ9_min_7cf53_0 : decode cJ9_min_7cf53 0 = .ok (.iload_n 0, 1) := by decide +kernel
theorem dJ9_min_7cf53_1 : decode cJ9_min_7cf53 1 = .ok (.iload_n 1, 1) := by decide +kernel
theorem dJ9_min_7cf53_2 : decode cJ9_min_7cf53 2 = .ok (.if_icmp .gt 7, 3) := by decide +kernel
theorem dJ9_min_7cf53_5 : decode cJ9_min_7cf53 5 = .ok (.iload_n 0, 1) := by decide +kernel
theorem dJ9_min_7cf53_6 : decode cJ9_min_7cf53 6 = .ok (.goto 4, 3) := by decide +kernel
theorem dJ9_min_7cf53_9 : decode cJ9_min_7cf53 9 = .ok (.iload_n 1, 1) := by decide +kernel
theorem dJ9_min_7cf53_10 : decode cJ9_min_7cf53 10 = .ok (.ireturn, 1) := by decide +kernel
theorem dJ0_length_8abf5_0 : decode cJ0_length_8abf5 0 = .ok (.aload_n 0, 1) := by decide +kernel
theorem dJ0_length_8abf5_1 : decode cJ0_length_8abf5 1 = .ok (.getfield 9, 3) := by decide +kernel
theorem dJ0_length_8abf5_4 : decode cJ0_length_8abf5 4 = .ok (.arraylength, 1) := by decide +kernel
theorem dJ0_length_8abf5_5 : decode cJ0_length_8abf5 5 = .ok (.aload_n 0, 1) := by decide +kernel
theorem dJ0_length_8abf5_6 : decode cJ0_length_8abf5 6 = .ok (.invokevirtual 335, 3) := by decide +kernel
theorem dJ0_length_8abf5_9 : decode cJ0_length_8abf5 9 = .ok (.ishr, 1) := by decide +kernel
theorem dJ0_length_8abf5_10 : decode cJ0_length_8abf5 10 = .ok (.ireturn, 1) := by decide +kernel
theorem dJ0_charAt_5068e_0 : decode cJ0_charAt_5068e 0 = .ok (.aload_n 0, 1) := by decide +kernel
theorem dJ0_charAt_5068e_1 : decode cJ0_charAt_5068e 1 = .ok (.invokevirtual 492, 3) := by decide +kernel
theorem dJ0_charAt_5068e_4 : decode cJ0_charAt_5068e 4 = .ok (.ifCond .eq 12, 3) := by decide +kernel
theorem dJ0_charAt_5068e_7 : decode cJ0_charAt_5068e 7 = .ok (.aload_n 0, 1) := by decide +kernel
theorem dJ0_charAt_5068e_8 : decode cJ0_charAt_5068e 8 = .ok (.getfield 9, 3) := by decide +kernel
theorem dJ0_charAt_5068e_11 : decode cJ0_charAt_5068e 11 = .ok (.iload_n 1, 1) := by decide +kernel
theorem dJ0_charAt_5068e_12 : decode cJ0_charAt_5068e 12 = .ok (.invokestatic 495, 3) := by decide +kernel
theorem dJ0_charAt_5068e_15 : decode cJ0_charAt_5068e 15 = .ok (.ireturn, 1) := by decide +kernel
theorem dJ0_charAt_5068e_16 : decode cJ0_charAt_5068e 16 = .ok (.aload_n 0, 1) := by decide +kernel
theorem dJ0_charAt_5068e_17 : decode cJ0_charAt_5068e 17 = .ok (.getfield 9, 3) := by decide +kernel
theorem dJ0_charAt_5068e_20 : decode cJ0_charAt_5068e 20 = .ok (.iload_n 1, 1) := by decide +kernel
theorem dJ0_charAt_5068e_21 : decode cJ0_charAt_5068e 21 = .ok (.invokestatic 498, 3) := by decide +kernel
theorem dJ0_charAt_5068e_24 : decode cJ0_charAt_5068e 24 = .ok (.ireturn, 1) := by decide +kernel
theorem dJ0_indexOf_0f7a4_0 : decode cJ0_indexOf_0f7a4 0 = .ok (.aload_n 0, 1) := by decide +kernel
theorem dJ0_indexOf_0f7a4_1 : decode cJ0_indexOf_0f7a4 1 = .ok (.iload_n 1, 1) := by decide +kernel
theorem dJ0_indexOf_0f7a4_2 : decode cJ0_indexOf_0f7a4 2 = .ok (.iconst 0, 1) := by decide +kernel
theorem dJ0_indexOf_0f7a4_3 : decode cJ0_indexOf_0f7a4 3 = .ok (.invokevirtual 633, 3) := by decide +kernel
theorem dJ0_indexOf_0f7a4_6 : decode cJ0_indexOf_0f7a4 6 = .ok (.ireturn, 1) := by decide +kernel
theorem dJ0_indexOf_7cf53_0 : decode cJ0_indexOf_7cf53 0 = .ok (.aload_n 0, 1) := by decide +kernel
theorem dJ0_indexOf_7cf53_1 : decode cJ0_indexOf_7cf53 1 = .ok (.invokevirtual 492, 3) := by decide +kernel
theorem dJ0_indexOf_7cf53_4 : decode cJ0_indexOf_7cf53 4 = .ok (.ifCond .eq 19, 3) := by decide +kernel
theorem dJ0_indexOf_7cf53_7 : decode cJ0_indexOf_7cf53 7 = .ok (.aload_n 0, 1) := by decide +kernel
theorem dJ0_indexOf_7cf53_8 : decode cJ0_indexOf_7cf53 8 = .ok (.getfield 9, 3) := by decide +kernel
theorem dJ0_indexOf_7cf53_11 : decode cJ0_indexOf_7cf53 11 = .ok (.iload_n 1, 1) := by decide +kernel
theorem dJ0_indexOf_7cf53_12 : decode cJ0_indexOf_7cf53 12 = .ok (.iload_n 2, 1) := by decide +kernel
theorem dJ0_indexOf_7cf53_13 : decode cJ0_indexOf_7cf53 13 = .ok (.aload_n 0, 1) := by decide +kernel
theorem dJ0_indexOf_7cf53_14 : decode cJ0_indexOf_7cf53 14 = .ok (.invokevirtual 505, 3) := by decide +kernel
theorem dJ0_indexOf_7cf53_17 : decode cJ0_indexOf_7cf53 17 = .ok (.invokestatic 637, 3) := by decide +kernel
theorem dJ0_indexOf_7cf53_20 : decode cJ0_indexOf_7cf53 20 = .ok (.goto 16, 3) := by decide +kernel
theorem dJ0_indexOf_7cf53_23 : decode cJ0_indexOf_7cf53 23 = .ok (.aload_n 0, 1) := by decide +kernel
theorem dJ0_indexOf_7cf53_24 : decode cJ0_indexOf_7cf53 24 = .ok (.getfield 9, 3) := by decide +kernel
theorem dJ0_indexOf_7cf53_27 : decode cJ0_indexOf_7cf53 27 = .ok (.iload_n 1, 1) := by decide +kernel
theorem dJ0_indexOf_7cf53_28 : decode cJ0_indexOf_7cf53 28 = .ok (.iload_n 2, 1) := by decide +kernel
theorem dJ0_indexOf_7cf53_29 : decode cJ0_indexOf_7cf53 29 = .ok (.aload_n 0, 1) := by decide +kernel
theorem dJ0_indexOf_7cf53_30 : decode cJ0_indexOf_7cf53 30 = .ok (.invokevirtual 505, 3) := by decide +kernel
theorem dJ0_indexOf_7cf53_33 : decode cJ0_indexOf_7cf53 33 = .ok (.invokestatic 640, 3) := by decide +kernel
theorem dJ0_indexOf_7cf53_36 : decode cJ0_indexOf_7cf53 36 = .ok (.ireturn, 1) := by decide +kernel
theorem dJ0_coder_7d493_0 : decode cJ0_coder_7d493 0 = .ok (.getstatic 38, 3) := by decide +kernel
theorem dJ0_coder_7d493_3 : decode cJ0_coder_7d493 3 = .ok (.ifCond .eq 10, 3) := by decide +kernel
theorem dJ0_coder_7d493_6 : decode cJ0_coder_7d493 6 = .ok (.aload_n 0, 1) := by decide +kernel
theorem dJ0_coder_7d493_7 : decode cJ0_coder_7d493 7 = .ok (.getfield 15, 3) := by decide +kernel
theorem dJ0_coder_7d493_10 : decode cJ0_coder_7d493 10 = .ok (.goto 4, 3) := by decide +kernel
theorem dJ0_coder_7d493_13 : decode cJ0_coder_7d493 13 = .ok (.iconst 1, 1) := by decide +kernel
theorem dJ0_coder_7d493_14 : decode cJ0_coder_7d493 14 = .ok (.ireturn, 1) := by decide +kernel
theorem dJ0_isLatin1_aae02_0 : decode cJ0_isLatin1_aae02 0 = .ok (.getstatic 38, 3) := by decide +kernel
theorem dJ0_isLatin1_aae02_3 : decode cJ0_isLatin1_aae02 3 = .ok (.ifCond .eq 14, 3) := by decide +kernel
theorem dJ0_isLatin1_aae02_6 : decode cJ0_isLatin1_aae02 6 = .ok (.aload_n 0, 1) := by decide +kernel
theorem dJ0_isLatin1_aae02_7 : decode cJ0_isLatin1_aae02 7 = .ok (.getfield 15, 3) := by decide +kernel
theorem dJ0_isLatin1_aae02_10 : decode cJ0_isLatin1_aae02 10 = .ok (.ifCond .ne 7, 3) := by decide +kernel
theorem dJ0_isLatin1_aae02_13 : decode cJ0_isLatin1_aae02 13 = .ok (.iconst 1, 1) := by decide +kernel
theorem dJ0_isLatin1_aae02_14 : decode cJ0_isLatin1_aae02 14 = .ok (.goto 4, 3) := by decide +kernel
theorem dJ0_isLatin1_aae02_17 : decode cJ0_isLatin1_aae02 17 = .ok (.iconst 0, 1) := by decide +kernel
theorem dJ0_isLatin1_aae02_18 : decode cJ0_isLatin1_aae02 18 = .ok (.ireturn, 1) := by decide +kernel
theorem dJ0_checkIndex_df160_0 : decode cJ0_checkIndex_df160 0 = .ok (.iload_n 0, 1) := by decide +kernel
theorem dJ0_checkIndex_df160_1 : decode cJ0_checkIndex_df160 1 = .ok (.iload_n 1, 1) := by decide +kernel
theorem dJ0_checkIndex_df160_2 : decode cJ0_checkIndex_df160 2 = .ok (.getstatic 1053, 3) := by decide +kernel
theorem dJ0_checkIndex_df160_5 : decode cJ0_checkIndex_df160 5 = .ok (.invokestatic 1059, 3) := by decide +kernel
theorem dJ0_checkIndex_df160_8 : decode cJ0_checkIndex_df160 8 = .ok (.pop, 1) := by decide +kernel
theorem dJ0_checkIndex_df160_9 : decode cJ0_checkIndex_df160 9 = .ok (.return_, 1) := by decide +kernel
theorem dJ0_checkBoundsBeginEnd_23922_0 : decode cJ0_checkBoundsBeginEnd_23922 0 = .ok (.iload_n 0, 1) := by decide +kernel
theorem dJ0_checkBoundsBeginEnd_23922_1 : decode cJ0_checkBoundsBeginEnd_23922 1 = .ok (.iload_n 1, 1) := by decide +kernel
theorem dJ0_checkBoundsBeginEnd_23922_2 : decode cJ0_checkBoundsBeginEnd_23922 2 = .ok (.iload_n 2, 1) := by decide +kernel
theorem dJ0_checkBoundsBeginEnd_23922_3 : decode cJ0_checkBoundsBeginEnd_23922 3 = .ok (.getstatic 1053, 3) := by decide +kernel
theorem dJ0_checkBoundsBeginEnd_23922_6 : decode cJ0_checkBoundsBeginEnd_23922 6 = .ok (.invokestatic 1062, 3) := by decide +kernel
theorem dJ0_checkBoundsBeginEnd_23922_9 : decode cJ0_checkBoundsBeginEnd_23922 9 = .ok (.pop, 1) := by decide +kernel
theorem dJ0_checkBoundsBeginEnd_23922_10 : decode cJ0_checkBoundsBeginEnd_23922 10 = .ok (.return_, 1) := by decide +kernel
theorem dJ1_charAt_3b067_0 : decode cJ1_charAt_3b067 0 = .ok (.iload_n 1, 1) := by decide +kernel
theorem dJ1_charAt_3b067_1 : decode cJ1_charAt_3b067 1 = .ok (.aload_n 0, 1) := by decide +kernel
theorem dJ1_charAt_3b067_2 : decode cJ1_charAt_3b067 2 = .ok (.arraylength, 1) := by decide +kernel
theorem dJ1_charAt_3b067_3 : decode cJ1_charAt_3b067 3 = .ok (.invokestatic 9, 3) := by decide +kernel
theorem dJ1_charAt_3b067_6 : decode cJ1_charAt_3b067 6 = .ok (.aload_n 0, 1) := by decide +kernel
theorem dJ1_charAt_3b067_7 : decode cJ1_charAt_3b067 7 = .ok (.iload_n 1, 1) := by decide +kernel
theorem dJ1_charAt_3b067_8 : decode cJ1_charAt_3b067 8 = .ok (.baload, 1) := by decide +kernel
theorem dJ1_charAt_3b067_9 : decode cJ1_charAt_3b067 9 = .ok (.sipush 255, 3) := by decide +kernel
theorem dJ1_charAt_3b067_12 : decode cJ1_charAt_3b067 12 = .ok (.iand, 1) := by decide +kernel
theorem dJ1_charAt_3b067_13 : decode cJ1_charAt_3b067 13 = .ok (.i2c, 1) := by decide +kernel
theorem dJ1_charAt_3b067_14 : decode cJ1_charAt_3b067 14 = .ok (.ireturn, 1) := by decide +kernel
theorem dJ1_canEncode_9a6ad_0 : decode cJ1_canEncode_9a6ad 0 = .ok (.iload_n 0, 1) := by decide +kernel
theorem dJ1_canEncode_9a6ad_1 : decode cJ1_canEncode_9a6ad 1 = .ok (.ifCond .lt 14, 3) := by decide +kernel
theorem dJ1_canEncode_9a6ad_4 : decode cJ1_canEncode_9a6ad 4 = .ok (.iload_n 0, 1) := by decide +kernel
theorem dJ1_canEncode_9a6ad_5 : decode cJ1_canEncode_9a6ad 5 = .ok (.sipush 255, 3) := by decide +kernel
theorem dJ1_canEncode_9a6ad_8 : decode cJ1_canEncode_9a6ad 8 = .ok (.if_icmp .gt 7, 3) := by decide +kernel
theorem dJ1_canEncode_9a6ad_11 : decode cJ1_canEncode_9a6ad 11 = .ok (.iconst 1, 1) := by decide +kernel
theorem dJ1_canEncode_9a6ad_12 : decode cJ1_canEncode_9a6ad 12 = .ok (.goto 4, 3) := by decide +kernel
theorem dJ1_canEncode_9a6ad_15 : decode cJ1_canEncode_9a6ad 15 = .ok (.iconst 0, 1) := by decide +kernel
theorem dJ1_canEncode_9a6ad_16 : decode cJ1_canEncode_9a6ad 16 = .ok (.ireturn, 1) := by decide +kernel
theorem dJ1_indexOf_4cfef_0 : decode cJ1_indexOf_4cfef 0 = .ok (.iload_n 1, 1) := by decide +kernel
theorem dJ1_indexOf_4cfef_1 : decode cJ1_indexOf_4cfef 1 = .ok (.invokestatic 88, 3) := by decide +kernel
theorem dJ1_indexOf_4cfef_4 : decode cJ1_indexOf_4cfef 4 = .ok (.ifCond .ne 5, 3) := by decide +kernel
theorem dJ1_indexOf_4cfef_7 : decode cJ1_indexOf_4cfef 7 = .ok (.iconst (-1), 1) := by decide +kernel
theorem dJ1_indexOf_4cfef_8 : decode cJ1_indexOf_4cfef 8 = .ok (.ireturn, 1) := by decide +kernel
theorem dJ1_indexOf_4cfef_9 : decode cJ1_indexOf_4cfef 9 = .ok (.iload_n 2, 1) := by decide +kernel
theorem dJ1_indexOf_4cfef_10 : decode cJ1_indexOf_4cfef 10 = .ok (.iconst 0, 1) := by decide +kernel
theorem dJ1_indexOf_4cfef_11 : decode cJ1_indexOf_4cfef 11 = .ok (.invokestatic 92, 3) := by decide +kernel
theorem dJ1_indexOf_4cfef_14 : decode cJ1_indexOf_4cfef 14 = .ok (.istore_n 2, 1) := by decide +kernel
theorem dJ1_indexOf_4cfef_15 : decode cJ1_indexOf_4cfef 15 = .ok (.iload_n 3, 1) := by decide +kernel
theorem dJ1_indexOf_4cfef_16 : decode cJ1_indexOf_4cfef 16 = .ok (.aload_n 0, 1) := by decide +kernel
theorem dJ1_indexOf_4cfef_17 : decode cJ1_indexOf_4cfef 17 = .ok (.arraylength, 1) := by decide +kernel
theorem dJ1_indexOf_4cfef_18 : decode cJ1_indexOf_4cfef 18 = .ok (.invokestatic 38, 3) := by decide +kernel
theorem dJ1_indexOf_4cfef_21 : decode cJ1_indexOf_4cfef 21 = .ok (.istore_n 3, 1) := by decide +kernel
theorem dJ1_indexOf_4cfef_22 : decode cJ1_indexOf_4cfef 22 = .ok (.iload_n 2, 1) := by decide +kernel
theorem dJ1_indexOf_4cfef_23 : decode cJ1_indexOf_4cfef 23 = .ok (.iload_n 3, 1) := by decide +kernel
theorem dJ1_indexOf_4cfef_24 : decode cJ1_indexOf_4cfef 24 = .ok (.if_icmp .lt 5, 3) := by decide +kernel
theorem dJ1_indexOf_4cfef_27 : decode cJ1_indexOf_4cfef 27 = .ok (.iconst (-1), 1) := by decide +kernel
theorem dJ1_indexOf_4cfef_28 : decode cJ1_indexOf_4cfef 28 = .ok (.ireturn, 1) := by decide +kernel
theorem dJ1_indexOf_4cfef_29 : decode cJ1_indexOf_4cfef 29 = .ok (.aload_n 0, 1) := by decide +kernel
theorem dJ1_indexOf_4cfef_30 : decode cJ1_indexOf_4cfef 30 = .ok (.iload_n 1, 1) := by decide +kernel
theorem dJ1_indexOf_4cfef_31 : decode cJ1_indexOf_4cfef 31 = .ok (.iload_n 2, 1) := by decide +kernel
theorem dJ1_indexOf_4cfef_32 : decode cJ1_indexOf_4cfef 32 = .ok (.iload_n 3, 1) := by decide +kernel
theorem dJ1_indexOf_4cfef_33 : decode cJ1_indexOf_4cfef 33 = .ok (.invokestatic 95, 3) := by decide +kernel
theorem dJ1_indexOf_4cfef_36 : decode cJ1_indexOf_4cfef 36 = .ok (.ireturn, 1) := by decide +kernel
theorem dJ1_indexOfChar_4cfef_0 : decode cJ1_indexOfChar_4cfef 0 = .ok (.iload_n 1, 1) := by decide +kernel
theorem dJ1_indexOfChar_4cfef_1 : decode cJ1_indexOfChar_4cfef 1 = .ok (.i2b, 1) := by decide +kernel
theorem dJ1_indexOfChar_4cfef_2 : decode cJ1_indexOfChar_4cfef 2 = .ok (.istore 4, 2) := by decide +kernel
theorem dJ1_indexOfChar_4cfef_4 : decode cJ1_indexOfChar_4cfef 4 = .ok (.iload_n 2, 1) := by decide +kernel
theorem dJ1_indexOfChar_4cfef_5 : decode cJ1_indexOfChar_4cfef 5 = .ok (.istore 5, 2) := by decide +kernel
theorem dJ1_indexOfChar_4cfef_7 : decode cJ1_indexOfChar_4cfef 7 = .ok (.iload 5, 2) := by decide +kernel
theorem dJ1_indexOfChar_4cfef_9 : decode cJ1_indexOfChar_4cfef 9 = .ok (.iload_n 3, 1) := by decide +kernel
theorem dJ1_indexOfChar_4cfef_10 : decode cJ1_indexOfChar_4cfef 10 = .ok (.if_icmp .ge 21, 3) := by decide +kernel
theorem dJ1_indexOfChar_4cfef_13 : decode cJ1_indexOfChar_4cfef 13 = .ok (.aload_n 0, 1) := by decide +kernel
theorem dJ1_indexOfChar_4cfef_14 : decode cJ1_indexOfChar_4cfef 14 = .ok (.iload 5, 2) := by decide +kernel
theorem dJ1_indexOfChar_4cfef_16 : decode cJ1_indexOfChar_4cfef 16 = .ok (.baload, 1) := by decide +kernel
theorem dJ1_indexOfChar_4cfef_17 : decode cJ1_indexOfChar_4cfef 17 = .ok (.iload 4, 2) := by decide +kernel
theorem dJ1_indexOfChar_4cfef_19 : decode cJ1_indexOfChar_4cfef 19 = .ok (.if_icmp .ne 6, 3) := by decide +kernel
theorem dJ1_indexOfChar_4cfef_22 : decode cJ1_indexOfChar_4cfef 22 = .ok (.iload 5, 2) := by decide +kernel
theorem dJ1_indexOfChar_4cfef_24 : decode cJ1_indexOfChar_4cfef 24 = .ok (.ireturn, 1) := by decide +kernel
theorem dJ1_indexOfChar_4cfef_25 : decode cJ1_indexOfChar_4cfef 25 = .ok (.iinc 5 1, 3) := by decide +kernel
theorem dJ1_indexOfChar_4cfef_28 : decode cJ1_indexOfChar_4cfef 28 = .ok (.goto (-21), 3) := by decide +kernel
theorem dJ1_indexOfChar_4cfef_31 : decode cJ1_indexOfChar_4cfef 31 = .ok (.iconst (-1), 1) := by decide +kernel
theorem dJ1_indexOfChar_4cfef_32 : decode cJ1_indexOfChar_4cfef 32 = .ok (.ireturn, 1) := by decide +kernel
theorem dJ2_getChar_3b067_0 : decode cJ2_getChar_3b067 0 = .ok (.getstatic 44, 3) := by decide +kernel
theorem dJ2_getChar_3b067_3 : decode cJ2_getChar_3b067 3 = .ok (.ifCond .ne 25, 3) := by decide +kernel
theorem dJ2_getChar_3b067_6 : decode cJ2_getChar_3b067 6 = .ok (.iload_n 1, 1) := by decide +kernel
theorem dJ2_getChar_3b067_7 : decode cJ2_getChar_3b067 7 = .ok (.ifCond .lt 11, 3) := by decide +kernel
theorem dJ2_getChar_3b067_10 : decode cJ2_getChar_3b067 10 = .ok (.iload_n 1, 1) := by decide +kernel
theorem dJ2_getChar_3b067_11 : decode cJ2_getChar_3b067 11 = .ok (.aload_n 0, 1) := by decide +kernel
theorem dJ2_getChar_3b067_12 : decode cJ2_getChar_3b067 12 = .ok (.invokestatic 48, 3) := by decide +kernel
theorem dJ2_getChar_3b067_15 : decode cJ2_getChar_3b067 15 = .ok (.if_icmp .lt 13, 3) := by decide +kernel
theorem dJ2_getChar_3b067_18 : decode cJ2_getChar_3b067 18 = .ok (.new 52, 3) := by decide +kernel
theorem dJ2_getChar_3b067_21 : decode cJ2_getChar_3b067 21 = .ok (.dup, 1) := by decide +kernel
theorem dJ2_getChar_3b067_22 : decode cJ2_getChar_3b067 22 = .ok (.ldc 54, 2) := by decide +kernel
theorem dJ2_getChar_3b067_24 : decode cJ2_getChar_3b067 24 = .ok (.invokespecial 56, 3) := by decide +kernel
theorem dJ2_getChar_3b067_27 : decode cJ2_getChar_3b067 27 = .ok (.athrow, 1) := by decide +kernel
theorem dJ2_getChar_3b067_28 : decode cJ2_getChar_3b067 28 = .ok (.iload_n 1, 1) := by decide +kernel
theorem dJ2_getChar_3b067_29 : decode cJ2_getChar_3b067 29 = .ok (.iconst 1, 1) := by decide +kernel
theorem dJ2_getChar_3b067_30 : decode cJ2_getChar_3b067 30 = .ok (.ishl, 1) := by decide +kernel
theorem dJ2_getChar_3b067_31 : decode cJ2_getChar_3b067 31 = .ok (.istore_n 1, 1) := by decide +kernel
theorem dJ2_getChar_3b067_32 : decode cJ2_getChar_3b067 32 = .ok (.aload_n 0, 1) := by decide +kernel
theorem dJ2_getChar_3b067_33 : decode cJ2_getChar_3b067 33 = .ok (.iload_n 1, 1) := by decide +kernel
theorem dJ2_getChar_3b067_34 : decode cJ2_getChar_3b067 34 = .ok (.iinc 1 1, 3) := by decide +kernel
theorem dJ2_getChar_3b067_37 : decode cJ2_getChar_3b067 37 = .ok (.baload, 1) := by decide +kernel
theorem dJ2_getChar_3b067_38 : decode cJ2_getChar_3b067 38 = .ok (.sipush 255, 3) := by decide +kernel
theorem dJ2_getChar_3b067_41 : decode cJ2_getChar_3b067 41 = .ok (.iand, 1) := by decide +kernel
theorem dJ2_getChar_3b067_42 : decode cJ2_getChar_3b067 42 = .ok (.getstatic 59, 3) := by decide +kernel
theorem dJ2_getChar_3b067_45 : decode cJ2_getChar_3b067 45 = .ok (.ishl, 1) := by decide +kernel
theorem dJ2_getChar_3b067_46 : decode cJ2_getChar_3b067 46 = .ok (.aload_n 0, 1) := by decide +kernel
theorem dJ2_getChar_3b067_47 : decode cJ2_getChar_3b067 47 = .ok (.iload_n 1, 1) := by decide +kernel
theorem dJ2_getChar_3b067_48 : decode cJ2_getChar_3b067 48 = .ok (.baload, 1) := by decide +kernel
theorem dJ2_getChar_3b067_49 : decode cJ2_getChar_3b067 49 = .ok (.sipush 255, 3) := by decide +kernel
theorem dJ2_getChar_3b067_52 : decode cJ2_getChar_3b067 52 = .ok (.iand, 1) := by decide +kernel
theorem dJ2_getChar_3b067_53 : decode cJ2_getChar_3b067 53 = .ok (.getstatic 63, 3) := by decide +kernel
theorem dJ2_getChar_3b067_56 : decode cJ2_getChar_3b067 56 = .ok (.ishl, 1) := by decide +kernel
theorem dJ2_getChar_3b067_57 : decode cJ2_getChar_3b067 57 = .ok (.ior, 1) := by decide +kernel
theorem dJ2_getChar_3b067_58 : decode cJ2_getChar_3b067 58 = .ok (.i2c, 1) := by decide +kernel
theorem dJ2_getChar_3b067_59 : decode cJ2_getChar_3b067 59 = .ok (.ireturn, 1) := by decide +kernel
theorem dJ2_length_9d52b_0 : decode cJ2_length_9d52b 0 = .ok (.aload_n 0, 1) := by decide +kernel
theorem dJ2_length_9d52b_1 : decode cJ2_length_9d52b 1 = .ok (.arraylength, 1) := by decide +kernel
theorem dJ2_length_9d52b_2 : decode cJ2_length_9d52b 2 = .ok (.iconst 1, 1) := by decide +kernel
theorem dJ2_length_9d52b_3 : decode cJ2_length_9d52b 3 = .ok (.ishr, 1) := by decide +kernel
theorem dJ2_length_9d52b_4 : decode cJ2_length_9d52b 4 = .ok (.ireturn, 1) := by decide +kernel
theorem dJ2_indexOf_4cfef_0 : decode cJ2_indexOf_4cfef 0 = .ok (.iload_n 2, 1) := by decide +kernel
theorem dJ2_indexOf_4cfef_1 : decode cJ2_indexOf_4cfef 1 = .ok (.iconst 0, 1) := by decide +kernel
theorem dJ2_indexOf_4cfef_2 : decode cJ2_indexOf_4cfef 2 = .ok (.invokestatic 224, 3) := by decide +kernel
theorem dJ2_indexOf_4cfef_5 : decode cJ2_indexOf_4cfef 5 = .ok (.istore_n 2, 1) := by decide +kernel
theorem dJ2_indexOf_4cfef_6 : decode cJ2_indexOf_4cfef 6 = .ok (.iload_n 3, 1) := by decide +kernel
theorem dJ2_indexOf_4cfef_7 : decode cJ2_indexOf_4cfef 7 = .ok (.aload_n 0, 1) := by decide +kernel
theorem dJ2_indexOf_4cfef_8 : decode cJ2_indexOf_4cfef 8 = .ok (.arraylength, 1) := by decide +kernel
theorem dJ2_indexOf_4cfef_9 : decode cJ2_indexOf_4cfef 9 = .ok (.iconst 1, 1) := by decide +kernel
theorem dJ2_indexOf_4cfef_10 : decode cJ2_indexOf_4cfef 10 = .ok (.ishr, 1) := by decide +kernel
theorem dJ2_indexOf_4cfef_11 : decode cJ2_indexOf_4cfef 11 = .ok (.invokestatic 183, 3) := by decide +kernel
theorem dJ2_indexOf_4cfef_14 : decode cJ2_indexOf_4cfef 14 = .ok (.istore_n 3, 1) := by decide +kernel
theorem dJ2_indexOf_4cfef_15 : decode cJ2_indexOf_4cfef 15 = .ok (.iload_n 2, 1) := by decide +kernel
theorem dJ2_indexOf_4cfef_16 : decode cJ2_indexOf_4cfef 16 = .ok (.iload_n 3, 1) := by decide +kernel
theorem dJ2_indexOf_4cfef_17 : decode cJ2_indexOf_4cfef 17 = .ok (.if_icmp .lt 5, 3) := by decide +kernel
theorem dJ2_indexOf_4cfef_20 : decode cJ2_indexOf_4cfef 20 = .ok (.iconst (-1), 1) := by decide +kernel
theorem dJ2_indexOf_4cfef_21 : decode cJ2_indexOf_4cfef 21 = .ok (.ireturn, 1) := by decide +kernel
theorem dJ2_indexOf_4cfef_22 : decode cJ2_indexOf_4cfef 22 = .ok (.iload_n 1, 1) := by decide +kernel
theorem dJ2_indexOf_4cfef_23 : decode cJ2_indexOf_4cfef 23 = .ok (.ldc 227, 2) := by decide +kernel
theorem dJ2_indexOf_4cfef_25 : decode cJ2_indexOf_4cfef 25 = .ok (.if_icmp .ge 11, 3) := by decide +kernel
theorem dJ2_indexOf_4cfef_28 : decode cJ2_indexOf_4cfef 28 = .ok (.aload_n 0, 1) := by decide +kernel
theorem dJ2_indexOf_4cfef_29 : decode cJ2_indexOf_4cfef 29 = .ok (.iload_n 1, 1) := by decide +kernel
theorem dJ2_indexOf_4cfef_30 : decode cJ2_indexOf_4cfef 30 = .ok (.iload_n 2, 1) := by decide +kernel
theorem dJ2_indexOf_4cfef_31 : decode cJ2_indexOf_4cfef 31 = .ok (.iload_n 3, 1) := by decide +kernel
theorem dJ2_indexOf_4cfef_32 : decode cJ2_indexOf_4cfef 32 = .ok (.invokestatic 228, 3) := by decide +kernel
theorem dJ2_indexOf_4cfef_35 : decode cJ2_indexOf_4cfef 35 = .ok (.ireturn, 1) := by decide +kernel
theorem dJ2_indexOf_4cfef_36 : decode cJ2_indexOf_4cfef 36 = .ok (.aload_n 0, 1) := by decide +kernel
theorem dJ2_indexOf_4cfef_37 : decode cJ2_indexOf_4cfef 37 = .ok (.iload_n 1, 1) := by decide +kernel
theorem dJ2_indexOf_4cfef_38 : decode cJ2_indexOf_4cfef 38 = .ok (.iload_n 2, 1) := by decide +kernel
theorem dJ2_indexOf_4cfef_39 : decode cJ2_indexOf_4cfef 39 = .ok (.iload_n 3, 1) := by decide +kernel
theorem dJ2_indexOf_4cfef_40 : decode cJ2_indexOf_4cfef 40 = .ok (.invokestatic 232, 3) := by decide +kernel
theorem dJ2_indexOf_4cfef_43 : decode cJ2_indexOf_4cfef 43 = .ok (.ireturn, 1) := by decide +kernel
theorem dJ2_indexOfChar_4cfef_0 : decode cJ2_indexOfChar_4cfef 0 = .ok (.iload_n 2, 1) := by decide +kernel
theorem dJ2_indexOfChar_4cfef_1 : decode cJ2_indexOfChar_4cfef 1 = .ok (.iload_n 3, 1) := by decide +kernel
theorem dJ2_indexOfChar_4cfef_2 : decode cJ2_indexOfChar_4cfef 2 = .ok (.aload_n 0, 1) := by decide +kernel
theorem dJ2_indexOfChar_4cfef_3 : decode cJ2_indexOfChar_4cfef 3 = .ok (.invokestatic 96, 3) := by decide +kernel
theorem dJ2_indexOfChar_4cfef_6 : decode cJ2_indexOfChar_4cfef 6 = .ok (.aload_n 0, 1) := by decide +kernel
theorem dJ2_indexOfChar_4cfef_7 : decode cJ2_indexOfChar_4cfef 7 = .ok (.iload_n 1, 1) := by decide +kernel
theorem dJ2_indexOfChar_4cfef_8 : decode cJ2_indexOfChar_4cfef 8 = .ok (.iload_n 2, 1) := by decide +kernel
theorem dJ2_indexOfChar_4cfef_9 : decode cJ2_indexOfChar_4cfef 9 = .ok (.iload_n 3, 1) := by decide +kernel
theorem dJ2_indexOfChar_4cfef_10 : decode cJ2_indexOfChar_4cfef 10 = .ok (.invokestatic 244, 3) := by decide +kernel
theorem dJ2_indexOfChar_4cfef_13 : decode cJ2_indexOfChar_4cfef 13 = .ok (.ireturn, 1) := by decide +kernel
theorem dJ2_indexOfCharUnsafe_4cfef_0 : decode cJ2_indexOfCharUnsafe_4cfef 0 = .ok (.iload_n 2, 1) := by decide +kernel
theorem dJ2_indexOfCharUnsafe_4cfef_1 : decode cJ2_indexOfCharUnsafe_4cfef 1 = .ok (.istore 4, 2) := by decide +kernel
theorem dJ2_indexOfCharUnsafe_4cfef_3 : decode cJ2_indexOfCharUnsafe_4cfef 3 = .ok (.iload 4, 2) := by decide +kernel
theorem dJ2_indexOfCharUnsafe_4cfef_5 : decode cJ2_indexOfCharUnsafe_4cfef 5 = .ok (.iload_n 3, 1) := by decide +kernel
theorem dJ2_indexOfCharUnsafe_4cfef_6 : decode cJ2_indexOfCharUnsafe_4cfef 6 = .ok (.if_icmp .ge 22, 3) := by decide +kernel
theorem dJ2_indexOfCharUnsafe_4cfef_9 : decode cJ2_indexOfCharUnsafe_4cfef 9 = .ok (.aload_n 0, 1) := by decide +kernel
theorem dJ2_indexOfCharUnsafe_4cfef_10 : decode cJ2_indexOfCharUnsafe_4cfef 10 = .ok (.iload 4, 2) := by decide +kernel
theorem dJ2_indexOfCharUnsafe_4cfef_12 : decode cJ2_indexOfCharUnsafe_4cfef 12 = .ok (.invokestatic 71, 3) := by decide +kernel
theorem dJ2_indexOfCharUnsafe_4cfef_15 : decode cJ2_indexOfCharUnsafe_4cfef 15 = .ok (.iload_n 1, 1) := by decide +kernel
theorem dJ2_indexOfCharUnsafe_4cfef_16 : decode cJ2_indexOfCharUnsafe_4cfef 16 = .ok (.if_icmp .ne 6, 3) := by decide +kernel
theorem dJ2_indexOfCharUnsafe_4cfef_19 : decode cJ2_indexOfCharUnsafe_4cfef 19 = .ok (.iload 4, 2) := by decide +kernel
theorem dJ2_indexOfCharUnsafe_4cfef_21 : decode cJ2_indexOfCharUnsafe_4cfef 21 = .ok (.ireturn, 1) := by decide +kernel
theorem dJ2_indexOfCharUnsafe_4cfef_22 : decode cJ2_indexOfCharUnsafe_4cfef 22 = .ok (.iinc 4 1, 3) := by decide +kernel
theorem dJ2_indexOfCharUnsafe_4cfef_25 : decode cJ2_indexOfCharUnsafe_4cfef 25 = .ok (.goto (-22), 3) := by decide +kernel
theorem dJ2_indexOfCharUnsafe_4cfef_28 : decode cJ2_indexOfCharUnsafe_4cfef 28 = .ok (.iconst (-1), 1) := by decide +kernel
theorem dJ2_indexOfCharUnsafe_4cfef_29 : decode cJ2_indexOfCharUnsafe_4cfef 29 = .ok (.ireturn, 1) := by decide +kernel
theorem dJ2_indexOfSupplementary_4cfef_0 : decode cJ2_indexOfSupplementary_4cfef 0 = .ok (.iload_n 1, 1) := by decide +kernel
theorem dJ2_indexOfSupplementary_4cfef_1 : decode cJ2_indexOfSupplementary_4cfef 1 = .ok (.invokestatic 164, 3) := by decide +kernel
theorem dJ2_indexOfSupplementary_4cfef_4 : decode cJ2_indexOfSupplementary_4cfef 4 = .ok (.ifCond .eq 65, 3) := by decide +kernel
theorem dJ2_indexOfSupplementary_4cfef_7 : decode cJ2_indexOfSupplementary_4cfef 7 = .ok (.iload_n 1, 1) := by decide +kernel
theorem dJ2_indexOfSupplementary_4cfef_8 : decode cJ2_indexOfSupplementary_4cfef 8 = .ok (.invokestatic 157, 3) := by decide +kernel
theorem dJ2_indexOfSupplementary_4cfef_11 : decode cJ2_indexOfSupplementary_4cfef 11 = .ok (.istore 4, 2) := by decide +kernel
theorem dJ2_indexOfSupplementary_4cfef_13 : decode cJ2_indexOfSupplementary_4cfef 13 = .ok (.iload_n 1, 1) := by decide +kernel
theorem dJ2_indexOfSupplementary_4cfef_14 : decode cJ2_indexOfSupplementary_4cfef 14 = .ok (.invokestatic 161, 3) := by decide +kernel
theorem dJ2_indexOfSupplementary_4cfef_17 : decode cJ2_indexOfSupplementary_4cfef 17 = .ok (.istore 5, 2) := by decide +kernel
theorem dJ2_indexOfSupplementary_4cfef_19 : decode cJ2_indexOfSupplementary_4cfef 19 = .ok (.iload_n 2, 1) := by decide +kernel
theorem dJ2_indexOfSupplementary_4cfef_20 : decode cJ2_indexOfSupplementary_4cfef 20 = .ok (.iload_n 3, 1) := by decide +kernel
theorem dJ2_indexOfSupplementary_4cfef_21 : decode cJ2_indexOfSupplementary_4cfef 21 = .ok (.aload_n 0, 1) := by decide +kernel
theorem dJ2_indexOfSupplementary_4cfef_22 : decode cJ2_indexOfSupplementary_4cfef 22 = .ok (.invokestatic 96, 3) := by decide +kernel
theorem dJ2_indexOfSupplementary_4cfef_25 : decode cJ2_indexOfSupplementary_4cfef 25 = .ok (.iload_n 2, 1) := by decide +kernel
theorem dJ2_indexOfSupplementary_4cfef_26 : decode cJ2_indexOfSupplementary_4cfef 26 = .ok (.istore 6, 2) := by decide +kernel
theorem dJ2_indexOfSupplementary_4cfef_28 : decode cJ2_indexOfSupplementary_4cfef 28 = .ok (.iload 6, 2) := by decide +kernel
theorem dJ2_indexOfSupplementary_4cfef_30 : decode cJ2_indexOfSupplementary_4cfef 30 = .ok (.iload_n 3, 1) := by decide +kernel
theorem dJ2_indexOfSupplementary_4cfef_31 : decode cJ2_indexOfSupplementary_4cfef 31 = .ok (.iconst 1, 1) := by decide +kernel
theorem dJ2_indexOfSupplementary_4cfef_32 : decode cJ2_indexOfSupplementary_4cfef 32 = .ok (.isub, 1) := by decide +kernel
theorem dJ2_indexOfSupplementary_4cfef_33 : decode cJ2_indexOfSupplementary_4cfef 33 = .ok (.if_icmp .ge 36, 3) := by decide +kernel
theorem dJ2_indexOfSupplementary_4cfef_36 : decode cJ2_indexOfSupplementary_4cfef 36 = .ok (.aload_n 0, 1) := by decide +kernel
theorem dJ2_indexOfSupplementary_4cfef_37 : decode cJ2_indexOfSupplementary_4cfef 37 = .ok (.iload 6, 2) := by decide +kernel
theorem dJ2_indexOfSupplementary_4cfef_39 : decode cJ2_indexOfSupplementary_4cfef 39 = .ok (.invokestatic 71, 3) := by decide +kernel
theorem dJ2_indexOfSupplementary_4cfef_42 : decode cJ2_indexOfSupplementary_4cfef 42 = .ok (.iload 4, 2) := by decide +kernel
theorem dJ2_indexOfSupplementary_4cfef_44 : decode cJ2_indexOfSupplementary_4cfef 44 = .ok (.if_icmp .ne 19, 3) := by decide +kernel
theorem dJ2_indexOfSupplementary_4cfef_47 : decode cJ2_indexOfSupplementary_4cfef 47 = .ok (.aload_n 0, 1) := by decide +kernel
theorem dJ2_indexOfSupplementary_4cfef_48 : decode cJ2_indexOfSupplementary_4cfef 48 = .ok (.iload 6, 2) := by decide +kernel
theorem dJ2_indexOfSupplementary_4cfef_50 : decode cJ2_indexOfSupplementary_4cfef 50 = .ok (.iconst 1, 1) := by decide +kernel
theorem dJ2_indexOfSupplementary_4cfef_51 : decode cJ2_indexOfSupplementary_4cfef 51 = .ok (.iadd, 1) := by decide +kernel
theorem dJ2_indexOfSupplementary_4cfef_52 : decode cJ2_indexOfSupplementary_4cfef 52 = .ok (.invokestatic 71, 3) := by decide +kernel
theorem dJ2_indexOfSupplementary_4cfef_55 : decode cJ2_indexOfSupplementary_4cfef 55 = .ok (.iload 5, 2) := by decide +kernel
theorem dJ2_indexOfSupplementary_4cfef_57 : decode cJ2_indexOfSupplementary_4cfef 57 = .ok (.if_icmp .ne 6, 3) := by decide +kernel
theorem dJ2_indexOfSupplementary_4cfef_60 : decode cJ2_indexOfSupplementary_4cfef 60 = .ok (.iload 6, 2) := by decide +kernel
theorem dJ2_indexOfSupplementary_4cfef_62 : decode cJ2_indexOfSupplementary_4cfef 62 = .ok (.ireturn, 1) := by decide +kernel
theorem dJ2_indexOfSupplementary_4cfef_63 : decode cJ2_indexOfSupplementary_4cfef 63 = .ok (.iinc 6 1, 3) := by decide +kernel
theorem dJ2_indexOfSupplementary_4cfef_66 : decode cJ2_indexOfSupplementary_4cfef 66 = .ok (.goto (-38), 3) := by decide +kernel
theorem dJ2_indexOfSupplementary_4cfef_69 : decode cJ2_indexOfSupplementary_4cfef 69 = .ok (.iconst (-1), 1) := by decide +kernel
theorem dJ2_indexOfSupplementary_4cfef_70 : decode cJ2_indexOfSupplementary_4cfef 70 = .ok (.ireturn, 1) := by decide +kernel
theorem dJ2_charAt_3b067_0 : decode cJ2_charAt_3b067 0 = .ok (.iload_n 1, 1) := by decide +kernel
theorem dJ2_charAt_3b067_1 : decode cJ2_charAt_3b067 1 = .ok (.aload_n 0, 1) := by decide +kernel
theorem dJ2_charAt_3b067_2 : decode cJ2_charAt_3b067 2 = .ok (.invokestatic 67, 3) := by decide +kernel
theorem dJ2_charAt_3b067_5 : decode cJ2_charAt_3b067 5 = .ok (.aload_n 0, 1) := by decide +kernel
theorem dJ2_charAt_3b067_6 : decode cJ2_charAt_3b067 6 = .ok (.iload_n 1, 1) := by decide +kernel
theorem dJ2_charAt_3b067_7 : decode cJ2_charAt_3b067 7 = .ok (.invokestatic 71, 3) := by decide +kernel
theorem dJ2_charAt_3b067_10 : decode cJ2_charAt_3b067 10 = .ok (.ireturn, 1) := by decide +kernel
theorem dJ2_checkIndex_2214a_0 : decode cJ2_checkIndex_2214a 0 = .ok (.iload_n 0, 1) := by decide +kernel
theorem dJ2_checkIndex_2214a_1 : decode cJ2_checkIndex_2214a 1 = .ok (.aload_n 1, 1) := by decide +kernel
theorem dJ2_checkIndex_2214a_2 : decode cJ2_checkIndex_2214a 2 = .ok (.invokestatic 48, 3) := by decide +kernel
theorem dJ2_checkIndex_2214a_5 : decode cJ2_checkIndex_2214a 5 = .ok (.invokestatic 414, 3) := by decide +kernel
theorem dJ2_checkIndex_2214a_8 : decode cJ2_checkIndex_2214a 8 = .ok (.return_, 1) := by decide +kernel
theorem dJ2_checkBoundsBeginEnd_d044e_0 : decode cJ2_checkBoundsBeginEnd_d044e 0 = .ok (.iload_n 0, 1) := by decide +kernel
theorem dJ2_checkBoundsBeginEnd_d044e_1 : decode cJ2_checkBoundsBeginEnd_d044e 1 = .ok (.iload_n 1, 1) := by decide +kernel
theorem dJ2_checkBoundsBeginEnd_d044e_2 : decode cJ2_checkBoundsBeginEnd_d044e 2 = .ok (.aload_n 2, 1) := by decide +kernel
theorem dJ2_checkBoundsBeginEnd_d044e_3 : decode cJ2_checkBoundsBeginEnd_d044e 3 = .ok (.invokestatic 48, 3) := by decide +kernel
theorem dJ2_checkBoundsBeginEnd_d044e_6 : decode cJ2_checkBoundsBeginEnd_d044e 6 = .ok (.invokestatic 241, 3) := by decide +kernel
theorem dJ2_checkBoundsBeginEnd_d044e_9 : decode cJ2_checkBoundsBeginEnd_d044e 9 = .ok (.return_, 1) := by decide +kernel
theorem dJ3_checkIndex_8e157_0 : decode cJ3_checkIndex_8e157 0 = .ok (.iload_n 0, 1) := by decide +kernel
theorem dJ3_checkIndex_8e157_1 : decode cJ3_checkIndex_8e157 1 = .ok (.ifCond .lt 8, 3) := by decide +kernel
theorem dJ3_checkIndex_8e157_4 : decode cJ3_checkIndex_8e157 4 = .ok (.iload_n 0, 1) := by decide +kernel
theorem dJ3_checkIndex_8e157_5 : decode cJ3_checkIndex_8e157 5 = .ok (.iload_n 1, 1) := by decide +kernel
theorem dJ3_checkIndex_8e157_6 : decode cJ3_checkIndex_8e157 6 = .ok (.if_icmp .lt 10, 3) := by decide +kernel
theorem dJ3_checkIndex_8e157_9 : decode cJ3_checkIndex_8e157 9 = .ok (.aload_n 2, 1) := by decide +kernel
theorem dJ3_checkIndex_8e157_10 : decode cJ3_checkIndex_8e157 10 = .ok (.iload_n 0, 1) := by decide +kernel
theorem dJ3_checkIndex_8e157_11 : decode cJ3_checkIndex_8e157 11 = .ok (.iload_n 1, 1) := by decide +kernel
theorem dJ3_checkIndex_8e157_12 : decode cJ3_checkIndex_8e157 12 = .ok (.invokestatic 95, 3) := by decide +kernel
theorem dJ3_checkIndex_8e157_15 : decode cJ3_checkIndex_8e157 15 = .ok (.athrow, 1) := by decide +kernel
theorem dJ3_checkIndex_8e157_16 : decode cJ3_checkIndex_8e157 16 = .ok (.iload_n 0, 1) := by decide +kernel
theorem dJ3_checkIndex_8e157_17 : decode cJ3_checkIndex_8e157 17 = .ok (.ireturn, 1) := by decide +kernel
theorem dJ3_checkFromToIndex_8c36e_0 : decode cJ3_checkFromToIndex_8c36e 0 = .ok (.iload_n 0, 1) := by decide +kernel
theorem dJ3_checkFromToIndex_8c36e_1 : decode cJ3_checkFromToIndex_8c36e 1 = .ok (.ifCond .lt 13, 3) := by decide +kernel
theorem dJ3_checkFromToIndex_8c36e_4 : decode cJ3_checkFromToIndex_8c36e 4 = .ok (.iload_n 0, 1) := by decide +kernel
theorem dJ3_checkFromToIndex_8c36e_5 : decode cJ3_checkFromToIndex_8c36e 5 = .ok (.iload_n 1, 1) := by decide +kernel
theorem dJ3_checkFromToIndex_8c36e_6 : decode cJ3_checkFromToIndex_8c36e 6 = .ok (.if_icmp .gt 8, 3) := by decide +kernel
theorem dJ3_checkFromToIndex_8c36e_9 : decode cJ3_checkFromToIndex_8c36e 9 = .ok (.iload_n 1, 1) := by decide +kernel
theorem dJ3_checkFromToIndex_8c36e_10 : decode cJ3_checkFromToIndex_8c36e 10 = .ok (.iload_n 2, 1) := by decide +kernel
theorem dJ3_checkFromToIndex_8c36e_11 : decode cJ3_checkFromToIndex_8c36e 11 = .ok (.if_icmp .le 11, 3) := by decide +kernel
theorem dJ3_checkFromToIndex_8c36e_14 : decode cJ3_checkFromToIndex_8c36e 14 = .ok (.aload_n 3, 1) := by decide +kernel
theorem dJ3_checkFromToIndex_8c36e_15 : decode cJ3_checkFromToIndex_8c36e 15 = .ok (.iload_n 0, 1) := by decide +kernel
theorem dJ3_checkFromToIndex_8c36e_16 : decode cJ3_checkFromToIndex_8c36e 16 = .ok (.iload_n 1, 1) := by decide +kernel
theorem dJ3_checkFromToIndex_8c36e_17 : decode cJ3_checkFromToIndex_8c36e 17 = .ok (.iload_n 2, 1) := by decide +kernel
theorem dJ3_checkFromToIndex_8c36e_18 : decode cJ3_checkFromToIndex_8c36e 18 = .ok (.invokestatic 99, 3) := by decide +kernel
theorem dJ3_checkFromToIndex_8c36e_21 : decode cJ3_checkFromToIndex_8c36e 21 = .ok (.athrow, 1) := by decide +kernel
theorem dJ3_checkFromToIndex_8c36e_22 : decode cJ3_checkFromToIndex_8c36e 22 = .ok (.iload_n 0, 1) := by decide +kernel
theorem dJ3_checkFromToIndex_8c36e_23 : decode cJ3_checkFromToIndex_8c36e 23 = .ok (.ireturn, 1) := by decide +kernel
theorem dL_cell_0 : decode cL_cell 0 = .ok (.iload_n 1, 1) := by decide +kernel
theorem dL_cell_1 : decode cL_cell 1 = .ok (.aload_n 0, 1) := by decide +kernel
theorem dL_cell_2 : decode cL_cell 2 = .ok (.arraylength, 1) := by decide +kernel
theorem dL_cell_3 : decode cL_cell 3 = .ok (.if_icmp .ge 9, 3) := by decide +kernel
theorem dL_cell_6 : decode cL_cell 6 = .ok (.aload_n 0, 1) := by decide +kernel
theorem dL_cell_7 : decode cL_cell 7 = .ok (.iload_n 1, 1) := by decide +kernel
theorem dL_cell_8 : decode cL_cell 8 = .ok (.iaload, 1) := by decide +kernel
theorem dL_cell_9 : decode cL_cell 9 = .ok (.goto 10, 3) := by decide +kernel
theorem dL_cell_12 : decode cL_cell 12 = .ok (.ldc 7, 2) := by decide +kernel
theorem dL_cell_14 : decode cL_cell 14 = .ok (.iload_n 1, 1) := by decide +kernel
theorem dL_cell_15 : decode cL_cell 15 = .ok (.imul, 1) := by decide +kernel
theorem dL_cell_16 : decode cL_cell 16 = .ok (.bipush 27, 2) := by decide +kernel
theorem dL_cell_18 : decode cL_cell 18 = .ok (.iadd, 1) := by decide +kernel
theorem dL_cell_19 : decode cL_cell 19 = .ok (.ireturn, 1) := by decide +kernel
theorem dL_low_0 : decode cL_low 0 = .ok (.iload_n 0, 1) := by decide +kernel
theorem dL_low_1 : decode cL_low 1 = .ok (.ldc 8, 2) := by decide +kernel
theorem dL_low_3 : decode cL_low 3 = .ok (.iand, 1) := by decide +kernel
theorem dL_low_4 : decode cL_low 4 = .ok (.iload_n 1, 1) := by decide +kernel
theorem dL_low_5 : decode cL_low 5 = .ok (.irem, 1) := by decide +kernel
theorem dL_low_6 : decode cL_low 6 = .ok (.ireturn, 1) := by decide +kernel
theorem dL_call_0 : decode cL_call 0 = .ok (.iload_n 1, 1) := by decide +kernel
theorem dL_call_1 : decode cL_call 1 = .ok (.tableswitch 354 0 21 #[103, 115, 121, 133, 144, 150, 157, 181, 187, 193, 199, 216, 233, 244, 251, 260, 284, 295, 304, 311, 318, 338], 103) := by decide +kernel
theorem dL_call_104 : decode cL_call 104 = .ok (.aload_n 0, 1) := by decide +kernel
theorem dL_call_105 : decode cL_call 105 = .ok (.iload_n 2, 1) := by decide +kernel
theorem dL_call_106 : decode cL_call 106 = .ok (.iload_n 3, 1) := by decide +kernel
theorem dL_call_107 : decode cL_call 107 = .ok (.iload 4, 2) := by decide +kernel
theorem dL_call_109 : decode cL_call 109 = .ok (.i2c, 1) := by decide +kernel
theorem dL_call_110 : decode cL_call 110 = .ok (.iload 5, 2) := by decide +kernel
theorem dL_call_112 : decode cL_call 112 = .ok (.invokevirtual 9, 3) := by decide +kernel
theorem dL_call_115 : decode cL_call 115 = .ok (.ireturn, 1) := by decide +kernel
theorem dL_call_116 : decode cL_call 116 = .ok (.aload_n 0, 1) := by decide +kernel
theorem dL_call_117 : decode cL_call 117 = .ok (.iload_n 2, 1) := by decide +kernel
theorem dL_call_118 : decode cL_call 118 = .ok (.invokevirtual 15, 3) := by decide +kernel
theorem dL_call_121 : decode cL_call 121 = .ok (.ireturn, 1) := by decide +kernel
theorem dL_call_122 : decode cL_call 122 = .ok (.aload_n 0, 1) := by decide +kernel
theorem dL_call_123 : decode cL_call 123 = .ok (.iload_n 2, 1) := by decide +kernel
theorem dL_call_124 : decode cL_call 124 = .ok (.i2c, 1) := by decide +kernel
theorem dL_call_125 : decode cL_call 125 = .ok (.iload_n 3, 1) := by decide +kernel
theorem dL_call_126 : decode cL_call 126 = .ok (.iload 4, 2) := by decide +kernel
theorem dL_call_128 : decode cL_call 128 = .ok (.iload 5, 2) := by decide +kernel
theorem dL_call_130 : decode cL_call 130 = .ok (.invokevirtual 19, 3) := by decide +kernel
theorem dL_call_133 : decode cL_call 133 = .ok (.ireturn, 1) := by decide +kernel
theorem dL_call_134 : decode cL_call 134 = .ok (.aload_n 0, 1) := by decide +kernel
theorem dL_call_135 : decode cL_call 135 = .ok (.iload_n 2, 1) := by decide +kernel
theorem dL_call_136 : decode cL_call 136 = .ok (.iload_n 3, 1) := by decide +kernel
theorem dL_call_137 : decode cL_call 137 = .ok (.iload 4, 2) := by decide +kernel
theorem dL_call_139 : decode cL_call 139 = .ok (.iload 5, 2) := by decide +kernel
theorem dL_call_141 : decode cL_call 141 = .ok (.invokevirtual 23, 3) := by decide +kernel
theorem dL_call_144 : decode cL_call 144 = .ok (.ireturn, 1) := by decide +kernel
theorem dL_call_145 : decode cL_call 145 = .ok (.aload_n 0, 1) := by decide +kernel
theorem dL_call_146 : decode cL_call 146 = .ok (.iload_n 2, 1) := by decide +kernel
theorem dL_call_147 : decode cL_call 147 = .ok (.invokevirtual 27, 3) := by decide +kernel
theorem dL_call_150 : decode cL_call 150 = .ok (.ireturn, 1) := by decide +kernel
theorem dL_call_151 : decode cL_call 151 = .ok (.aload_n 0, 1) := by decide +kernel
theorem dL_call_152 : decode cL_call 152 = .ok (.iload_n 2, 1) := by decide +kernel
theorem dL_call_153 : decode cL_call 153 = .ok (.iload_n 3, 1) := by decide +kernel
theorem dL_call_154 : decode cL_call 154 = .ok (.invokevirtual 30, 3) := by decide +kernel
theorem dL_call_157 : decode cL_call 157 = .ok (.ireturn, 1) := by decide +kernel
theorem dL_call_158 : decode cL_call 158 = .ok (.aload_n 0, 1) := by decide +kernel
theorem dL_call_159 : decode cL_call 159 = .ok (.iload_n 2, 1) := by decide +kernel
theorem dL_call_160 : decode cL_call 160 = .ok (.iload_n 3, 1) := by decide +kernel
theorem dL_call_161 : decode cL_call 161 = .ok (.iconst 1, 1) := by decide +kernel
theorem dL_call_162 : decode cL_call 162 = .ok (.if_icmp .ne 7, 3) := by decide +kernel
theorem dL_call_165 : decode cL_call 165 = .ok (.iconst 1, 1) := by decide +kernel
theorem dL_call_166 : decode cL_call 166 = .ok (.goto 4, 3) := by decide +kernel
theorem dL_call_169 : decode cL_call 169 = .ok (.iconst 0, 1) := by decide +kernel
theorem dL_call_170 : decode cL_call 170 = .ok (.invokevirtual 34, 3) := by decide +kernel
theorem dL_call_173 : decode cL_call 173 = .ok (.ifCond .eq 7, 3) := by decide +kernel
theorem dL_call_176 : decode cL_call 176 = .ok (.iconst 1, 1) := by decide +kernel
theorem dL_call_177 : decode cL_call 177 = .ok (.goto 4, 3) := by decide +kernel
theorem dL_call_180 : decode cL_call 180 = .ok (.iconst 0, 1) := by decide +kernel
theorem dL_call_181 : decode cL_call 181 = .ok (.ireturn, 1) := by decide +kernel
theorem dL_call_182 : decode cL_call 182 = .ok (.aload_n 0, 1) := by decide +kernel
theorem dL_call_183 : decode cL_call 183 = .ok (.iload_n 2, 1) := by decide +kernel
theorem dL_call_184 : decode cL_call 184 = .ok (.invokevirtual 38, 3) := by decide +kernel
theorem dL_call_187 : decode cL_call 187 = .ok (.ireturn, 1) := by decide +kernel
theorem dL_call_188 : decode cL_call 188 = .ok (.aload_n 0, 1) := by decide +kernel
theorem dL_call_189 : decode cL_call 189 = .ok (.iload_n 2, 1) := by decide +kernel
theorem dL_call_190 : decode cL_call 190 = .ok (.invokevirtual 41, 3) := by decide +kernel
theorem dL_call_193 : decode cL_call 193 = .ok (.ireturn, 1) := by decide +kernel
theorem dL_call_194 : decode cL_call 194 = .ok (.aload_n 0, 1) := by decide +kernel
theorem dL_call_195 : decode cL_call 195 = .ok (.iload_n 2, 1) := by decide +kernel
theorem dL_call_196 : decode cL_call 196 = .ok (.invokevirtual 44, 3) := by decide +kernel
theorem dL_call_199 : decode cL_call 199 = .ok (.ireturn, 1) := by decide +kernel
theorem dL_call_200 : decode cL_call 200 = .ok (.aload_n 0, 1) := by decide +kernel
theorem dL_call_201 : decode cL_call 201 = .ok (.iload_n 2, 1) := by decide +kernel
theorem dL_call_202 : decode cL_call 202 = .ok (.iload_n 3, 1) := by decide +kernel
theorem dL_call_203 : decode cL_call 203 = .ok (.iload 4, 2) := by decide +kernel
theorem dL_call_205 : decode cL_call 205 = .ok (.invokevirtual 48, 3) := by decide +kernel
theorem dL_call_208 : decode cL_call 208 = .ok (.ifCond .eq 7, 3) := by decide +kernel
theorem dL_call_211 : decode cL_call 211 = .ok (.iconst 1, 1) := by decide +kernel
theorem dL_call_212 : decode cL_call 212 = .ok (.goto 4, 3) := by decide +kernel
theorem dL_call_215 : decode cL_call 215 = .ok (.iconst 0, 1) := by decide +kernel
theorem dL_call_216 : decode cL_call 216 = .ok (.ireturn, 1) := by decide +kernel
theorem dL_call_217 : decode cL_call 217 = .ok (.aload_n 0, 1) := by decide +kernel
theorem dL_call_218 : decode cL_call 218 = .ok (.iload_n 2, 1) := by decide +kernel
theorem dL_call_219 : decode cL_call 219 = .ok (.iload_n 3, 1) := by decide +kernel
theorem dL_call_220 : decode cL_call 220 = .ok (.iload 4, 2) := by decide +kernel
theorem dL_call_222 : decode cL_call 222 = .ok (.invokevirtual 52, 3) := by decide +kernel
theorem dL_call_225 : decode cL_call 225 = .ok (.ifCond .eq 7, 3) := by decide +kernel
theorem dL_call_228 : decode cL_call 228 = .ok (.iconst 1, 1) := by decide +kernel
theorem dL_call_229 : decode cL_call 229 = .ok (.goto 4, 3) := by decide +kernel
theorem dL_call_232 : decode cL_call 232 = .ok (.iconst 0, 1) := by decide +kernel
theorem dL_call_233 : decode cL_call 233 = .ok (.ireturn, 1) := by decide +kernel
theorem dL_call_234 : decode cL_call 234 = .ok (.aload_n 0, 1) := by decide +kernel
theorem dL_call_235 : decode cL_call 235 = .ok (.iload_n 2, 1) := by decide +kernel
theorem dL_call_236 : decode cL_call 236 = .ok (.iload_n 3, 1) := by decide +kernel
theorem dL_call_237 : decode cL_call 237 = .ok (.iload 4, 2) := by decide +kernel
theorem dL_call_239 : decode cL_call 239 = .ok (.iload 5, 2) := by decide +kernel
theorem dL_call_241 : decode cL_call 241 = .ok (.invokevirtual 55, 3) := by decide +kernel
theorem dL_call_244 : decode cL_call 244 = .ok (.ireturn, 1) := by decide +kernel
theorem dL_call_245 : decode cL_call 245 = .ok (.aload_n 0, 1) := by decide +kernel
theorem dL_call_246 : decode cL_call 246 = .ok (.iload_n 2, 1) := by decide +kernel
theorem dL_call_247 : decode cL_call 247 = .ok (.iload_n 3, 1) := by decide +kernel
theorem dL_call_248 : decode cL_call 248 = .ok (.invokevirtual 58, 3) := by decide +kernel
theorem dL_call_251 : decode cL_call 251 = .ok (.ireturn, 1) := by decide +kernel
theorem dL_call_252 : decode cL_call 252 = .ok (.aload_n 0, 1) := by decide +kernel
theorem dL_call_253 : decode cL_call 253 = .ok (.iload_n 2, 1) := by decide +kernel
theorem dL_call_254 : decode cL_call 254 = .ok (.iload_n 3, 1) := by decide +kernel
theorem dL_call_255 : decode cL_call 255 = .ok (.iload 4, 2) := by decide +kernel
theorem dL_call_257 : decode cL_call 257 = .ok (.invokevirtual 61, 3) := by decide +kernel
theorem dL_call_260 : decode cL_call 260 = .ok (.ireturn, 1) := by decide +kernel
theorem dL_call_261 : decode cL_call 261 = .ok (.aload_n 0, 1) := by decide +kernel
theorem dL_call_262 : decode cL_call 262 = .ok (.iload_n 2, 1) := by decide +kernel
theorem dL_call_263 : decode cL_call 263 = .ok (.iload_n 3, 1) := by decide +kernel
theorem dL_call_264 : decode cL_call 264 = .ok (.iconst 1, 1) := by decide +kernel
theorem dL_call_265 : decode cL_call 265 = .ok (.if_icmp .ne 7, 3) := by decide +kernel
theorem dL_call_268 : decode cL_call 268 = .ok (.iconst 1, 1) := by decide +kernel
theorem dL_call_269 : decode cL_call 269 = .ok (.goto 4, 3) := by decide +kernel
theorem dL_call_272 : decode cL_call 272 = .ok (.iconst 0, 1) := by decide +kernel
theorem dL_call_273 : decode cL_call 273 = .ok (.invokevirtual 65, 3) := by decide +kernel
theorem dL_call_276 : decode cL_call 276 = .ok (.ifCond .eq 7, 3) := by decide +kernel
theorem dL_call_279 : decode cL_call 279 = .ok (.iconst 1, 1) := by decide +kernel
theorem dL_call_280 : decode cL_call 280 = .ok (.goto 4, 3) := by decide +kernel
theorem dL_call_283 : decode cL_call 283 = .ok (.iconst 0, 1) := by decide +kernel
theorem dL_call_284 : decode cL_call 284 = .ok (.ireturn, 1) := by decide +kernel
theorem dL_call_285 : decode cL_call 285 = .ok (.aload_n 0, 1) := by decide +kernel
theorem dL_call_286 : decode cL_call 286 = .ok (.iload_n 2, 1) := by decide +kernel
theorem dL_call_287 : decode cL_call 287 = .ok (.iload_n 3, 1) := by decide +kernel
theorem dL_call_288 : decode cL_call 288 = .ok (.iload 4, 2) := by decide +kernel
theorem dL_call_290 : decode cL_call 290 = .ok (.iload 5, 2) := by decide +kernel
theorem dL_call_292 : decode cL_call 292 = .ok (.invokevirtual 68, 3) := by decide +kernel
theorem dL_call_295 : decode cL_call 295 = .ok (.ireturn, 1) := by decide +kernel
theorem dL_call_296 : decode cL_call 296 = .ok (.aload_n 0, 1) := by decide +kernel
theorem dL_call_297 : decode cL_call 297 = .ok (.iload_n 2, 1) := by decide +kernel
theorem dL_call_298 : decode cL_call 298 = .ok (.iload_n 3, 1) := by decide +kernel
theorem dL_call_299 : decode cL_call 299 = .ok (.iload 4, 2) := by decide +kernel
theorem dL_call_301 : decode cL_call 301 = .ok (.invokevirtual 71, 3) := by decide +kernel
theorem dL_call_304 : decode cL_call 304 = .ok (.ireturn, 1) := by decide +kernel
theorem dL_call_305 : decode cL_call 305 = .ok (.aload_n 0, 1) := by decide +kernel
theorem dL_call_306 : decode cL_call 306 = .ok (.iload_n 2, 1) := by decide +kernel
theorem dL_call_307 : decode cL_call 307 = .ok (.iload_n 3, 1) := by decide +kernel
theorem dL_call_308 : decode cL_call 308 = .ok (.invokevirtual 74, 3) := by decide +kernel
theorem dL_call_311 : decode cL_call 311 = .ok (.ireturn, 1) := by decide +kernel
theorem dL_call_312 : decode cL_call 312 = .ok (.aload_n 0, 1) := by decide +kernel
theorem dL_call_313 : decode cL_call 313 = .ok (.iload_n 2, 1) := by decide +kernel
theorem dL_call_314 : decode cL_call 314 = .ok (.iload_n 3, 1) := by decide +kernel
theorem dL_call_315 : decode cL_call 315 = .ok (.invokevirtual 77, 3) := by decide +kernel
theorem dL_call_318 : decode cL_call 318 = .ok (.ireturn, 1) := by decide +kernel
theorem dL_call_319 : decode cL_call 319 = .ok (.aload_n 0, 1) := by decide +kernel
theorem dL_call_320 : decode cL_call 320 = .ok (.iload_n 2, 1) := by decide +kernel
theorem dL_call_321 : decode cL_call 321 = .ok (.iload_n 3, 1) := by decide +kernel
theorem dL_call_322 : decode cL_call 322 = .ok (.iconst 1, 1) := by decide +kernel
theorem dL_call_323 : decode cL_call 323 = .ok (.if_icmp .ne 7, 3) := by decide +kernel
theorem dL_call_326 : decode cL_call 326 = .ok (.iconst 1, 1) := by decide +kernel
theorem dL_call_327 : decode cL_call 327 = .ok (.goto 4, 3) := by decide +kernel
theorem dL_call_330 : decode cL_call 330 = .ok (.iconst 0, 1) := by decide +kernel
theorem dL_call_331 : decode cL_call 331 = .ok (.iload 4, 2) := by decide +kernel
theorem dL_call_333 : decode cL_call 333 = .ok (.iload 5, 2) := by decide +kernel
theorem dL_call_335 : decode cL_call 335 = .ok (.invokevirtual 80, 3) := by decide +kernel
theorem dL_call_338 : decode cL_call 338 = .ok (.ireturn, 1) := by decide +kernel
theorem dL_call_339 : decode cL_call 339 = .ok (.aload_n 0, 1) := by decide +kernel
theorem dL_call_340 : decode cL_call 340 = .ok (.iload_n 2, 1) := by decide +kernel
theorem dL_call_341 : decode cL_call 341 = .ok (.iload_n 3, 1) := by decide +kernel
theorem dL_call_342 : decode cL_call 342 = .ok (.iconst 1, 1) := by decide +kernel
theorem dL_call_343 : decode cL_call 343 = .ok (.if_icmp .ne 7, 3) := by decide +kernel
theorem dL_call_346 : decode cL_call 346 = .ok (.iconst 1, 1) := by decide +kernel
theorem dL_call_347 : decode cL_call 347 = .ok (.goto 4, 3) := by decide +kernel
theorem dL_call_350 : decode cL_call 350 = .ok (.iconst 0, 1) := by decide +kernel
theorem dL_call_351 : decode cL_call 351 = .ok (.invokevirtual 84, 3) := by decide +kernel
theorem dL_call_354 : decode cL_call 354 = .ok (.ireturn, 1) := by decide +kernel
theorem dL_call_355 : decode cL_call 355 = .ok (.aload_n 0, 1) := by decide +kernel
theorem dL_call_356 : decode cL_call 356 = .ok (.iload_n 2, 1) := by decide +kernel
theorem dL_call_357 : decode cL_call 357 = .ok (.invokevirtual 88, 3) := by decide +kernel
theorem dL_call_360 : decode cL_call 360 = .ok (.dconst 0, 1) := by decide +kernel
theorem dL_call_361 : decode cL_call 361 = .ok (.dcmp .g, 1) := by decide +kernel
theorem dL_call_362 : decode cL_call 362 = .ok (.ifCond .ge 7, 3) := by decide +kernel
theorem dL_call_365 : decode cL_call 365 = .ok (.iconst 1, 1) := by decide +kernel
theorem dL_call_366 : decode cL_call 366 = .ok (.goto 4, 3) := by decide +kernel
theorem dL_call_369 : decode cL_call 369 = .ok (.iconst 0, 1) := by decide +kernel
theorem dL_call_370 : decode cL_call 370 = .ok (.ireturn, 1) := by decide +kernel
theorem dL_call_371 : decode cL_call 371 = .ok (.astore 6, 2) := by decide +kernel
theorem dL_call_373 : decode cL_call 373 = .ok (.sipush (-1001), 3) := by decide +kernel
theorem dL_call_376 : decode cL_call 376 = .ok (.ireturn, 1) := by decide +kernel
theorem dL_call_377 : decode cL_call 377 = .ok (.astore 6, 2) := by decide +kernel
theorem dL_call_379 : decode cL_call 379 = .ok (.sipush (-1002), 3) := by decide +kernel
theorem dL_call_382 : decode cL_call 382 = .ok (.ireturn, 1) := by decide +kernel
theorem dL_call_383 : decode cL_call 383 = .ok (.astore 6, 2) := by decide +kernel
theorem dL_call_385 : decode cL_call 385 = .ok (.sipush (-1003), 3) := by decide +kernel
theorem dL_call_388 : decode cL_call 388 = .ok (.ireturn, 1) := by decide +kernel
theorem dL_call_389 : decode cL_call 389 = .ok (.astore 6, 2) := by decide +kernel
theorem dL_call_391 : decode cL_call 391 = .ok (.sipush (-1004), 3) := by decide +kernel
theorem dL_call_394 : decode cL_call 394 = .ok (.ireturn, 1) := by decide +kernel
theorem dL_call_395 : decode cL_call 395 = .ok (.astore 6, 2) := by decide +kernel
theorem dL_call_397 : decode cL_call 397 = .ok (.sipush (-1005), 3) := by decide +kernel
theorem dL_call_400 : decode cL_call 400 = .ok (.ireturn, 1) := by decide +kernel
theorem dL_call_401 : decode cL_call 401 = .ok (.astore 6, 2) := by decide +kernel
theorem dL_call_403 : decode cL_call 403 = .ok (.sipush (-1006), 3) := by decide +kernel
theorem dL_call_406 : decode cL_call 406 = .ok (.ireturn, 1) := by decide +kernel
theorem dL_state_0 : decode cL_state 0 = .ok (.ldc2_w 104, 3) := by decide +kernel
theorem dL_state_3 : decode cL_state 3 = .ok (.lstore_n 3, 1) := by decide +kernel
theorem dL_state_4 : decode cL_state 4 = .ok (.iconst 0, 1) := by decide +kernel
theorem dL_state_5 : decode cL_state 5 = .ok (.istore 5, 2) := by decide +kernel
theorem dL_state_7 : decode cL_state 7 = .ok (.iload 5, 2) := by decide +kernel
theorem dL_state_9 : decode cL_state 9 = .ok (.iload_n 1, 1) := by decide +kernel
theorem dL_state_10 : decode cL_state 10 = .ok (.if_icmp .ge 68, 3) := by decide +kernel
theorem dL_state_13 : decode cL_state 13 = .ok (.ldc2_w 106, 3) := by decide +kernel
theorem dL_state_16 : decode cL_state 16 = .ok (.ldc2_w 106, 3) := by decide +kernel
theorem dL_state_19 : decode cL_state 19 = .ok (.lload_n 3, 1) := by decide +kernel
theorem dL_state_20 : decode cL_state 20 = .ok (.lmul, 1) := by decide +kernel
theorem dL_state_21 : decode cL_state 21 = .ok (.aload_n 0, 1) := by decide +kernel
theorem dL_state_22 : decode cL_state 22 = .ok (.bipush 8, 2) := by decide +kernel
theorem dL_state_24 : decode cL_state 24 = .ok (.iload 5, 2) := by decide +kernel
theorem dL_state_26 : decode cL_state 26 = .ok (.iconst 0, 1) := by decide +kernel
theorem dL_state_27 : decode cL_state 27 = .ok (.iconst 0, 1) := by decide +kernel
theorem dL_state_28 : decode cL_state 28 = .ok (.iconst 0, 1) := by decide +kernel
theorem dL_state_29 : decode cL_state 29 = .ok (.invokestatic 108, 3) := by decide +kernel
theorem dL_state_32 : decode cL_state 32 = .ok (.i2l, 1) := by decide +kernel
theorem dL_state_33 : decode cL_state 33 = .ok (.ladd, 1) := by decide +kernel
theorem dL_state_34 : decode cL_state 34 = .ok (.lmul, 1) := by decide +kernel
theorem dL_state_35 : decode cL_state 35 = .ok (.aload_n 0, 1) := by decide +kernel
theorem dL_state_36 : decode cL_state 36 = .ok (.bipush 9, 2) := by decide +kernel
theorem dL_state_38 : decode cL_state 38 = .ok (.iload 5, 2) := by decide +kernel
theorem dL_state_40 : decode cL_state 40 = .ok (.iconst 0, 1) := by decide +kernel
theorem dL_state_41 : decode cL_state 41 = .ok (.iconst 0, 1) := by decide +kernel
theorem dL_state_42 : decode cL_state 42 = .ok (.iconst 0, 1) := by decide +kernel
theorem dL_state_43 : decode cL_state 43 = .ok (.invokestatic 108, 3) := by decide +kernel
theorem dL_state_46 : decode cL_state 46 = .ok (.i2l, 1) := by decide +kernel
theorem dL_state_47 : decode cL_state 47 = .ok (.ladd, 1) := by decide +kernel
theorem dL_state_48 : decode cL_state 48 = .ok (.lstore_n 3, 1) := by decide +kernel
theorem dL_state_49 : decode cL_state 49 = .ok (.ldc2_w 106, 3) := by decide +kernel
theorem dL_state_52 : decode cL_state 52 = .ok (.lload_n 3, 1) := by decide +kernel
theorem dL_state_53 : decode cL_state 53 = .ok (.lmul, 1) := by decide +kernel
theorem dL_state_54 : decode cL_state 54 = .ok (.aload_n 0, 1) := by decide +kernel
theorem dL_state_55 : decode cL_state 55 = .ok (.bipush 13, 2) := by decide +kernel
theorem dL_state_57 : decode cL_state 57 = .ok (.iload 5, 2) := by decide +kernel
theorem dL_state_59 : decode cL_state 59 = .ok (.iload 5, 2) := by decide +kernel
theorem dL_state_61 : decode cL_state 61 = .ok (.bipush 6, 2) := by decide +kernel
theorem dL_state_63 : decode cL_state 63 = .ok (.irem, 1) := by decide +kernel
theorem dL_state_64 : decode cL_state 64 = .ok (.iconst 0, 1) := by decide +kernel
theorem dL_state_65 : decode cL_state 65 = .ok (.iconst 0, 1) := by decide +kernel
theorem dL_state_66 : decode cL_state 66 = .ok (.invokestatic 108, 3) := by decide +kernel
theorem dL_state_69 : decode cL_state 69 = .ok (.i2l, 1) := by decide +kernel
theorem dL_state_70 : decode cL_state 70 = .ok (.ladd, 1) := by decide +kernel
theorem dL_state_71 : decode cL_state 71 = .ok (.lstore_n 3, 1) := by decide +kernel
theorem dL_state_72 : decode cL_state 72 = .ok (.iinc 5 1, 3) := by decide +kernel
theorem dL_state_75 : decode cL_state 75 = .ok (.goto (-68), 3) := by decide +kernel
theorem dL_state_78 : decode cL_state 78 = .ok (.iconst 0, 1) := by decide +kernel
theorem dL_state_79 : decode cL_state 79 = .ok (.istore 5, 2) := by decide +kernel
theorem dL_state_81 : decode cL_state 81 = .ok (.iload 5, 2) := by decide +kernel
theorem dL_state_83 : decode cL_state 83 = .ok (.bipush 8, 2) := by decide +kernel
theorem dL_state_85 : decode cL_state 85 = .ok (.if_icmp .ge 27, 3) := by decide +kernel
theorem dL_state_88 : decode cL_state 88 = .ok (.ldc2_w 106, 3) := by decide +kernel
theorem dL_state_91 : decode cL_state 91 = .ok (.lload_n 3, 1) := by decide +kernel
theorem dL_state_92 : decode cL_state 92 = .ok (.lmul, 1) := by decide +kernel
theorem dL_state_93 : decode cL_state 93 = .ok (.aload_n 0, 1) := by decide +kernel
theorem dL_state_94 : decode cL_state 94 = .ok (.iconst 1, 1) := by decide +kernel
theorem dL_state_95 : decode cL_state 95 = .ok (.iload 5, 2) := by decide +kernel
theorem dL_state_97 : decode cL_state 97 = .ok (.iconst 0, 1) := by decide +kernel
theorem dL_state_98 : decode cL_state 98 = .ok (.iconst 0, 1) := by decide +kernel
theorem dL_state_99 : decode cL_state 99 = .ok (.iconst 0, 1) := by decide +kernel
theorem dL_state_100 : decode cL_state 100 = .ok (.invokestatic 108, 3) := by decide +kernel
theorem dL_state_103 : decode cL_state 103 = .ok (.i2l, 1) := by decide +kernel
theorem dL_state_104 : decode cL_state 104 = .ok (.ladd, 1) := by decide +kernel
theorem dL_state_105 : decode cL_state 105 = .ok (.lstore_n 3, 1) := by decide +kernel
theorem dL_state_106 : decode cL_state 106 = .ok (.iinc 5 1, 3) := by decide +kernel
theorem dL_state_109 : decode cL_state 109 = .ok (.goto (-28), 3) := by decide +kernel
theorem dL_state_112 : decode cL_state 112 = .ok (.iconst 0, 1) := by decide +kernel
theorem dL_state_113 : decode cL_state 113 = .ok (.istore 5, 2) := by decide +kernel
theorem dL_state_115 : decode cL_state 115 = .ok (.iload 5, 2) := by decide +kernel
theorem dL_state_117 : decode cL_state 117 = .ok (.iconst 3, 1) := by decide +kernel
theorem dL_state_118 : decode cL_state 118 = .ok (.iload_n 2, 1) := by decide +kernel
theorem dL_state_119 : decode cL_state 119 = .ok (.imul, 1) := by decide +kernel
theorem dL_state_120 : decode cL_state 120 = .ok (.if_icmp .ge 33, 3) := by decide +kernel
theorem dL_state_123 : decode cL_state 123 = .ok (.ldc2_w 106, 3) := by decide +kernel
theorem dL_state_126 : decode cL_state 126 = .ok (.lload_n 3, 1) := by decide +kernel
theorem dL_state_127 : decode cL_state 127 = .ok (.lmul, 1) := by decide +kernel
theorem dL_state_128 : decode cL_state 128 = .ok (.aload_n 0, 1) := by decide +kernel
theorem dL_state_129 : decode cL_state 129 = .ok (.bipush 18, 2) := by decide +kernel
theorem dL_state_131 : decode cL_state 131 = .ok (.iload 5, 2) := by decide +kernel
theorem dL_state_133 : decode cL_state 133 = .ok (.iconst 3, 1) := by decide +kernel
theorem dL_state_134 : decode cL_state 134 = .ok (.idiv, 1) := by decide +kernel
theorem dL_state_135 : decode cL_state 135 = .ok (.iload 5, 2) := by decide +kernel
theorem dL_state_137 : decode cL_state 137 = .ok (.iconst 3, 1) := by decide +kernel
theorem dL_state_138 : decode cL_state 138 = .ok (.irem, 1) := by decide +kernel
theorem dL_state_139 : decode cL_state 139 = .ok (.iconst 0, 1) := by decide +kernel
theorem dL_state_140 : decode cL_state 140 = .ok (.iconst 0, 1) := by decide +kernel
theorem dL_state_141 : decode cL_state 141 = .ok (.invokestatic 108, 3) := by decide +kernel
theorem dL_state_144 : decode cL_state 144 = .ok (.i2l, 1) := by decide +kernel
theorem dL_state_145 : decode cL_state 145 = .ok (.ladd, 1) := by decide +kernel
theorem dL_state_146 : decode cL_state 146 = .ok (.lstore_n 3, 1) := by decide +kernel
theorem dL_state_147 : decode cL_state 147 = .ok (.iinc 5 1, 3) := by decide +kernel
theorem dL_state_150 : decode cL_state 150 = .ok (.goto (-35), 3) := by decide +kernel
theorem dL_state_153 : decode cL_state 153 = .ok (.ldc2_w 106, 3) := by decide +kernel
theorem dL_state_156 : decode cL_state 156 = .ok (.ldc2_w 106, 3) := by decide +kernel
theorem dL_state_159 : decode cL_state 159 = .ok (.ldc2_w 106, 3) := by decide +kernel
theorem dL_state_162 : decode cL_state 162 = .ok (.ldc2_w 106, 3) := by decide +kernel
theorem dL_state_165 : decode cL_state 165 = .ok (.lload_n 3, 1) := by decide +kernel
theorem dL_state_166 : decode cL_state 166 = .ok (.lmul, 1) := by decide +kernel
theorem dL_state_167 : decode cL_state 167 = .ok (.aload_n 0, 1) := by decide +kernel
theorem dL_state_168 : decode cL_state 168 = .ok (.invokevirtual 114, 3) := by decide +kernel
theorem dL_state_171 : decode cL_state 171 = .ok (.i2l, 1) := by decide +kernel
theorem dL_state_172 : decode cL_state 172 = .ok (.ladd, 1) := by decide +kernel
theorem dL_state_173 : decode cL_state 173 = .ok (.lmul, 1) := by decide +kernel
theorem dL_state_174 : decode cL_state 174 = .ok (.aload_n 0, 1) := by decide +kernel
theorem dL_state_175 : decode cL_state 175 = .ok (.invokevirtual 118, 3) := by decide +kernel
theorem dL_state_178 : decode cL_state 178 = .ok (.i2l, 1) := by decide +kernel
theorem dL_state_179 : decode cL_state 179 = .ok (.ladd, 1) := by decide +kernel
theorem dL_state_180 : decode cL_state 180 = .ok (.lmul, 1) := by decide +kernel
theorem dL_state_181 : decode cL_state 181 = .ok (.aload_n 0, 1) := by decide +kernel
theorem dL_state_182 : decode cL_state 182 = .ok (.invokevirtual 121, 3) := by decide +kernel
theorem dL_state_185 : decode cL_state 185 = .ok (.ladd, 1) := by decide +kernel
theorem dL_state_186 : decode cL_state 186 = .ok (.lmul, 1) := by decide +kernel
theorem dL_state_187 : decode cL_state 187 = .ok (.aload_n 0, 1) := by decide +kernel
theorem dL_state_188 : decode cL_state 188 = .ok (.invokevirtual 125, 3) := by decide +kernel
theorem dL_state_191 : decode cL_state 191 = .ok (.i2l, 1) := by decide +kernel
theorem dL_state_192 : decode cL_state 192 = .ok (.ladd, 1) := by decide +kernel
theorem dL_state_193 : decode cL_state 193 = .ok (.lreturn, 1) := by decide +kernel
theorem dL_sound_0 : decode cL_sound 0 = .ok (.bipush 6, 2) := by decide +kernel
theorem dL_sound_2 : decode cL_sound 2 = .ok (.newarray .int, 2) := by decide +kernel
theorem dL_sound_4 : decode cL_sound 4 = .ok (.astore_n 3, 1) := by decide +kernel
theorem dL_sound_5 : decode cL_sound 5 = .ok (.bipush 12, 2) := by decide +kernel
theorem dL_sound_7 : decode cL_sound 7 = .ok (.newarray .int, 2) := by decide +kernel
theorem dL_sound_9 : decode cL_sound 9 = .ok (.astore 4, 2) := by decide +kernel
theorem dL_sound_11 : decode cL_sound 11 = .ok (.iconst 0, 1) := by decide +kernel
theorem dL_sound_12 : decode cL_sound 12 = .ok (.istore 5, 2) := by decide +kernel
theorem dL_sound_14 : decode cL_sound 14 = .ok (.iconst 0, 1) := by decide +kernel
theorem dL_sound_15 : decode cL_sound 15 = .ok (.istore 6, 2) := by decide +kernel
theorem dL_sound_17 : decode cL_sound 17 = .ok (.iload 6, 2) := by decide +kernel
theorem dL_sound_19 : decode cL_sound 19 = .ok (.iload_n 1, 1) := by decide +kernel
theorem dL_sound_20 : decode cL_sound 20 = .ok (.if_icmp .ge 104, 3) := by decide +kernel
theorem dL_sound_23 : decode cL_sound 23 = .ok (.iconst 0, 1) := by decide +kernel
theorem dL_sound_24 : decode cL_sound 24 = .ok (.istore 7, 2) := by decide +kernel
theorem dL_sound_26 : decode cL_sound 26 = .ok (.iload 7, 2) := by decide +kernel
theorem dL_sound_28 : decode cL_sound 28 = .ok (.bipush 6, 2) := by decide +kernel
theorem dL_sound_30 : decode cL_sound 30 = .ok (.if_icmp .ge 28, 3) := by decide +kernel
theorem dL_sound_33 : decode cL_sound 33 = .ok (.aload_n 3, 1) := by decide +kernel
theorem dL_sound_34 : decode cL_sound 34 = .ok (.iload 7, 2) := by decide +kernel
theorem dL_sound_36 : decode cL_sound 36 = .ok (.dup2, 1) := by decide +kernel
theorem dL_sound_37 : decode cL_sound 37 = .ok (.iaload, 1) := by decide +kernel
theorem dL_sound_38 : decode cL_sound 38 = .ok (.aload_n 0, 1) := by decide +kernel
theorem dL_sound_39 : decode cL_sound 39 = .ok (.bipush 13, 2) := by decide +kernel
theorem dL_sound_41 : decode cL_sound 41 = .ok (.iload 6, 2) := by decide +kernel
theorem dL_sound_43 : decode cL_sound 43 = .ok (.iload 7, 2) := by decide +kernel
theorem dL_sound_45 : decode cL_sound 45 = .ok (.iconst 0, 1) := by decide +kernel
theorem dL_sound_46 : decode cL_sound 46 = .ok (.iconst 0, 1) := by decide +kernel
theorem dL_sound_47 : decode cL_sound 47 = .ok (.invokestatic 108, 3) := by decide +kernel
theorem dL_sound_50 : decode cL_sound 50 = .ok (.iadd, 1) := by decide +kernel
theorem dL_sound_51 : decode cL_sound 51 = .ok (.iastore, 1) := by decide +kernel
theorem dL_sound_52 : decode cL_sound 52 = .ok (.iinc 7 1, 3) := by decide +kernel
theorem dL_sound_55 : decode cL_sound 55 = .ok (.goto (-29), 3) := by decide +kernel
theorem dL_sound_58 : decode cL_sound 58 = .ok (.aload_n 0, 1) := by decide +kernel
theorem dL_sound_59 : decode cL_sound 59 = .ok (.bipush 8, 2) := by decide +kernel
theorem dL_sound_61 : decode cL_sound 61 = .ok (.iload 6, 2) := by decide +kernel
theorem dL_sound_63 : decode cL_sound 63 = .ok (.iconst 0, 1) := by decide +kernel
theorem dL_sound_64 : decode cL_sound 64 = .ok (.iconst 0, 1) := by decide +kernel
theorem dL_sound_65 : decode cL_sound 65 = .ok (.iconst 0, 1) := by decide +kernel
theorem dL_sound_66 : decode cL_sound 66 = .ok (.invokestatic 108, 3) := by decide +kernel
theorem dL_sound_69 : decode cL_sound 69 = .ok (.istore 7, 2) := by decide +kernel
theorem dL_sound_71 : decode cL_sound 71 = .ok (.iload 7, 2) := by decide +kernel
theorem dL_sound_73 : decode cL_sound 73 = .ok (.ifCond .lt 18, 3) := by decide +kernel
theorem dL_sound_76 : decode cL_sound 76 = .ok (.iinc 5 1, 3) := by decide +kernel
theorem dL_sound_79 : decode cL_sound 79 = .ok (.aload 4, 2) := by decide +kernel
theorem dL_sound_81 : decode cL_sound 81 = .ok (.iload 7, 2) := by decide +kernel
theorem dL_sound_83 : decode cL_sound 83 = .ok (.dup2, 1) := by decide +kernel
theorem dL_sound_84 : decode cL_sound 84 = .ok (.iaload, 1) := by decide +kernel
theorem dL_sound_85 : decode cL_sound 85 = .ok (.iconst 1, 1) := by decide +kernel
theorem dL_sound_86 : decode cL_sound 86 = .ok (.iadd, 1) := by decide +kernel
theorem dL_sound_87 : decode cL_sound 87 = .ok (.iastore, 1) := by decide +kernel
theorem dL_sound_88 : decode cL_sound 88 = .ok (.goto 30, 3) := by decide +kernel
theorem dL_sound_91 : decode cL_sound 91 = .ok (.iload 7, 2) := by decide +kernel
theorem dL_sound_93 : decode cL_sound 93 = .ok (.sipush (-1005), 3) := by decide +kernel
theorem dL_sound_96 : decode cL_sound 96 = .ok (.if_icmp .ne 20, 3) := by decide +kernel
theorem dL_sound_99 : decode cL_sound 99 = .ok (.aload_n 0, 1) := by decide +kernel
theorem dL_sound_100 : decode cL_sound 100 = .ok (.bipush 9, 2) := by decide +kernel
theorem dL_sound_102 : decode cL_sound 102 = .ok (.iload 6, 2) := by decide +kernel
theorem dL_sound_104 : decode cL_sound 104 = .ok (.iconst 0, 1) := by decide +kernel
theorem dL_sound_105 : decode cL_sound 105 = .ok (.iconst 0, 1) := by decide +kernel
theorem dL_sound_106 : decode cL_sound 106 = .ok (.iconst 0, 1) := by decide +kernel
theorem dL_sound_107 : decode cL_sound 107 = .ok (.invokestatic 108, 3) := by decide +kernel
theorem dL_sound_110 : decode cL_sound 110 = .ok (.sipush (-1005), 3) := by decide +kernel
theorem dL_sound_113 : decode cL_sound 113 = .ok (.if_icmp .eq 5, 3) := by decide +kernel
theorem dL_sound_116 : decode cL_sound 116 = .ok (.iconst 0, 1) := by decide +kernel
theorem dL_sound_117 : decode cL_sound 117 = .ok (.ireturn, 1) := by decide +kernel
theorem dL_sound_118 : decode cL_sound 118 = .ok (.iinc 6 1, 3) := by decide +kernel
theorem dL_sound_121 : decode cL_sound 121 = .ok (.goto (-104), 3) := by decide +kernel
theorem dL_sound_124 : decode cL_sound 124 = .ok (.iconst 0, 1) := by decide +kernel
theorem dL_sound_125 : decode cL_sound 125 = .ok (.istore 6, 2) := by decide +kernel
theorem dL_sound_127 : decode cL_sound 127 = .ok (.iconst 0, 1) := by decide +kernel
theorem dL_sound_128 : decode cL_sound 128 = .ok (.istore 7, 2) := by decide +kernel
theorem dL_sound_130 : decode cL_sound 130 = .ok (.iload 7, 2) := by decide +kernel
theorem dL_sound_132 : decode cL_sound 132 = .ok (.bipush 6, 2) := by decide +kernel
theorem dL_sound_134 : decode cL_sound 134 = .ok (.if_icmp .ge 18, 3) := by decide +kernel
theorem dL_sound_137 : decode cL_sound 137 = .ok (.iload 6, 2) := by decide +kernel
theorem dL_sound_139 : decode cL_sound 139 = .ok (.aload_n 3, 1) := by decide +kernel
theorem dL_sound_140 : decode cL_sound 140 = .ok (.iload 7, 2) := by decide +kernel
theorem dL_sound_142 : decode cL_sound 142 = .ok (.iaload, 1) := by decide +kernel
theorem dL_sound_143 : decode cL_sound 143 = .ok (.iadd, 1) := by decide +kernel
theorem dL_sound_144 : decode cL_sound 144 = .ok (.istore 6, 2) := by decide +kernel
theorem dL_sound_146 : decode cL_sound 146 = .ok (.iinc 7 1, 3) := by decide +kernel
theorem dL_sound_149 : decode cL_sound 149 = .ok (.goto (-19), 3) := by decide +kernel
theorem dL_sound_152 : decode cL_sound 152 = .ok (.iconst 0, 1) := by decide +kernel
theorem dL_sound_153 : decode cL_sound 153 = .ok (.istore 7, 2) := by decide +kernel
theorem dL_sound_155 : decode cL_sound 155 = .ok (.iload 7, 2) := by decide +kernel
theorem dL_sound_157 : decode cL_sound 157 = .ok (.iload_n 2, 1) := by decide +kernel
theorem dL_sound_158 : decode cL_sound 158 = .ok (.if_icmp .ge 20, 3) := by decide +kernel
theorem dL_sound_161 : decode cL_sound 161 = .ok (.aload 4, 2) := by decide +kernel
theorem dL_sound_163 : decode cL_sound 163 = .ok (.iload 7, 2) := by decide +kernel
theorem dL_sound_165 : decode cL_sound 165 = .ok (.iaload, 1) := by decide +kernel
theorem dL_sound_166 : decode cL_sound 166 = .ok (.iconst 1, 1) := by decide +kernel
theorem dL_sound_167 : decode cL_sound 167 = .ok (.if_icmp .eq 5, 3) := by decide +kernel
theorem dL_sound_170 : decode cL_sound 170 = .ok (.iconst 0, 1) := by decide +kernel
theorem dL_sound_171 : decode cL_sound 171 = .ok (.ireturn, 1) := by decide +kernel
theorem dL_sound_172 : decode cL_sound 172 = .ok (.iinc 7 1, 3) := by decide +kernel
theorem dL_sound_175 : decode cL_sound 175 = .ok (.goto (-20), 3) := by decide +kernel
theorem dL_sound_178 : decode cL_sound 178 = .ok (.iload 5, 2) := by decide +kernel
theorem dL_sound_180 : decode cL_sound 180 = .ok (.iload_n 2, 1) := by decide +kernel
theorem dL_sound_181 : decode cL_sound 181 = .ok (.if_icmp .ne 87, 3) := by decide +kernel
theorem dL_sound_184 : decode cL_sound 184 = .ok (.iload 6, 2) := by decide +kernel
theorem dL_sound_186 : decode cL_sound 186 = .ok (.aload_n 0, 1) := by decide +kernel
theorem dL_sound_187 : decode cL_sound 187 = .ok (.invokevirtual 118, 3) := by decide +kernel
theorem dL_sound_190 : decode cL_sound 190 = .ok (.if_icmp .ne 78, 3) := by decide +kernel
theorem dL_sound_193 : decode cL_sound 193 = .ok (.aload_n 3, 1) := by decide +kernel
theorem dL_sound_194 : decode cL_sound 194 = .ok (.iconst 0, 1) := by decide +kernel
theorem dL_sound_195 : decode cL_sound 195 = .ok (.iaload, 1) := by decide +kernel
theorem dL_sound_196 : decode cL_sound 196 = .ok (.aload_n 3, 1) := by decide +kernel
theorem dL_sound_197 : decode cL_sound 197 = .ok (.iconst 1, 1) := by decide +kernel
theorem dL_sound_198 : decode cL_sound 198 = .ok (.iaload, 1) := by decide +kernel
theorem dL_sound_199 : decode cL_sound 199 = .ok (.if_icmp .ne 69, 3) := by decide +kernel
theorem dL_sound_202 : decode cL_sound 202 = .ok (.aload_n 3, 1) := by decide +kernel
theorem dL_sound_203 : decode cL_sound 203 = .ok (.iconst 2, 1) := by decide +kernel
theorem dL_sound_204 : decode cL_sound 204 = .ok (.iaload, 1) := by decide +kernel
theorem dL_sound_205 : decode cL_sound 205 = .ok (.aload_n 3, 1) := by decide +kernel
theorem dL_sound_206 : decode cL_sound 206 = .ok (.iconst 3, 1) := by decide +kernel
theorem dL_sound_207 : decode cL_sound 207 = .ok (.iaload, 1) := by decide +kernel
theorem dL_sound_208 : decode cL_sound 208 = .ok (.if_icmp .ne 60, 3) := by decide +kernel
theorem dL_sound_211 : decode cL_sound 211 = .ok (.aload_n 3, 1) := by decide +kernel
theorem dL_sound_212 : decode cL_sound 212 = .ok (.iconst 4, 1) := by decide +kernel
theorem dL_sound_213 : decode cL_sound 213 = .ok (.iaload, 1) := by decide +kernel
theorem dL_sound_214 : decode cL_sound 214 = .ok (.aload_n 3, 1) := by decide +kernel
theorem dL_sound_215 : decode cL_sound 215 = .ok (.iconst 5, 1) := by decide +kernel
theorem dL_sound_216 : decode cL_sound 216 = .ok (.iaload, 1) := by decide +kernel
theorem dL_sound_217 : decode cL_sound 217 = .ok (.if_icmp .ne 51, 3) := by decide +kernel
theorem dL_sound_220 : decode cL_sound 220 = .ok (.aload_n 0, 1) := by decide +kernel
theorem dL_sound_221 : decode cL_sound 221 = .ok (.invokevirtual 114, 3) := by decide +kernel
theorem dL_sound_224 : decode cL_sound 224 = .ok (.sipush 512, 3) := by decide +kernel
theorem dL_sound_227 : decode cL_sound 227 = .ok (.if_icmp .gt 41, 3) := by decide +kernel
theorem dL_sound_230 : decode cL_sound 230 = .ok (.aload_n 0, 1) := by decide +kernel
theorem dL_sound_231 : decode cL_sound 231 = .ok (.invokevirtual 128, 3) := by decide +kernel
theorem dL_sound_234 : decode cL_sound 234 = .ok (.ifCond .le 7, 3) := by decide +kernel
theorem dL_sound_237 : decode cL_sound 237 = .ok (.iconst 1, 1) := by decide +kernel
theorem dL_sound_238 : decode cL_sound 238 = .ok (.goto 4, 3) := by decide +kernel
theorem dL_sound_241 : decode cL_sound 241 = .ok (.iconst 0, 1) := by decide +kernel
theorem dL_sound_242 : decode cL_sound 242 = .ok (.aload_n 0, 1) := by decide +kernel
theorem dL_sound_243 : decode cL_sound 243 = .ok (.invokevirtual 114, 3) := by decide +kernel
theorem dL_sound_246 : decode cL_sound 246 = .ok (.ifCond .le 7, 3) := by decide +kernel
theorem dL_sound_249 : decode cL_sound 249 = .ok (.iconst 1, 1) := by decide +kernel
theorem dL_sound_250 : decode cL_sound 250 = .ok (.goto 4, 3) := by decide +kernel
theorem dL_sound_253 : decode cL_sound 253 = .ok (.iconst 0, 1) := by decide +kernel
theorem dL_sound_254 : decode cL_sound 254 = .ok (.if_icmp .ne 14, 3) := by decide +kernel
theorem dL_sound_257 : decode cL_sound 257 = .ok (.aload_n 0, 1) := by decide +kernel
theorem dL_sound_258 : decode cL_sound 258 = .ok (.invokevirtual 131, 3) := by decide +kernel
theorem dL_sound_261 : decode cL_sound 261 = .ok (.ifCond .eq 7, 3) := by decide +kernel
theorem dL_sound_264 : decode cL_sound 264 = .ok (.iconst 1, 1) := by decide +kernel
theorem dL_sound_265 : decode cL_sound 265 = .ok (.goto 4, 3) := by decide +kernel
theorem dL_sound_268 : decode cL_sound 268 = .ok (.iconst 0, 1) := by decide +kernel
theorem dL_sound_269 : decode cL_sound 269 = .ok (.ireturn, 1) := by decide +kernel
theorem dL_law_0 : decode cL_law 0 = .ok (.new 10, 3) := by decide +kernel
theorem dL_law_3 : decode cL_law 3 = .ok (.dup, 1) := by decide +kernel
theorem dL_law_4 : decode cL_law 4 = .ok (.invokespecial 135, 3) := by decide +kernel
theorem dL_law_7 : decode cL_law 7 = .ok (.astore_n 1, 1) := by decide +kernel
theorem dL_law_8 : decode cL_law 8 = .ok (.iconst 0, 1) := by decide +kernel
theorem dL_law_9 : decode cL_law 9 = .ok (.istore_n 2, 1) := by decide +kernel
theorem dL_law_10 : decode cL_law 10 = .ok (.iconst 0, 1) := by decide +kernel
theorem dL_law_11 : decode cL_law 11 = .ok (.istore_n 3, 1) := by decide +kernel
theorem dL_law_12 : decode cL_law 12 = .ok (.iconst 0, 1) := by decide +kernel
theorem dL_law_13 : decode cL_law 13 = .ok (.istore 4, 2) := by decide +kernel
theorem dL_law_15 : decode cL_law 15 = .ok (.iconst 0, 1) := by decide +kernel
theorem dL_law_16 : decode cL_law 16 = .ok (.istore 5, 2) := by decide +kernel
theorem dL_law_18 : decode cL_law 18 = .ok (.iconst 0, 1) := by decide +kernel
theorem dL_law_19 : decode cL_law 19 = .ok (.istore 6, 2) := by decide +kernel
theorem dL_law_21 : decode cL_law 21 = .ok (.iload 6, 2) := by decide +kernel
theorem dL_law_23 : decode cL_law 23 = .ok (.bipush 44, 2) := by decide +kernel
theorem dL_law_25 : decode cL_law 25 = .ok (.if_icmp .ge 880, 3) := by decide +kernel
theorem dL_law_28 : decode cL_law 28 = .ok (.aload_n 0, 1) := by decide +kernel
theorem dL_law_29 : decode cL_law 29 = .ok (.iconst 2, 1) := by decide +kernel
theorem dL_law_30 : decode cL_law 30 = .ok (.iload 6, 2) := by decide +kernel
theorem dL_law_32 : decode cL_law 32 = .ok (.imul, 1) := by decide +kernel
theorem dL_law_33 : decode cL_law 33 = .ok (.invokestatic 136, 3) := by decide +kernel
theorem dL_law_36 : decode cL_law 36 = .ok (.istore 7, 2) := by decide +kernel
theorem dL_law_38 : decode cL_law 38 = .ok (.aload_n 0, 1) := by decide +kernel
theorem dL_law_39 : decode cL_law 39 = .ok (.iconst 2, 1) := by decide +kernel
theorem dL_law_40 : decode cL_law 40 = .ok (.iload 6, 2) := by decide +kernel
theorem dL_law_42 : decode cL_law 42 = .ok (.imul, 1) := by decide +kernel
theorem dL_law_43 : decode cL_law 43 = .ok (.iconst 1, 1) := by decide +kernel
theorem dL_law_44 : decode cL_law 44 = .ok (.iadd, 1) := by decide +kernel
theorem dL_law_45 : decode cL_law 45 = .ok (.invokestatic 136, 3) := by decide +kernel
theorem dL_law_48 : decode cL_law 48 = .ok (.istore 8, 2) := by decide +kernel
theorem dL_law_50 : decode cL_law 50 = .ok (.iload 8, 2) := by decide +kernel
theorem dL_law_52 : decode cL_law 52 = .ok (.iload_n 2, 1) := by decide +kernel
theorem dL_law_53 : decode cL_law 53 = .ok (.iconst 1, 1) := by decide +kernel
theorem dL_law_54 : decode cL_law 54 = .ok (.iadd, 1) := by decide +kernel
theorem dL_law_55 : decode cL_law 55 = .ok (.invokestatic 140, 3) := by decide +kernel
theorem dL_law_58 : decode cL_law 58 = .ok (.istore 9, 2) := by decide +kernel
theorem dL_law_60 : decode cL_law 60 = .ok (.iload 6, 2) := by decide +kernel
theorem dL_law_62 : decode cL_law 62 = .ok (.iconst 2, 1) := by decide +kernel
theorem dL_law_63 : decode cL_law 63 = .ok (.if_icmp .ge 7, 3) := by decide +kernel
theorem dL_law_66 : decode cL_law 66 = .ok (.iconst 2, 1) := by decide +kernel
theorem dL_law_67 : decode cL_law 67 = .ok (.goto 8, 3) := by decide +kernel
theorem dL_law_70 : decode cL_law 70 = .ok (.iload 7, 2) := by decide +kernel
theorem dL_law_72 : decode cL_law 72 = .ok (.bipush 31, 2) := by decide +kernel
theorem dL_law_74 : decode cL_law 74 = .ok (.iand, 1) := by decide +kernel
theorem dL_law_75 : decode cL_law 75 = .ok (.istore 10, 2) := by decide +kernel
theorem dL_law_77 : decode cL_law 77 = .ok (.aload_n 1, 1) := by decide +kernel
theorem dL_law_78 : decode cL_law 78 = .ok (.iload_n 2, 1) := by decide +kernel
theorem dL_law_79 : decode cL_law 79 = .ok (.iload 4, 2) := by decide +kernel
theorem dL_law_81 : decode cL_law 81 = .ok (.invokestatic 143, 3) := by decide +kernel
theorem dL_law_84 : decode cL_law 84 = .ok (.lstore 11, 2) := by decide +kernel
theorem dL_law_86 : decode cL_law 86 = .ok (.aload_n 1, 1) := by decide +kernel
theorem dL_law_87 : decode cL_law 87 = .ok (.invokevirtual 121, 3) := by decide +kernel
theorem dL_law_90 : decode cL_law 90 = .ok (.lstore 13, 2) := by decide +kernel
theorem dL_law_92 : decode cL_law 92 = .ok (.iconst 0, 1) := by decide +kernel
theorem dL_law_93 : decode cL_law 93 = .ok (.istore 15, 2) := by decide +kernel
theorem dL_law_95 : decode cL_law 95 = .ok (.iload 10, 2) := by decide +kernel
theorem dL_law_97 : decode cL_law 97 = .ok (.iconst 2, 1) := by decide +kernel
theorem dL_law_98 : decode cL_law 98 = .ok (.if_icmp .ge 118, 3) := by decide +kernel
theorem dL_law_101 : decode cL_law 101 = .ok (.aload_n 1, 1) := by decide +kernel
theorem dL_law_102 : decode cL_law 102 = .ok (.iconst 0, 1) := by decide +kernel
theorem dL_law_103 : decode cL_law 103 = .ok (.iload 8, 2) := by decide +kernel
theorem dL_law_105 : decode cL_law 105 = .ok (.bipush 9, 2) := by decide +kernel
theorem dL_law_107 : decode cL_law 107 = .ok (.invokestatic 140, 3) := by decide +kernel
theorem dL_law_110 : decode cL_law 110 = .ok (.iload 8, 2) := by decide +kernel
theorem dL_law_112 : decode cL_law 112 = .ok (.iconst 4, 1) := by decide +kernel
theorem dL_law_113 : decode cL_law 113 = .ok (.ishr, 1) := by decide +kernel
theorem dL_law_114 : decode cL_law 114 = .ok (.iconst 2, 1) := by decide +kernel
theorem dL_law_115 : decode cL_law 115 = .ok (.invokestatic 140, 3) := by decide +kernel
theorem dL_law_118 : decode cL_law 118 = .ok (.ifCond .ne 17, 3) := by decide +kernel
theorem dL_law_121 : decode cL_law 121 = .ok (.iload 8, 2) := by decide +kernel
theorem dL_law_123 : decode cL_law 123 = .ok (.iconst 5, 1) := by decide +kernel
theorem dL_law_124 : decode cL_law 124 = .ok (.ishr, 1) := by decide +kernel
theorem dL_law_125 : decode cL_law 125 = .ok (.bipush 9, 2) := by decide +kernel
theorem dL_law_127 : decode cL_law 127 = .ok (.invokestatic 140, 3) := by decide +kernel
theorem dL_law_130 : decode cL_law 130 = .ok (.iconst 2, 1) := by decide +kernel
theorem dL_law_131 : decode cL_law 131 = .ok (.isub, 1) := by decide +kernel
theorem dL_law_132 : decode cL_law 132 = .ok (.goto 15, 3) := by decide +kernel
theorem dL_law_135 : decode cL_law 135 = .ok (.bipush 100, 2) := by decide +kernel
theorem dL_law_137 : decode cL_law 137 = .ok (.iload 8, 2) := by decide +kernel
theorem dL_law_139 : decode cL_law 139 = .ok (.iconst 5, 1) := by decide +kernel
theorem dL_law_140 : decode cL_law 140 = .ok (.ishr, 1) := by decide +kernel
theorem dL_law_141 : decode cL_law 141 = .ok (.bipush 8, 2) := by decide +kernel
theorem dL_law_143 : decode cL_law 143 = .ok (.invokestatic 140, 3) := by decide +kernel
theorem dL_law_146 : decode cL_law 146 = .ok (.iadd, 1) := by decide +kernel
theorem dL_law_147 : decode cL_law 147 = .ok (.iload 8, 2) := by decide +kernel
theorem dL_law_149 : decode cL_law 149 = .ok (.bipush 9, 2) := by decide +kernel
theorem dL_law_151 : decode cL_law 151 = .ok (.ishr, 1) := by decide +kernel
theorem dL_law_152 : decode cL_law 152 = .ok (.iconst 2, 1) := by decide +kernel
theorem dL_law_153 : decode cL_law 153 = .ok (.invokestatic 140, 3) := by decide +kernel
theorem dL_law_156 : decode cL_law 156 = .ok (.ifCond .ne 8, 3) := by decide +kernel
theorem dL_law_159 : decode cL_law 159 = .ok (.bipush 43, 2) := by decide +kernel
theorem dL_law_161 : decode cL_law 161 = .ok (.goto 5, 3) := by decide +kernel
theorem dL_law_164 : decode cL_law 164 = .ok (.bipush 45, 2) := by decide +kernel
theorem dL_law_166 : decode cL_law 166 = .ok (.iload 8, 2) := by decide +kernel
theorem dL_law_168 : decode cL_law 168 = .ok (.bipush 10, 2) := by decide +kernel
theorem dL_law_170 : decode cL_law 170 = .ok (.ishr, 1) := by decide +kernel
theorem dL_law_171 : decode cL_law 171 = .ok (.iconst 5, 1) := by decide +kernel
theorem dL_law_172 : decode cL_law 172 = .ok (.invokestatic 140, 3) := by decide +kernel
theorem dL_law_175 : decode cL_law 175 = .ok (.invokestatic 108, 3) := by decide +kernel
theorem dL_law_178 : decode cL_law 178 = .ok (.istore 15, 2) := by decide +kernel
theorem dL_law_180 : decode cL_law 180 = .ok (.iload 15, 2) := by decide +kernel
theorem dL_law_182 : decode cL_law 182 = .ok (.bipush 99, 2) := by decide +kernel
theorem dL_law_184 : decode cL_law 184 = .ok (.if_icmp .gt 11, 3) := by decide +kernel
theorem dL_law_187 : decode cL_law 187 = .ok (.iload 15, 2) := by decide +kernel
theorem dL_law_189 : decode cL_law 189 = .ok (.sipush (-1010), 3) := by decide +kernel
theorem dL_law_192 : decode cL_law 192 = .ok (.if_icmp .ge 5, 3) := by decide +kernel
theorem dL_law_195 : decode cL_law 195 = .ok (.iconst 0, 1) := by decide +kernel
theorem dL_law_196 : decode cL_law 196 = .ok (.ireturn, 1) := by decide +kernel
theorem dL_law_197 : decode cL_law 197 = .ok (.iload 15, 2) := by decide +kernel
theorem dL_law_199 : decode cL_law 199 = .ok (.sipush (-1000), 3) := by decide +kernel
theorem dL_law_202 : decode cL_law 202 = .ok (.if_icmp .ge 8, 3) := by decide +kernel
theorem dL_law_205 : decode cL_law 205 = .ok (.iload 15, 2) := by decide +kernel
theorem dL_law_207 : decode cL_law 207 = .ok (.goto 4, 3) := by decide +kernel
theorem dL_law_210 : decode cL_law 210 = .ok (.iconst 0, 1) := by decide +kernel
theorem dL_law_211 : decode cL_law 211 = .ok (.istore 15, 2) := by decide +kernel
theorem dL_law_213 : decode cL_law 213 = .ok (.goto 633, 3) := by decide +kernel
theorem dL_law_216 : decode cL_law 216 = .ok (.iload 10, 2) := by decide +kernel
theorem dL_law_218 : decode cL_law 218 = .ok (.bipush 11, 2) := by decide +kernel
theorem dL_law_220 : decode cL_law 220 = .ok (.if_icmp .ge 140, 3) := by decide +kernel
theorem dL_law_223 : decode cL_law 223 = .ok (.iload 6, 2) := by decide +kernel
theorem dL_law_225 : decode cL_law 225 = .ok (.iconst 2, 1) := by decide +kernel
theorem dL_law_226 : decode cL_law 226 = .ok (.if_icmp .ge 8, 3) := by decide +kernel
theorem dL_law_229 : decode cL_law 229 = .ok (.bipush 98, 2) := by decide +kernel
theorem dL_law_231 : decode cL_law 231 = .ok (.goto 17, 3) := by decide +kernel
theorem dL_law_234 : decode cL_law 234 = .ok (.ldc 146, 2) := by decide +kernel
theorem dL_law_236 : decode cL_law 236 = .ok (.iload 7, 2) := by decide +kernel
theorem dL_law_238 : decode cL_law 238 = .ok (.iconst 5, 1) := by decide +kernel
theorem dL_law_239 : decode cL_law 239 = .ok (.ishr, 1) := by decide +kernel
theorem dL_law_240 : decode cL_law 240 = .ok (.bipush 8, 2) := by decide +kernel
theorem dL_law_242 : decode cL_law 242 = .ok (.invokestatic 140, 3) := by decide +kernel
theorem dL_law_245 : decode cL_law 245 = .ok (.invokevirtual 148, 3) := by decide +kernel
theorem dL_law_248 : decode cL_law 248 = .ok (.istore 16, 2) := by decide +kernel
theorem dL_law_250 : decode cL_law 250 = .ok (.aload_n 1, 1) := by decide +kernel
theorem dL_law_251 : decode cL_law 251 = .ok (.iconst 2, 1) := by decide +kernel
theorem dL_law_252 : decode cL_law 252 = .ok (.iload 16, 2) := by decide +kernel
theorem dL_law_254 : decode cL_law 254 = .ok (.iload 16, 2) := by decide +kernel
theorem dL_law_256 : decode cL_law 256 = .ok (.bipush 101, 2) := by decide +kernel
theorem dL_law_258 : decode cL_law 258 = .ok (.if_icmp .ne 14, 3) := by decide +kernel
theorem dL_law_261 : decode cL_law 261 = .ok (.iload 8, 2) := by decide +kernel
theorem dL_law_263 : decode cL_law 263 = .ok (.iload_n 2, 1) := by decide +kernel
theorem dL_law_264 : decode cL_law 264 = .ok (.iconst 1, 1) := by decide +kernel
theorem dL_law_265 : decode cL_law 265 = .ok (.iadd, 1) := by decide +kernel
theorem dL_law_266 : decode cL_law 266 = .ok (.invokestatic 140, 3) := by decide +kernel
theorem dL_law_269 : decode cL_law 269 = .ok (.goto 26, 3) := by decide +kernel
theorem dL_law_272 : decode cL_law 272 = .ok (.iload 16, 2) := by decide +kernel
theorem dL_law_274 : decode cL_law 274 = .ok (.bipush 109, 2) := by decide +kernel
theorem dL_law_276 : decode cL_law 276 = .ok (.if_icmp .ne 12, 3) := by decide +kernel
theorem dL_law_279 : decode cL_law 279 = .ok (.iload 8, 2) := by decide +kernel
theorem dL_law_281 : decode cL_law 281 = .ok (.iconst 4, 1) := by decide +kernel
theorem dL_law_282 : decode cL_law 282 = .ok (.invokestatic 140, 3) := by decide +kernel
theorem dL_law_285 : decode cL_law 285 = .ok (.goto 10, 3) := by decide +kernel
theorem dL_law_288 : decode cL_law 288 = .ok (.iload 8, 2) := by decide +kernel
theorem dL_law_290 : decode cL_law 290 = .ok (.bipush 7, 2) := by decide +kernel
theorem dL_law_292 : decode cL_law 292 = .ok (.invokestatic 140, 3) := by decide +kernel
theorem dL_law_295 : decode cL_law 295 = .ok (.iload 8, 2) := by decide +kernel
theorem dL_law_297 : decode cL_law 297 = .ok (.iconst 4, 1) := by decide +kernel
theorem dL_law_298 : decode cL_law 298 = .ok (.ishr, 1) := by decide +kernel
theorem dL_law_299 : decode cL_law 299 = .ok (.bipush 7, 2) := by decide +kernel
theorem dL_law_301 : decode cL_law 301 = .ok (.invokestatic 140, 3) := by decide +kernel
theorem dL_law_304 : decode cL_law 304 = .ok (.iload 8, 2) := by decide +kernel
theorem dL_law_306 : decode cL_law 306 = .ok (.bipush 8, 2) := by decide +kernel
theorem dL_law_308 : decode cL_law 308 = .ok (.ishr, 1) := by decide +kernel
theorem dL_law_309 : decode cL_law 309 = .ok (.iconst 4, 1) := by decide +kernel
theorem dL_law_310 : decode cL_law 310 = .ok (.invokestatic 140, 3) := by decide +kernel
theorem dL_law_313 : decode cL_law 313 = .ok (.invokestatic 108, 3) := by decide +kernel
theorem dL_law_316 : decode cL_law 316 = .ok (.istore 15, 2) := by decide +kernel
theorem dL_law_318 : decode cL_law 318 = .ok (.iload 15, 2) := by decide +kernel
theorem dL_law_320 : decode cL_law 320 = .ok (.ifCond .lt 11, 3) := by decide +kernel
theorem dL_law_323 : decode cL_law 323 = .ok (.iload 15, 2) := by decide +kernel
theorem dL_law_325 : decode cL_law 325 = .ok (.iload_n 2, 1) := by decide +kernel
theorem dL_law_326 : decode cL_law 326 = .ok (.if_icmp .eq 5, 3) := by decide +kernel
theorem dL_law_329 : decode cL_law 329 = .ok (.iconst 0, 1) := by decide +kernel
theorem dL_law_330 : decode cL_law 330 = .ok (.ireturn, 1) := by decide +kernel
theorem dL_law_331 : decode cL_law 331 = .ok (.iload_n 2, 1) := by decide +kernel
theorem dL_law_332 : decode cL_law 332 = .ok (.iload 15, 2) := by decide +kernel
theorem dL_law_334 : decode cL_law 334 = .ok (.ifCond .lt 7, 3) := by decide +kernel
theorem dL_law_337 : decode cL_law 337 = .ok (.iconst 1, 1) := by decide +kernel
theorem dL_law_338 : decode cL_law 338 = .ok (.goto 4, 3) := by decide +kernel
theorem dL_law_341 : decode cL_law 341 = .ok (.iconst 0, 1) := by decide +kernel
theorem dL_law_342 : decode cL_law 342 = .ok (.iadd, 1) := by decide +kernel
theorem dL_law_343 : decode cL_law 343 = .ok (.istore_n 2, 1) := by decide +kernel
theorem dL_law_344 : decode cL_law 344 = .ok (.iload_n 3, 1) := by decide +kernel
theorem dL_law_345 : decode cL_law 345 = .ok (.iload 15, 2) := by decide +kernel
theorem dL_law_347 : decode cL_law 347 = .ok (.ifCond .lt 7, 3) := by decide +kernel
theorem dL_law_350 : decode cL_law 350 = .ok (.iconst 1, 1) := by decide +kernel
theorem dL_law_351 : decode cL_law 351 = .ok (.goto 4, 3) := by decide +kernel
theorem dL_law_354 : decode cL_law 354 = .ok (.iconst 0, 1) := by decide +kernel
theorem dL_law_355 : decode cL_law 355 = .ok (.iadd, 1) := by decide +kernel
theorem dL_law_356 : decode cL_law 356 = .ok (.istore_n 3, 1) := by decide +kernel
theorem dL_law_357 : decode cL_law 357 = .ok (.goto 489, 3) := by decide +kernel
theorem dL_law_360 : decode cL_law 360 = .ok (.iload 10, 2) := by decide +kernel
theorem dL_law_362 : decode cL_law 362 = .ok (.bipush 16, 2) := by decide +kernel
theorem dL_law_364 : decode cL_law 364 = .ok (.if_icmp .ge 46, 3) := by decide +kernel
theorem dL_law_367 : decode cL_law 367 = .ok (.aload_n 1, 1) := by decide +kernel
theorem dL_law_368 : decode cL_law 368 = .ok (.iconst 3, 1) := by decide +kernel
theorem dL_law_369 : decode cL_law 369 = .ok (.iload 9, 2) := by decide +kernel
theorem dL_law_371 : decode cL_law 371 = .ok (.iload 8, 2) := by decide +kernel
theorem dL_law_373 : decode cL_law 373 = .ok (.iconst 4, 1) := by decide +kernel
theorem dL_law_374 : decode cL_law 374 = .ok (.ishr, 1) := by decide +kernel
theorem dL_law_375 : decode cL_law 375 = .ok (.bipush 6, 2) := by decide +kernel
theorem dL_law_377 : decode cL_law 377 = .ok (.invokestatic 140, 3) := by decide +kernel
theorem dL_law_380 : decode cL_law 380 = .ok (.iconst 1, 1) := by decide +kernel
theorem dL_law_381 : decode cL_law 381 = .ok (.iload 8, 2) := by decide +kernel
theorem dL_law_383 : decode cL_law 383 = .ok (.bipush 7, 2) := by decide +kernel
theorem dL_law_385 : decode cL_law 385 = .ok (.ishr, 1) := by decide +kernel
theorem dL_law_386 : decode cL_law 386 = .ok (.iconst 5, 1) := by decide +kernel
theorem dL_law_387 : decode cL_law 387 = .ok (.invokestatic 140, 3) := by decide +kernel
theorem dL_law_390 : decode cL_law 390 = .ok (.iadd, 1) := by decide +kernel
theorem dL_law_391 : decode cL_law 391 = .ok (.iconst 1, 1) := by decide +kernel
theorem dL_law_392 : decode cL_law 392 = .ok (.iload 8, 2) := by decide +kernel
theorem dL_law_394 : decode cL_law 394 = .ok (.bipush 10, 2) := by decide +kernel
theorem dL_law_396 : decode cL_law 396 = .ok (.ishr, 1) := by decide +kernel
theorem dL_law_397 : decode cL_law 397 = .ok (.iconst 5, 1) := by decide +kernel
theorem dL_law_398 : decode cL_law 398 = .ok (.invokestatic 140, 3) := by decide +kernel
theorem dL_law_401 : decode cL_law 401 = .ok (.iadd, 1) := by decide +kernel
theorem dL_law_402 : decode cL_law 402 = .ok (.invokestatic 108, 3) := by decide +kernel
theorem dL_law_405 : decode cL_law 405 = .ok (.istore 15, 2) := by decide +kernel
theorem dL_law_407 : decode cL_law 407 = .ok (.goto 439, 3) := by decide +kernel
theorem dL_law_410 : decode cL_law 410 = .ok (.iload 10, 2) := by decide +kernel
theorem dL_law_412 : decode cL_law 412 = .ok (.bipush 18, 2) := by decide +kernel
theorem dL_law_414 : decode cL_law 414 = .ok (.if_icmp .ge 41, 3) := by decide +kernel
theorem dL_law_417 : decode cL_law 417 = .ok (.aload_n 1, 1) := by decide +kernel
theorem dL_law_418 : decode cL_law 418 = .ok (.iconst 4, 1) := by decide +kernel
theorem dL_law_419 : decode cL_law 419 = .ok (.iload 9, 2) := by decide +kernel
theorem dL_law_421 : decode cL_law 421 = .ok (.iconst 0, 1) := by decide +kernel
theorem dL_law_422 : decode cL_law 422 = .ok (.iconst 0, 1) := by decide +kernel
theorem dL_law_423 : decode cL_law 423 = .ok (.iconst 0, 1) := by decide +kernel
theorem dL_law_424 : decode cL_law 424 = .ok (.invokestatic 108, 3) := by decide +kernel
theorem dL_law_427 : decode cL_law 427 = .ok (.istore 15, 2) := by decide +kernel
theorem dL_law_429 : decode cL_law 429 = .ok (.iload_n 3, 1) := by decide +kernel
theorem dL_law_430 : decode cL_law 430 = .ok (.iload 15, 2) := by decide +kernel
theorem dL_law_432 : decode cL_law 432 = .ok (.ifCond .lt 7, 3) := by decide +kernel
theorem dL_law_435 : decode cL_law 435 = .ok (.iconst 1, 1) := by decide +kernel
theorem dL_law_436 : decode cL_law 436 = .ok (.goto 4, 3) := by decide +kernel
theorem dL_law_439 : decode cL_law 439 = .ok (.iconst 0, 1) := by decide +kernel
theorem dL_law_440 : decode cL_law 440 = .ok (.isub, 1) := by decide +kernel
theorem dL_law_441 : decode cL_law 441 = .ok (.istore_n 3, 1) := by decide +kernel
theorem dL_law_442 : decode cL_law 442 = .ok (.iload 15, 2) := by decide +kernel
theorem dL_law_444 : decode cL_law 444 = .ok (.ifCond .lt 402, 3) := by decide +kernel
theorem dL_law_447 : decode cL_law 447 = .ok (.iload 15, 2) := by decide +kernel
theorem dL_law_449 : decode cL_law 449 = .ok (.iload_n 3, 1) := by decide +kernel
theorem dL_law_450 : decode cL_law 450 = .ok (.if_icmp .eq 396, 3) := by decide +kernel
theorem dL_law_453 : decode cL_law 453 = .ok (.iconst 0, 1) := by decide +kernel
theorem dL_law_454 : decode cL_law 454 = .ok (.ireturn, 1) := by decide +kernel
theorem dL_law_455 : decode cL_law 455 = .ok (.iload 10, 2) := by decide +kernel
theorem dL_law_457 : decode cL_law 457 = .ok (.bipush 21, 2) := by decide +kernel
theorem dL_law_459 : decode cL_law 459 = .ok (.if_icmp .ge 55, 3) := by decide +kernel
theorem dL_law_462 : decode cL_law 462 = .ok (.iload 8, 2) := by decide +kernel
theorem dL_law_464 : decode cL_law 464 = .ok (.bipush 8, 2) := by decide +kernel
theorem dL_law_466 : decode cL_law 466 = .ok (.ishr, 1) := by decide +kernel
theorem dL_law_467 : decode cL_law 467 = .ok (.iload_n 3, 1) := by decide +kernel
theorem dL_law_468 : decode cL_law 468 = .ok (.iconst 1, 1) := by decide +kernel
theorem dL_law_469 : decode cL_law 469 = .ok (.iadd, 1) := by decide +kernel
theorem dL_law_470 : decode cL_law 470 = .ok (.invokestatic 140, 3) := by decide +kernel
theorem dL_law_473 : decode cL_law 473 = .ok (.istore 16, 2) := by decide +kernel
theorem dL_law_475 : decode cL_law 475 = .ok (.aload_n 1, 1) := by decide +kernel
theorem dL_law_476 : decode cL_law 476 = .ok (.iconst 5, 1) := by decide +kernel
theorem dL_law_477 : decode cL_law 477 = .ok (.iload 9, 2) := by decide +kernel
theorem dL_law_479 : decode cL_law 479 = .ok (.iload 16, 2) := by decide +kernel
theorem dL_law_481 : decode cL_law 481 = .ok (.iconst 0, 1) := by decide +kernel
theorem dL_law_482 : decode cL_law 482 = .ok (.iconst 0, 1) := by decide +kernel
theorem dL_law_483 : decode cL_law 483 = .ok (.invokestatic 108, 3) := by decide +kernel
theorem dL_law_486 : decode cL_law 486 = .ok (.istore 15, 2) := by decide +kernel
theorem dL_law_488 : decode cL_law 488 = .ok (.iload 15, 2) := by decide +kernel
theorem dL_law_490 : decode cL_law 490 = .ok (.ifCond .lt 21, 3) := by decide +kernel
theorem dL_law_493 : decode cL_law 493 = .ok (.aload_n 1, 1) := by decide +kernel
theorem dL_law_494 : decode cL_law 494 = .ok (.bipush 8, 2) := by decide +kernel
theorem dL_law_496 : decode cL_law 496 = .ok (.iload 9, 2) := by decide +kernel
theorem dL_law_498 : decode cL_law 498 = .ok (.iconst 0, 1) := by decide +kernel
theorem dL_law_499 : decode cL_law 499 = .ok (.iconst 0, 1) := by decide +kernel
theorem dL_law_500 : decode cL_law 500 = .ok (.iconst 0, 1) := by decide +kernel
theorem dL_law_501 : decode cL_law 501 = .ok (.invokestatic 108, 3) := by decide +kernel
theorem dL_law_504 : decode cL_law 504 = .ok (.iload 16, 2) := by decide +kernel
theorem dL_law_506 : decode cL_law 506 = .ok (.if_icmp .eq 5, 3) := by decide +kernel
theorem dL_law_509 : decode cL_law 509 = .ok (.iconst 0, 1) := by decide +kernel
theorem dL_law_510 : decode cL_law 510 = .ok (.ireturn, 1) := by decide +kernel
theorem dL_law_511 : decode cL_law 511 = .ok (.goto 335, 3) := by decide +kernel
theorem dL_law_514 : decode cL_law 514 = .ok (.iload 10, 2) := by decide +kernel
theorem dL_law_516 : decode cL_law 516 = .ok (.bipush 23, 2) := by decide +kernel
theorem dL_law_518 : decode cL_law 518 = .ok (.if_icmp .ge 69, 3) := by decide +kernel
theorem dL_law_521 : decode cL_law 521 = .ok (.aload_n 1, 1) := by decide +kernel
theorem dL_law_522 : decode cL_law 522 = .ok (.bipush 6, 2) := by decide +kernel
theorem dL_law_524 : decode cL_law 524 = .ok (.iload 9, 2) := by decide +kernel
theorem dL_law_526 : decode cL_law 526 = .ok (.iload 8, 2) := by decide +kernel
theorem dL_law_528 : decode cL_law 528 = .ok (.bipush 9, 2) := by decide +kernel
theorem dL_law_530 : decode cL_law 530 = .ok (.ishr, 1) := by decide +kernel
theorem dL_law_531 : decode cL_law 531 = .ok (.iconst 1, 1) := by decide +kernel
theorem dL_law_532 : decode cL_law 532 = .ok (.iand, 1) := by decide +kernel
theorem dL_law_533 : decode cL_law 533 = .ok (.iconst 0, 1) := by decide +kernel
theorem dL_law_534 : decode cL_law 534 = .ok (.iconst 0, 1) := by decide +kernel
theorem dL_law_535 : decode cL_law 535 = .ok (.invokestatic 108, 3) := by decide +kernel
theorem dL_law_538 : decode cL_law 538 = .ok (.istore 15, 2) := by decide +kernel
theorem dL_law_540 : decode cL_law 540 = .ok (.iload 15, 2) := by decide +kernel
theorem dL_law_542 : decode cL_law 542 = .ok (.ifCond .lt 304, 3) := by decide +kernel
theorem dL_law_545 : decode cL_law 545 = .ok (.aload_n 1, 1) := by decide +kernel
theorem dL_law_546 : decode cL_law 546 = .ok (.bipush 9, 2) := by decide +kernel
theorem dL_law_548 : decode cL_law 548 = .ok (.iload 9, 2) := by decide +kernel
theorem dL_law_550 : decode cL_law 550 = .ok (.iconst 0, 1) := by decide +kernel
theorem dL_law_551 : decode cL_law 551 = .ok (.iconst 0, 1) := by decide +kernel
theorem dL_law_552 : decode cL_law 552 = .ok (.iconst 0, 1) := by decide +kernel
theorem dL_law_553 : decode cL_law 553 = .ok (.invokestatic 108, 3) := by decide +kernel
theorem dL_law_556 : decode cL_law 556 = .ok (.bipush 111, 2) := by decide +kernel
theorem dL_law_558 : decode cL_law 558 = .ok (.if_icmp .ne 7, 3) := by decide +kernel
theorem dL_law_561 : decode cL_law 561 = .ok (.iconst 1, 1) := by decide +kernel
theorem dL_law_562 : decode cL_law 562 = .ok (.goto 4, 3) := by decide +kernel
theorem dL_law_565 : decode cL_law 565 = .ok (.iconst 0, 1) := by decide +kernel
theorem dL_law_566 : decode cL_law 566 = .ok (.iload 8, 2) := by decide +kernel
theorem dL_law_568 : decode cL_law 568 = .ok (.bipush 9, 2) := by decide +kernel
theorem dL_law_570 : decode cL_law 570 = .ok (.ishr, 1) := by decide +kernel
theorem dL_law_571 : decode cL_law 571 = .ok (.iconst 1, 1) := by decide +kernel
theorem dL_law_572 : decode cL_law 572 = .ok (.iand, 1) := by decide +kernel
theorem dL_law_573 : decode cL_law 573 = .ok (.iconst 1, 1) := by decide +kernel
theorem dL_law_574 : decode cL_law 574 = .ok (.if_icmp .ne 7, 3) := by decide +kernel
theorem dL_law_577 : decode cL_law 577 = .ok (.iconst 1, 1) := by decide +kernel
theorem dL_law_578 : decode cL_law 578 = .ok (.goto 4, 3) := by decide +kernel
theorem dL_law_581 : decode cL_law 581 = .ok (.iconst 0, 1) := by decide +kernel
theorem dL_law_582 : decode cL_law 582 = .ok (.if_icmp .eq 264, 3) := by decide +kernel
theorem dL_law_585 : decode cL_law 585 = .ok (.iconst 0, 1) := by decide +kernel
theorem dL_law_586 : decode cL_law 586 = .ok (.ireturn, 1) := by decide +kernel
theorem dL_law_587 : decode cL_law 587 = .ok (.iload 10, 2) := by decide +kernel
theorem dL_law_589 : decode cL_law 589 = .ok (.bipush 25, 2) := by decide +kernel
theorem dL_law_591 : decode cL_law 591 = .ok (.if_icmp .ge 25, 3) := by decide +kernel
theorem dL_law_594 : decode cL_law 594 = .ok (.aload_n 1, 1) := by decide +kernel
theorem dL_law_595 : decode cL_law 595 = .ok (.bipush 7, 2) := by decide +kernel
theorem dL_law_597 : decode cL_law 597 = .ok (.iload 8, 2) := by decide +kernel
theorem dL_law_599 : decode cL_law 599 = .ok (.iload_n 3, 1) := by decide +kernel
theorem dL_law_600 : decode cL_law 600 = .ok (.iconst 2, 1) := by decide +kernel
theorem dL_law_601 : decode cL_law 601 = .ok (.iadd, 1) := by decide +kernel
theorem dL_law_602 : decode cL_law 602 = .ok (.invokestatic 140, 3) := by decide +kernel
theorem dL_law_605 : decode cL_law 605 = .ok (.iconst 0, 1) := by decide +kernel
theorem dL_law_606 : decode cL_law 606 = .ok (.iconst 0, 1) := by decide +kernel
theorem dL_law_607 : decode cL_law 607 = .ok (.iconst 0, 1) := by decide +kernel
theorem dL_law_608 : decode cL_law 608 = .ok (.invokestatic 108, 3) := by decide +kernel
theorem dL_law_611 : decode cL_law 611 = .ok (.istore 15, 2) := by decide +kernel
theorem dL_law_613 : decode cL_law 613 = .ok (.goto 233, 3) := by decide +kernel
theorem dL_law_616 : decode cL_law 616 = .ok (.iload 10, 2) := by decide +kernel
theorem dL_law_618 : decode cL_law 618 = .ok (.bipush 27, 2) := by decide +kernel
theorem dL_law_620 : decode cL_law 620 = .ok (.if_icmp .ge 51, 3) := by decide +kernel
theorem dL_law_623 : decode cL_law 623 = .ok (.aload_n 1, 1) := by decide +kernel
theorem dL_law_624 : decode cL_law 624 = .ok (.bipush 14, 2) := by decide +kernel
theorem dL_law_626 : decode cL_law 626 = .ok (.iload 8, 2) := by decide +kernel
theorem dL_law_628 : decode cL_law 628 = .ok (.bipush 44, 2) := by decide +kernel
theorem dL_law_630 : decode cL_law 630 = .ok (.invokestatic 140, 3) := by decide +kernel
theorem dL_law_633 : decode cL_law 633 = .ok (.bipush 22, 2) := by decide +kernel
theorem dL_law_635 : decode cL_law 635 = .ok (.isub, 1) := by decide +kernel
theorem dL_law_636 : decode cL_law 636 = .ok (.iload 8, 2) := by decide +kernel
theorem dL_law_638 : decode cL_law 638 = .ok (.bipush 6, 2) := by decide +kernel
theorem dL_law_640 : decode cL_law 640 = .ok (.ishr, 1) := by decide +kernel
theorem dL_law_641 : decode cL_law 641 = .ok (.bipush 6, 2) := by decide +kernel
theorem dL_law_643 : decode cL_law 643 = .ok (.invokestatic 140, 3) := by decide +kernel
theorem dL_law_646 : decode cL_law 646 = .ok (.iconst 0, 1) := by decide +kernel
theorem dL_law_647 : decode cL_law 647 = .ok (.iconst 0, 1) := by decide +kernel
theorem dL_law_648 : decode cL_law 648 = .ok (.invokestatic 108, 3) := by decide +kernel
theorem dL_law_651 : decode cL_law 651 = .ok (.istore 15, 2) := by decide +kernel
theorem dL_law_653 : decode cL_law 653 = .ok (.iload 4, 2) := by decide +kernel
theorem dL_law_655 : decode cL_law 655 = .ok (.iload 15, 2) := by decide +kernel
theorem dL_law_657 : decode cL_law 657 = .ok (.ifCond .lt 7, 3) := by decide +kernel
theorem dL_law_660 : decode cL_law 660 = .ok (.iconst 1, 1) := by decide +kernel
theorem dL_law_661 : decode cL_law 661 = .ok (.goto 4, 3) := by decide +kernel
theorem dL_law_664 : decode cL_law 664 = .ok (.iconst 0, 1) := by decide +kernel
theorem dL_law_665 : decode cL_law 665 = .ok (.iadd, 1) := by decide +kernel
theorem dL_law_666 : decode cL_law 666 = .ok (.istore 4, 2) := by decide +kernel
theorem dL_law_668 : decode cL_law 668 = .ok (.goto 178, 3) := by decide +kernel
theorem dL_law_671 : decode cL_law 671 = .ok (.iload 10, 2) := by decide +kernel
theorem dL_law_673 : decode cL_law 673 = .ok (.bipush 30, 2) := by decide +kernel
theorem dL_law_675 : decode cL_law 675 = .ok (.if_icmp .ge 133, 3) := by decide +kernel
theorem dL_law_678 : decode cL_law 678 = .ok (.iload 8, 2) := by decide +kernel
theorem dL_law_680 : decode cL_law 680 = .ok (.iconst 3, 1) := by decide +kernel
theorem dL_law_681 : decode cL_law 681 = .ok (.invokestatic 140, 3) := by decide +kernel
theorem dL_law_684 : decode cL_law 684 = .ok (.istore 16, 2) := by decide +kernel
theorem dL_law_686 : decode cL_law 686 = .ok (.iload 8, 2) := by decide +kernel
theorem dL_law_688 : decode cL_law 688 = .ok (.iconst 2, 1) := by decide +kernel
theorem dL_law_689 : decode cL_law 689 = .ok (.ishr, 1) := by decide +kernel
theorem dL_law_690 : decode cL_law 690 = .ok (.iload 4, 2) := by decide +kernel
theorem dL_law_692 : decode cL_law 692 = .ok (.iconst 1, 1) := by decide +kernel
theorem dL_law_693 : decode cL_law 693 = .ok (.iadd, 1) := by decide +kernel
theorem dL_law_694 : decode cL_law 694 = .ok (.invokestatic 140, 3) := by decide +kernel
theorem dL_law_697 : decode cL_law 697 = .ok (.istore 17, 2) := by decide +kernel
theorem dL_law_699 : decode cL_law 699 = .ok (.iload 8, 2) := by decide +kernel
theorem dL_law_701 : decode cL_law 701 = .ok (.iconst 5, 1) := by decide +kernel
theorem dL_law_702 : decode cL_law 702 = .ok (.ishr, 1) := by decide +kernel
theorem dL_law_703 : decode cL_law 703 = .ok (.iload 4, 2) := by decide +kernel
theorem dL_law_705 : decode cL_law 705 = .ok (.iconst 1, 1) := by decide +kernel
theorem dL_law_706 : decode cL_law 706 = .ok (.iadd, 1) := by decide +kernel
theorem dL_law_707 : decode cL_law 707 = .ok (.invokestatic 140, 3) := by decide +kernel
theorem dL_law_710 : decode cL_law 710 = .ok (.iconst 1, 1) := by decide +kernel
theorem dL_law_711 : decode cL_law 711 = .ok (.isub, 1) := by decide +kernel
theorem dL_law_712 : decode cL_law 712 = .ok (.istore 18, 2) := by decide +kernel
theorem dL_law_714 : decode cL_law 714 = .ok (.iload 8, 2) := by decide +kernel
theorem dL_law_716 : decode cL_law 716 = .ok (.bipush 9, 2) := by decide +kernel
theorem dL_law_718 : decode cL_law 718 = .ok (.ishr, 1) := by decide +kernel
theorem dL_law_719 : decode cL_law 719 = .ok (.bipush 9, 2) := by decide +kernel
theorem dL_law_721 : decode cL_law 721 = .ok (.invokestatic 140, 3) := by decide +kernel
theorem dL_law_724 : decode cL_law 724 = .ok (.iconst 4, 1) := by decide +kernel
theorem dL_law_725 : decode cL_law 725 = .ok (.isub, 1) := by decide +kernel
theorem dL_law_726 : decode cL_law 726 = .ok (.istore 19, 2) := by decide +kernel
theorem dL_law_728 : decode cL_law 728 = .ok (.aload_n 1, 1) := by decide +kernel
theorem dL_law_729 : decode cL_law 729 = .ok (.bipush 16, 2) := by decide +kernel
theorem dL_law_731 : decode cL_law 731 = .ok (.iload 16, 2) := by decide +kernel
theorem dL_law_733 : decode cL_law 733 = .ok (.iload 17, 2) := by decide +kernel
theorem dL_law_735 : decode cL_law 735 = .ok (.iload 18, 2) := by decide +kernel
theorem dL_law_737 : decode cL_law 737 = .ok (.iload 19, 2) := by decide +kernel
theorem dL_law_739 : decode cL_law 739 = .ok (.invokestatic 108, 3) := by decide +kernel
theorem dL_law_742 : decode cL_law 742 = .ok (.istore 15, 2) := by decide +kernel
theorem dL_law_744 : decode cL_law 744 = .ok (.iload 15, 2) := by decide +kernel
theorem dL_law_746 : decode cL_law 746 = .ok (.ifCond .lt 44, 3) := by decide +kernel
theorem dL_law_749 : decode cL_law 749 = .ok (.aload_n 1, 1) := by decide +kernel
theorem dL_law_750 : decode cL_law 750 = .ok (.bipush 18, 2) := by decide +kernel
theorem dL_law_752 : decode cL_law 752 = .ok (.iload 17, 2) := by decide +kernel
theorem dL_law_754 : decode cL_law 754 = .ok (.iload 16, 2) := by decide +kernel
theorem dL_law_756 : decode cL_law 756 = .ok (.iconst 0, 1) := by decide +kernel
theorem dL_law_757 : decode cL_law 757 = .ok (.iconst 0, 1) := by decide +kernel
theorem dL_law_758 : decode cL_law 758 = .ok (.invokestatic 108, 3) := by decide +kernel
theorem dL_law_761 : decode cL_law 761 = .ok (.iload 18, 2) := by decide +kernel
theorem dL_law_763 : decode cL_law 763 = .ok (.ifCond .ge 7, 3) := by decide +kernel
theorem dL_law_766 : decode cL_law 766 = .ok (.iconst 0, 1) := by decide +kernel
theorem dL_law_767 : decode cL_law 767 = .ok (.goto 15, 3) := by decide +kernel
theorem dL_law_770 : decode cL_law 770 = .ok (.aload_n 1, 1) := by decide +kernel
theorem dL_law_771 : decode cL_law 771 = .ok (.bipush 18, 2) := by decide +kernel
theorem dL_law_773 : decode cL_law 773 = .ok (.iload 18, 2) := by decide +kernel
theorem dL_law_775 : decode cL_law 775 = .ok (.iload 16, 2) := by decide +kernel
theorem dL_law_777 : decode cL_law 777 = .ok (.iconst 0, 1) := by decide +kernel
theorem dL_law_778 : decode cL_law 778 = .ok (.iconst 0, 1) := by decide +kernel
theorem dL_law_779 : decode cL_law 779 = .ok (.invokestatic 108, 3) := by decide +kernel
theorem dL_law_782 : decode cL_law 782 = .ok (.isub, 1) := by decide +kernel
theorem dL_law_783 : decode cL_law 783 = .ok (.iload 19, 2) := by decide +kernel
theorem dL_law_785 : decode cL_law 785 = .ok (.if_icmp .eq 5, 3) := by decide +kernel
theorem dL_law_788 : decode cL_law 788 = .ok (.iconst 0, 1) := by decide +kernel
theorem dL_law_789 : decode cL_law 789 = .ok (.ireturn, 1) := by decide +kernel
theorem dL_law_790 : decode cL_law 790 = .ok (.iload 5, 2) := by decide +kernel
theorem dL_law_792 : decode cL_law 792 = .ok (.iload 15, 2) := by decide +kernel
theorem dL_law_794 : decode cL_law 794 = .ok (.ifCond .lt 7, 3) := by decide +kernel
theorem dL_law_797 : decode cL_law 797 = .ok (.iconst 1, 1) := by decide +kernel
theorem dL_law_798 : decode cL_law 798 = .ok (.goto 4, 3) := by decide +kernel
theorem dL_law_801 : decode cL_law 801 = .ok (.iconst 0, 1) := by decide +kernel
theorem dL_law_802 : decode cL_law 802 = .ok (.iadd, 1) := by decide +kernel
theorem dL_law_803 : decode cL_law 803 = .ok (.istore 5, 2) := by decide +kernel
theorem dL_law_805 : decode cL_law 805 = .ok (.goto 41, 3) := by decide +kernel
theorem dL_law_808 : decode cL_law 808 = .ok (.aload_n 1, 1) := by decide +kernel
theorem dL_law_809 : decode cL_law 809 = .ok (.bipush 17, 2) := by decide +kernel
theorem dL_law_811 : decode cL_law 811 = .ok (.iload 8, 2) := by decide +kernel
theorem dL_law_813 : decode cL_law 813 = .ok (.iload 4, 2) := by decide +kernel
theorem dL_law_815 : decode cL_law 815 = .ok (.iconst 1, 1) := by decide +kernel
theorem dL_law_816 : decode cL_law 816 = .ok (.iadd, 1) := by decide +kernel
theorem dL_law_817 : decode cL_law 817 = .ok (.invokestatic 140, 3) := by decide +kernel
theorem dL_law_820 : decode cL_law 820 = .ok (.iload 8, 2) := by decide +kernel
theorem dL_law_822 : decode cL_law 822 = .ok (.iconst 4, 1) := by decide +kernel
theorem dL_law_823 : decode cL_law 823 = .ok (.ishr, 1) := by decide +kernel
theorem dL_law_824 : decode cL_law 824 = .ok (.iconst 4, 1) := by decide +kernel
theorem dL_law_825 : decode cL_law 825 = .ok (.invokestatic 140, 3) := by decide +kernel
theorem dL_law_828 : decode cL_law 828 = .ok (.iload 8, 2) := by decide +kernel
theorem dL_law_830 : decode cL_law 830 = .ok (.bipush 7, 2) := by decide +kernel
theorem dL_law_832 : decode cL_law 832 = .ok (.ishr, 1) := by decide +kernel
theorem dL_law_833 : decode cL_law 833 = .ok (.bipush 11, 2) := by decide +kernel
theorem dL_law_835 : decode cL_law 835 = .ok (.invokestatic 140, 3) := by decide +kernel
theorem dL_law_838 : decode cL_law 838 = .ok (.iconst 5, 1) := by decide +kernel
theorem dL_law_839 : decode cL_law 839 = .ok (.isub, 1) := by decide +kernel
theorem dL_law_840 : decode cL_law 840 = .ok (.iconst 0, 1) := by decide +kernel
theorem dL_law_841 : decode cL_law 841 = .ok (.invokestatic 108, 3) := by decide +kernel
theorem dL_law_844 : decode cL_law 844 = .ok (.istore 15, 2) := by decide +kernel
theorem dL_law_846 : decode cL_law 846 = .ok (.iload 15, 2) := by decide +kernel
theorem dL_law_848 : decode cL_law 848 = .ok (.ifCond .ge 16, 3) := by decide +kernel
theorem dL_law_851 : decode cL_law 851 = .ok (.aload_n 1, 1) := by decide +kernel
theorem dL_law_852 : decode cL_law 852 = .ok (.iload_n 2, 1) := by decide +kernel
theorem dL_law_853 : decode cL_law 853 = .ok (.iload 4, 2) := by decide +kernel
theorem dL_law_855 : decode cL_law 855 = .ok (.invokestatic 143, 3) := by decide +kernel
theorem dL_law_858 : decode cL_law 858 = .ok (.lload 11, 2) := by decide +kernel
theorem dL_law_860 : decode cL_law 860 = .ok (.lcmp, 1) := by decide +kernel
theorem dL_law_861 : decode cL_law 861 = .ok (.ifCond .ne 36, 3) := by decide +kernel
theorem dL_law_864 : decode cL_law 864 = .ok (.aload_n 1, 1) := by decide +kernel
theorem dL_law_865 : decode cL_law 865 = .ok (.invokevirtual 121, 3) := by decide +kernel
theorem dL_law_868 : decode cL_law 868 = .ok (.lload 13, 2) := by decide +kernel
theorem dL_law_870 : decode cL_law 870 = .ok (.lcmp, 1) := by decide +kernel
theorem dL_law_871 : decode cL_law 871 = .ok (.ifCond .lt 26, 3) := by decide +kernel
theorem dL_law_874 : decode cL_law 874 = .ok (.aload_n 1, 1) := by decide +kernel
theorem dL_law_875 : decode cL_law 875 = .ok (.invokevirtual 125, 3) := by decide +kernel
theorem dL_law_878 : decode cL_law 878 = .ok (.iconst 3, 1) := by decide +kernel
theorem dL_law_879 : decode cL_law 879 = .ok (.iload 4, 2) := by decide +kernel
theorem dL_law_881 : decode cL_law 881 = .ok (.imul, 1) := by decide +kernel
theorem dL_law_882 : decode cL_law 882 = .ok (.iload 5, 2) := by decide +kernel
theorem dL_law_884 : decode cL_law 884 = .ok (.isub, 1) := by decide +kernel
theorem dL_law_885 : decode cL_law 885 = .ok (.if_icmp .ne 12, 3) := by decide +kernel
theorem dL_law_888 : decode cL_law 888 = .ok (.aload_n 1, 1) := by decide +kernel
theorem dL_law_889 : decode cL_law 889 = .ok (.iload_n 2, 1) := by decide +kernel
theorem dL_law_890 : decode cL_law 890 = .ok (.iload_n 3, 1) := by decide +kernel
theorem dL_law_891 : decode cL_law 891 = .ok (.invokestatic 153, 3) := by decide +kernel
theorem dL_law_894 : decode cL_law 894 = .ok (.ifCond .ne 5, 3) := by decide +kernel
theorem dL_law_897 : decode cL_law 897 = .ok (.iconst 0, 1) := by decide +kernel
theorem dL_law_898 : decode cL_law 898 = .ok (.ireturn, 1) := by decide +kernel
theorem dL_law_899 : decode cL_law 899 = .ok (.iinc 6 1, 3) := by decide +kernel
theorem dL_law_902 : decode cL_law 902 = .ok (.goto (-881), 3) := by decide +kernel
theorem dL_law_905 : decode cL_law 905 = .ok (.aload_n 1, 1) := by decide +kernel
theorem dL_law_906 : decode cL_law 906 = .ok (.bipush 8, 2) := by decide +kernel
theorem dL_law_908 : decode cL_law 908 = .ok (.iload_n 2, 1) := by decide +kernel
theorem dL_law_909 : decode cL_law 909 = .ok (.iconst 0, 1) := by decide +kernel
theorem dL_law_910 : decode cL_law 910 = .ok (.iconst 0, 1) := by decide +kernel
theorem dL_law_911 : decode cL_law 911 = .ok (.iconst 0, 1) := by decide +kernel
theorem dL_law_912 : decode cL_law 912 = .ok (.invokestatic 108, 3) := by decide +kernel
theorem dL_law_915 : decode cL_law 915 = .ok (.sipush (-1005), 3) := by decide +kernel
theorem dL_law_918 : decode cL_law 918 = .ok (.if_icmp .ne 74, 3) := by decide +kernel
theorem dL_law_921 : decode cL_law 921 = .ok (.aload_n 1, 1) := by decide +kernel
theorem dL_law_922 : decode cL_law 922 = .ok (.iconst 1, 1) := by decide +kernel
theorem dL_law_923 : decode cL_law 923 = .ok (.bipush 8, 2) := by decide +kernel
theorem dL_law_925 : decode cL_law 925 = .ok (.iconst 0, 1) := by decide +kernel
theorem dL_law_926 : decode cL_law 926 = .ok (.iconst 0, 1) := by decide +kernel
theorem dL_law_927 : decode cL_law 927 = .ok (.iconst 0, 1) := by decide +kernel
theorem dL_law_928 : decode cL_law 928 = .ok (.invokestatic 108, 3) := by decide +kernel
theorem dL_law_931 : decode cL_law 931 = .ok (.sipush (-1002), 3) := by decide +kernel
theorem dL_law_934 : decode cL_law 934 = .ok (.if_icmp .ne 58, 3) := by decide +kernel
theorem dL_law_937 : decode cL_law 937 = .ok (.aload_n 1, 1) := by decide +kernel
theorem dL_law_938 : decode cL_law 938 = .ok (.bipush 13, 2) := by decide +kernel
theorem dL_law_940 : decode cL_law 940 = .ok (.iconst 0, 1) := by decide +kernel
theorem dL_law_941 : decode cL_law 941 = .ok (.bipush 6, 2) := by decide +kernel
theorem dL_law_943 : decode cL_law 943 = .ok (.iconst 0, 1) := by decide +kernel
theorem dL_law_944 : decode cL_law 944 = .ok (.iconst 0, 1) := by decide +kernel
theorem dL_law_945 : decode cL_law 945 = .ok (.invokestatic 108, 3) := by decide +kernel
theorem dL_law_948 : decode cL_law 948 = .ok (.sipush (-1002), 3) := by decide +kernel
theorem dL_law_951 : decode cL_law 951 = .ok (.if_icmp .ne 41, 3) := by decide +kernel
theorem dL_law_954 : decode cL_law 954 = .ok (.aload_n 1, 1) := by decide +kernel
theorem dL_law_955 : decode cL_law 955 = .ok (.bipush 12, 2) := by decide +kernel
theorem dL_law_957 : decode cL_law 957 = .ok (.bipush 8, 2) := by decide +kernel
theorem dL_law_959 : decode cL_law 959 = .ok (.iconst 0, 1) := by decide +kernel
theorem dL_law_960 : decode cL_law 960 = .ok (.iconst 0, 1) := by decide +kernel
theorem dL_law_961 : decode cL_law 961 = .ok (.iconst 0, 1) := by decide +kernel
theorem dL_law_962 : decode cL_law 962 = .ok (.invokestatic 108, 3) := by decide +kernel
theorem dL_law_965 : decode cL_law 965 = .ok (.sipush (-1001), 3) := by decide +kernel
theorem dL_law_968 : decode cL_law 968 = .ok (.if_icmp .ne 24, 3) := by decide +kernel
theorem dL_law_971 : decode cL_law 971 = .ok (.aload_n 1, 1) := by decide +kernel
theorem dL_law_972 : decode cL_law 972 = .ok (.bipush 12, 2) := by decide +kernel
theorem dL_law_974 : decode cL_law 974 = .ok (.iconst 0, 1) := by decide +kernel
theorem dL_law_975 : decode cL_law 975 = .ok (.iconst 0, 1) := by decide +kernel
theorem dL_law_976 : decode cL_law 976 = .ok (.iconst 0, 1) := by decide +kernel
theorem dL_law_977 : decode cL_law 977 = .ok (.bipush 6, 2) := by decide +kernel
theorem dL_law_979 : decode cL_law 979 = .ok (.invokestatic 108, 3) := by decide +kernel
theorem dL_law_982 : decode cL_law 982 = .ok (.sipush (-1002), 3) := by decide +kernel
theorem dL_law_985 : decode cL_law 985 = .ok (.if_icmp .ne 7, 3) := by decide +kernel
theorem dL_law_988 : decode cL_law 988 = .ok (.iconst 1, 1) := by decide +kernel
theorem dL_law_989 : decode cL_law 989 = .ok (.goto 4, 3) := by decide +kernel
theorem dL_law_992 : decode cL_law 992 = .ok (.iconst 0, 1) := by decide +kernel
theorem dL_law_993 : decode cL_law 993 = .ok (.ireturn, 1) := by decide +kernel
