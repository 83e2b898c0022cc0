theorem dX0_init_0 : decode cX0_init 0 = .ok (.aload_n 0, 1) := by decide +kernel
theorem dX0_init_1 : decode cX0_init 1 = .ok (.invokespecial 3, 3) := by decide +kernel
theorem dX0_init_4 : decode cX0_init 4 = .ok (.aload_n 0, 1) := by decide +kernel
theorem dX0_init_5 : decode cX0_init 5 = .ok (.new 9, 3) := by decide +kernel
theorem dX0_init_8 : decode cX0_init 8 = .ok (.dup, 1) := by decide +kernel
theorem dX0_init_9 : decode cX0_init 9 = .ok (.invokespecial 11, 3) := by decide +kernel
theorem dX0_init_12 : decode cX0_init 12 = .ok (.putfield 12, 3) := by decide +kernel
theorem dX0_init_15 : decode cX0_init 15 = .ok (.aload_n 0, 1) := by decide +kernel
theorem dX0_init_16 : decode cX0_init 16 = .ok (.sipush 288, 3) := by decide +kernel
theorem dX0_init_19 : decode cX0_init 19 = .ok (.newarray .long, 2) := by decide +kernel
theorem dX0_init_21 : decode cX0_init 21 = .ok (.putfield 18, 3) := by decide +kernel
theorem dX0_init_24 : decode cX0_init 24 = .ok (.return_, 1) := by decide +kernel
theorem dX0_clear_0 : decode cX0_clear 0 = .ok (.aload_n 0, 1) := by decide +kernel
theorem dX0_clear_1 : decode cX0_clear 1 = .ok (.getfield 12, 3) := by decide +kernel
theorem dX0_clear_4 : decode cX0_clear 4 = .ok (.invokevirtual 22, 3) := by decide +kernel
theorem dX0_clear_7 : decode cX0_clear 7 = .ok (.iconst 0, 1) := by decide +kernel
theorem dX0_clear_8 : decode cX0_clear 8 = .ok (.istore_n 1, 1) := by decide +kernel
theorem dX0_clear_9 : decode cX0_clear 9 = .ok (.iload_n 1, 1) := by decide +kernel
theorem dX0_clear_10 : decode cX0_clear 10 = .ok (.sipush 288, 3) := by decide +kernel
theorem dX0_clear_13 : decode cX0_clear 13 = .ok (.if_icmp .ge 16, 3) := by decide +kernel
theorem dX0_clear_16 : decode cX0_clear 16 = .ok (.aload_n 0, 1) := by decide +kernel
theorem dX0_clear_17 : decode cX0_clear 17 = .ok (.getfield 18, 3) := by decide +kernel
theorem dX0_clear_20 : decode cX0_clear 20 = .ok (.iload_n 1, 1) := by decide +kernel
theorem dX0_clear_21 : decode cX0_clear 21 = .ok (.lconst 0, 1) := by decide +kernel
theorem dX0_clear_22 : decode cX0_clear 22 = .ok (.lastore, 1) := by decide +kernel
theorem dX0_clear_23 : decode cX0_clear 23 = .ok (.iinc 1 1, 3) := by decide +kernel
theorem dX0_clear_26 : decode cX0_clear 26 = .ok (.goto (-17), 3) := by decide +kernel
theorem dX0_clear_29 : decode cX0_clear 29 = .ok (.return_, 1) := by decide +kernel
theorem dX0_copyFrom_0 : decode cX0_copyFrom 0 = .ok (.aload_n 0, 1) := by decide +kernel
theorem dX0_copyFrom_1 : decode cX0_copyFrom 1 = .ok (.getfield 12, 3) := by decide +kernel
theorem dX0_copyFrom_4 : decode cX0_copyFrom 4 = .ok (.aload_n 1, 1) := by decide +kernel
theorem dX0_copyFrom_5 : decode cX0_copyFrom 5 = .ok (.getfield 12, 3) := by decide +kernel
theorem dX0_copyFrom_8 : decode cX0_copyFrom 8 = .ok (.invokevirtual 25, 3) := by decide +kernel
theorem dX0_copyFrom_11 : decode cX0_copyFrom 11 = .ok (.aload_n 1, 1) := by decide +kernel
theorem dX0_copyFrom_12 : decode cX0_copyFrom 12 = .ok (.getfield 18, 3) := by decide +kernel
theorem dX0_copyFrom_15 : decode cX0_copyFrom 15 = .ok (.iconst 0, 1) := by decide +kernel
theorem dX0_copyFrom_16 : decode cX0_copyFrom 16 = .ok (.aload_n 0, 1) := by decide +kernel
theorem dX0_copyFrom_17 : decode cX0_copyFrom 17 = .ok (.getfield 18, 3) := by decide +kernel
theorem dX0_copyFrom_20 : decode cX0_copyFrom 20 = .ok (.iconst 0, 1) := by decide +kernel
theorem dX0_copyFrom_21 : decode cX0_copyFrom 21 = .ok (.sipush 288, 3) := by decide +kernel
theorem dX0_copyFrom_24 : decode cX0_copyFrom 24 = .ok (.invokestatic 29, 3) := by decide +kernel
theorem dX0_copyFrom_27 : decode cX0_copyFrom 27 = .ok (.return_, 1) := by decide +kernel
theorem dX0_indexOf_0 : decode cX0_indexOf 0 = .ok (.iload_n 0, 1) := by decide +kernel
theorem dX0_indexOf_1 : decode cX0_indexOf 1 = .ok (.bipush 6, 2) := by decide +kernel
theorem dX0_indexOf_3 : decode cX0_indexOf 3 = .ok (.imul, 1) := by decide +kernel
theorem dX0_indexOf_4 : decode cX0_indexOf 4 = .ok (.iload_n 1, 1) := by decide +kernel
theorem dX0_indexOf_5 : decode cX0_indexOf 5 = .ok (.iadd, 1) := by decide +kernel
theorem dX0_indexOf_6 : decode cX0_indexOf 6 = .ok (.bipush 8, 2) := by decide +kernel
theorem dX0_indexOf_8 : decode cX0_indexOf 8 = .ok (.imul, 1) := by decide +kernel
theorem dX0_indexOf_9 : decode cX0_indexOf 9 = .ok (.iload_n 2, 1) := by decide +kernel
theorem dX0_indexOf_10 : decode cX0_indexOf 10 = .ok (.iadd, 1) := by decide +kernel
theorem dX0_indexOf_11 : decode cX0_indexOf 11 = .ok (.ireturn, 1) := by decide +kernel
theorem dX0_nameSquares_0 : decode cX0_nameSquares 0 = .ok (.iconst 0, 1) := by decide +kernel
theorem dX0_nameSquares_1 : decode cX0_nameSquares 1 = .ok (.istore_n 3, 1) := by decide +kernel
theorem dX0_nameSquares_2 : decode cX0_nameSquares 2 = .ok (.iload_n 3, 1) := by decide +kernel
theorem dX0_nameSquares_3 : decode cX0_nameSquares 3 = .ok (.bipush 6, 2) := by decide +kernel
theorem dX0_nameSquares_5 : decode cX0_nameSquares 5 = .ok (.if_icmp .ge 123, 3) := by decide +kernel
theorem dX0_nameSquares_8 : decode cX0_nameSquares 8 = .ok (.iconst 0, 1) := by decide +kernel
theorem dX0_nameSquares_9 : decode cX0_nameSquares 9 = .ok (.istore 4, 2) := by decide +kernel
theorem dX0_nameSquares_11 : decode cX0_nameSquares 11 = .ok (.iload 4, 2) := by decide +kernel
theorem dX0_nameSquares_13 : decode cX0_nameSquares 13 = .ok (.bipush 8, 2) := by decide +kernel
theorem dX0_nameSquares_15 : decode cX0_nameSquares 15 = .ok (.if_icmp .ge 107, 3) := by decide +kernel
theorem dX0_nameSquares_18 : decode cX0_nameSquares 18 = .ok (.aload_n 1, 1) := by decide +kernel
theorem dX0_nameSquares_19 : decode cX0_nameSquares 19 = .ok (.getfield 12, 3) := by decide +kernel
theorem dX0_nameSquares_22 : decode cX0_nameSquares 22 = .ok (.iload_n 3, 1) := by decide +kernel
theorem dX0_nameSquares_23 : decode cX0_nameSquares 23 = .ok (.iload 4, 2) := by decide +kernel
theorem dX0_nameSquares_25 : decode cX0_nameSquares 25 = .ok (.invokevirtual 35, 3) := by decide +kernel
theorem dX0_nameSquares_28 : decode cX0_nameSquares 28 = .ok (.lstore 5, 2) := by decide +kernel
theorem dX0_nameSquares_30 : decode cX0_nameSquares 30 = .ok (.aload_n 0, 1) := by decide +kernel
theorem dX0_nameSquares_31 : decode cX0_nameSquares 31 = .ok (.getfield 12, 3) := by decide +kernel
theorem dX0_nameSquares_34 : decode cX0_nameSquares 34 = .ok (.iload_n 3, 1) := by decide +kernel
theorem dX0_nameSquares_35 : decode cX0_nameSquares 35 = .ok (.iload 4, 2) := by decide +kernel
theorem dX0_nameSquares_37 : decode cX0_nameSquares 37 = .ok (.invokevirtual 35, 3) := by decide +kernel
theorem dX0_nameSquares_40 : decode cX0_nameSquares 40 = .ok (.lstore 7, 2) := by decide +kernel
theorem dX0_nameSquares_42 : decode cX0_nameSquares 42 = .ok (.iconst 0, 1) := by decide +kernel
theorem dX0_nameSquares_43 : decode cX0_nameSquares 43 = .ok (.istore 9, 2) := by decide +kernel
theorem dX0_nameSquares_45 : decode cX0_nameSquares 45 = .ok (.iload 9, 2) := by decide +kernel
theorem dX0_nameSquares_47 : decode cX0_nameSquares 47 = .ok (.bipush 6, 2) := by decide +kernel
theorem dX0_nameSquares_49 : decode cX0_nameSquares 49 = .ok (.if_icmp .ge 67, 3) := by decide +kernel
theorem dX0_nameSquares_52 : decode cX0_nameSquares 52 = .ok (.iload_n 2, 1) := by decide +kernel
theorem dX0_nameSquares_53 : decode cX0_nameSquares 53 = .ok (.iload 9, 2) := by decide +kernel
theorem dX0_nameSquares_55 : decode cX0_nameSquares 55 = .ok (.ishr, 1) := by decide +kernel
theorem dX0_nameSquares_56 : decode cX0_nameSquares 56 = .ok (.iconst 1, 1) := by decide +kernel
theorem dX0_nameSquares_57 : decode cX0_nameSquares 57 = .ok (.iand, 1) := by decide +kernel
theorem dX0_nameSquares_58 : decode cX0_nameSquares 58 = .ok (.iconst 1, 1) := by decide +kernel
theorem dX0_nameSquares_59 : decode cX0_nameSquares 59 = .ok (.if_icmp .ne 15, 3) := by decide +kernel
theorem dX0_nameSquares_62 : decode cX0_nameSquares 62 = .ok (.lload 7, 2) := by decide +kernel
theorem dX0_nameSquares_64 : decode cX0_nameSquares 64 = .ok (.lload 5, 2) := by decide +kernel
theorem dX0_nameSquares_66 : decode cX0_nameSquares 66 = .ok (.ldc2_w 39, 3) := by decide +kernel
theorem dX0_nameSquares_69 : decode cX0_nameSquares 69 = .ok (.lxor, 1) := by decide +kernel
theorem dX0_nameSquares_70 : decode cX0_nameSquares 70 = .ok (.land, 1) := by decide +kernel
theorem dX0_nameSquares_71 : decode cX0_nameSquares 71 = .ok (.goto 4, 3) := by decide +kernel
theorem dX0_nameSquares_74 : decode cX0_nameSquares 74 = .ok (.lconst 0, 1) := by decide +kernel
theorem dX0_nameSquares_75 : decode cX0_nameSquares 75 = .ok (.lstore 10, 2) := by decide +kernel
theorem dX0_nameSquares_77 : decode cX0_nameSquares 77 = .ok (.iload_n 3, 1) := by decide +kernel
theorem dX0_nameSquares_78 : decode cX0_nameSquares 78 = .ok (.iload 9, 2) := by decide +kernel
theorem dX0_nameSquares_80 : decode cX0_nameSquares 80 = .ok (.iload 4, 2) := by decide +kernel
theorem dX0_nameSquares_82 : decode cX0_nameSquares 82 = .ok (.invokestatic 41, 3) := by decide +kernel
theorem dX0_nameSquares_85 : decode cX0_nameSquares 85 = .ok (.istore 12, 2) := by decide +kernel
theorem dX0_nameSquares_87 : decode cX0_nameSquares 87 = .ok (.aload_n 0, 1) := by decide +kernel
theorem dX0_nameSquares_88 : decode cX0_nameSquares 88 = .ok (.getfield 18, 3) := by decide +kernel
theorem dX0_nameSquares_91 : decode cX0_nameSquares 91 = .ok (.iload 12, 2) := by decide +kernel
theorem dX0_nameSquares_93 : decode cX0_nameSquares 93 = .ok (.aload_n 1, 1) := by decide +kernel
theorem dX0_nameSquares_94 : decode cX0_nameSquares 94 = .ok (.getfield 18, 3) := by decide +kernel
theorem dX0_nameSquares_97 : decode cX0_nameSquares 97 = .ok (.iload 12, 2) := by decide +kernel
theorem dX0_nameSquares_99 : decode cX0_nameSquares 99 = .ok (.laload, 1) := by decide +kernel
theorem dX0_nameSquares_100 : decode cX0_nameSquares 100 = .ok (.lload 5, 2) := by decide +kernel
theorem dX0_nameSquares_102 : decode cX0_nameSquares 102 = .ok (.land, 1) := by decide +kernel
theorem dX0_nameSquares_103 : decode cX0_nameSquares 103 = .ok (.lload 7, 2) := by decide +kernel
theorem dX0_nameSquares_105 : decode cX0_nameSquares 105 = .ok (.land, 1) := by decide +kernel
theorem dX0_nameSquares_106 : decode cX0_nameSquares 106 = .ok (.lload 10, 2) := by decide +kernel
theorem dX0_nameSquares_108 : decode cX0_nameSquares 108 = .ok (.lor, 1) := by decide +kernel
theorem dX0_nameSquares_109 : decode cX0_nameSquares 109 = .ok (.lastore, 1) := by decide +kernel
theorem dX0_nameSquares_110 : decode cX0_nameSquares 110 = .ok (.iinc 9 1, 3) := by decide +kernel
theorem dX0_nameSquares_113 : decode cX0_nameSquares 113 = .ok (.goto (-68), 3) := by decide +kernel
theorem dX0_nameSquares_116 : decode cX0_nameSquares 116 = .ok (.iinc 4 1, 3) := by decide +kernel
theorem dX0_nameSquares_119 : decode cX0_nameSquares 119 = .ok (.goto (-108), 3) := by decide +kernel
theorem dX0_nameSquares_122 : decode cX0_nameSquares 122 = .ok (.iinc 3 1, 3) := by decide +kernel
theorem dX0_nameSquares_125 : decode cX0_nameSquares 125 = .ok (.goto (-123), 3) := by decide +kernel
theorem dX0_nameSquares_128 : decode cX0_nameSquares 128 = .ok (.return_, 1) := by decide +kernel
theorem dX0_choose_0 : decode cX0_choose 0 = .ok (.aload_n 3, 1) := by decide +kernel
theorem dX0_choose_1 : decode cX0_choose 1 = .ok (.invokevirtual 22, 3) := by decide +kernel
theorem dX0_choose_4 : decode cX0_choose 4 = .ok (.iload_n 1, 1) := by decide +kernel
theorem dX0_choose_5 : decode cX0_choose 5 = .ok (.ifCond .lt 9, 3) := by decide +kernel
theorem dX0_choose_8 : decode cX0_choose 8 = .ok (.iload_n 1, 1) := by decide +kernel
theorem dX0_choose_9 : decode cX0_choose 9 = .ok (.bipush 40, 2) := by decide +kernel
theorem dX0_choose_11 : decode cX0_choose 11 = .ok (.if_icmp .lt 4, 3) := by decide +kernel
theorem dX0_choose_14 : decode cX0_choose 14 = .ok (.return_, 1) := by decide +kernel
theorem dX0_choose_15 : decode cX0_choose 15 = .ok (.iconst 0, 1) := by decide +kernel
theorem dX0_choose_16 : decode cX0_choose 16 = .ok (.istore 4, 2) := by decide +kernel
theorem dX0_choose_18 : decode cX0_choose 18 = .ok (.iload 4, 2) := by decide +kernel
theorem dX0_choose_20 : decode cX0_choose 20 = .ok (.bipush 8, 2) := by decide +kernel
theorem dX0_choose_22 : decode cX0_choose 22 = .ok (.if_icmp .ge 87, 3) := by decide +kernel
theorem dX0_choose_25 : decode cX0_choose 25 = .ok (.aload_n 0, 1) := by decide +kernel
theorem dX0_choose_26 : decode cX0_choose 26 = .ok (.getfield 12, 3) := by decide +kernel
theorem dX0_choose_29 : decode cX0_choose 29 = .ok (.iload_n 2, 1) := by decide +kernel
theorem dX0_choose_30 : decode cX0_choose 30 = .ok (.iload 4, 2) := by decide +kernel
theorem dX0_choose_32 : decode cX0_choose 32 = .ok (.invokevirtual 35, 3) := by decide +kernel
theorem dX0_choose_35 : decode cX0_choose 35 = .ok (.lstore 5, 2) := by decide +kernel
theorem dX0_choose_37 : decode cX0_choose 37 = .ok (.iconst 0, 1) := by decide +kernel
theorem dX0_choose_38 : decode cX0_choose 38 = .ok (.istore 7, 2) := by decide +kernel
theorem dX0_choose_40 : decode cX0_choose 40 = .ok (.iload 7, 2) := by decide +kernel
theorem dX0_choose_42 : decode cX0_choose 42 = .ok (.bipush 6, 2) := by decide +kernel
theorem dX0_choose_44 : decode cX0_choose 44 = .ok (.if_icmp .ge 50, 3) := by decide +kernel
theorem dX0_choose_47 : decode cX0_choose 47 = .ok (.aload_n 0, 1) := by decide +kernel
theorem dX0_choose_48 : decode cX0_choose 48 = .ok (.getfield 18, 3) := by decide +kernel
theorem dX0_choose_51 : decode cX0_choose 51 = .ok (.iload_n 2, 1) := by decide +kernel
theorem dX0_choose_52 : decode cX0_choose 52 = .ok (.iload 7, 2) := by decide +kernel
theorem dX0_choose_54 : decode cX0_choose 54 = .ok (.iload 4, 2) := by decide +kernel
theorem dX0_choose_56 : decode cX0_choose 56 = .ok (.invokestatic 41, 3) := by decide +kernel
theorem dX0_choose_59 : decode cX0_choose 59 = .ok (.laload, 1) := by decide +kernel
theorem dX0_choose_60 : decode cX0_choose 60 = .ok (.lstore 8, 2) := by decide +kernel
theorem dX0_choose_62 : decode cX0_choose 62 = .ok (.lload 5, 2) := by decide +kernel
theorem dX0_choose_64 : decode cX0_choose 64 = .ok (.iload_n 1, 1) := by decide +kernel
theorem dX0_choose_65 : decode cX0_choose 65 = .ok (.iload 7, 2) := by decide +kernel
theorem dX0_choose_67 : decode cX0_choose 67 = .ok (.ishr, 1) := by decide +kernel
theorem dX0_choose_68 : decode cX0_choose 68 = .ok (.iconst 1, 1) := by decide +kernel
theorem dX0_choose_69 : decode cX0_choose 69 = .ok (.iand, 1) := by decide +kernel
theorem dX0_choose_70 : decode cX0_choose 70 = .ok (.iconst 1, 1) := by decide +kernel
theorem dX0_choose_71 : decode cX0_choose 71 = .ok (.if_icmp .ne 8, 3) := by decide +kernel
theorem dX0_choose_74 : decode cX0_choose 74 = .ok (.lload 8, 2) := by decide +kernel
theorem dX0_choose_76 : decode cX0_choose 76 = .ok (.goto 9, 3) := by decide +kernel
theorem dX0_choose_79 : decode cX0_choose 79 = .ok (.lload 8, 2) := by decide +kernel
theorem dX0_choose_81 : decode cX0_choose 81 = .ok (.ldc2_w 39, 3) := by decide +kernel
theorem dX0_choose_84 : decode cX0_choose 84 = .ok (.lxor, 1) := by decide +kernel
theorem dX0_choose_85 : decode cX0_choose 85 = .ok (.land, 1) := by decide +kernel
theorem dX0_choose_86 : decode cX0_choose 86 = .ok (.lstore 5, 2) := by decide +kernel
theorem dX0_choose_88 : decode cX0_choose 88 = .ok (.iinc 7 1, 3) := by decide +kernel
theorem dX0_choose_91 : decode cX0_choose 91 = .ok (.goto (-51), 3) := by decide +kernel
theorem dX0_choose_94 : decode cX0_choose 94 = .ok (.aload_n 3, 1) := by decide +kernel
theorem dX0_choose_95 : decode cX0_choose 95 = .ok (.getfield 45, 3) := by decide +kernel
theorem dX0_choose_98 : decode cX0_choose 98 = .ok (.iload 4, 2) := by decide +kernel
theorem dX0_choose_100 : decode cX0_choose 100 = .ok (.lload 5, 2) := by decide +kernel
theorem dX0_choose_102 : decode cX0_choose 102 = .ok (.lastore, 1) := by decide +kernel
theorem dX0_choose_103 : decode cX0_choose 103 = .ok (.iinc 4 1, 3) := by decide +kernel
theorem dX0_choose_106 : decode cX0_choose 106 = .ok (.goto (-88), 3) := by decide +kernel
theorem dX0_choose_109 : decode cX0_choose 109 = .ok (.return_, 1) := by decide +kernel
theorem dX0_makerOf_0 : decode cX0_makerOf 0 = .ok (.iload_n 1, 1) := by decide +kernel
theorem dX0_makerOf_1 : decode cX0_makerOf 1 = .ok (.iload_n 2, 1) := by decide +kernel
theorem dX0_makerOf_2 : decode cX0_makerOf 2 = .ok (.invokestatic 48, 3) := by decide +kernel
theorem dX0_makerOf_5 : decode cX0_makerOf 5 = .ok (.istore 5, 2) := by decide +kernel
theorem dX0_makerOf_7 : decode cX0_makerOf 7 = .ok (.aload_n 0, 1) := by decide +kernel
theorem dX0_makerOf_8 : decode cX0_makerOf 8 = .ok (.getfield 12, 3) := by decide +kernel
theorem dX0_makerOf_11 : decode cX0_makerOf 11 = .ok (.iload 4, 2) := by decide +kernel
theorem dX0_makerOf_13 : decode cX0_makerOf 13 = .ok (.iload_n 3, 1) := by decide +kernel
theorem dX0_makerOf_14 : decode cX0_makerOf 14 = .ok (.invokevirtual 35, 3) := by decide +kernel
theorem dX0_makerOf_17 : decode cX0_makerOf 17 = .ok (.iload 5, 2) := by decide +kernel
theorem dX0_makerOf_19 : decode cX0_makerOf 19 = .ok (.lushr, 1) := by decide +kernel
theorem dX0_makerOf_20 : decode cX0_makerOf 20 = .ok (.lconst 1, 1) := by decide +kernel
theorem dX0_makerOf_21 : decode cX0_makerOf 21 = .ok (.land, 1) := by decide +kernel
theorem dX0_makerOf_22 : decode cX0_makerOf 22 = .ok (.lconst 0, 1) := by decide +kernel
theorem dX0_makerOf_23 : decode cX0_makerOf 23 = .ok (.lcmp, 1) := by decide +kernel
theorem dX0_makerOf_24 : decode cX0_makerOf 24 = .ok (.ifCond .ne 5, 3) := by decide +kernel
theorem dX0_makerOf_27 : decode cX0_makerOf 27 = .ok (.iconst (-1), 1) := by decide +kernel
theorem dX0_makerOf_28 : decode cX0_makerOf 28 = .ok (.ireturn, 1) := by decide +kernel
theorem dX0_makerOf_29 : decode cX0_makerOf 29 = .ok (.iconst 0, 1) := by decide +kernel
theorem dX0_makerOf_30 : decode cX0_makerOf 30 = .ok (.istore 6, 2) := by decide +kernel
theorem dX0_makerOf_32 : decode cX0_makerOf 32 = .ok (.iconst 0, 1) := by decide +kernel
theorem dX0_makerOf_33 : decode cX0_makerOf 33 = .ok (.istore 7, 2) := by decide +kernel
theorem dX0_makerOf_35 : decode cX0_makerOf 35 = .ok (.iload 7, 2) := by decide +kernel
theorem dX0_makerOf_37 : decode cX0_makerOf 37 = .ok (.bipush 6, 2) := by decide +kernel
theorem dX0_makerOf_39 : decode cX0_makerOf 39 = .ok (.if_icmp .ge 36, 3) := by decide +kernel
theorem dX0_makerOf_42 : decode cX0_makerOf 42 = .ok (.iload 6, 2) := by decide +kernel
theorem dX0_makerOf_44 : decode cX0_makerOf 44 = .ok (.aload_n 0, 1) := by decide +kernel
theorem dX0_makerOf_45 : decode cX0_makerOf 45 = .ok (.getfield 18, 3) := by decide +kernel
theorem dX0_makerOf_48 : decode cX0_makerOf 48 = .ok (.iload 4, 2) := by decide +kernel
theorem dX0_makerOf_50 : decode cX0_makerOf 50 = .ok (.iload 7, 2) := by decide +kernel
theorem dX0_makerOf_52 : decode cX0_makerOf 52 = .ok (.iload_n 3, 1) := by decide +kernel
theorem dX0_makerOf_53 : decode cX0_makerOf 53 = .ok (.invokestatic 41, 3) := by decide +kernel
theorem dX0_makerOf_56 : decode cX0_makerOf 56 = .ok (.laload, 1) := by decide +kernel
theorem dX0_makerOf_57 : decode cX0_makerOf 57 = .ok (.iload 5, 2) := by decide +kernel
theorem dX0_makerOf_59 : decode cX0_makerOf 59 = .ok (.lushr, 1) := by decide +kernel
theorem dX0_makerOf_60 : decode cX0_makerOf 60 = .ok (.lconst 1, 1) := by decide +kernel
theorem dX0_makerOf_61 : decode cX0_makerOf 61 = .ok (.land, 1) := by decide +kernel
theorem dX0_makerOf_62 : decode cX0_makerOf 62 = .ok (.l2i, 1) := by decide +kernel
theorem dX0_makerOf_63 : decode cX0_makerOf 63 = .ok (.iload 7, 2) := by decide +kernel
theorem dX0_makerOf_65 : decode cX0_makerOf 65 = .ok (.ishl, 1) := by decide +kernel
theorem dX0_makerOf_66 : decode cX0_makerOf 66 = .ok (.ior, 1) := by decide +kernel
theorem dX0_makerOf_67 : decode cX0_makerOf 67 = .ok (.istore 6, 2) := by decide +kernel
theorem dX0_makerOf_69 : decode cX0_makerOf 69 = .ok (.iinc 7 1, 3) := by decide +kernel
theorem dX0_makerOf_72 : decode cX0_makerOf 72 = .ok (.goto (-37), 3) := by decide +kernel
theorem dX0_makerOf_75 : decode cX0_makerOf 75 = .ok (.iload 6, 2) := by decide +kernel
theorem dX0_makerOf_77 : decode cX0_makerOf 77 = .ok (.ireturn, 1) := by decide +kernel
theorem dX1_init_0 : decode cX1_init 0 = .ok (.aload_n 0, 1) := by decide +kernel
theorem dX1_init_1 : decode cX1_init 1 = .ok (.invokespecial 3, 3) := by decide +kernel
theorem dX1_init_4 : decode cX1_init 4 = .ok (.aload_n 0, 1) := by decide +kernel
theorem dX1_init_5 : decode cX1_init 5 = .ok (.bipush 8, 2) := by decide +kernel
theorem dX1_init_7 : decode cX1_init 7 = .ok (.newarray .long, 2) := by decide +kernel
theorem dX1_init_9 : decode cX1_init 9 = .ok (.putfield 9, 3) := by decide +kernel
theorem dX1_init_12 : decode cX1_init 12 = .ok (.return_, 1) := by decide +kernel
theorem dX1_isInside_0 : decode cX1_isInside 0 = .ok (.iload_n 0, 1) := by decide +kernel
theorem dX1_isInside_1 : decode cX1_isInside 1 = .ok (.ifCond .lt 33, 3) := by decide +kernel
theorem dX1_isInside_4 : decode cX1_isInside 4 = .ok (.iload_n 0, 1) := by decide +kernel
theorem dX1_isInside_5 : decode cX1_isInside 5 = .ok (.bipush 8, 2) := by decide +kernel
theorem dX1_isInside_7 : decode cX1_isInside 7 = .ok (.if_icmp .ge 27, 3) := by decide +kernel
theorem dX1_isInside_10 : decode cX1_isInside 10 = .ok (.iload_n 1, 1) := by decide +kernel
theorem dX1_isInside_11 : decode cX1_isInside 11 = .ok (.ifCond .lt 23, 3) := by decide +kernel
theorem dX1_isInside_14 : decode cX1_isInside 14 = .ok (.iload_n 1, 1) := by decide +kernel
theorem dX1_isInside_15 : decode cX1_isInside 15 = .ok (.bipush 8, 2) := by decide +kernel
theorem dX1_isInside_17 : decode cX1_isInside 17 = .ok (.if_icmp .ge 17, 3) := by decide +kernel
theorem dX1_isInside_20 : decode cX1_isInside 20 = .ok (.iload_n 2, 1) := by decide +kernel
theorem dX1_isInside_21 : decode cX1_isInside 21 = .ok (.ifCond .lt 13, 3) := by decide +kernel
theorem dX1_isInside_24 : decode cX1_isInside 24 = .ok (.iload_n 2, 1) := by decide +kernel
theorem dX1_isInside_25 : decode cX1_isInside 25 = .ok (.bipush 8, 2) := by decide +kernel
theorem dX1_isInside_27 : decode cX1_isInside 27 = .ok (.if_icmp .ge 7, 3) := by decide +kernel
theorem dX1_isInside_30 : decode cX1_isInside 30 = .ok (.iconst 1, 1) := by decide +kernel
theorem dX1_isInside_31 : decode cX1_isInside 31 = .ok (.goto 4, 3) := by decide +kernel
theorem dX1_isInside_34 : decode cX1_isInside 34 = .ok (.iconst 0, 1) := by decide +kernel
theorem dX1_isInside_35 : decode cX1_isInside 35 = .ok (.ireturn, 1) := by decide +kernel
theorem dX1_bitOf_0 : decode cX1_bitOf 0 = .ok (.iload_n 1, 1) := by decide +kernel
theorem dX1_bitOf_1 : decode cX1_bitOf 1 = .ok (.bipush 8, 2) := by decide +kernel
theorem dX1_bitOf_3 : decode cX1_bitOf 3 = .ok (.imul, 1) := by decide +kernel
theorem dX1_bitOf_4 : decode cX1_bitOf 4 = .ok (.iload_n 0, 1) := by decide +kernel
theorem dX1_bitOf_5 : decode cX1_bitOf 5 = .ok (.iadd, 1) := by decide +kernel
theorem dX1_bitOf_6 : decode cX1_bitOf 6 = .ok (.ireturn, 1) := by decide +kernel
theorem dX1_contains_0 : decode cX1_contains 0 = .ok (.iload_n 1, 1) := by decide +kernel
theorem dX1_contains_1 : decode cX1_contains 1 = .ok (.iload_n 2, 1) := by decide +kernel
theorem dX1_contains_2 : decode cX1_contains 2 = .ok (.iload_n 3, 1) := by decide +kernel
theorem dX1_contains_3 : decode cX1_contains 3 = .ok (.invokestatic 15, 3) := by decide +kernel
theorem dX1_contains_6 : decode cX1_contains 6 = .ok (.ifCond .eq 26, 3) := by decide +kernel
theorem dX1_contains_9 : decode cX1_contains 9 = .ok (.aload_n 0, 1) := by decide +kernel
theorem dX1_contains_10 : decode cX1_contains 10 = .ok (.getfield 9, 3) := by decide +kernel
theorem dX1_contains_13 : decode cX1_contains 13 = .ok (.iload_n 3, 1) := by decide +kernel
theorem dX1_contains_14 : decode cX1_contains 14 = .ok (.laload, 1) := by decide +kernel
theorem dX1_contains_15 : decode cX1_contains 15 = .ok (.iload_n 1, 1) := by decide +kernel
theorem dX1_contains_16 : decode cX1_contains 16 = .ok (.iload_n 2, 1) := by decide +kernel
theorem dX1_contains_17 : decode cX1_contains 17 = .ok (.invokestatic 19, 3) := by decide +kernel
theorem dX1_contains_20 : decode cX1_contains 20 = .ok (.lushr, 1) := by decide +kernel
theorem dX1_contains_21 : decode cX1_contains 21 = .ok (.lconst 1, 1) := by decide +kernel
theorem dX1_contains_22 : decode cX1_contains 22 = .ok (.land, 1) := by decide +kernel
theorem dX1_contains_23 : decode cX1_contains 23 = .ok (.lconst 1, 1) := by decide +kernel
theorem dX1_contains_24 : decode cX1_contains 24 = .ok (.lcmp, 1) := by decide +kernel
theorem dX1_contains_25 : decode cX1_contains 25 = .ok (.ifCond .ne 7, 3) := by decide +kernel
theorem dX1_contains_28 : decode cX1_contains 28 = .ok (.iconst 1, 1) := by decide +kernel
theorem dX1_contains_29 : decode cX1_contains 29 = .ok (.goto 4, 3) := by decide +kernel
theorem dX1_contains_32 : decode cX1_contains 32 = .ok (.iconst 0, 1) := by decide +kernel
theorem dX1_contains_33 : decode cX1_contains 33 = .ok (.ireturn, 1) := by decide +kernel
theorem dX1_put_0 : decode cX1_put 0 = .ok (.iload_n 1, 1) := by decide +kernel
theorem dX1_put_1 : decode cX1_put 1 = .ok (.iload_n 2, 1) := by decide +kernel
theorem dX1_put_2 : decode cX1_put 2 = .ok (.iload_n 3, 1) := by decide +kernel
theorem dX1_put_3 : decode cX1_put 3 = .ok (.invokestatic 15, 3) := by decide +kernel
theorem dX1_put_6 : decode cX1_put 6 = .ok (.ifCond .eq 19, 3) := by decide +kernel
theorem dX1_put_9 : decode cX1_put 9 = .ok (.aload_n 0, 1) := by decide +kernel
theorem dX1_put_10 : decode cX1_put 10 = .ok (.getfield 9, 3) := by decide +kernel
theorem dX1_put_13 : decode cX1_put 13 = .ok (.iload_n 3, 1) := by decide +kernel
theorem dX1_put_14 : decode cX1_put 14 = .ok (.dup2, 1) := by decide +kernel
theorem dX1_put_15 : decode cX1_put 15 = .ok (.laload, 1) := by decide +kernel
theorem dX1_put_16 : decode cX1_put 16 = .ok (.lconst 1, 1) := by decide +kernel
theorem dX1_put_17 : decode cX1_put 17 = .ok (.iload_n 1, 1) := by decide +kernel
theorem dX1_put_18 : decode cX1_put 18 = .ok (.iload_n 2, 1) := by decide +kernel
theorem dX1_put_19 : decode cX1_put 19 = .ok (.invokestatic 19, 3) := by decide +kernel
theorem dX1_put_22 : decode cX1_put 22 = .ok (.lshl, 1) := by decide +kernel
theorem dX1_put_23 : decode cX1_put 23 = .ok (.lor, 1) := by decide +kernel
theorem dX1_put_24 : decode cX1_put 24 = .ok (.lastore, 1) := by decide +kernel
theorem dX1_put_25 : decode cX1_put 25 = .ok (.return_, 1) := by decide +kernel
theorem dX1_rowAt_0 : decode cX1_rowAt 0 = .ok (.iconst 0, 1) := by decide +kernel
theorem dX1_rowAt_1 : decode cX1_rowAt 1 = .ok (.iload_n 1, 1) := by decide +kernel
theorem dX1_rowAt_2 : decode cX1_rowAt 2 = .ok (.iload_n 2, 1) := by decide +kernel
theorem dX1_rowAt_3 : decode cX1_rowAt 3 = .ok (.invokestatic 15, 3) := by decide +kernel
theorem dX1_rowAt_6 : decode cX1_rowAt 6 = .ok (.ifCond .eq 23, 3) := by decide +kernel
theorem dX1_rowAt_9 : decode cX1_rowAt 9 = .ok (.aload_n 0, 1) := by decide +kernel
theorem dX1_rowAt_10 : decode cX1_rowAt 10 = .ok (.getfield 9, 3) := by decide +kernel
theorem dX1_rowAt_13 : decode cX1_rowAt 13 = .ok (.iload_n 2, 1) := by decide +kernel
theorem dX1_rowAt_14 : decode cX1_rowAt 14 = .ok (.laload, 1) := by decide +kernel
theorem dX1_rowAt_15 : decode cX1_rowAt 15 = .ok (.iconst 0, 1) := by decide +kernel
theorem dX1_rowAt_16 : decode cX1_rowAt 16 = .ok (.iload_n 1, 1) := by decide +kernel
theorem dX1_rowAt_17 : decode cX1_rowAt 17 = .ok (.invokestatic 19, 3) := by decide +kernel
theorem dX1_rowAt_20 : decode cX1_rowAt 20 = .ok (.lushr, 1) := by decide +kernel
theorem dX1_rowAt_21 : decode cX1_rowAt 21 = .ok (.ldc2_w 23, 3) := by decide +kernel
theorem dX1_rowAt_24 : decode cX1_rowAt 24 = .ok (.land, 1) := by decide +kernel
theorem dX1_rowAt_25 : decode cX1_rowAt 25 = .ok (.l2i, 1) := by decide +kernel
theorem dX1_rowAt_26 : decode cX1_rowAt 26 = .ok (.goto 4, 3) := by decide +kernel
theorem dX1_rowAt_29 : decode cX1_rowAt 29 = .ok (.iconst 0, 1) := by decide +kernel
theorem dX1_rowAt_30 : decode cX1_rowAt 30 = .ok (.ireturn, 1) := by decide +kernel
theorem dX1_clear_0 : decode cX1_clear 0 = .ok (.iconst 0, 1) := by decide +kernel
theorem dX1_clear_1 : decode cX1_clear 1 = .ok (.istore_n 1, 1) := by decide +kernel
theorem dX1_clear_2 : decode cX1_clear 2 = .ok (.iload_n 1, 1) := by decide +kernel
theorem dX1_clear_3 : decode cX1_clear 3 = .ok (.bipush 8, 2) := by decide +kernel
theorem dX1_clear_5 : decode cX1_clear 5 = .ok (.if_icmp .ge 16, 3) := by decide +kernel
theorem dX1_clear_8 : decode cX1_clear 8 = .ok (.aload_n 0, 1) := by decide +kernel
theorem dX1_clear_9 : decode cX1_clear 9 = .ok (.getfield 9, 3) := by decide +kernel
theorem dX1_clear_12 : decode cX1_clear 12 = .ok (.iload_n 1, 1) := by decide +kernel
theorem dX1_clear_13 : decode cX1_clear 13 = .ok (.lconst 0, 1) := by decide +kernel
theorem dX1_clear_14 : decode cX1_clear 14 = .ok (.lastore, 1) := by decide +kernel
theorem dX1_clear_15 : decode cX1_clear 15 = .ok (.iinc 1 1, 3) := by decide +kernel
theorem dX1_clear_18 : decode cX1_clear 18 = .ok (.goto (-16), 3) := by decide +kernel
theorem dX1_clear_21 : decode cX1_clear 21 = .ok (.return_, 1) := by decide +kernel
theorem dX1_copyFrom_0 : decode cX1_copyFrom 0 = .ok (.aload_n 1, 1) := by decide +kernel
theorem dX1_copyFrom_1 : decode cX1_copyFrom 1 = .ok (.getfield 9, 3) := by decide +kernel
theorem dX1_copyFrom_4 : decode cX1_copyFrom 4 = .ok (.iconst 0, 1) := by decide +kernel
theorem dX1_copyFrom_5 : decode cX1_copyFrom 5 = .ok (.aload_n 0, 1) := by decide +kernel
theorem dX1_copyFrom_6 : decode cX1_copyFrom 6 = .ok (.getfield 9, 3) := by decide +kernel
theorem dX1_copyFrom_9 : decode cX1_copyFrom 9 = .ok (.iconst 0, 1) := by decide +kernel
theorem dX1_copyFrom_10 : decode cX1_copyFrom 10 = .ok (.bipush 8, 2) := by decide +kernel
theorem dX1_copyFrom_12 : decode cX1_copyFrom 12 = .ok (.invokestatic 25, 3) := by decide +kernel
theorem dX1_copyFrom_15 : decode cX1_copyFrom 15 = .ok (.return_, 1) := by decide +kernel
theorem dX1_addAll_0 : decode cX1_addAll 0 = .ok (.iconst 0, 1) := by decide +kernel
theorem dX1_addAll_1 : decode cX1_addAll 1 = .ok (.istore_n 2, 1) := by decide +kernel
theorem dX1_addAll_2 : decode cX1_addAll 2 = .ok (.iload_n 2, 1) := by decide +kernel
theorem dX1_addAll_3 : decode cX1_addAll 3 = .ok (.bipush 8, 2) := by decide +kernel
theorem dX1_addAll_5 : decode cX1_addAll 5 = .ok (.if_icmp .ge 24, 3) := by decide +kernel
theorem dX1_addAll_8 : decode cX1_addAll 8 = .ok (.aload_n 0, 1) := by decide +kernel
theorem dX1_addAll_9 : decode cX1_addAll 9 = .ok (.getfield 9, 3) := by decide +kernel
theorem dX1_addAll_12 : decode cX1_addAll 12 = .ok (.iload_n 2, 1) := by decide +kernel
theorem dX1_addAll_13 : decode cX1_addAll 13 = .ok (.dup2, 1) := by decide +kernel
theorem dX1_addAll_14 : decode cX1_addAll 14 = .ok (.laload, 1) := by decide +kernel
theorem dX1_addAll_15 : decode cX1_addAll 15 = .ok (.aload_n 1, 1) := by decide +kernel
theorem dX1_addAll_16 : decode cX1_addAll 16 = .ok (.getfield 9, 3) := by decide +kernel
theorem dX1_addAll_19 : decode cX1_addAll 19 = .ok (.iload_n 2, 1) := by decide +kernel
theorem dX1_addAll_20 : decode cX1_addAll 20 = .ok (.laload, 1) := by decide +kernel
theorem dX1_addAll_21 : decode cX1_addAll 21 = .ok (.lor, 1) := by decide +kernel
theorem dX1_addAll_22 : decode cX1_addAll 22 = .ok (.lastore, 1) := by decide +kernel
theorem dX1_addAll_23 : decode cX1_addAll 23 = .ok (.iinc 2 1, 3) := by decide +kernel
theorem dX1_addAll_26 : decode cX1_addAll 26 = .ok (.goto (-24), 3) := by decide +kernel
theorem dX1_addAll_29 : decode cX1_addAll 29 = .ok (.return_, 1) := by decide +kernel
theorem dX1_takeOutAll_0 : decode cX1_takeOutAll 0 = .ok (.iconst 0, 1) := by decide +kernel
theorem dX1_takeOutAll_1 : decode cX1_takeOutAll 1 = .ok (.istore_n 2, 1) := by decide +kernel
theorem dX1_takeOutAll_2 : decode cX1_takeOutAll 2 = .ok (.iload_n 2, 1) := by decide +kernel
theorem dX1_takeOutAll_3 : decode cX1_takeOutAll 3 = .ok (.bipush 8, 2) := by decide +kernel
theorem dX1_takeOutAll_5 : decode cX1_takeOutAll 5 = .ok (.if_icmp .ge 28, 3) := by decide +kernel
theorem dX1_takeOutAll_8 : decode cX1_takeOutAll 8 = .ok (.aload_n 0, 1) := by decide +kernel
theorem dX1_takeOutAll_9 : decode cX1_takeOutAll 9 = .ok (.getfield 9, 3) := by decide +kernel
theorem dX1_takeOutAll_12 : decode cX1_takeOutAll 12 = .ok (.iload_n 2, 1) := by decide +kernel
theorem dX1_takeOutAll_13 : decode cX1_takeOutAll 13 = .ok (.dup2, 1) := by decide +kernel
theorem dX1_takeOutAll_14 : decode cX1_takeOutAll 14 = .ok (.laload, 1) := by decide +kernel
theorem dX1_takeOutAll_15 : decode cX1_takeOutAll 15 = .ok (.aload_n 1, 1) := by decide +kernel
theorem dX1_takeOutAll_16 : decode cX1_takeOutAll 16 = .ok (.getfield 9, 3) := by decide +kernel
theorem dX1_takeOutAll_19 : decode cX1_takeOutAll 19 = .ok (.iload_n 2, 1) := by decide +kernel
theorem dX1_takeOutAll_20 : decode cX1_takeOutAll 20 = .ok (.laload, 1) := by decide +kernel
theorem dX1_takeOutAll_21 : decode cX1_takeOutAll 21 = .ok (.ldc2_w 31, 3) := by decide +kernel
theorem dX1_takeOutAll_24 : decode cX1_takeOutAll 24 = .ok (.lxor, 1) := by decide +kernel
theorem dX1_takeOutAll_25 : decode cX1_takeOutAll 25 = .ok (.land, 1) := by decide +kernel
theorem dX1_takeOutAll_26 : decode cX1_takeOutAll 26 = .ok (.lastore, 1) := by decide +kernel
theorem dX1_takeOutAll_27 : decode cX1_takeOutAll 27 = .ok (.iinc 2 1, 3) := by decide +kernel
theorem dX1_takeOutAll_30 : decode cX1_takeOutAll 30 = .ok (.goto (-28), 3) := by decide +kernel
theorem dX1_takeOutAll_33 : decode cX1_takeOutAll 33 = .ok (.return_, 1) := by decide +kernel
theorem dX1_keepOnly_0 : decode cX1_keepOnly 0 = .ok (.iconst 0, 1) := by decide +kernel
theorem dX1_keepOnly_1 : decode cX1_keepOnly 1 = .ok (.istore_n 2, 1) := by decide +kernel
theorem dX1_keepOnly_2 : decode cX1_keepOnly 2 = .ok (.iload_n 2, 1) := by decide +kernel
theorem dX1_keepOnly_3 : decode cX1_keepOnly 3 = .ok (.bipush 8, 2) := by decide +kernel
theorem dX1_keepOnly_5 : decode cX1_keepOnly 5 = .ok (.if_icmp .ge 24, 3) := by decide +kernel
theorem dX1_keepOnly_8 : decode cX1_keepOnly 8 = .ok (.aload_n 0, 1) := by decide +kernel
theorem dX1_keepOnly_9 : decode cX1_keepOnly 9 = .ok (.getfield 9, 3) := by decide +kernel
theorem dX1_keepOnly_12 : decode cX1_keepOnly 12 = .ok (.iload_n 2, 1) := by decide +kernel
theorem dX1_keepOnly_13 : decode cX1_keepOnly 13 = .ok (.dup2, 1) := by decide +kernel
theorem dX1_keepOnly_14 : decode cX1_keepOnly 14 = .ok (.laload, 1) := by decide +kernel
theorem dX1_keepOnly_15 : decode cX1_keepOnly 15 = .ok (.aload_n 1, 1) := by decide +kernel
theorem dX1_keepOnly_16 : decode cX1_keepOnly 16 = .ok (.getfield 9, 3) := by decide +kernel
theorem dX1_keepOnly_19 : decode cX1_keepOnly 19 = .ok (.iload_n 2, 1) := by decide +kernel
theorem dX1_keepOnly_20 : decode cX1_keepOnly 20 = .ok (.laload, 1) := by decide +kernel
theorem dX1_keepOnly_21 : decode cX1_keepOnly 21 = .ok (.land, 1) := by decide +kernel
theorem dX1_keepOnly_22 : decode cX1_keepOnly 22 = .ok (.lastore, 1) := by decide +kernel
theorem dX1_keepOnly_23 : decode cX1_keepOnly 23 = .ok (.iinc 2 1, 3) := by decide +kernel
theorem dX1_keepOnly_26 : decode cX1_keepOnly 26 = .ok (.goto (-24), 3) := by decide +kernel
theorem dX1_keepOnly_29 : decode cX1_keepOnly 29 = .ok (.return_, 1) := by decide +kernel
theorem dX1_takeOutInner_0 : decode cX1_takeOutInner 0 = .ok (.iconst 0, 1) := by decide +kernel
theorem dX1_takeOutInner_1 : decode cX1_takeOutInner 1 = .ok (.istore_n 2, 1) := by decide +kernel
theorem dX1_takeOutInner_2 : decode cX1_takeOutInner 2 = .ok (.iload_n 2, 1) := by decide +kernel
theorem dX1_takeOutInner_3 : decode cX1_takeOutInner 3 = .ok (.bipush 8, 2) := by decide +kernel
theorem dX1_takeOutInner_5 : decode cX1_takeOutInner 5 = .ok (.if_icmp .ge 56, 3) := by decide +kernel
theorem dX1_takeOutInner_8 : decode cX1_takeOutInner 8 = .ok (.aload_n 1, 1) := by decide +kernel
theorem dX1_takeOutInner_9 : decode cX1_takeOutInner 9 = .ok (.getfield 9, 3) := by decide +kernel
theorem dX1_takeOutInner_12 : decode cX1_takeOutInner 12 = .ok (.iload_n 2, 1) := by decide +kernel
theorem dX1_takeOutInner_13 : decode cX1_takeOutInner 13 = .ok (.laload, 1) := by decide +kernel
theorem dX1_takeOutInner_14 : decode cX1_takeOutInner 14 = .ok (.lstore_n 3, 1) := by decide +kernel
theorem dX1_takeOutInner_15 : decode cX1_takeOutInner 15 = .ok (.iconst 0, 1) := by decide +kernel
theorem dX1_takeOutInner_16 : decode cX1_takeOutInner 16 = .ok (.istore 5, 2) := by decide +kernel
theorem dX1_takeOutInner_18 : decode cX1_takeOutInner 18 = .ok (.iload 5, 2) := by decide +kernel
theorem dX1_takeOutInner_20 : decode cX1_takeOutInner 20 = .ok (.bipush 6, 2) := by decide +kernel
theorem dX1_takeOutInner_22 : decode cX1_takeOutInner 22 = .ok (.if_icmp .ge 19, 3) := by decide +kernel
theorem dX1_takeOutInner_25 : decode cX1_takeOutInner 25 = .ok (.lload_n 3, 1) := by decide +kernel
theorem dX1_takeOutInner_26 : decode cX1_takeOutInner 26 = .ok (.aload_n 1, 1) := by decide +kernel
theorem dX1_takeOutInner_27 : decode cX1_takeOutInner 27 = .ok (.iload 5, 2) := by decide +kernel
theorem dX1_takeOutInner_29 : decode cX1_takeOutInner 29 = .ok (.iload_n 2, 1) := by decide +kernel
theorem dX1_takeOutInner_30 : decode cX1_takeOutInner 30 = .ok (.invokevirtual 33, 3) := by decide +kernel
theorem dX1_takeOutInner_33 : decode cX1_takeOutInner 33 = .ok (.land, 1) := by decide +kernel
theorem dX1_takeOutInner_34 : decode cX1_takeOutInner 34 = .ok (.lstore_n 3, 1) := by decide +kernel
theorem dX1_takeOutInner_35 : decode cX1_takeOutInner 35 = .ok (.iinc 5 1, 3) := by decide +kernel
theorem dX1_takeOutInner_38 : decode cX1_takeOutInner 38 = .ok (.goto (-20), 3) := by decide +kernel
theorem dX1_takeOutInner_41 : decode cX1_takeOutInner 41 = .ok (.aload_n 0, 1) := by decide +kernel
theorem dX1_takeOutInner_42 : decode cX1_takeOutInner 42 = .ok (.getfield 9, 3) := by decide +kernel
theorem dX1_takeOutInner_45 : decode cX1_takeOutInner 45 = .ok (.iload_n 2, 1) := by decide +kernel
theorem dX1_takeOutInner_46 : decode cX1_takeOutInner 46 = .ok (.dup2, 1) := by decide +kernel
theorem dX1_takeOutInner_47 : decode cX1_takeOutInner 47 = .ok (.laload, 1) := by decide +kernel
theorem dX1_takeOutInner_48 : decode cX1_takeOutInner 48 = .ok (.lload_n 3, 1) := by decide +kernel
theorem dX1_takeOutInner_49 : decode cX1_takeOutInner 49 = .ok (.ldc2_w 31, 3) := by decide +kernel
theorem dX1_takeOutInner_52 : decode cX1_takeOutInner 52 = .ok (.lxor, 1) := by decide +kernel
theorem dX1_takeOutInner_53 : decode cX1_takeOutInner 53 = .ok (.land, 1) := by decide +kernel
theorem dX1_takeOutInner_54 : decode cX1_takeOutInner 54 = .ok (.lastore, 1) := by decide +kernel
theorem dX1_takeOutInner_55 : decode cX1_takeOutInner 55 = .ok (.iinc 2 1, 3) := by decide +kernel
theorem dX1_takeOutInner_58 : decode cX1_takeOutInner 58 = .ok (.goto (-56), 3) := by decide +kernel
theorem dX1_takeOutInner_61 : decode cX1_takeOutInner 61 = .ok (.return_, 1) := by decide +kernel
theorem dX1_isSameAs_0 : decode cX1_isSameAs 0 = .ok (.iconst 0, 1) := by decide +kernel
theorem dX1_isSameAs_1 : decode cX1_isSameAs 1 = .ok (.istore_n 2, 1) := by decide +kernel
theorem dX1_isSameAs_2 : decode cX1_isSameAs 2 = .ok (.iload_n 2, 1) := by decide +kernel
theorem dX1_isSameAs_3 : decode cX1_isSameAs 3 = .ok (.bipush 8, 2) := by decide +kernel
theorem dX1_isSameAs_5 : decode cX1_isSameAs 5 = .ok (.if_icmp .ge 27, 3) := by decide +kernel
theorem dX1_isSameAs_8 : decode cX1_isSameAs 8 = .ok (.aload_n 0, 1) := by decide +kernel
theorem dX1_isSameAs_9 : decode cX1_isSameAs 9 = .ok (.getfield 9, 3) := by decide +kernel
theorem dX1_isSameAs_12 : decode cX1_isSameAs 12 = .ok (.iload_n 2, 1) := by decide +kernel
theorem dX1_isSameAs_13 : decode cX1_isSameAs 13 = .ok (.laload, 1) := by decide +kernel
theorem dX1_isSameAs_14 : decode cX1_isSameAs 14 = .ok (.aload_n 1, 1) := by decide +kernel
theorem dX1_isSameAs_15 : decode cX1_isSameAs 15 = .ok (.getfield 9, 3) := by decide +kernel
theorem dX1_isSameAs_18 : decode cX1_isSameAs 18 = .ok (.iload_n 2, 1) := by decide +kernel
theorem dX1_isSameAs_19 : decode cX1_isSameAs 19 = .ok (.laload, 1) := by decide +kernel
theorem dX1_isSameAs_20 : decode cX1_isSameAs 20 = .ok (.lcmp, 1) := by decide +kernel
theorem dX1_isSameAs_21 : decode cX1_isSameAs 21 = .ok (.ifCond .eq 5, 3) := by decide +kernel
theorem dX1_isSameAs_24 : decode cX1_isSameAs 24 = .ok (.iconst 0, 1) := by decide +kernel
theorem dX1_isSameAs_25 : decode cX1_isSameAs 25 = .ok (.ireturn, 1) := by decide +kernel
theorem dX1_isSameAs_26 : decode cX1_isSameAs 26 = .ok (.iinc 2 1, 3) := by decide +kernel
theorem dX1_isSameAs_29 : decode cX1_isSameAs 29 = .ok (.goto (-27), 3) := by decide +kernel
theorem dX1_isSameAs_32 : decode cX1_isSameAs 32 = .ok (.iconst 1, 1) := by decide +kernel
theorem dX1_isSameAs_33 : decode cX1_isSameAs 33 = .ok (.ireturn, 1) := by decide +kernel
theorem dX1_count_0 : decode cX1_count 0 = .ok (.iconst 0, 1) := by decide +kernel
theorem dX1_count_1 : decode cX1_count 1 = .ok (.istore_n 1, 1) := by decide +kernel
theorem dX1_count_2 : decode cX1_count 2 = .ok (.iconst 0, 1) := by decide +kernel
theorem dX1_count_3 : decode cX1_count 3 = .ok (.istore_n 2, 1) := by decide +kernel
theorem dX1_count_4 : decode cX1_count 4 = .ok (.iload_n 2, 1) := by decide +kernel
theorem dX1_count_5 : decode cX1_count 5 = .ok (.bipush 8, 2) := by decide +kernel
theorem dX1_count_7 : decode cX1_count 7 = .ok (.if_icmp .ge 21, 3) := by decide +kernel
theorem dX1_count_10 : decode cX1_count 10 = .ok (.iload_n 1, 1) := by decide +kernel
theorem dX1_count_11 : decode cX1_count 11 = .ok (.aload_n 0, 1) := by decide +kernel
theorem dX1_count_12 : decode cX1_count 12 = .ok (.getfield 9, 3) := by decide +kernel
theorem dX1_count_15 : decode cX1_count 15 = .ok (.iload_n 2, 1) := by decide +kernel
theorem dX1_count_16 : decode cX1_count 16 = .ok (.laload, 1) := by decide +kernel
theorem dX1_count_17 : decode cX1_count 17 = .ok (.invokestatic 37, 3) := by decide +kernel
theorem dX1_count_20 : decode cX1_count 20 = .ok (.iadd, 1) := by decide +kernel
theorem dX1_count_21 : decode cX1_count 21 = .ok (.istore_n 1, 1) := by decide +kernel
theorem dX1_count_22 : decode cX1_count 22 = .ok (.iinc 2 1, 3) := by decide +kernel
theorem dX1_count_25 : decode cX1_count 25 = .ok (.goto (-21), 3) := by decide +kernel
theorem dX1_count_28 : decode cX1_count 28 = .ok (.iload_n 1, 1) := by decide +kernel
theorem dX1_count_29 : decode cX1_count 29 = .ok (.ireturn, 1) := by decide +kernel
theorem dX1_fillBox_0 : decode cX1_fillBox 0 = .ok (.aload_n 0, 1) := by decide +kernel
theorem dX1_fillBox_1 : decode cX1_fillBox 1 = .ok (.invokevirtual 43, 3) := by decide +kernel
theorem dX1_fillBox_4 : decode cX1_fillBox 4 = .ok (.iconst 0, 1) := by decide +kernel
theorem dX1_fillBox_5 : decode cX1_fillBox 5 = .ok (.aload_n 1, 1) := by decide +kernel
theorem dX1_fillBox_6 : decode cX1_fillBox 6 = .ok (.iconst 2, 1) := by decide +kernel
theorem dX1_fillBox_7 : decode cX1_fillBox 7 = .ok (.iaload, 1) := by decide +kernel
theorem dX1_fillBox_8 : decode cX1_fillBox 8 = .ok (.invokestatic 46, 3) := by decide +kernel
theorem dX1_fillBox_11 : decode cX1_fillBox 11 = .ok (.istore_n 2, 1) := by decide +kernel
theorem dX1_fillBox_12 : decode cX1_fillBox 12 = .ok (.iload_n 2, 1) := by decide +kernel
theorem dX1_fillBox_13 : decode cX1_fillBox 13 = .ok (.bipush 8, 2) := by decide +kernel
theorem dX1_fillBox_15 : decode cX1_fillBox 15 = .ok (.if_icmp .ge 93, 3) := by decide +kernel
theorem dX1_fillBox_18 : decode cX1_fillBox 18 = .ok (.iload_n 2, 1) := by decide +kernel
theorem dX1_fillBox_19 : decode cX1_fillBox 19 = .ok (.aload_n 1, 1) := by decide +kernel
theorem dX1_fillBox_20 : decode cX1_fillBox 20 = .ok (.iconst 2, 1) := by decide +kernel
theorem dX1_fillBox_21 : decode cX1_fillBox 21 = .ok (.iaload, 1) := by decide +kernel
theorem dX1_fillBox_22 : decode cX1_fillBox 22 = .ok (.aload_n 1, 1) := by decide +kernel
theorem dX1_fillBox_23 : decode cX1_fillBox 23 = .ok (.iconst 5, 1) := by decide +kernel
theorem dX1_fillBox_24 : decode cX1_fillBox 24 = .ok (.iaload, 1) := by decide +kernel
theorem dX1_fillBox_25 : decode cX1_fillBox 25 = .ok (.iadd, 1) := by decide +kernel
theorem dX1_fillBox_26 : decode cX1_fillBox 26 = .ok (.if_icmp .ge 82, 3) := by decide +kernel
theorem dX1_fillBox_29 : decode cX1_fillBox 29 = .ok (.iconst 0, 1) := by decide +kernel
theorem dX1_fillBox_30 : decode cX1_fillBox 30 = .ok (.aload_n 1, 1) := by decide +kernel
theorem dX1_fillBox_31 : decode cX1_fillBox 31 = .ok (.iconst 1, 1) := by decide +kernel
theorem dX1_fillBox_32 : decode cX1_fillBox 32 = .ok (.iaload, 1) := by decide +kernel
theorem dX1_fillBox_33 : decode cX1_fillBox 33 = .ok (.invokestatic 46, 3) := by decide +kernel
theorem dX1_fillBox_36 : decode cX1_fillBox 36 = .ok (.istore_n 3, 1) := by decide +kernel
theorem dX1_fillBox_37 : decode cX1_fillBox 37 = .ok (.iload_n 3, 1) := by decide +kernel
theorem dX1_fillBox_38 : decode cX1_fillBox 38 = .ok (.bipush 8, 2) := by decide +kernel
theorem dX1_fillBox_40 : decode cX1_fillBox 40 = .ok (.if_icmp .ge 62, 3) := by decide +kernel
theorem dX1_fillBox_43 : decode cX1_fillBox 43 = .ok (.iload_n 3, 1) := by decide +kernel
theorem dX1_fillBox_44 : decode cX1_fillBox 44 = .ok (.aload_n 1, 1) := by decide +kernel
theorem dX1_fillBox_45 : decode cX1_fillBox 45 = .ok (.iconst 1, 1) := by decide +kernel
theorem dX1_fillBox_46 : decode cX1_fillBox 46 = .ok (.iaload, 1) := by decide +kernel
theorem dX1_fillBox_47 : decode cX1_fillBox 47 = .ok (.aload_n 1, 1) := by decide +kernel
theorem dX1_fillBox_48 : decode cX1_fillBox 48 = .ok (.iconst 4, 1) := by decide +kernel
theorem dX1_fillBox_49 : decode cX1_fillBox 49 = .ok (.iaload, 1) := by decide +kernel
theorem dX1_fillBox_50 : decode cX1_fillBox 50 = .ok (.iadd, 1) := by decide +kernel
theorem dX1_fillBox_51 : decode cX1_fillBox 51 = .ok (.if_icmp .ge 51, 3) := by decide +kernel
theorem dX1_fillBox_54 : decode cX1_fillBox 54 = .ok (.iconst 0, 1) := by decide +kernel
theorem dX1_fillBox_55 : decode cX1_fillBox 55 = .ok (.aload_n 1, 1) := by decide +kernel
theorem dX1_fillBox_56 : decode cX1_fillBox 56 = .ok (.iconst 0, 1) := by decide +kernel
theorem dX1_fillBox_57 : decode cX1_fillBox 57 = .ok (.iaload, 1) := by decide +kernel
theorem dX1_fillBox_58 : decode cX1_fillBox 58 = .ok (.invokestatic 46, 3) := by decide +kernel
theorem dX1_fillBox_61 : decode cX1_fillBox 61 = .ok (.istore 4, 2) := by decide +kernel
theorem dX1_fillBox_63 : decode cX1_fillBox 63 = .ok (.iload 4, 2) := by decide +kernel
theorem dX1_fillBox_65 : decode cX1_fillBox 65 = .ok (.bipush 8, 2) := by decide +kernel
theorem dX1_fillBox_67 : decode cX1_fillBox 67 = .ok (.if_icmp .ge 29, 3) := by decide +kernel
theorem dX1_fillBox_70 : decode cX1_fillBox 70 = .ok (.iload 4, 2) := by decide +kernel
theorem dX1_fillBox_72 : decode cX1_fillBox 72 = .ok (.aload_n 1, 1) := by decide +kernel
theorem dX1_fillBox_73 : decode cX1_fillBox 73 = .ok (.iconst 0, 1) := by decide +kernel
theorem dX1_fillBox_74 : decode cX1_fillBox 74 = .ok (.iaload, 1) := by decide +kernel
theorem dX1_fillBox_75 : decode cX1_fillBox 75 = .ok (.aload_n 1, 1) := by decide +kernel
theorem dX1_fillBox_76 : decode cX1_fillBox 76 = .ok (.iconst 3, 1) := by decide +kernel
theorem dX1_fillBox_77 : decode cX1_fillBox 77 = .ok (.iaload, 1) := by decide +kernel
theorem dX1_fillBox_78 : decode cX1_fillBox 78 = .ok (.iadd, 1) := by decide +kernel
theorem dX1_fillBox_79 : decode cX1_fillBox 79 = .ok (.if_icmp .ge 17, 3) := by decide +kernel
theorem dX1_fillBox_82 : decode cX1_fillBox 82 = .ok (.aload_n 0, 1) := by decide +kernel
theorem dX1_fillBox_83 : decode cX1_fillBox 83 = .ok (.iload 4, 2) := by decide +kernel
theorem dX1_fillBox_85 : decode cX1_fillBox 85 = .ok (.iload_n 3, 1) := by decide +kernel
theorem dX1_fillBox_86 : decode cX1_fillBox 86 = .ok (.iload_n 2, 1) := by decide +kernel
theorem dX1_fillBox_87 : decode cX1_fillBox 87 = .ok (.invokevirtual 51, 3) := by decide +kernel
theorem dX1_fillBox_90 : decode cX1_fillBox 90 = .ok (.iinc 4 1, 3) := by decide +kernel
theorem dX1_fillBox_93 : decode cX1_fillBox 93 = .ok (.goto (-30), 3) := by decide +kernel
theorem dX1_fillBox_96 : decode cX1_fillBox 96 = .ok (.iinc 3 1, 3) := by decide +kernel
theorem dX1_fillBox_99 : decode cX1_fillBox 99 = .ok (.goto (-62), 3) := by decide +kernel
theorem dX1_fillBox_102 : decode cX1_fillBox 102 = .ok (.iinc 2 1, 3) := by decide +kernel
theorem dX1_fillBox_105 : decode cX1_fillBox 105 = .ok (.goto (-93), 3) := by decide +kernel
theorem dX1_fillBox_108 : decode cX1_fillBox 108 = .ok (.return_, 1) := by decide +kernel
theorem dX1_addSlid_0 : decode cX1_addSlid 0 = .ok (.iconst 0, 1) := by decide +kernel
theorem dX1_addSlid_1 : decode cX1_addSlid 1 = .ok (.istore 5, 2) := by decide +kernel
theorem dX1_addSlid_3 : decode cX1_addSlid 3 = .ok (.iload 5, 2) := by decide +kernel
theorem dX1_addSlid_5 : decode cX1_addSlid 5 = .ok (.bipush 8, 2) := by decide +kernel
theorem dX1_addSlid_7 : decode cX1_addSlid 7 = .ok (.if_icmp .ge 50, 3) := by decide +kernel
theorem dX1_addSlid_10 : decode cX1_addSlid 10 = .ok (.iload 5, 2) := by decide +kernel
theorem dX1_addSlid_12 : decode cX1_addSlid 12 = .ok (.iload 4, 2) := by decide +kernel
theorem dX1_addSlid_14 : decode cX1_addSlid 14 = .ok (.isub, 1) := by decide +kernel
theorem dX1_addSlid_15 : decode cX1_addSlid 15 = .ok (.istore 6, 2) := by decide +kernel
theorem dX1_addSlid_17 : decode cX1_addSlid 17 = .ok (.iload 6, 2) := by decide +kernel
theorem dX1_addSlid_19 : decode cX1_addSlid 19 = .ok (.ifCond .lt 32, 3) := by decide +kernel
theorem dX1_addSlid_22 : decode cX1_addSlid 22 = .ok (.iload 6, 2) := by decide +kernel
theorem dX1_addSlid_24 : decode cX1_addSlid 24 = .ok (.bipush 8, 2) := by decide +kernel
theorem dX1_addSlid_26 : decode cX1_addSlid 26 = .ok (.if_icmp .ge 25, 3) := by decide +kernel
theorem dX1_addSlid_29 : decode cX1_addSlid 29 = .ok (.aload_n 0, 1) := by decide +kernel
theorem dX1_addSlid_30 : decode cX1_addSlid 30 = .ok (.getfield 9, 3) := by decide +kernel
theorem dX1_addSlid_33 : decode cX1_addSlid 33 = .ok (.iload 5, 2) := by decide +kernel
theorem dX1_addSlid_35 : decode cX1_addSlid 35 = .ok (.dup2, 1) := by decide +kernel
theorem dX1_addSlid_36 : decode cX1_addSlid 36 = .ok (.laload, 1) := by decide +kernel
theorem dX1_addSlid_37 : decode cX1_addSlid 37 = .ok (.aload_n 1, 1) := by decide +kernel
theorem dX1_addSlid_38 : decode cX1_addSlid 38 = .ok (.getfield 9, 3) := by decide +kernel
theorem dX1_addSlid_41 : decode cX1_addSlid 41 = .ok (.iload 6, 2) := by decide +kernel
theorem dX1_addSlid_43 : decode cX1_addSlid 43 = .ok (.laload, 1) := by decide +kernel
theorem dX1_addSlid_44 : decode cX1_addSlid 44 = .ok (.iload_n 2, 1) := by decide +kernel
theorem dX1_addSlid_45 : decode cX1_addSlid 45 = .ok (.iload_n 3, 1) := by decide +kernel
theorem dX1_addSlid_46 : decode cX1_addSlid 46 = .ok (.invokestatic 55, 3) := by decide +kernel
theorem dX1_addSlid_49 : decode cX1_addSlid 49 = .ok (.lor, 1) := by decide +kernel
theorem dX1_addSlid_50 : decode cX1_addSlid 50 = .ok (.lastore, 1) := by decide +kernel
theorem dX1_addSlid_51 : decode cX1_addSlid 51 = .ok (.iinc 5 1, 3) := by decide +kernel
theorem dX1_addSlid_54 : decode cX1_addSlid 54 = .ok (.goto (-51), 3) := by decide +kernel
theorem dX1_addSlid_57 : decode cX1_addSlid 57 = .ok (.return_, 1) := by decide +kernel
theorem dX1_slide_0 : decode cX1_slide 0 = .ok (.iload_n 2, 1) := by decide +kernel
theorem dX1_slide_1 : decode cX1_slide 1 = .ok (.bipush (-8), 2) := by decide +kernel
theorem dX1_slide_3 : decode cX1_slide 3 = .ok (.if_icmp .le 21, 3) := by decide +kernel
theorem dX1_slide_6 : decode cX1_slide 6 = .ok (.iload_n 2, 1) := by decide +kernel
theorem dX1_slide_7 : decode cX1_slide 7 = .ok (.bipush 8, 2) := by decide +kernel
theorem dX1_slide_9 : decode cX1_slide 9 = .ok (.if_icmp .ge 15, 3) := by decide +kernel
theorem dX1_slide_12 : decode cX1_slide 12 = .ok (.iload_n 3, 1) := by decide +kernel
theorem dX1_slide_13 : decode cX1_slide 13 = .ok (.bipush (-8), 2) := by decide +kernel
theorem dX1_slide_15 : decode cX1_slide 15 = .ok (.if_icmp .le 9, 3) := by decide +kernel
theorem dX1_slide_18 : decode cX1_slide 18 = .ok (.iload_n 3, 1) := by decide +kernel
theorem dX1_slide_19 : decode cX1_slide 19 = .ok (.bipush 8, 2) := by decide +kernel
theorem dX1_slide_21 : decode cX1_slide 21 = .ok (.if_icmp .lt 5, 3) := by decide +kernel
theorem dX1_slide_24 : decode cX1_slide 24 = .ok (.lconst 0, 1) := by decide +kernel
theorem dX1_slide_25 : decode cX1_slide 25 = .ok (.lreturn, 1) := by decide +kernel
theorem dX1_slide_26 : decode cX1_slide 26 = .ok (.iload_n 3, 1) := by decide +kernel
theorem dX1_slide_27 : decode cX1_slide 27 = .ok (.ifCond .ge 13, 3) := by decide +kernel
theorem dX1_slide_30 : decode cX1_slide 30 = .ok (.lload_n 0, 1) := by decide +kernel
theorem dX1_slide_31 : decode cX1_slide 31 = .ok (.iload_n 3, 1) := by decide +kernel
theorem dX1_slide_32 : decode cX1_slide 32 = .ok (.ineg, 1) := by decide +kernel
theorem dX1_slide_33 : decode cX1_slide 33 = .ok (.bipush 8, 2) := by decide +kernel
theorem dX1_slide_35 : decode cX1_slide 35 = .ok (.imul, 1) := by decide +kernel
theorem dX1_slide_36 : decode cX1_slide 36 = .ok (.lushr, 1) := by decide +kernel
theorem dX1_slide_37 : decode cX1_slide 37 = .ok (.goto 9, 3) := by decide +kernel
theorem dX1_slide_40 : decode cX1_slide 40 = .ok (.lload_n 0, 1) := by decide +kernel
theorem dX1_slide_41 : decode cX1_slide 41 = .ok (.iload_n 3, 1) := by decide +kernel
theorem dX1_slide_42 : decode cX1_slide 42 = .ok (.bipush 8, 2) := by decide +kernel
theorem dX1_slide_44 : decode cX1_slide 44 = .ok (.imul, 1) := by decide +kernel
theorem dX1_slide_45 : decode cX1_slide 45 = .ok (.lshl, 1) := by decide +kernel
theorem dX1_slide_46 : decode cX1_slide 46 = .ok (.lstore 4, 2) := by decide +kernel
theorem dX1_slide_48 : decode cX1_slide 48 = .ok (.iload_n 2, 1) := by decide +kernel
theorem dX1_slide_49 : decode cX1_slide 49 = .ok (.ifCond .ge 20, 3) := by decide +kernel
theorem dX1_slide_52 : decode cX1_slide 52 = .ok (.lload 4, 2) := by decide +kernel
theorem dX1_slide_54 : decode cX1_slide 54 = .ok (.iload_n 2, 1) := by decide +kernel
theorem dX1_slide_55 : decode cX1_slide 55 = .ok (.ineg, 1) := by decide +kernel
theorem dX1_slide_56 : decode cX1_slide 56 = .ok (.lushr, 1) := by decide +kernel
theorem dX1_slide_57 : decode cX1_slide 57 = .ok (.ldc2_w 59, 3) := by decide +kernel
theorem dX1_slide_60 : decode cX1_slide 60 = .ok (.ldc2_w 23, 3) := by decide +kernel
theorem dX1_slide_63 : decode cX1_slide 63 = .ok (.iload_n 2, 1) := by decide +kernel
theorem dX1_slide_64 : decode cX1_slide 64 = .ok (.ineg, 1) := by decide +kernel
theorem dX1_slide_65 : decode cX1_slide 65 = .ok (.lushr, 1) := by decide +kernel
theorem dX1_slide_66 : decode cX1_slide 66 = .ok (.lmul, 1) := by decide +kernel
theorem dX1_slide_67 : decode cX1_slide 67 = .ok (.land, 1) := by decide +kernel
theorem dX1_slide_68 : decode cX1_slide 68 = .ok (.lreturn, 1) := by decide +kernel
theorem dX1_slide_69 : decode cX1_slide 69 = .ok (.lload 4, 2) := by decide +kernel
theorem dX1_slide_71 : decode cX1_slide 71 = .ok (.iload_n 2, 1) := by decide +kernel
theorem dX1_slide_72 : decode cX1_slide 72 = .ok (.lshl, 1) := by decide +kernel
theorem dX1_slide_73 : decode cX1_slide 73 = .ok (.ldc2_w 59, 3) := by decide +kernel
theorem dX1_slide_76 : decode cX1_slide 76 = .ok (.ldc2_w 23, 3) := by decide +kernel
theorem dX1_slide_79 : decode cX1_slide 79 = .ok (.iload_n 2, 1) := by decide +kernel
theorem dX1_slide_80 : decode cX1_slide 80 = .ok (.lshl, 1) := by decide +kernel
theorem dX1_slide_81 : decode cX1_slide 81 = .ok (.ldc2_w 23, 3) := by decide +kernel
theorem dX1_slide_84 : decode cX1_slide 84 = .ok (.land, 1) := by decide +kernel
theorem dX1_slide_85 : decode cX1_slide 85 = .ok (.lmul, 1) := by decide +kernel
theorem dX1_slide_86 : decode cX1_slide 86 = .ok (.land, 1) := by decide +kernel
theorem dX1_slide_87 : decode cX1_slide 87 = .ok (.lreturn, 1) := by decide +kernel
theorem dX1_besideAt_0 : decode cX1_besideAt 0 = .ok (.iload_n 1, 1) := by decide +kernel
theorem dX1_besideAt_1 : decode cX1_besideAt 1 = .ok (.ifCond .ne 16, 3) := by decide +kernel
theorem dX1_besideAt_4 : decode cX1_besideAt 4 = .ok (.aload_n 0, 1) := by decide +kernel
theorem dX1_besideAt_5 : decode cX1_besideAt 5 = .ok (.getfield 9, 3) := by decide +kernel
theorem dX1_besideAt_8 : decode cX1_besideAt 8 = .ok (.iload_n 2, 1) := by decide +kernel
theorem dX1_besideAt_9 : decode cX1_besideAt 9 = .ok (.laload, 1) := by decide +kernel
theorem dX1_besideAt_10 : decode cX1_besideAt 10 = .ok (.iconst 1, 1) := by decide +kernel
theorem dX1_besideAt_11 : decode cX1_besideAt 11 = .ok (.lshl, 1) := by decide +kernel
theorem dX1_besideAt_12 : decode cX1_besideAt 12 = .ok (.ldc2_w 61, 3) := by decide +kernel
theorem dX1_besideAt_15 : decode cX1_besideAt 15 = .ok (.land, 1) := by decide +kernel
theorem dX1_besideAt_16 : decode cX1_besideAt 16 = .ok (.lreturn, 1) := by decide +kernel
theorem dX1_besideAt_17 : decode cX1_besideAt 17 = .ok (.iload_n 1, 1) := by decide +kernel
theorem dX1_besideAt_18 : decode cX1_besideAt 18 = .ok (.iconst 1, 1) := by decide +kernel
theorem dX1_besideAt_19 : decode cX1_besideAt 19 = .ok (.if_icmp .ne 16, 3) := by decide +kernel
theorem dX1_besideAt_22 : decode cX1_besideAt 22 = .ok (.aload_n 0, 1) := by decide +kernel
theorem dX1_besideAt_23 : decode cX1_besideAt 23 = .ok (.getfield 9, 3) := by decide +kernel
theorem dX1_besideAt_26 : decode cX1_besideAt 26 = .ok (.iload_n 2, 1) := by decide +kernel
theorem dX1_besideAt_27 : decode cX1_besideAt 27 = .ok (.laload, 1) := by decide +kernel
theorem dX1_besideAt_28 : decode cX1_besideAt 28 = .ok (.iconst 1, 1) := by decide +kernel
theorem dX1_besideAt_29 : decode cX1_besideAt 29 = .ok (.lushr, 1) := by decide +kernel
theorem dX1_besideAt_30 : decode cX1_besideAt 30 = .ok (.ldc2_w 63, 3) := by decide +kernel
theorem dX1_besideAt_33 : decode cX1_besideAt 33 = .ok (.land, 1) := by decide +kernel
theorem dX1_besideAt_34 : decode cX1_besideAt 34 = .ok (.lreturn, 1) := by decide +kernel
theorem dX1_besideAt_35 : decode cX1_besideAt 35 = .ok (.iload_n 1, 1) := by decide +kernel
theorem dX1_besideAt_36 : decode cX1_besideAt 36 = .ok (.iconst 2, 1) := by decide +kernel
theorem dX1_besideAt_37 : decode cX1_besideAt 37 = .ok (.if_icmp .ne 13, 3) := by decide +kernel
theorem dX1_besideAt_40 : decode cX1_besideAt 40 = .ok (.aload_n 0, 1) := by decide +kernel
theorem dX1_besideAt_41 : decode cX1_besideAt 41 = .ok (.getfield 9, 3) := by decide +kernel
theorem dX1_besideAt_44 : decode cX1_besideAt 44 = .ok (.iload_n 2, 1) := by decide +kernel
theorem dX1_besideAt_45 : decode cX1_besideAt 45 = .ok (.laload, 1) := by decide +kernel
theorem dX1_besideAt_46 : decode cX1_besideAt 46 = .ok (.bipush 8, 2) := by decide +kernel
theorem dX1_besideAt_48 : decode cX1_besideAt 48 = .ok (.lshl, 1) := by decide +kernel
theorem dX1_besideAt_49 : decode cX1_besideAt 49 = .ok (.lreturn, 1) := by decide +kernel
theorem dX1_besideAt_50 : decode cX1_besideAt 50 = .ok (.iload_n 1, 1) := by decide +kernel
theorem dX1_besideAt_51 : decode cX1_besideAt 51 = .ok (.iconst 3, 1) := by decide +kernel
theorem dX1_besideAt_52 : decode cX1_besideAt 52 = .ok (.if_icmp .ne 13, 3) := by decide +kernel
theorem dX1_besideAt_55 : decode cX1_besideAt 55 = .ok (.aload_n 0, 1) := by decide +kernel
theorem dX1_besideAt_56 : decode cX1_besideAt 56 = .ok (.getfield 9, 3) := by decide +kernel
theorem dX1_besideAt_59 : decode cX1_besideAt 59 = .ok (.iload_n 2, 1) := by decide +kernel
theorem dX1_besideAt_60 : decode cX1_besideAt 60 = .ok (.laload, 1) := by decide +kernel
theorem dX1_besideAt_61 : decode cX1_besideAt 61 = .ok (.bipush 8, 2) := by decide +kernel
theorem dX1_besideAt_63 : decode cX1_besideAt 63 = .ok (.lushr, 1) := by decide +kernel
theorem dX1_besideAt_64 : decode cX1_besideAt 64 = .ok (.lreturn, 1) := by decide +kernel
theorem dX1_besideAt_65 : decode cX1_besideAt 65 = .ok (.iload_n 1, 1) := by decide +kernel
theorem dX1_besideAt_66 : decode cX1_besideAt 66 = .ok (.iconst 4, 1) := by decide +kernel
theorem dX1_besideAt_67 : decode cX1_besideAt 67 = .ok (.if_icmp .ne 9, 3) := by decide +kernel
theorem dX1_besideAt_70 : decode cX1_besideAt 70 = .ok (.iload_n 2, 1) := by decide +kernel
theorem dX1_besideAt_71 : decode cX1_besideAt 71 = .ok (.iconst 1, 1) := by decide +kernel
theorem dX1_besideAt_72 : decode cX1_besideAt 72 = .ok (.isub, 1) := by decide +kernel
theorem dX1_besideAt_73 : decode cX1_besideAt 73 = .ok (.goto 6, 3) := by decide +kernel
theorem dX1_besideAt_76 : decode cX1_besideAt 76 = .ok (.iload_n 2, 1) := by decide +kernel
theorem dX1_besideAt_77 : decode cX1_besideAt 77 = .ok (.iconst 1, 1) := by decide +kernel
theorem dX1_besideAt_78 : decode cX1_besideAt 78 = .ok (.iadd, 1) := by decide +kernel
theorem dX1_besideAt_79 : decode cX1_besideAt 79 = .ok (.istore_n 3, 1) := by decide +kernel
theorem dX1_besideAt_80 : decode cX1_besideAt 80 = .ok (.iload_n 3, 1) := by decide +kernel
theorem dX1_besideAt_81 : decode cX1_besideAt 81 = .ok (.ifCond .lt 18, 3) := by decide +kernel
theorem dX1_besideAt_84 : decode cX1_besideAt 84 = .ok (.iload_n 3, 1) := by decide +kernel
theorem dX1_besideAt_85 : decode cX1_besideAt 85 = .ok (.bipush 8, 2) := by decide +kernel
theorem dX1_besideAt_87 : decode cX1_besideAt 87 = .ok (.if_icmp .ge 12, 3) := by decide +kernel
theorem dX1_besideAt_90 : decode cX1_besideAt 90 = .ok (.aload_n 0, 1) := by decide +kernel
theorem dX1_besideAt_91 : decode cX1_besideAt 91 = .ok (.getfield 9, 3) := by decide +kernel
theorem dX1_besideAt_94 : decode cX1_besideAt 94 = .ok (.iload_n 3, 1) := by decide +kernel
theorem dX1_besideAt_95 : decode cX1_besideAt 95 = .ok (.laload, 1) := by decide +kernel
theorem dX1_besideAt_96 : decode cX1_besideAt 96 = .ok (.goto 4, 3) := by decide +kernel
theorem dX1_besideAt_99 : decode cX1_besideAt 99 = .ok (.lconst 0, 1) := by decide +kernel
theorem dX1_besideAt_100 : decode cX1_besideAt 100 = .ok (.lreturn, 1) := by decide +kernel
theorem dX1_squaresAt_0 : decode cX1_squaresAt 0 = .ok (.aload_n 0, 1) := by decide +kernel
theorem dX1_squaresAt_1 : decode cX1_squaresAt 1 = .ok (.getfield 9, 3) := by decide +kernel
theorem dX1_squaresAt_4 : decode cX1_squaresAt 4 = .ok (.iload_n 2, 1) := by decide +kernel
theorem dX1_squaresAt_5 : decode cX1_squaresAt 5 = .ok (.laload, 1) := by decide +kernel
theorem dX1_squaresAt_6 : decode cX1_squaresAt 6 = .ok (.aload_n 0, 1) := by decide +kernel
theorem dX1_squaresAt_7 : decode cX1_squaresAt 7 = .ok (.iload_n 1, 1) := by decide +kernel
theorem dX1_squaresAt_8 : decode cX1_squaresAt 8 = .ok (.iload_n 2, 1) := by decide +kernel
theorem dX1_squaresAt_9 : decode cX1_squaresAt 9 = .ok (.invokevirtual 33, 3) := by decide +kernel
theorem dX1_squaresAt_12 : decode cX1_squaresAt 12 = .ok (.ldc2_w 31, 3) := by decide +kernel
theorem dX1_squaresAt_15 : decode cX1_squaresAt 15 = .ok (.lxor, 1) := by decide +kernel
theorem dX1_squaresAt_16 : decode cX1_squaresAt 16 = .ok (.land, 1) := by decide +kernel
theorem dX1_squaresAt_17 : decode cX1_squaresAt 17 = .ok (.lreturn, 1) := by decide +kernel
theorem dX1_countSquares_0 : decode cX1_countSquares 0 = .ok (.iconst 0, 1) := by decide +kernel
theorem dX1_countSquares_1 : decode cX1_countSquares 1 = .ok (.istore_n 2, 1) := by decide +kernel
theorem dX1_countSquares_2 : decode cX1_countSquares 2 = .ok (.iconst 0, 1) := by decide +kernel
theorem dX1_countSquares_3 : decode cX1_countSquares 3 = .ok (.istore_n 3, 1) := by decide +kernel
theorem dX1_countSquares_4 : decode cX1_countSquares 4 = .ok (.iload_n 3, 1) := by decide +kernel
theorem dX1_countSquares_5 : decode cX1_countSquares 5 = .ok (.bipush 8, 2) := by decide +kernel
theorem dX1_countSquares_7 : decode cX1_countSquares 7 = .ok (.if_icmp .ge 21, 3) := by decide +kernel
theorem dX1_countSquares_10 : decode cX1_countSquares 10 = .ok (.iload_n 2, 1) := by decide +kernel
theorem dX1_countSquares_11 : decode cX1_countSquares 11 = .ok (.aload_n 0, 1) := by decide +kernel
theorem dX1_countSquares_12 : decode cX1_countSquares 12 = .ok (.iload_n 1, 1) := by decide +kernel
theorem dX1_countSquares_13 : decode cX1_countSquares 13 = .ok (.iload_n 3, 1) := by decide +kernel
theorem dX1_countSquares_14 : decode cX1_countSquares 14 = .ok (.invokevirtual 65, 3) := by decide +kernel
theorem dX1_countSquares_17 : decode cX1_countSquares 17 = .ok (.invokestatic 37, 3) := by decide +kernel
theorem dX1_countSquares_20 : decode cX1_countSquares 20 = .ok (.iadd, 1) := by decide +kernel
theorem dX1_countSquares_21 : decode cX1_countSquares 21 = .ok (.istore_n 2, 1) := by decide +kernel
theorem dX1_countSquares_22 : decode cX1_countSquares 22 = .ok (.iinc 3 1, 3) := by decide +kernel
theorem dX1_countSquares_25 : decode cX1_countSquares 25 = .ok (.goto (-21), 3) := by decide +kernel
theorem dX1_countSquares_28 : decode cX1_countSquares 28 = .ok (.iload_n 2, 1) := by decide +kernel
theorem dX1_countSquares_29 : decode cX1_countSquares 29 = .ok (.ireturn, 1) := by decide +kernel
theorem dX1_takeSeedOf_0 : decode cX1_takeSeedOf 0 = .ok (.aload_n 0, 1) := by decide +kernel
theorem dX1_takeSeedOf_1 : decode cX1_takeSeedOf 1 = .ok (.invokevirtual 43, 3) := by decide +kernel
theorem dX1_takeSeedOf_4 : decode cX1_takeSeedOf 4 = .ok (.iconst 0, 1) := by decide +kernel
theorem dX1_takeSeedOf_5 : decode cX1_takeSeedOf 5 = .ok (.istore_n 2, 1) := by decide +kernel
theorem dX1_takeSeedOf_6 : decode cX1_takeSeedOf 6 = .ok (.iload_n 2, 1) := by decide +kernel
theorem dX1_takeSeedOf_7 : decode cX1_takeSeedOf 7 = .ok (.bipush 8, 2) := by decide +kernel
theorem dX1_takeSeedOf_9 : decode cX1_takeSeedOf 9 = .ok (.if_icmp .ge 37, 3) := by decide +kernel
theorem dX1_takeSeedOf_12 : decode cX1_takeSeedOf 12 = .ok (.aload_n 1, 1) := by decide +kernel
theorem dX1_takeSeedOf_13 : decode cX1_takeSeedOf 13 = .ok (.getfield 9, 3) := by decide +kernel
theorem dX1_takeSeedOf_16 : decode cX1_takeSeedOf 16 = .ok (.iload_n 2, 1) := by decide +kernel
theorem dX1_takeSeedOf_17 : decode cX1_takeSeedOf 17 = .ok (.laload, 1) := by decide +kernel
theorem dX1_takeSeedOf_18 : decode cX1_takeSeedOf 18 = .ok (.lconst 0, 1) := by decide +kernel
theorem dX1_takeSeedOf_19 : decode cX1_takeSeedOf 19 = .ok (.lcmp, 1) := by decide +kernel
theorem dX1_takeSeedOf_20 : decode cX1_takeSeedOf 20 = .ok (.ifCond .eq 20, 3) := by decide +kernel
theorem dX1_takeSeedOf_23 : decode cX1_takeSeedOf 23 = .ok (.aload_n 0, 1) := by decide +kernel
theorem dX1_takeSeedOf_24 : decode cX1_takeSeedOf 24 = .ok (.getfield 9, 3) := by decide +kernel
theorem dX1_takeSeedOf_27 : decode cX1_takeSeedOf 27 = .ok (.iload_n 2, 1) := by decide +kernel
theorem dX1_takeSeedOf_28 : decode cX1_takeSeedOf 28 = .ok (.aload_n 1, 1) := by decide +kernel
theorem dX1_takeSeedOf_29 : decode cX1_takeSeedOf 29 = .ok (.getfield 9, 3) := by decide +kernel
theorem dX1_takeSeedOf_32 : decode cX1_takeSeedOf 32 = .ok (.iload_n 2, 1) := by decide +kernel
theorem dX1_takeSeedOf_33 : decode cX1_takeSeedOf 33 = .ok (.laload, 1) := by decide +kernel
theorem dX1_takeSeedOf_34 : decode cX1_takeSeedOf 34 = .ok (.invokestatic 68, 3) := by decide +kernel
theorem dX1_takeSeedOf_37 : decode cX1_takeSeedOf 37 = .ok (.lastore, 1) := by decide +kernel
theorem dX1_takeSeedOf_38 : decode cX1_takeSeedOf 38 = .ok (.iconst 1, 1) := by decide +kernel
theorem dX1_takeSeedOf_39 : decode cX1_takeSeedOf 39 = .ok (.ireturn, 1) := by decide +kernel
theorem dX1_takeSeedOf_40 : decode cX1_takeSeedOf 40 = .ok (.iinc 2 1, 3) := by decide +kernel
theorem dX1_takeSeedOf_43 : decode cX1_takeSeedOf 43 = .ok (.goto (-37), 3) := by decide +kernel
theorem dX1_takeSeedOf_46 : decode cX1_takeSeedOf 46 = .ok (.iconst 0, 1) := by decide +kernel
theorem dX1_takeSeedOf_47 : decode cX1_takeSeedOf 47 = .ok (.ireturn, 1) := by decide +kernel
theorem dX1_growWithin_0 : decode cX1_growWithin 0 = .ok (.iconst 0, 1) := by decide +kernel
theorem dX1_growWithin_1 : decode cX1_growWithin 1 = .ok (.istore_n 2, 1) := by decide +kernel
theorem dX1_growWithin_2 : decode cX1_growWithin 2 = .ok (.iconst 0, 1) := by decide +kernel
theorem dX1_growWithin_3 : decode cX1_growWithin 3 = .ok (.istore_n 3, 1) := by decide +kernel
theorem dX1_growWithin_4 : decode cX1_growWithin 4 = .ok (.iload_n 3, 1) := by decide +kernel
theorem dX1_growWithin_5 : decode cX1_growWithin 5 = .ok (.bipush 8, 2) := by decide +kernel
theorem dX1_growWithin_7 : decode cX1_growWithin 7 = .ok (.if_icmp .ge 86, 3) := by decide +kernel
theorem dX1_growWithin_10 : decode cX1_growWithin 10 = .ok (.aload_n 0, 1) := by decide +kernel
theorem dX1_growWithin_11 : decode cX1_growWithin 11 = .ok (.getfield 9, 3) := by decide +kernel
theorem dX1_growWithin_14 : decode cX1_growWithin 14 = .ok (.iload_n 3, 1) := by decide +kernel
theorem dX1_growWithin_15 : decode cX1_growWithin 15 = .ok (.laload, 1) := by decide +kernel
theorem dX1_growWithin_16 : decode cX1_growWithin 16 = .ok (.lstore 4, 2) := by decide +kernel
theorem dX1_growWithin_18 : decode cX1_growWithin 18 = .ok (.iconst 0, 1) := by decide +kernel
theorem dX1_growWithin_19 : decode cX1_growWithin 19 = .ok (.istore 6, 2) := by decide +kernel
theorem dX1_growWithin_21 : decode cX1_growWithin 21 = .ok (.iload 6, 2) := by decide +kernel
theorem dX1_growWithin_23 : decode cX1_growWithin 23 = .ok (.bipush 6, 2) := by decide +kernel
theorem dX1_growWithin_25 : decode cX1_growWithin 25 = .ok (.if_icmp .ge 21, 3) := by decide +kernel
theorem dX1_growWithin_28 : decode cX1_growWithin 28 = .ok (.lload 4, 2) := by decide +kernel
theorem dX1_growWithin_30 : decode cX1_growWithin 30 = .ok (.aload_n 0, 1) := by decide +kernel
theorem dX1_growWithin_31 : decode cX1_growWithin 31 = .ok (.iload 6, 2) := by decide +kernel
theorem dX1_growWithin_33 : decode cX1_growWithin 33 = .ok (.iload_n 3, 1) := by decide +kernel
theorem dX1_growWithin_34 : decode cX1_growWithin 34 = .ok (.invokevirtual 33, 3) := by decide +kernel
theorem dX1_growWithin_37 : decode cX1_growWithin 37 = .ok (.lor, 1) := by decide +kernel
theorem dX1_growWithin_38 : decode cX1_growWithin 38 = .ok (.lstore 4, 2) := by decide +kernel
theorem dX1_growWithin_40 : decode cX1_growWithin 40 = .ok (.iinc 6 1, 3) := by decide +kernel
theorem dX1_growWithin_43 : decode cX1_growWithin 43 = .ok (.goto (-22), 3) := by decide +kernel
theorem dX1_growWithin_46 : decode cX1_growWithin 46 = .ok (.lload 4, 2) := by decide +kernel
theorem dX1_growWithin_48 : decode cX1_growWithin 48 = .ok (.aload_n 1, 1) := by decide +kernel
theorem dX1_growWithin_49 : decode cX1_growWithin 49 = .ok (.getfield 9, 3) := by decide +kernel
theorem dX1_growWithin_52 : decode cX1_growWithin 52 = .ok (.iload_n 3, 1) := by decide +kernel
theorem dX1_growWithin_53 : decode cX1_growWithin 53 = .ok (.laload, 1) := by decide +kernel
theorem dX1_growWithin_54 : decode cX1_growWithin 54 = .ok (.land, 1) := by decide +kernel
theorem dX1_growWithin_55 : decode cX1_growWithin 55 = .ok (.lstore 4, 2) := by decide +kernel
theorem dX1_growWithin_57 : decode cX1_growWithin 57 = .ok (.iload_n 2, 1) := by decide +kernel
theorem dX1_growWithin_58 : decode cX1_growWithin 58 = .ok (.ifCond .ne 15, 3) := by decide +kernel
theorem dX1_growWithin_61 : decode cX1_growWithin 61 = .ok (.lload 4, 2) := by decide +kernel
theorem dX1_growWithin_63 : decode cX1_growWithin 63 = .ok (.aload_n 0, 1) := by decide +kernel
theorem dX1_growWithin_64 : decode cX1_growWithin 64 = .ok (.getfield 9, 3) := by decide +kernel
theorem dX1_growWithin_67 : decode cX1_growWithin 67 = .ok (.iload_n 3, 1) := by decide +kernel
theorem dX1_growWithin_68 : decode cX1_growWithin 68 = .ok (.laload, 1) := by decide +kernel
theorem dX1_growWithin_69 : decode cX1_growWithin 69 = .ok (.lcmp, 1) := by decide +kernel
theorem dX1_growWithin_70 : decode cX1_growWithin 70 = .ok (.ifCond .eq 7, 3) := by decide +kernel
theorem dX1_growWithin_73 : decode cX1_growWithin 73 = .ok (.iconst 1, 1) := by decide +kernel
theorem dX1_growWithin_74 : decode cX1_growWithin 74 = .ok (.goto 4, 3) := by decide +kernel
theorem dX1_growWithin_77 : decode cX1_growWithin 77 = .ok (.iconst 0, 1) := by decide +kernel
theorem dX1_growWithin_78 : decode cX1_growWithin 78 = .ok (.istore_n 2, 1) := by decide +kernel
theorem dX1_growWithin_79 : decode cX1_growWithin 79 = .ok (.aload_n 0, 1) := by decide +kernel
theorem dX1_growWithin_80 : decode cX1_growWithin 80 = .ok (.getfield 9, 3) := by decide +kernel
theorem dX1_growWithin_83 : decode cX1_growWithin 83 = .ok (.iload_n 3, 1) := by decide +kernel
theorem dX1_growWithin_84 : decode cX1_growWithin 84 = .ok (.lload 4, 2) := by decide +kernel
theorem dX1_growWithin_86 : decode cX1_growWithin 86 = .ok (.lastore, 1) := by decide +kernel
theorem dX1_growWithin_87 : decode cX1_growWithin 87 = .ok (.iinc 3 1, 3) := by decide +kernel
theorem dX1_growWithin_90 : decode cX1_growWithin 90 = .ok (.goto (-86), 3) := by decide +kernel
theorem dX1_growWithin_93 : decode cX1_growWithin 93 = .ok (.iload_n 2, 1) := by decide +kernel
theorem dX1_growWithin_94 : decode cX1_growWithin 94 = .ok (.ireturn, 1) := by decide +kernel
theorem dX2_init_0 : decode cX2_init 0 = .ok (.aload_n 0, 1) := by decide +kernel
theorem dX2_init_1 : decode cX2_init 1 = .ok (.invokespecial 3, 3) := by decide +kernel
theorem dX2_init_4 : decode cX2_init 4 = .ok (.aload_n 0, 1) := by decide +kernel
theorem dX2_init_5 : decode cX2_init 5 = .ok (.new 9, 3) := by decide +kernel
theorem dX2_init_8 : decode cX2_init 8 = .ok (.dup, 1) := by decide +kernel
theorem dX2_init_9 : decode cX2_init 9 = .ok (.invokespecial 11, 3) := by decide +kernel
theorem dX2_init_12 : decode cX2_init 12 = .ok (.putfield 12, 3) := by decide +kernel
theorem dX2_init_15 : decode cX2_init 15 = .ok (.aload_n 0, 1) := by decide +kernel
theorem dX2_init_16 : decode cX2_init 16 = .ok (.bipush 12, 2) := by decide +kernel
theorem dX2_init_18 : decode cX2_init 18 = .ok (.newarray .int, 2) := by decide +kernel
theorem dX2_init_20 : decode cX2_init 20 = .ok (.putfield 18, 3) := by decide +kernel
theorem dX2_init_23 : decode cX2_init 23 = .ok (.aload_n 0, 1) := by decide +kernel
theorem dX2_init_24 : decode cX2_init 24 = .ok (.bipush 40, 2) := by decide +kernel
theorem dX2_init_26 : decode cX2_init 26 = .ok (.newarray .char, 2) := by decide +kernel
theorem dX2_init_28 : decode cX2_init 28 = .ok (.putfield 22, 3) := by decide +kernel
theorem dX2_init_31 : decode cX2_init 31 = .ok (.aload_n 0, 1) := by decide +kernel
theorem dX2_init_32 : decode cX2_init 32 = .ok (.sipush 240, 3) := by decide +kernel
theorem dX2_init_35 : decode cX2_init 35 = .ok (.newarray .int, 2) := by decide +kernel
theorem dX2_init_37 : decode cX2_init 37 = .ok (.putfield 26, 3) := by decide +kernel
theorem dX2_init_40 : decode cX2_init 40 = .ok (.aload_n 0, 1) := by decide +kernel
theorem dX2_init_41 : decode cX2_init 41 = .ok (.bipush 40, 2) := by decide +kernel
theorem dX2_init_43 : decode cX2_init 43 = .ok (.newarray .boolean, 2) := by decide +kernel
theorem dX2_init_45 : decode cX2_init 45 = .ok (.putfield 29, 3) := by decide +kernel
theorem dX2_init_48 : decode cX2_init 48 = .ok (.return_, 1) := by decide +kernel
theorem dX2_findPlace_0 : decode cX2_findPlace 0 = .ok (.iconst 0, 1) := by decide +kernel
theorem dX2_findPlace_1 : decode cX2_findPlace 1 = .ok (.istore_n 2, 1) := by decide +kernel
theorem dX2_findPlace_2 : decode cX2_findPlace 2 = .ok (.iload_n 2, 1) := by decide +kernel
theorem dX2_findPlace_3 : decode cX2_findPlace 3 = .ok (.aload_n 0, 1) := by decide +kernel
theorem dX2_findPlace_4 : decode cX2_findPlace 4 = .ok (.getfield 33, 3) := by decide +kernel
theorem dX2_findPlace_7 : decode cX2_findPlace 7 = .ok (.if_icmp .ge 21, 3) := by decide +kernel
theorem dX2_findPlace_10 : decode cX2_findPlace 10 = .ok (.aload_n 0, 1) := by decide +kernel
theorem dX2_findPlace_11 : decode cX2_findPlace 11 = .ok (.getfield 18, 3) := by decide +kernel
theorem dX2_findPlace_14 : decode cX2_findPlace 14 = .ok (.iload_n 2, 1) := by decide +kernel
theorem dX2_findPlace_15 : decode cX2_findPlace 15 = .ok (.iaload, 1) := by decide +kernel
theorem dX2_findPlace_16 : decode cX2_findPlace 16 = .ok (.iload_n 1, 1) := by decide +kernel
theorem dX2_findPlace_17 : decode cX2_findPlace 17 = .ok (.if_icmp .ne 5, 3) := by decide +kernel
theorem dX2_findPlace_20 : decode cX2_findPlace 20 = .ok (.iload_n 2, 1) := by decide +kernel
theorem dX2_findPlace_21 : decode cX2_findPlace 21 = .ok (.ireturn, 1) := by decide +kernel
theorem dX2_findPlace_22 : decode cX2_findPlace 22 = .ok (.iinc 2 1, 3) := by decide +kernel
theorem dX2_findPlace_25 : decode cX2_findPlace 25 = .ok (.goto (-23), 3) := by decide +kernel
theorem dX2_findPlace_28 : decode cX2_findPlace 28 = .ok (.iconst (-1), 1) := by decide +kernel
theorem dX2_findPlace_29 : decode cX2_findPlace 29 = .ok (.ireturn, 1) := by decide +kernel
theorem dX2_sizeOf_0 : decode cX2_sizeOf 0 = .ok (.aload_n 0, 1) := by decide +kernel
theorem dX2_sizeOf_1 : decode cX2_sizeOf 1 = .ok (.getfield 12, 3) := by decide +kernel
theorem dX2_sizeOf_4 : decode cX2_sizeOf 4 = .ok (.aload_n 0, 1) := by decide +kernel
theorem dX2_sizeOf_5 : decode cX2_sizeOf 5 = .ok (.getfield 26, 3) := by decide +kernel
theorem dX2_sizeOf_8 : decode cX2_sizeOf 8 = .ok (.iload_n 1, 1) := by decide +kernel
theorem dX2_sizeOf_9 : decode cX2_sizeOf 9 = .ok (.bipush 6, 2) := by decide +kernel
theorem dX2_sizeOf_11 : decode cX2_sizeOf 11 = .ok (.imul, 1) := by decide +kernel
theorem dX2_sizeOf_12 : decode cX2_sizeOf 12 = .ok (.iload_n 2, 1) := by decide +kernel
theorem dX2_sizeOf_13 : decode cX2_sizeOf 13 = .ok (.iadd, 1) := by decide +kernel
theorem dX2_sizeOf_14 : decode cX2_sizeOf 14 = .ok (.iaload, 1) := by decide +kernel
theorem dX2_sizeOf_15 : decode cX2_sizeOf 15 = .ok (.invokevirtual 37, 3) := by decide +kernel
theorem dX2_sizeOf_18 : decode cX2_sizeOf 18 = .ok (.ireturn, 1) := by decide +kernel
theorem dX2_append_0 : decode cX2_append 0 = .ok (.aload_n 0, 1) := by decide +kernel
theorem dX2_append_1 : decode cX2_append 1 = .ok (.getfield 41, 3) := by decide +kernel
theorem dX2_append_4 : decode cX2_append 4 = .ok (.istore 5, 2) := by decide +kernel
theorem dX2_append_6 : decode cX2_append 6 = .ok (.iload 5, 2) := by decide +kernel
theorem dX2_append_8 : decode cX2_append 8 = .ok (.bipush 6, 2) := by decide +kernel
theorem dX2_append_10 : decode cX2_append 10 = .ok (.imul, 1) := by decide +kernel
theorem dX2_append_11 : decode cX2_append 11 = .ok (.istore 6, 2) := by decide +kernel
theorem dX2_append_13 : decode cX2_append 13 = .ok (.aload_n 0, 1) := by decide +kernel
theorem dX2_append_14 : decode cX2_append 14 = .ok (.getfield 22, 3) := by decide +kernel
theorem dX2_append_17 : decode cX2_append 17 = .ok (.iload 5, 2) := by decide +kernel
theorem dX2_append_19 : decode cX2_append 19 = .ok (.iload_n 1, 1) := by decide +kernel
theorem dX2_append_20 : decode cX2_append 20 = .ok (.castore, 1) := by decide +kernel
theorem dX2_append_21 : decode cX2_append 21 = .ok (.aload_n 0, 1) := by decide +kernel
theorem dX2_append_22 : decode cX2_append 22 = .ok (.getfield 26, 3) := by decide +kernel
theorem dX2_append_25 : decode cX2_append 25 = .ok (.iload 6, 2) := by decide +kernel
theorem dX2_append_27 : decode cX2_append 27 = .ok (.iload_n 2, 1) := by decide +kernel
theorem dX2_append_28 : decode cX2_append 28 = .ok (.iastore, 1) := by decide +kernel
theorem dX2_append_29 : decode cX2_append 29 = .ok (.aload_n 0, 1) := by decide +kernel
theorem dX2_append_30 : decode cX2_append 30 = .ok (.getfield 26, 3) := by decide +kernel
theorem dX2_append_33 : decode cX2_append 33 = .ok (.iload 6, 2) := by decide +kernel
theorem dX2_append_35 : decode cX2_append 35 = .ok (.iconst 1, 1) := by decide +kernel
theorem dX2_append_36 : decode cX2_append 36 = .ok (.iadd, 1) := by decide +kernel
theorem dX2_append_37 : decode cX2_append 37 = .ok (.iload_n 3, 1) := by decide +kernel
theorem dX2_append_38 : decode cX2_append 38 = .ok (.iastore, 1) := by decide +kernel
theorem dX2_append_39 : decode cX2_append 39 = .ok (.aload_n 0, 1) := by decide +kernel
theorem dX2_append_40 : decode cX2_append 40 = .ok (.getfield 26, 3) := by decide +kernel
theorem dX2_append_43 : decode cX2_append 43 = .ok (.iload 6, 2) := by decide +kernel
theorem dX2_append_45 : decode cX2_append 45 = .ok (.iconst 2, 1) := by decide +kernel
theorem dX2_append_46 : decode cX2_append 46 = .ok (.iadd, 1) := by decide +kernel
theorem dX2_append_47 : decode cX2_append 47 = .ok (.iload 4, 2) := by decide +kernel
theorem dX2_append_49 : decode cX2_append 49 = .ok (.iastore, 1) := by decide +kernel
theorem dX2_append_50 : decode cX2_append 50 = .ok (.iconst 3, 1) := by decide +kernel
theorem dX2_append_51 : decode cX2_append 51 = .ok (.istore 7, 2) := by decide +kernel
theorem dX2_append_53 : decode cX2_append 53 = .ok (.iload 7, 2) := by decide +kernel
theorem dX2_append_55 : decode cX2_append 55 = .ok (.bipush 6, 2) := by decide +kernel
theorem dX2_append_57 : decode cX2_append 57 = .ok (.if_icmp .ge 20, 3) := by decide +kernel
theorem dX2_append_60 : decode cX2_append 60 = .ok (.aload_n 0, 1) := by decide +kernel
theorem dX2_append_61 : decode cX2_append 61 = .ok (.getfield 26, 3) := by decide +kernel
theorem dX2_append_64 : decode cX2_append 64 = .ok (.iload 6, 2) := by decide +kernel
theorem dX2_append_66 : decode cX2_append 66 = .ok (.iload 7, 2) := by decide +kernel
theorem dX2_append_68 : decode cX2_append 68 = .ok (.iadd, 1) := by decide +kernel
theorem dX2_append_69 : decode cX2_append 69 = .ok (.iconst 1, 1) := by decide +kernel
theorem dX2_append_70 : decode cX2_append 70 = .ok (.iastore, 1) := by decide +kernel
theorem dX2_append_71 : decode cX2_append 71 = .ok (.iinc 7 1, 3) := by decide +kernel
theorem dX2_append_74 : decode cX2_append 74 = .ok (.goto (-21), 3) := by decide +kernel
theorem dX2_append_77 : decode cX2_append 77 = .ok (.aload_n 0, 1) := by decide +kernel
theorem dX2_append_78 : decode cX2_append 78 = .ok (.getfield 18, 3) := by decide +kernel
theorem dX2_append_81 : decode cX2_append 81 = .ok (.aload_n 0, 1) := by decide +kernel
theorem dX2_append_82 : decode cX2_append 82 = .ok (.getfield 33, 3) := by decide +kernel
theorem dX2_append_85 : decode cX2_append 85 = .ok (.iload 5, 2) := by decide +kernel
theorem dX2_append_87 : decode cX2_append 87 = .ok (.iastore, 1) := by decide +kernel
theorem dX2_append_88 : decode cX2_append 88 = .ok (.aload_n 0, 1) := by decide +kernel
theorem dX2_append_89 : decode cX2_append 89 = .ok (.dup, 1) := by decide +kernel
theorem dX2_append_90 : decode cX2_append 90 = .ok (.getfield 41, 3) := by decide +kernel
theorem dX2_append_93 : decode cX2_append 93 = .ok (.iconst 1, 1) := by decide +kernel
theorem dX2_append_94 : decode cX2_append 94 = .ok (.iadd, 1) := by decide +kernel
theorem dX2_append_95 : decode cX2_append 95 = .ok (.putfield 41, 3) := by decide +kernel
theorem dX2_append_98 : decode cX2_append 98 = .ok (.aload_n 0, 1) := by decide +kernel
theorem dX2_append_99 : decode cX2_append 99 = .ok (.aload_n 0, 1) := by decide +kernel
theorem dX2_append_100 : decode cX2_append 100 = .ok (.getfield 44, 3) := by decide +kernel
theorem dX2_append_103 : decode cX2_append 103 = .ok (.aload_n 0, 1) := by decide +kernel
theorem dX2_append_104 : decode cX2_append 104 = .ok (.getfield 33, 3) := by decide +kernel
theorem dX2_append_107 : decode cX2_append 107 = .ok (.if_icmp .ne 12, 3) := by decide +kernel
theorem dX2_append_110 : decode cX2_append 110 = .ok (.aload_n 0, 1) := by decide +kernel
theorem dX2_append_111 : decode cX2_append 111 = .ok (.getfield 33, 3) := by decide +kernel
theorem dX2_append_114 : decode cX2_append 114 = .ok (.iconst 1, 1) := by decide +kernel
theorem dX2_append_115 : decode cX2_append 115 = .ok (.iadd, 1) := by decide +kernel
theorem dX2_append_116 : decode cX2_append 116 = .ok (.goto 7, 3) := by decide +kernel
theorem dX2_append_119 : decode cX2_append 119 = .ok (.aload_n 0, 1) := by decide +kernel
theorem dX2_append_120 : decode cX2_append 120 = .ok (.getfield 44, 3) := by decide +kernel
theorem dX2_append_123 : decode cX2_append 123 = .ok (.putfield 44, 3) := by decide +kernel
theorem dX2_append_126 : decode cX2_append 126 = .ok (.aload_n 0, 1) := by decide +kernel
theorem dX2_append_127 : decode cX2_append 127 = .ok (.dup, 1) := by decide +kernel
theorem dX2_append_128 : decode cX2_append 128 = .ok (.getfield 33, 3) := by decide +kernel
theorem dX2_append_131 : decode cX2_append 131 = .ok (.iconst 1, 1) := by decide +kernel
theorem dX2_append_132 : decode cX2_append 132 = .ok (.iadd, 1) := by decide +kernel
theorem dX2_append_133 : decode cX2_append 133 = .ok (.putfield 33, 3) := by decide +kernel
theorem dX2_append_136 : decode cX2_append 136 = .ok (.iload 5, 2) := by decide +kernel
theorem dX2_append_138 : decode cX2_append 138 = .ok (.ireturn, 1) := by decide +kernel
theorem dX2_putFurther_0 : decode cX2_putFurther 0 = .ok (.aload_n 0, 1) := by decide +kernel
theorem dX2_putFurther_1 : decode cX2_putFurther 1 = .ok (.iload_n 1, 1) := by decide +kernel
theorem dX2_putFurther_2 : decode cX2_putFurther 2 = .ok (.iconst 3, 1) := by decide +kernel
theorem dX2_putFurther_3 : decode cX2_putFurther 3 = .ok (.iload_n 2, 1) := by decide +kernel
theorem dX2_putFurther_4 : decode cX2_putFurther 4 = .ok (.iadd, 1) := by decide +kernel
theorem dX2_putFurther_5 : decode cX2_putFurther 5 = .ok (.invokevirtual 47, 3) := by decide +kernel
theorem dX2_putFurther_8 : decode cX2_putFurther 8 = .ok (.istore 4, 2) := by decide +kernel
theorem dX2_putFurther_10 : decode cX2_putFurther 10 = .ok (.aload_n 0, 1) := by decide +kernel
theorem dX2_putFurther_11 : decode cX2_putFurther 11 = .ok (.getfield 26, 3) := by decide +kernel
theorem dX2_putFurther_14 : decode cX2_putFurther 14 = .ok (.iload_n 1, 1) := by decide +kernel
theorem dX2_putFurther_15 : decode cX2_putFurther 15 = .ok (.bipush 6, 2) := by decide +kernel
theorem dX2_putFurther_17 : decode cX2_putFurther 17 = .ok (.imul, 1) := by decide +kernel
theorem dX2_putFurther_18 : decode cX2_putFurther 18 = .ok (.iconst 3, 1) := by decide +kernel
theorem dX2_putFurther_19 : decode cX2_putFurther 19 = .ok (.iadd, 1) := by decide +kernel
theorem dX2_putFurther_20 : decode cX2_putFurther 20 = .ok (.iload_n 2, 1) := by decide +kernel
theorem dX2_putFurther_21 : decode cX2_putFurther 21 = .ok (.iadd, 1) := by decide +kernel
theorem dX2_putFurther_22 : decode cX2_putFurther 22 = .ok (.iload_n 3, 1) := by decide +kernel
theorem dX2_putFurther_23 : decode cX2_putFurther 23 = .ok (.iastore, 1) := by decide +kernel
theorem dX2_putFurther_24 : decode cX2_putFurther 24 = .ok (.aload_n 0, 1) := by decide +kernel
theorem dX2_putFurther_25 : decode cX2_putFurther 25 = .ok (.iload_n 1, 1) := by decide +kernel
theorem dX2_putFurther_26 : decode cX2_putFurther 26 = .ok (.iconst 3, 1) := by decide +kernel
theorem dX2_putFurther_27 : decode cX2_putFurther 27 = .ok (.iload_n 2, 1) := by decide +kernel
theorem dX2_putFurther_28 : decode cX2_putFurther 28 = .ok (.iadd, 1) := by decide +kernel
theorem dX2_putFurther_29 : decode cX2_putFurther 29 = .ok (.invokevirtual 47, 3) := by decide +kernel
theorem dX2_putFurther_32 : decode cX2_putFurther 32 = .ok (.iload 4, 2) := by decide +kernel
theorem dX2_putFurther_34 : decode cX2_putFurther 34 = .ok (.if_icmp .ne 7, 3) := by decide +kernel
theorem dX2_putFurther_37 : decode cX2_putFurther 37 = .ok (.iconst 0, 1) := by decide +kernel
theorem dX2_putFurther_38 : decode cX2_putFurther 38 = .ok (.goto 4, 3) := by decide +kernel
theorem dX2_putFurther_41 : decode cX2_putFurther 41 = .ok (.iconst 1, 1) := by decide +kernel
theorem dX2_putFurther_42 : decode cX2_putFurther 42 = .ok (.ireturn, 1) := by decide +kernel
theorem dX2_takeOutAt_0 : decode cX2_takeOutAt 0 = .ok (.aload_n 0, 1) := by decide +kernel
theorem dX2_takeOutAt_1 : decode cX2_takeOutAt 1 = .ok (.iload_n 1, 1) := by decide +kernel
theorem dX2_takeOutAt_2 : decode cX2_takeOutAt 2 = .ok (.aload_n 0, 1) := by decide +kernel
theorem dX2_takeOutAt_3 : decode cX2_takeOutAt 3 = .ok (.getfield 33, 3) := by decide +kernel
theorem dX2_takeOutAt_6 : decode cX2_takeOutAt 6 = .ok (.iconst 1, 1) := by decide +kernel
theorem dX2_takeOutAt_7 : decode cX2_takeOutAt 7 = .ok (.isub, 1) := by decide +kernel
theorem dX2_takeOutAt_8 : decode cX2_takeOutAt 8 = .ok (.invokevirtual 51, 3) := by decide +kernel
theorem dX2_takeOutAt_11 : decode cX2_takeOutAt 11 = .ok (.aload_n 0, 1) := by decide +kernel
theorem dX2_takeOutAt_12 : decode cX2_takeOutAt 12 = .ok (.dup, 1) := by decide +kernel
theorem dX2_takeOutAt_13 : decode cX2_takeOutAt 13 = .ok (.getfield 33, 3) := by decide +kernel
theorem dX2_takeOutAt_16 : decode cX2_takeOutAt 16 = .ok (.iconst 1, 1) := by decide +kernel
theorem dX2_takeOutAt_17 : decode cX2_takeOutAt 17 = .ok (.isub, 1) := by decide +kernel
theorem dX2_takeOutAt_18 : decode cX2_takeOutAt 18 = .ok (.putfield 33, 3) := by decide +kernel
theorem dX2_takeOutAt_21 : decode cX2_takeOutAt 21 = .ok (.aload_n 0, 1) := by decide +kernel
theorem dX2_takeOutAt_22 : decode cX2_takeOutAt 22 = .ok (.aload_n 0, 1) := by decide +kernel
theorem dX2_takeOutAt_23 : decode cX2_takeOutAt 23 = .ok (.getfield 44, 3) := by decide +kernel
theorem dX2_takeOutAt_26 : decode cX2_takeOutAt 26 = .ok (.aload_n 0, 1) := by decide +kernel
theorem dX2_takeOutAt_27 : decode cX2_takeOutAt 27 = .ok (.getfield 33, 3) := by decide +kernel
theorem dX2_takeOutAt_30 : decode cX2_takeOutAt 30 = .ok (.invokestatic 55, 3) := by decide +kernel
theorem dX2_takeOutAt_33 : decode cX2_takeOutAt 33 = .ok (.putfield 44, 3) := by decide +kernel
theorem dX2_takeOutAt_36 : decode cX2_takeOutAt 36 = .ok (.return_, 1) := by decide +kernel
theorem dX2_shift_0 : decode cX2_shift 0 = .ok (.aload_n 0, 1) := by decide +kernel
theorem dX2_shift_1 : decode cX2_shift 1 = .ok (.getfield 18, 3) := by decide +kernel
theorem dX2_shift_4 : decode cX2_shift 4 = .ok (.iload_n 1, 1) := by decide +kernel
theorem dX2_shift_5 : decode cX2_shift 5 = .ok (.iaload, 1) := by decide +kernel
theorem dX2_shift_6 : decode cX2_shift 6 = .ok (.istore_n 3, 1) := by decide +kernel
theorem dX2_shift_7 : decode cX2_shift 7 = .ok (.iload_n 1, 1) := by decide +kernel
theorem dX2_shift_8 : decode cX2_shift 8 = .ok (.istore 4, 2) := by decide +kernel
theorem dX2_shift_10 : decode cX2_shift 10 = .ok (.iload 4, 2) := by decide +kernel
theorem dX2_shift_12 : decode cX2_shift 12 = .ok (.iload_n 2, 1) := by decide +kernel
theorem dX2_shift_13 : decode cX2_shift 13 = .ok (.if_icmp .ge 25, 3) := by decide +kernel
theorem dX2_shift_16 : decode cX2_shift 16 = .ok (.aload_n 0, 1) := by decide +kernel
theorem dX2_shift_17 : decode cX2_shift 17 = .ok (.getfield 18, 3) := by decide +kernel
theorem dX2_shift_20 : decode cX2_shift 20 = .ok (.iload 4, 2) := by decide +kernel
theorem dX2_shift_22 : decode cX2_shift 22 = .ok (.aload_n 0, 1) := by decide +kernel
theorem dX2_shift_23 : decode cX2_shift 23 = .ok (.getfield 18, 3) := by decide +kernel
theorem dX2_shift_26 : decode cX2_shift 26 = .ok (.iload 4, 2) := by decide +kernel
theorem dX2_shift_28 : decode cX2_shift 28 = .ok (.iconst 1, 1) := by decide +kernel
theorem dX2_shift_29 : decode cX2_shift 29 = .ok (.iadd, 1) := by decide +kernel
theorem dX2_shift_30 : decode cX2_shift 30 = .ok (.iaload, 1) := by decide +kernel
theorem dX2_shift_31 : decode cX2_shift 31 = .ok (.iastore, 1) := by decide +kernel
theorem dX2_shift_32 : decode cX2_shift 32 = .ok (.iinc 4 1, 3) := by decide +kernel
theorem dX2_shift_35 : decode cX2_shift 35 = .ok (.goto (-25), 3) := by decide +kernel
theorem dX2_shift_38 : decode cX2_shift 38 = .ok (.iload_n 1, 1) := by decide +kernel
theorem dX2_shift_39 : decode cX2_shift 39 = .ok (.istore 4, 2) := by decide +kernel
theorem dX2_shift_41 : decode cX2_shift 41 = .ok (.iload 4, 2) := by decide +kernel
theorem dX2_shift_43 : decode cX2_shift 43 = .ok (.iload_n 2, 1) := by decide +kernel
theorem dX2_shift_44 : decode cX2_shift 44 = .ok (.if_icmp .le 25, 3) := by decide +kernel
theorem dX2_shift_47 : decode cX2_shift 47 = .ok (.aload_n 0, 1) := by decide +kernel
theorem dX2_shift_48 : decode cX2_shift 48 = .ok (.getfield 18, 3) := by decide +kernel
theorem dX2_shift_51 : decode cX2_shift 51 = .ok (.iload 4, 2) := by decide +kernel
theorem dX2_shift_53 : decode cX2_shift 53 = .ok (.aload_n 0, 1) := by decide +kernel
theorem dX2_shift_54 : decode cX2_shift 54 = .ok (.getfield 18, 3) := by decide +kernel
theorem dX2_shift_57 : decode cX2_shift 57 = .ok (.iload 4, 2) := by decide +kernel
theorem dX2_shift_59 : decode cX2_shift 59 = .ok (.iconst 1, 1) := by decide +kernel
theorem dX2_shift_60 : decode cX2_shift 60 = .ok (.isub, 1) := by decide +kernel
theorem dX2_shift_61 : decode cX2_shift 61 = .ok (.iaload, 1) := by decide +kernel
theorem dX2_shift_62 : decode cX2_shift 62 = .ok (.iastore, 1) := by decide +kernel
theorem dX2_shift_63 : decode cX2_shift 63 = .ok (.iinc 4 (-1), 3) := by decide +kernel
theorem dX2_shift_66 : decode cX2_shift 66 = .ok (.goto (-25), 3) := by decide +kernel
theorem dX2_shift_69 : decode cX2_shift 69 = .ok (.aload_n 0, 1) := by decide +kernel
theorem dX2_shift_70 : decode cX2_shift 70 = .ok (.getfield 18, 3) := by decide +kernel
theorem dX2_shift_73 : decode cX2_shift 73 = .ok (.iload_n 2, 1) := by decide +kernel
theorem dX2_shift_74 : decode cX2_shift 74 = .ok (.iload_n 3, 1) := by decide +kernel
theorem dX2_shift_75 : decode cX2_shift 75 = .ok (.iastore, 1) := by decide +kernel
theorem dX2_shift_76 : decode cX2_shift 76 = .ok (.return_, 1) := by decide +kernel
theorem dX2_isNeededByOther_0 : decode cX2_isNeededByOther 0 = .ok (.iconst 0, 1) := by decide +kernel
theorem dX2_isNeededByOther_1 : decode cX2_isNeededByOther 1 = .ok (.istore_n 2, 1) := by decide +kernel
theorem dX2_isNeededByOther_2 : decode cX2_isNeededByOther 2 = .ok (.iload_n 2, 1) := by decide +kernel
theorem dX2_isNeededByOther_3 : decode cX2_isNeededByOther 3 = .ok (.aload_n 0, 1) := by decide +kernel
theorem dX2_isNeededByOther_4 : decode cX2_isNeededByOther 4 = .ok (.getfield 33, 3) := by decide +kernel
theorem dX2_isNeededByOther_7 : decode cX2_isNeededByOther 7 = .ok (.if_icmp .ge 44, 3) := by decide +kernel
theorem dX2_isNeededByOther_10 : decode cX2_isNeededByOther 10 = .ok (.aload_n 0, 1) := by decide +kernel
theorem dX2_isNeededByOther_11 : decode cX2_isNeededByOther 11 = .ok (.getfield 18, 3) := by decide +kernel
theorem dX2_isNeededByOther_14 : decode cX2_isNeededByOther 14 = .ok (.iload_n 2, 1) := by decide +kernel
theorem dX2_isNeededByOther_15 : decode cX2_isNeededByOther 15 = .ok (.iaload, 1) := by decide +kernel
theorem dX2_isNeededByOther_16 : decode cX2_isNeededByOther 16 = .ok (.istore_n 3, 1) := by decide +kernel
theorem dX2_isNeededByOther_17 : decode cX2_isNeededByOther 17 = .ok (.iload_n 3, 1) := by decide +kernel
theorem dX2_isNeededByOther_18 : decode cX2_isNeededByOther 18 = .ok (.iload_n 1, 1) := by decide +kernel
theorem dX2_isNeededByOther_19 : decode cX2_isNeededByOther 19 = .ok (.if_icmp .eq 26, 3) := by decide +kernel
theorem dX2_isNeededByOther_22 : decode cX2_isNeededByOther 22 = .ok (.aload_n 0, 1) := by decide +kernel
theorem dX2_isNeededByOther_23 : decode cX2_isNeededByOther 23 = .ok (.getfield 22, 3) := by decide +kernel
theorem dX2_isNeededByOther_26 : decode cX2_isNeededByOther 26 = .ok (.iload_n 3, 1) := by decide +kernel
theorem dX2_isNeededByOther_27 : decode cX2_isNeededByOther 27 = .ok (.caload, 1) := by decide +kernel
theorem dX2_isNeededByOther_28 : decode cX2_isNeededByOther 28 = .ok (.bipush 101, 2) := by decide +kernel
theorem dX2_isNeededByOther_30 : decode cX2_isNeededByOther 30 = .ok (.if_icmp .ne 15, 3) := by decide +kernel
theorem dX2_isNeededByOther_33 : decode cX2_isNeededByOther 33 = .ok (.aload_n 0, 1) := by decide +kernel
theorem dX2_isNeededByOther_34 : decode cX2_isNeededByOther 34 = .ok (.iload_n 3, 1) := by decide +kernel
theorem dX2_isNeededByOther_35 : decode cX2_isNeededByOther 35 = .ok (.iconst 0, 1) := by decide +kernel
theorem dX2_isNeededByOther_36 : decode cX2_isNeededByOther 36 = .ok (.invokevirtual 47, 3) := by decide +kernel
theorem dX2_isNeededByOther_39 : decode cX2_isNeededByOther 39 = .ok (.iload_n 1, 1) := by decide +kernel
theorem dX2_isNeededByOther_40 : decode cX2_isNeededByOther 40 = .ok (.if_icmp .ne 5, 3) := by decide +kernel
theorem dX2_isNeededByOther_43 : decode cX2_isNeededByOther 43 = .ok (.iconst 1, 1) := by decide +kernel
theorem dX2_isNeededByOther_44 : decode cX2_isNeededByOther 44 = .ok (.ireturn, 1) := by decide +kernel
theorem dX2_isNeededByOther_45 : decode cX2_isNeededByOther 45 = .ok (.iinc 2 1, 3) := by decide +kernel
theorem dX2_isNeededByOther_48 : decode cX2_isNeededByOther 48 = .ok (.goto (-46), 3) := by decide +kernel
theorem dX2_isNeededByOther_51 : decode cX2_isNeededByOther 51 = .ok (.iconst 0, 1) := by decide +kernel
theorem dX2_isNeededByOther_52 : decode cX2_isNeededByOther 52 = .ok (.ireturn, 1) := by decide +kernel
theorem dX2_standBehindNeeded_0 : decode cX2_standBehindNeeded 0 = .ok (.iconst 0, 1) := by decide +kernel
theorem dX2_standBehindNeeded_1 : decode cX2_standBehindNeeded 1 = .ok (.istore_n 1, 1) := by decide +kernel
theorem dX2_standBehindNeeded_2 : decode cX2_standBehindNeeded 2 = .ok (.iload_n 1, 1) := by decide +kernel
theorem dX2_standBehindNeeded_3 : decode cX2_standBehindNeeded 3 = .ok (.aload_n 0, 1) := by decide +kernel
theorem dX2_standBehindNeeded_4 : decode cX2_standBehindNeeded 4 = .ok (.getfield 33, 3) := by decide +kernel
theorem dX2_standBehindNeeded_7 : decode cX2_standBehindNeeded 7 = .ok (.if_icmp .ge 43, 3) := by decide +kernel
theorem dX2_standBehindNeeded_10 : decode cX2_standBehindNeeded 10 = .ok (.aload_n 0, 1) := by decide +kernel
theorem dX2_standBehindNeeded_11 : decode cX2_standBehindNeeded 11 = .ok (.getfield 18, 3) := by decide +kernel
theorem dX2_standBehindNeeded_14 : decode cX2_standBehindNeeded 14 = .ok (.iload_n 1, 1) := by decide +kernel
theorem dX2_standBehindNeeded_15 : decode cX2_standBehindNeeded 15 = .ok (.iaload, 1) := by decide +kernel
theorem dX2_standBehindNeeded_16 : decode cX2_standBehindNeeded 16 = .ok (.istore_n 2, 1) := by decide +kernel
theorem dX2_standBehindNeeded_17 : decode cX2_standBehindNeeded 17 = .ok (.aload_n 0, 1) := by decide +kernel
theorem dX2_standBehindNeeded_18 : decode cX2_standBehindNeeded 18 = .ok (.getfield 22, 3) := by decide +kernel
theorem dX2_standBehindNeeded_21 : decode cX2_standBehindNeeded 21 = .ok (.iload_n 2, 1) := by decide +kernel
theorem dX2_standBehindNeeded_22 : decode cX2_standBehindNeeded 22 = .ok (.caload, 1) := by decide +kernel
theorem dX2_standBehindNeeded_23 : decode cX2_standBehindNeeded 23 = .ok (.bipush 101, 2) := by decide +kernel
theorem dX2_standBehindNeeded_25 : decode cX2_standBehindNeeded 25 = .ok (.if_icmp .ne 19, 3) := by decide +kernel
theorem dX2_standBehindNeeded_28 : decode cX2_standBehindNeeded 28 = .ok (.aload_n 0, 1) := by decide +kernel
theorem dX2_standBehindNeeded_29 : decode cX2_standBehindNeeded 29 = .ok (.aload_n 0, 1) := by decide +kernel
theorem dX2_standBehindNeeded_30 : decode cX2_standBehindNeeded 30 = .ok (.iload_n 2, 1) := by decide +kernel
theorem dX2_standBehindNeeded_31 : decode cX2_standBehindNeeded 31 = .ok (.iconst 0, 1) := by decide +kernel
theorem dX2_standBehindNeeded_32 : decode cX2_standBehindNeeded 32 = .ok (.invokevirtual 47, 3) := by decide +kernel
theorem dX2_standBehindNeeded_35 : decode cX2_standBehindNeeded 35 = .ok (.invokevirtual 60, 3) := by decide +kernel
theorem dX2_standBehindNeeded_38 : decode cX2_standBehindNeeded 38 = .ok (.iload_n 1, 1) := by decide +kernel
theorem dX2_standBehindNeeded_39 : decode cX2_standBehindNeeded 39 = .ok (.if_icmp .le 5, 3) := by decide +kernel
theorem dX2_standBehindNeeded_42 : decode cX2_standBehindNeeded 42 = .ok (.iconst 0, 1) := by decide +kernel
theorem dX2_standBehindNeeded_43 : decode cX2_standBehindNeeded 43 = .ok (.ireturn, 1) := by decide +kernel
theorem dX2_standBehindNeeded_44 : decode cX2_standBehindNeeded 44 = .ok (.iinc 1 1, 3) := by decide +kernel
theorem dX2_standBehindNeeded_47 : decode cX2_standBehindNeeded 47 = .ok (.goto (-45), 3) := by decide +kernel
theorem dX2_standBehindNeeded_50 : decode cX2_standBehindNeeded 50 = .ok (.iconst 1, 1) := by decide +kernel
theorem dX2_standBehindNeeded_51 : decode cX2_standBehindNeeded 51 = .ok (.ireturn, 1) := by decide +kernel
theorem dX3_init_0 : decode cX3_init 0 = .ok (.aload_n 0, 1) := by decide +kernel
theorem dX3_init_1 : decode cX3_init 1 = .ok (.invokespecial 3, 3) := by decide +kernel
theorem dX3_init_4 : decode cX3_init 4 = .ok (.aload_n 0, 1) := by decide +kernel
theorem dX3_init_5 : decode cX3_init 5 = .ok (.new 9, 3) := by decide +kernel
theorem dX3_init_8 : decode cX3_init 8 = .ok (.dup, 1) := by decide +kernel
theorem dX3_init_9 : decode cX3_init 9 = .ok (.invokespecial 11, 3) := by decide +kernel
theorem dX3_init_12 : decode cX3_init 12 = .ok (.putfield 12, 3) := by decide +kernel
theorem dX3_init_15 : decode cX3_init 15 = .ok (.aload_n 0, 1) := by decide +kernel
theorem dX3_init_16 : decode cX3_init 16 = .ok (.bipush 40, 2) := by decide +kernel
theorem dX3_init_18 : decode cX3_init 18 = .ok (.newarray .char, 2) := by decide +kernel
theorem dX3_init_20 : decode cX3_init 20 = .ok (.putfield 18, 3) := by decide +kernel
theorem dX3_init_23 : decode cX3_init 23 = .ok (.aload_n 0, 1) := by decide +kernel
theorem dX3_init_24 : decode cX3_init 24 = .ok (.bipush 13, 2) := by decide +kernel
theorem dX3_init_26 : decode cX3_init 26 = .ok (.anewarray 22, 3) := by decide +kernel
theorem dX3_init_29 : decode cX3_init 29 = .ok (.putfield 24, 3) := by decide +kernel
theorem dX3_init_32 : decode cX3_init 32 = .ok (.aload_n 0, 1) := by decide +kernel
theorem dX3_init_33 : decode cX3_init 33 = .ok (.new 22, 3) := by decide +kernel
theorem dX3_init_36 : decode cX3_init 36 = .ok (.dup, 1) := by decide +kernel
theorem dX3_init_37 : decode cX3_init 37 = .ok (.invokespecial 28, 3) := by decide +kernel
theorem dX3_init_40 : decode cX3_init 40 = .ok (.putfield 29, 3) := by decide +kernel
theorem dX3_init_43 : decode cX3_init 43 = .ok (.aload_n 0, 1) := by decide +kernel
theorem dX3_init_44 : decode cX3_init 44 = .ok (.new 22, 3) := by decide +kernel
theorem dX3_init_47 : decode cX3_init 47 = .ok (.dup, 1) := by decide +kernel
theorem dX3_init_48 : decode cX3_init 48 = .ok (.invokespecial 28, 3) := by decide +kernel
theorem dX3_init_51 : decode cX3_init 51 = .ok (.putfield 33, 3) := by decide +kernel
theorem dX3_init_54 : decode cX3_init 54 = .ok (.aload_n 0, 1) := by decide +kernel
theorem dX3_init_55 : decode cX3_init 55 = .ok (.new 36, 3) := by decide +kernel
theorem dX3_init_58 : decode cX3_init 58 = .ok (.dup, 1) := by decide +kernel
theorem dX3_init_59 : decode cX3_init 59 = .ok (.invokespecial 38, 3) := by decide +kernel
theorem dX3_init_62 : decode cX3_init 62 = .ok (.putfield 39, 3) := by decide +kernel
theorem dX3_init_65 : decode cX3_init 65 = .ok (.aload_n 0, 1) := by decide +kernel
theorem dX3_init_66 : decode cX3_init 66 = .ok (.bipush 6, 2) := by decide +kernel
theorem dX3_init_68 : decode cX3_init 68 = .ok (.newarray .int, 2) := by decide +kernel
theorem dX3_init_70 : decode cX3_init 70 = .ok (.putfield 43, 3) := by decide +kernel
theorem dX3_init_73 : decode cX3_init 73 = .ok (.aload_n 0, 1) := by decide +kernel
theorem dX3_init_74 : decode cX3_init 74 = .ok (.bipush 12, 2) := by decide +kernel
theorem dX3_init_76 : decode cX3_init 76 = .ok (.newarray .int, 2) := by decide +kernel
theorem dX3_init_78 : decode cX3_init 78 = .ok (.putfield 47, 3) := by decide +kernel
theorem dX3_init_81 : decode cX3_init 81 = .ok (.aload_n 0, 1) := by decide +kernel
theorem dX3_init_82 : decode cX3_init 82 = .ok (.bipush 12, 2) := by decide +kernel
theorem dX3_init_84 : decode cX3_init 84 = .ok (.newarray .boolean, 2) := by decide +kernel
theorem dX3_init_86 : decode cX3_init 86 = .ok (.putfield 50, 3) := by decide +kernel
theorem dX3_init_89 : decode cX3_init 89 = .ok (.aload_n 0, 1) := by decide +kernel
theorem dX3_init_90 : decode cX3_init 90 = .ok (.bipush 72, 2) := by decide +kernel
theorem dX3_init_92 : decode cX3_init 92 = .ok (.newarray .int, 2) := by decide +kernel
theorem dX3_init_94 : decode cX3_init 94 = .ok (.putfield 54, 3) := by decide +kernel
theorem dX3_init_97 : decode cX3_init 97 = .ok (.iconst 0, 1) := by decide +kernel
theorem dX3_init_98 : decode cX3_init 98 = .ok (.istore_n 1, 1) := by decide +kernel
theorem dX3_init_99 : decode cX3_init 99 = .ok (.iload_n 1, 1) := by decide +kernel
theorem dX3_init_100 : decode cX3_init 100 = .ok (.bipush 12, 2) := by decide +kernel
theorem dX3_init_102 : decode cX3_init 102 = .ok (.if_icmp .gt 22, 3) := by decide +kernel
theorem dX3_init_105 : decode cX3_init 105 = .ok (.aload_n 0, 1) := by decide +kernel
theorem dX3_init_106 : decode cX3_init 106 = .ok (.getfield 24, 3) := by decide +kernel
theorem dX3_init_109 : decode cX3_init 109 = .ok (.iload_n 1, 1) := by decide +kernel
theorem dX3_init_110 : decode cX3_init 110 = .ok (.new 22, 3) := by decide +kernel
theorem dX3_init_113 : decode cX3_init 113 = .ok (.dup, 1) := by decide +kernel
theorem dX3_init_114 : decode cX3_init 114 = .ok (.invokespecial 28, 3) := by decide +kernel
theorem dX3_init_117 : decode cX3_init 117 = .ok (.aastore, 1) := by decide +kernel
theorem dX3_init_118 : decode cX3_init 118 = .ok (.iinc 1 1, 3) := by decide +kernel
theorem dX3_init_121 : decode cX3_init 121 = .ok (.goto (-22), 3) := by decide +kernel
theorem dX3_init_124 : decode cX3_init 124 = .ok (.return_, 1) := by decide +kernel
theorem dX3_body_0 : decode cX3_body 0 = .ok (.aload_n 0, 1) := by decide +kernel
theorem dX3_body_1 : decode cX3_body 1 = .ok (.getfield 24, 3) := by decide +kernel
theorem dX3_body_4 : decode cX3_body 4 = .ok (.aload_n 0, 1) := by decide +kernel
theorem dX3_body_5 : decode cX3_body 5 = .ok (.getfield 12, 3) := by decide +kernel
theorem dX3_body_8 : decode cX3_body 8 = .ok (.getfield 57, 3) := by decide +kernel
theorem dX3_body_11 : decode cX3_body 11 = .ok (.aaload, 1) := by decide +kernel
theorem dX3_body_12 : decode cX3_body 12 = .ok (.areturn, 1) := by decide +kernel
theorem dX3_carryOutChanged_0 : decode cX3_carryOutChanged 0 = .ok (.aload_n 0, 1) := by decide +kernel
theorem dX3_carryOutChanged_1 : decode cX3_carryOutChanged 1 = .ok (.invokevirtual 61, 3) := by decide +kernel
theorem dX3_carryOutChanged_4 : decode cX3_carryOutChanged 4 = .ok (.istore_n 1, 1) := by decide +kernel
theorem dX3_carryOutChanged_5 : decode cX3_carryOutChanged 5 = .ok (.iload_n 1, 1) := by decide +kernel
theorem dX3_carryOutChanged_6 : decode cX3_carryOutChanged 6 = .ok (.aload_n 0, 1) := by decide +kernel
theorem dX3_carryOutChanged_7 : decode cX3_carryOutChanged 7 = .ok (.getfield 12, 3) := by decide +kernel
theorem dX3_carryOutChanged_10 : decode cX3_carryOutChanged 10 = .ok (.getfield 57, 3) := by decide +kernel
theorem dX3_carryOutChanged_13 : decode cX3_carryOutChanged 13 = .ok (.if_icmp .ge 113, 3) := by decide +kernel
theorem dX3_carryOutChanged_16 : decode cX3_carryOutChanged 16 = .ok (.aload_n 0, 1) := by decide +kernel
theorem dX3_carryOutChanged_17 : decode cX3_carryOutChanged 17 = .ok (.getfield 12, 3) := by decide +kernel
theorem dX3_carryOutChanged_20 : decode cX3_carryOutChanged 20 = .ok (.getfield 65, 3) := by decide +kernel
theorem dX3_carryOutChanged_23 : decode cX3_carryOutChanged 23 = .ok (.iload_n 1, 1) := by decide +kernel
theorem dX3_carryOutChanged_24 : decode cX3_carryOutChanged 24 = .ok (.iaload, 1) := by decide +kernel
theorem dX3_carryOutChanged_25 : decode cX3_carryOutChanged 25 = .ok (.istore_n 2, 1) := by decide +kernel
theorem dX3_carryOutChanged_26 : decode cX3_carryOutChanged 26 = .ok (.aload_n 0, 1) := by decide +kernel
theorem dX3_carryOutChanged_27 : decode cX3_carryOutChanged 27 = .ok (.iload_n 2, 1) := by decide +kernel
theorem dX3_carryOutChanged_28 : decode cX3_carryOutChanged 28 = .ok (.invokevirtual 68, 3) := by decide +kernel
theorem dX3_carryOutChanged_31 : decode cX3_carryOutChanged 31 = .ok (.aload_n 0, 1) := by decide +kernel
theorem dX3_carryOutChanged_32 : decode cX3_carryOutChanged 32 = .ok (.iload_n 1, 1) := by decide +kernel
theorem dX3_carryOutChanged_33 : decode cX3_carryOutChanged 33 = .ok (.iload_n 2, 1) := by decide +kernel
theorem dX3_carryOutChanged_34 : decode cX3_carryOutChanged 34 = .ok (.invokevirtual 72, 3) := by decide +kernel
theorem dX3_carryOutChanged_37 : decode cX3_carryOutChanged 37 = .ok (.aload_n 0, 1) := by decide +kernel
theorem dX3_carryOutChanged_38 : decode cX3_carryOutChanged 38 = .ok (.getfield 12, 3) := by decide +kernel
theorem dX3_carryOutChanged_41 : decode cX3_carryOutChanged 41 = .ok (.getfield 76, 3) := by decide +kernel
theorem dX3_carryOutChanged_44 : decode cX3_carryOutChanged 44 = .ok (.iload_n 2, 1) := by decide +kernel
theorem dX3_carryOutChanged_45 : decode cX3_carryOutChanged 45 = .ok (.baload, 1) := by decide +kernel
theorem dX3_carryOutChanged_46 : decode cX3_carryOutChanged 46 = .ok (.ifCond .eq 23, 3) := by decide +kernel
theorem dX3_carryOutChanged_49 : decode cX3_carryOutChanged 49 = .ok (.aload_n 0, 1) := by decide +kernel
theorem dX3_carryOutChanged_50 : decode cX3_carryOutChanged 50 = .ok (.getfield 24, 3) := by decide +kernel
theorem dX3_carryOutChanged_53 : decode cX3_carryOutChanged 53 = .ok (.iload_n 1, 1) := by decide +kernel
theorem dX3_carryOutChanged_54 : decode cX3_carryOutChanged 54 = .ok (.iconst 1, 1) := by decide +kernel
theorem dX3_carryOutChanged_55 : decode cX3_carryOutChanged 55 = .ok (.iadd, 1) := by decide +kernel
theorem dX3_carryOutChanged_56 : decode cX3_carryOutChanged 56 = .ok (.aaload, 1) := by decide +kernel
theorem dX3_carryOutChanged_57 : decode cX3_carryOutChanged 57 = .ok (.aload_n 0, 1) := by decide +kernel
theorem dX3_carryOutChanged_58 : decode cX3_carryOutChanged 58 = .ok (.getfield 24, 3) := by decide +kernel
theorem dX3_carryOutChanged_61 : decode cX3_carryOutChanged 61 = .ok (.iload_n 1, 1) := by decide +kernel
theorem dX3_carryOutChanged_62 : decode cX3_carryOutChanged 62 = .ok (.aaload, 1) := by decide +kernel
theorem dX3_carryOutChanged_63 : decode cX3_carryOutChanged 63 = .ok (.invokevirtual 79, 3) := by decide +kernel
theorem dX3_carryOutChanged_66 : decode cX3_carryOutChanged 66 = .ok (.goto 54, 3) := by decide +kernel
theorem dX3_carryOutChanged_69 : decode cX3_carryOutChanged 69 = .ok (.aload_n 0, 1) := by decide +kernel
theorem dX3_carryOutChanged_70 : decode cX3_carryOutChanged 70 = .ok (.getfield 18, 3) := by decide +kernel
theorem dX3_carryOutChanged_73 : decode cX3_carryOutChanged 73 = .ok (.iload_n 2, 1) := by decide +kernel
theorem dX3_carryOutChanged_74 : decode cX3_carryOutChanged 74 = .ok (.aload_n 0, 1) := by decide +kernel
theorem dX3_carryOutChanged_75 : decode cX3_carryOutChanged 75 = .ok (.getfield 39, 3) := by decide +kernel
theorem dX3_carryOutChanged_78 : decode cX3_carryOutChanged 78 = .ok (.aload_n 0, 1) := by decide +kernel
theorem dX3_carryOutChanged_79 : decode cX3_carryOutChanged 79 = .ok (.getfield 12, 3) := by decide +kernel
theorem dX3_carryOutChanged_82 : decode cX3_carryOutChanged 82 = .ok (.getfield 83, 3) := by decide +kernel
theorem dX3_carryOutChanged_85 : decode cX3_carryOutChanged 85 = .ok (.iload_n 2, 1) := by decide +kernel
theorem dX3_carryOutChanged_86 : decode cX3_carryOutChanged 86 = .ok (.caload, 1) := by decide +kernel
theorem dX3_carryOutChanged_87 : decode cX3_carryOutChanged 87 = .ok (.iload_n 2, 1) := by decide +kernel
theorem dX3_carryOutChanged_88 : decode cX3_carryOutChanged 88 = .ok (.aload_n 0, 1) := by decide +kernel
theorem dX3_carryOutChanged_89 : decode cX3_carryOutChanged 89 = .ok (.getfield 43, 3) := by decide +kernel
theorem dX3_carryOutChanged_92 : decode cX3_carryOutChanged 92 = .ok (.aload_n 0, 1) := by decide +kernel
theorem dX3_carryOutChanged_93 : decode cX3_carryOutChanged 93 = .ok (.getfield 24, 3) := by decide +kernel
theorem dX3_carryOutChanged_96 : decode cX3_carryOutChanged 96 = .ok (.iload_n 1, 1) := by decide +kernel
theorem dX3_carryOutChanged_97 : decode cX3_carryOutChanged 97 = .ok (.aaload, 1) := by decide +kernel
theorem dX3_carryOutChanged_98 : decode cX3_carryOutChanged 98 = .ok (.aload_n 0, 1) := by decide +kernel
theorem dX3_carryOutChanged_99 : decode cX3_carryOutChanged 99 = .ok (.getfield 24, 3) := by decide +kernel
theorem dX3_carryOutChanged_102 : decode cX3_carryOutChanged 102 = .ok (.iload_n 1, 1) := by decide +kernel
theorem dX3_carryOutChanged_103 : decode cX3_carryOutChanged 103 = .ok (.iconst 1, 1) := by decide +kernel
theorem dX3_carryOutChanged_104 : decode cX3_carryOutChanged 104 = .ok (.iadd, 1) := by decide +kernel
theorem dX3_carryOutChanged_105 : decode cX3_carryOutChanged 105 = .ok (.aaload, 1) := by decide +kernel
theorem dX3_carryOutChanged_106 : decode cX3_carryOutChanged 106 = .ok (.invokevirtual 86, 3) := by decide +kernel
theorem dX3_carryOutChanged_109 : decode cX3_carryOutChanged 109 = .ok (.castore, 1) := by decide +kernel
theorem dX3_carryOutChanged_110 : decode cX3_carryOutChanged 110 = .ok (.aload_n 0, 1) := by decide +kernel
theorem dX3_carryOutChanged_111 : decode cX3_carryOutChanged 111 = .ok (.dup, 1) := by decide +kernel
theorem dX3_carryOutChanged_112 : decode cX3_carryOutChanged 112 = .ok (.getfield 90, 3) := by decide +kernel
theorem dX3_carryOutChanged_115 : decode cX3_carryOutChanged 115 = .ok (.lconst 1, 1) := by decide +kernel
theorem dX3_carryOutChanged_116 : decode cX3_carryOutChanged 116 = .ok (.ladd, 1) := by decide +kernel
theorem dX3_carryOutChanged_117 : decode cX3_carryOutChanged 117 = .ok (.putfield 90, 3) := by decide +kernel
theorem dX3_carryOutChanged_120 : decode cX3_carryOutChanged 120 = .ok (.iinc 1 1, 3) := by decide +kernel
theorem dX3_carryOutChanged_123 : decode cX3_carryOutChanged 123 = .ok (.goto (-118), 3) := by decide +kernel
theorem dX3_carryOutChanged_126 : decode cX3_carryOutChanged 126 = .ok (.aload_n 0, 1) := by decide +kernel
theorem dX3_carryOutChanged_127 : decode cX3_carryOutChanged 127 = .ok (.aload_n 0, 1) := by decide +kernel
theorem dX3_carryOutChanged_128 : decode cX3_carryOutChanged 128 = .ok (.getfield 12, 3) := by decide +kernel
theorem dX3_carryOutChanged_131 : decode cX3_carryOutChanged 131 = .ok (.getfield 57, 3) := by decide +kernel
theorem dX3_carryOutChanged_134 : decode cX3_carryOutChanged 134 = .ok (.putfield 94, 3) := by decide +kernel
theorem dX3_carryOutChanged_137 : decode cX3_carryOutChanged 137 = .ok (.return_, 1) := by decide +kernel
theorem dX3_lowestChanged_0 : decode cX3_lowestChanged 0 = .ok (.iconst 0, 1) := by decide +kernel
theorem dX3_lowestChanged_1 : decode cX3_lowestChanged 1 = .ok (.istore_n 1, 1) := by decide +kernel
theorem dX3_lowestChanged_2 : decode cX3_lowestChanged 2 = .ok (.iload_n 1, 1) := by decide +kernel
theorem dX3_lowestChanged_3 : decode cX3_lowestChanged 3 = .ok (.aload_n 0, 1) := by decide +kernel
theorem dX3_lowestChanged_4 : decode cX3_lowestChanged 4 = .ok (.getfield 12, 3) := by decide +kernel
theorem dX3_lowestChanged_7 : decode cX3_lowestChanged 7 = .ok (.getfield 57, 3) := by decide +kernel
theorem dX3_lowestChanged_10 : decode cX3_lowestChanged 10 = .ok (.if_icmp .ge 34, 3) := by decide +kernel
theorem dX3_lowestChanged_13 : decode cX3_lowestChanged 13 = .ok (.iload_n 1, 1) := by decide +kernel
theorem dX3_lowestChanged_14 : decode cX3_lowestChanged 14 = .ok (.aload_n 0, 1) := by decide +kernel
theorem dX3_lowestChanged_15 : decode cX3_lowestChanged 15 = .ok (.getfield 94, 3) := by decide +kernel
theorem dX3_lowestChanged_18 : decode cX3_lowestChanged 18 = .ok (.if_icmp .ge 26, 3) := by decide +kernel
theorem dX3_lowestChanged_21 : decode cX3_lowestChanged 21 = .ok (.aload_n 0, 1) := by decide +kernel
theorem dX3_lowestChanged_22 : decode cX3_lowestChanged 22 = .ok (.iload_n 1, 1) := by decide +kernel
theorem dX3_lowestChanged_23 : decode cX3_lowestChanged 23 = .ok (.aload_n 0, 1) := by decide +kernel
theorem dX3_lowestChanged_24 : decode cX3_lowestChanged 24 = .ok (.getfield 12, 3) := by decide +kernel
theorem dX3_lowestChanged_27 : decode cX3_lowestChanged 27 = .ok (.getfield 65, 3) := by decide +kernel
theorem dX3_lowestChanged_30 : decode cX3_lowestChanged 30 = .ok (.iload_n 1, 1) := by decide +kernel
theorem dX3_lowestChanged_31 : decode cX3_lowestChanged 31 = .ok (.iaload, 1) := by decide +kernel
theorem dX3_lowestChanged_32 : decode cX3_lowestChanged 32 = .ok (.invokevirtual 97, 3) := by decide +kernel
theorem dX3_lowestChanged_35 : decode cX3_lowestChanged 35 = .ok (.ifCond .eq 9, 3) := by decide +kernel
theorem dX3_lowestChanged_38 : decode cX3_lowestChanged 38 = .ok (.iinc 1 1, 3) := by decide +kernel
theorem dX3_lowestChanged_41 : decode cX3_lowestChanged 41 = .ok (.goto (-39), 3) := by decide +kernel
theorem dX3_lowestChanged_44 : decode cX3_lowestChanged 44 = .ok (.iload_n 1, 1) := by decide +kernel
theorem dX3_lowestChanged_45 : decode cX3_lowestChanged 45 = .ok (.ireturn, 1) := by decide +kernel
theorem dX3_isAsCarried_0 : decode cX3_isAsCarried 0 = .ok (.iconst 0, 1) := by decide +kernel
theorem dX3_isAsCarried_1 : decode cX3_isAsCarried 1 = .ok (.istore_n 3, 1) := by decide +kernel
theorem dX3_isAsCarried_2 : decode cX3_isAsCarried 2 = .ok (.iload_n 3, 1) := by decide +kernel
theorem dX3_isAsCarried_3 : decode cX3_isAsCarried 3 = .ok (.bipush 6, 2) := by decide +kernel
theorem dX3_isAsCarried_5 : decode cX3_isAsCarried 5 = .ok (.if_icmp .ge 34, 3) := by decide +kernel
theorem dX3_isAsCarried_8 : decode cX3_isAsCarried 8 = .ok (.aload_n 0, 1) := by decide +kernel
theorem dX3_isAsCarried_9 : decode cX3_isAsCarried 9 = .ok (.getfield 54, 3) := by decide +kernel
theorem dX3_isAsCarried_12 : decode cX3_isAsCarried 12 = .ok (.iload_n 1, 1) := by decide +kernel
theorem dX3_isAsCarried_13 : decode cX3_isAsCarried 13 = .ok (.bipush 6, 2) := by decide +kernel
theorem dX3_isAsCarried_15 : decode cX3_isAsCarried 15 = .ok (.imul, 1) := by decide +kernel
theorem dX3_isAsCarried_16 : decode cX3_isAsCarried 16 = .ok (.iload_n 3, 1) := by decide +kernel
theorem dX3_isAsCarried_17 : decode cX3_isAsCarried 17 = .ok (.iadd, 1) := by decide +kernel
theorem dX3_isAsCarried_18 : decode cX3_isAsCarried 18 = .ok (.iaload, 1) := by decide +kernel
theorem dX3_isAsCarried_19 : decode cX3_isAsCarried 19 = .ok (.aload_n 0, 1) := by decide +kernel
theorem dX3_isAsCarried_20 : decode cX3_isAsCarried 20 = .ok (.getfield 12, 3) := by decide +kernel
theorem dX3_isAsCarried_23 : decode cX3_isAsCarried 23 = .ok (.iload_n 2, 1) := by decide +kernel
theorem dX3_isAsCarried_24 : decode cX3_isAsCarried 24 = .ok (.iload_n 3, 1) := by decide +kernel
theorem dX3_isAsCarried_25 : decode cX3_isAsCarried 25 = .ok (.invokevirtual 101, 3) := by decide +kernel
theorem dX3_isAsCarried_28 : decode cX3_isAsCarried 28 = .ok (.if_icmp .eq 5, 3) := by decide +kernel
theorem dX3_isAsCarried_31 : decode cX3_isAsCarried 31 = .ok (.iconst 0, 1) := by decide +kernel
theorem dX3_isAsCarried_32 : decode cX3_isAsCarried 32 = .ok (.ireturn, 1) := by decide +kernel
theorem dX3_isAsCarried_33 : decode cX3_isAsCarried 33 = .ok (.iinc 3 1, 3) := by decide +kernel
theorem dX3_isAsCarried_36 : decode cX3_isAsCarried 36 = .ok (.goto (-34), 3) := by decide +kernel
theorem dX3_isAsCarried_39 : decode cX3_isAsCarried 39 = .ok (.aload_n 0, 1) := by decide +kernel
theorem dX3_isAsCarried_40 : decode cX3_isAsCarried 40 = .ok (.getfield 47, 3) := by decide +kernel
theorem dX3_isAsCarried_43 : decode cX3_isAsCarried 43 = .ok (.iload_n 1, 1) := by decide +kernel
theorem dX3_isAsCarried_44 : decode cX3_isAsCarried 44 = .ok (.iaload, 1) := by decide +kernel
theorem dX3_isAsCarried_45 : decode cX3_isAsCarried 45 = .ok (.iload_n 2, 1) := by decide +kernel
theorem dX3_isAsCarried_46 : decode cX3_isAsCarried 46 = .ok (.if_icmp .ne 25, 3) := by decide +kernel
theorem dX3_isAsCarried_49 : decode cX3_isAsCarried 49 = .ok (.aload_n 0, 1) := by decide +kernel
theorem dX3_isAsCarried_50 : decode cX3_isAsCarried 50 = .ok (.getfield 50, 3) := by decide +kernel
theorem dX3_isAsCarried_53 : decode cX3_isAsCarried 53 = .ok (.iload_n 1, 1) := by decide +kernel
theorem dX3_isAsCarried_54 : decode cX3_isAsCarried 54 = .ok (.baload, 1) := by decide +kernel
theorem dX3_isAsCarried_55 : decode cX3_isAsCarried 55 = .ok (.aload_n 0, 1) := by decide +kernel
theorem dX3_isAsCarried_56 : decode cX3_isAsCarried 56 = .ok (.getfield 12, 3) := by decide +kernel
theorem dX3_isAsCarried_59 : decode cX3_isAsCarried 59 = .ok (.getfield 76, 3) := by decide +kernel
theorem dX3_isAsCarried_62 : decode cX3_isAsCarried 62 = .ok (.iload_n 2, 1) := by decide +kernel
theorem dX3_isAsCarried_63 : decode cX3_isAsCarried 63 = .ok (.baload, 1) := by decide +kernel
theorem dX3_isAsCarried_64 : decode cX3_isAsCarried 64 = .ok (.if_icmp .ne 7, 3) := by decide +kernel
theorem dX3_isAsCarried_67 : decode cX3_isAsCarried 67 = .ok (.iconst 1, 1) := by decide +kernel
theorem dX3_isAsCarried_68 : decode cX3_isAsCarried 68 = .ok (.goto 4, 3) := by decide +kernel
theorem dX3_isAsCarried_71 : decode cX3_isAsCarried 71 = .ok (.iconst 0, 1) := by decide +kernel
theorem dX3_isAsCarried_72 : decode cX3_isAsCarried 72 = .ok (.ireturn, 1) := by decide +kernel
theorem dX3_remember_0 : decode cX3_remember 0 = .ok (.aload_n 0, 1) := by decide +kernel
theorem dX3_remember_1 : decode cX3_remember 1 = .ok (.getfield 47, 3) := by decide +kernel
theorem dX3_remember_4 : decode cX3_remember 4 = .ok (.iload_n 1, 1) := by decide +kernel
theorem dX3_remember_5 : decode cX3_remember 5 = .ok (.iload_n 2, 1) := by decide +kernel
theorem dX3_remember_6 : decode cX3_remember 6 = .ok (.iastore, 1) := by decide +kernel
theorem dX3_remember_7 : decode cX3_remember 7 = .ok (.aload_n 0, 1) := by decide +kernel
theorem dX3_remember_8 : decode cX3_remember 8 = .ok (.getfield 50, 3) := by decide +kernel
theorem dX3_remember_11 : decode cX3_remember 11 = .ok (.iload_n 1, 1) := by decide +kernel
theorem dX3_remember_12 : decode cX3_remember 12 = .ok (.aload_n 0, 1) := by decide +kernel
theorem dX3_remember_13 : decode cX3_remember 13 = .ok (.getfield 12, 3) := by decide +kernel
theorem dX3_remember_16 : decode cX3_remember 16 = .ok (.getfield 76, 3) := by decide +kernel
theorem dX3_remember_19 : decode cX3_remember 19 = .ok (.iload_n 2, 1) := by decide +kernel
theorem dX3_remember_20 : decode cX3_remember 20 = .ok (.baload, 1) := by decide +kernel
theorem dX3_remember_21 : decode cX3_remember 21 = .ok (.bastore, 1) := by decide +kernel
theorem dX3_remember_22 : decode cX3_remember 22 = .ok (.aload_n 0, 1) := by decide +kernel
theorem dX3_remember_23 : decode cX3_remember 23 = .ok (.getfield 43, 3) := by decide +kernel
theorem dX3_remember_26 : decode cX3_remember 26 = .ok (.iconst 0, 1) := by decide +kernel
theorem dX3_remember_27 : decode cX3_remember 27 = .ok (.aload_n 0, 1) := by decide +kernel
theorem dX3_remember_28 : decode cX3_remember 28 = .ok (.getfield 54, 3) := by decide +kernel
theorem dX3_remember_31 : decode cX3_remember 31 = .ok (.iload_n 1, 1) := by decide +kernel
theorem dX3_remember_32 : decode cX3_remember 32 = .ok (.bipush 6, 2) := by decide +kernel
theorem dX3_remember_34 : decode cX3_remember 34 = .ok (.imul, 1) := by decide +kernel
theorem dX3_remember_35 : decode cX3_remember 35 = .ok (.bipush 6, 2) := by decide +kernel
theorem dX3_remember_37 : decode cX3_remember 37 = .ok (.invokestatic 105, 3) := by decide +kernel
theorem dX3_remember_40 : decode cX3_remember 40 = .ok (.return_, 1) := by decide +kernel
theorem dX3_readSizes_0 : decode cX3_readSizes 0 = .ok (.iconst 0, 1) := by decide +kernel
theorem dX3_readSizes_1 : decode cX3_readSizes 1 = .ok (.istore_n 2, 1) := by decide +kernel
theorem dX3_readSizes_2 : decode cX3_readSizes 2 = .ok (.iload_n 2, 1) := by decide +kernel
theorem dX3_readSizes_3 : decode cX3_readSizes 3 = .ok (.bipush 6, 2) := by decide +kernel
theorem dX3_readSizes_5 : decode cX3_readSizes 5 = .ok (.if_icmp .ge 24, 3) := by decide +kernel
theorem dX3_readSizes_8 : decode cX3_readSizes 8 = .ok (.aload_n 0, 1) := by decide +kernel
theorem dX3_readSizes_9 : decode cX3_readSizes 9 = .ok (.getfield 43, 3) := by decide +kernel
theorem dX3_readSizes_12 : decode cX3_readSizes 12 = .ok (.iload_n 2, 1) := by decide +kernel
theorem dX3_readSizes_13 : decode cX3_readSizes 13 = .ok (.aload_n 0, 1) := by decide +kernel
theorem dX3_readSizes_14 : decode cX3_readSizes 14 = .ok (.getfield 12, 3) := by decide +kernel
theorem dX3_readSizes_17 : decode cX3_readSizes 17 = .ok (.iload_n 1, 1) := by decide +kernel
theorem dX3_readSizes_18 : decode cX3_readSizes 18 = .ok (.iload_n 2, 1) := by decide +kernel
theorem dX3_readSizes_19 : decode cX3_readSizes 19 = .ok (.invokevirtual 101, 3) := by decide +kernel
theorem dX3_readSizes_22 : decode cX3_readSizes 22 = .ok (.iastore, 1) := by decide +kernel
theorem dX3_readSizes_23 : decode cX3_readSizes 23 = .ok (.iinc 2 1, 3) := by decide +kernel
theorem dX3_readSizes_26 : decode cX3_readSizes 26 = .ok (.goto (-24), 3) := by decide +kernel
theorem dX3_readSizes_29 : decode cX3_readSizes 29 = .ok (.return_, 1) := by decide +kernel
theorem dX3_bodyFromNothing_0 : decode cX3_bodyFromNothing 0 = .ok (.aload_n 0, 1) := by decide +kernel
theorem dX3_bodyFromNothing_1 : decode cX3_bodyFromNothing 1 = .ok (.getfield 29, 3) := by decide +kernel
theorem dX3_bodyFromNothing_4 : decode cX3_bodyFromNothing 4 = .ok (.invokevirtual 111, 3) := by decide +kernel
theorem dX3_bodyFromNothing_7 : decode cX3_bodyFromNothing 7 = .ok (.iconst 0, 1) := by decide +kernel
theorem dX3_bodyFromNothing_8 : decode cX3_bodyFromNothing 8 = .ok (.istore_n 1, 1) := by decide +kernel
theorem dX3_bodyFromNothing_9 : decode cX3_bodyFromNothing 9 = .ok (.iload_n 1, 1) := by decide +kernel
theorem dX3_bodyFromNothing_10 : decode cX3_bodyFromNothing 10 = .ok (.aload_n 0, 1) := by decide +kernel
theorem dX3_bodyFromNothing_11 : decode cX3_bodyFromNothing 11 = .ok (.getfield 12, 3) := by decide +kernel
theorem dX3_bodyFromNothing_14 : decode cX3_bodyFromNothing 14 = .ok (.getfield 57, 3) := by decide +kernel
theorem dX3_bodyFromNothing_17 : decode cX3_bodyFromNothing 17 = .ok (.if_icmp .ge 77, 3) := by decide +kernel
theorem dX3_bodyFromNothing_20 : decode cX3_bodyFromNothing 20 = .ok (.aload_n 0, 1) := by decide +kernel
theorem dX3_bodyFromNothing_21 : decode cX3_bodyFromNothing 21 = .ok (.getfield 12, 3) := by decide +kernel
theorem dX3_bodyFromNothing_24 : decode cX3_bodyFromNothing 24 = .ok (.getfield 65, 3) := by decide +kernel
theorem dX3_bodyFromNothing_27 : decode cX3_bodyFromNothing 27 = .ok (.iload_n 1, 1) := by decide +kernel
theorem dX3_bodyFromNothing_28 : decode cX3_bodyFromNothing 28 = .ok (.iaload, 1) := by decide +kernel
theorem dX3_bodyFromNothing_29 : decode cX3_bodyFromNothing 29 = .ok (.istore_n 2, 1) := by decide +kernel
theorem dX3_bodyFromNothing_30 : decode cX3_bodyFromNothing 30 = .ok (.aload_n 0, 1) := by decide +kernel
theorem dX3_bodyFromNothing_31 : decode cX3_bodyFromNothing 31 = .ok (.getfield 12, 3) := by decide +kernel
theorem dX3_bodyFromNothing_34 : decode cX3_bodyFromNothing 34 = .ok (.getfield 76, 3) := by decide +kernel
theorem dX3_bodyFromNothing_37 : decode cX3_bodyFromNothing 37 = .ok (.iload_n 2, 1) := by decide +kernel
theorem dX3_bodyFromNothing_38 : decode cX3_bodyFromNothing 38 = .ok (.baload, 1) := by decide +kernel
theorem dX3_bodyFromNothing_39 : decode cX3_bodyFromNothing 39 = .ok (.ifCond .ne 49, 3) := by decide +kernel
theorem dX3_bodyFromNothing_42 : decode cX3_bodyFromNothing 42 = .ok (.aload_n 0, 1) := by decide +kernel
theorem dX3_bodyFromNothing_43 : decode cX3_bodyFromNothing 43 = .ok (.iload_n 2, 1) := by decide +kernel
theorem dX3_bodyFromNothing_44 : decode cX3_bodyFromNothing 44 = .ok (.invokevirtual 68, 3) := by decide +kernel
theorem dX3_bodyFromNothing_47 : decode cX3_bodyFromNothing 47 = .ok (.aload_n 0, 1) := by decide +kernel
theorem dX3_bodyFromNothing_48 : decode cX3_bodyFromNothing 48 = .ok (.getfield 39, 3) := by decide +kernel
theorem dX3_bodyFromNothing_51 : decode cX3_bodyFromNothing 51 = .ok (.aload_n 0, 1) := by decide +kernel
theorem dX3_bodyFromNothing_52 : decode cX3_bodyFromNothing 52 = .ok (.getfield 12, 3) := by decide +kernel
theorem dX3_bodyFromNothing_55 : decode cX3_bodyFromNothing 55 = .ok (.getfield 83, 3) := by decide +kernel
theorem dX3_bodyFromNothing_58 : decode cX3_bodyFromNothing 58 = .ok (.iload_n 2, 1) := by decide +kernel
theorem dX3_bodyFromNothing_59 : decode cX3_bodyFromNothing 59 = .ok (.caload, 1) := by decide +kernel
theorem dX3_bodyFromNothing_60 : decode cX3_bodyFromNothing 60 = .ok (.iload_n 2, 1) := by decide +kernel
theorem dX3_bodyFromNothing_61 : decode cX3_bodyFromNothing 61 = .ok (.aload_n 0, 1) := by decide +kernel
theorem dX3_bodyFromNothing_62 : decode cX3_bodyFromNothing 62 = .ok (.getfield 43, 3) := by decide +kernel
theorem dX3_bodyFromNothing_65 : decode cX3_bodyFromNothing 65 = .ok (.aload_n 0, 1) := by decide +kernel
theorem dX3_bodyFromNothing_66 : decode cX3_bodyFromNothing 66 = .ok (.getfield 29, 3) := by decide +kernel
theorem dX3_bodyFromNothing_69 : decode cX3_bodyFromNothing 69 = .ok (.aload_n 0, 1) := by decide +kernel
theorem dX3_bodyFromNothing_70 : decode cX3_bodyFromNothing 70 = .ok (.getfield 33, 3) := by decide +kernel
theorem dX3_bodyFromNothing_73 : decode cX3_bodyFromNothing 73 = .ok (.invokevirtual 86, 3) := by decide +kernel
theorem dX3_bodyFromNothing_76 : decode cX3_bodyFromNothing 76 = .ok (.pop, 1) := by decide +kernel
theorem dX3_bodyFromNothing_77 : decode cX3_bodyFromNothing 77 = .ok (.aload_n 0, 1) := by decide +kernel
theorem dX3_bodyFromNothing_78 : decode cX3_bodyFromNothing 78 = .ok (.getfield 29, 3) := by decide +kernel
theorem dX3_bodyFromNothing_81 : decode cX3_bodyFromNothing 81 = .ok (.aload_n 0, 1) := by decide +kernel
theorem dX3_bodyFromNothing_82 : decode cX3_bodyFromNothing 82 = .ok (.getfield 33, 3) := by decide +kernel
theorem dX3_bodyFromNothing_85 : decode cX3_bodyFromNothing 85 = .ok (.invokevirtual 79, 3) := by decide +kernel
theorem dX3_bodyFromNothing_88 : decode cX3_bodyFromNothing 88 = .ok (.iinc 1 1, 3) := by decide +kernel
theorem dX3_bodyFromNothing_91 : decode cX3_bodyFromNothing 91 = .ok (.goto (-82), 3) := by decide +kernel
theorem dX3_bodyFromNothing_94 : decode cX3_bodyFromNothing 94 = .ok (.aload_n 0, 1) := by decide +kernel
theorem dX3_bodyFromNothing_95 : decode cX3_bodyFromNothing 95 = .ok (.getfield 29, 3) := by decide +kernel
theorem dX3_bodyFromNothing_98 : decode cX3_bodyFromNothing 98 = .ok (.areturn, 1) := by decide +kernel
theorem dX3_countNamed_0 : decode cX3_countNamed 0 = .ok (.aload_n 0, 1) := by decide +kernel
theorem dX3_countNamed_1 : decode cX3_countNamed 1 = .ok (.getfield 39, 3) := by decide +kernel
theorem dX3_countNamed_4 : decode cX3_countNamed 4 = .ok (.aload_n 0, 1) := by decide +kernel
theorem dX3_countNamed_5 : decode cX3_countNamed 5 = .ok (.invokevirtual 114, 3) := by decide +kernel
theorem dX3_countNamed_8 : decode cX3_countNamed 8 = .ok (.iload_n 1, 1) := by decide +kernel
theorem dX3_countNamed_9 : decode cX3_countNamed 9 = .ok (.iload_n 2, 1) := by decide +kernel
theorem dX3_countNamed_10 : decode cX3_countNamed 10 = .ok (.invokevirtual 118, 3) := by decide +kernel
theorem dX3_countNamed_13 : decode cX3_countNamed 13 = .ok (.ireturn, 1) := by decide +kernel
theorem dX3_countPieces_0 : decode cX3_countPieces 0 = .ok (.aload_n 0, 1) := by decide +kernel
theorem dX3_countPieces_1 : decode cX3_countPieces 1 = .ok (.getfield 39, 3) := by decide +kernel
theorem dX3_countPieces_4 : decode cX3_countPieces 4 = .ok (.aload_n 0, 1) := by decide +kernel
theorem dX3_countPieces_5 : decode cX3_countPieces 5 = .ok (.invokevirtual 114, 3) := by decide +kernel
theorem dX3_countPieces_8 : decode cX3_countPieces 8 = .ok (.getfield 122, 3) := by decide +kernel
theorem dX3_countPieces_11 : decode cX3_countPieces 11 = .ok (.invokevirtual 126, 3) := by decide +kernel
theorem dX3_countPieces_14 : decode cX3_countPieces 14 = .ok (.ireturn, 1) := by decide +kernel
theorem dX4_eulerCount_0 : decode cX4_eulerCount 0 = .ok (.iconst 0, 1) := by decide +kernel
theorem dX4_eulerCount_1 : decode cX4_eulerCount 1 = .ok (.istore_n 1, 1) := by decide +kernel
theorem dX4_eulerCount_2 : decode cX4_eulerCount 2 = .ok (.iconst 0, 1) := by decide +kernel
theorem dX4_eulerCount_3 : decode cX4_eulerCount 3 = .ok (.istore_n 2, 1) := by decide +kernel
theorem dX4_eulerCount_4 : decode cX4_eulerCount 4 = .ok (.iload_n 2, 1) := by decide +kernel
theorem dX4_eulerCount_5 : decode cX4_eulerCount 5 = .ok (.bipush 6, 2) := by decide +kernel
theorem dX4_eulerCount_7 : decode cX4_eulerCount 7 = .ok (.if_icmp .ge 17, 3) := by decide +kernel
theorem dX4_eulerCount_10 : decode cX4_eulerCount 10 = .ok (.iload_n 1, 1) := by decide +kernel
theorem dX4_eulerCount_11 : decode cX4_eulerCount 11 = .ok (.aload_n 0, 1) := by decide +kernel
theorem dX4_eulerCount_12 : decode cX4_eulerCount 12 = .ok (.iload_n 2, 1) := by decide +kernel
theorem dX4_eulerCount_13 : decode cX4_eulerCount 13 = .ok (.invokevirtual 9, 3) := by decide +kernel
theorem dX4_eulerCount_16 : decode cX4_eulerCount 16 = .ok (.iadd, 1) := by decide +kernel
theorem dX4_eulerCount_17 : decode cX4_eulerCount 17 = .ok (.istore_n 1, 1) := by decide +kernel
theorem dX4_eulerCount_18 : decode cX4_eulerCount 18 = .ok (.iinc 2 1, 3) := by decide +kernel
theorem dX4_eulerCount_21 : decode cX4_eulerCount 21 = .ok (.goto (-17), 3) := by decide +kernel
theorem dX4_eulerCount_24 : decode cX4_eulerCount 24 = .ok (.iconst 0, 1) := by decide +kernel
theorem dX4_eulerCount_25 : decode cX4_eulerCount 25 = .ok (.istore_n 2, 1) := by decide +kernel
theorem dX4_eulerCount_26 : decode cX4_eulerCount 26 = .ok (.iload_n 2, 1) := by decide +kernel
theorem dX4_eulerCount_27 : decode cX4_eulerCount 27 = .ok (.bipush 8, 2) := by decide +kernel
theorem dX4_eulerCount_29 : decode cX4_eulerCount 29 = .ok (.if_icmp .gt 148, 3) := by decide +kernel
theorem dX4_eulerCount_32 : decode cX4_eulerCount 32 = .ok (.iconst 0, 1) := by decide +kernel
theorem dX4_eulerCount_33 : decode cX4_eulerCount 33 = .ok (.istore_n 3, 1) := by decide +kernel
theorem dX4_eulerCount_34 : decode cX4_eulerCount 34 = .ok (.iload_n 3, 1) := by decide +kernel
theorem dX4_eulerCount_35 : decode cX4_eulerCount 35 = .ok (.bipush 8, 2) := by decide +kernel
theorem dX4_eulerCount_37 : decode cX4_eulerCount 37 = .ok (.if_icmp .gt 134, 3) := by decide +kernel
theorem dX4_eulerCount_40 : decode cX4_eulerCount 40 = .ok (.aload_n 0, 1) := by decide +kernel
theorem dX4_eulerCount_41 : decode cX4_eulerCount 41 = .ok (.iload_n 3, 1) := by decide +kernel
theorem dX4_eulerCount_42 : decode cX4_eulerCount 42 = .ok (.iload_n 2, 1) := by decide +kernel
theorem dX4_eulerCount_43 : decode cX4_eulerCount 43 = .ok (.invokevirtual 15, 3) := by decide +kernel
theorem dX4_eulerCount_46 : decode cX4_eulerCount 46 = .ok (.istore 4, 2) := by decide +kernel
theorem dX4_eulerCount_48 : decode cX4_eulerCount 48 = .ok (.aload_n 0, 1) := by decide +kernel
theorem dX4_eulerCount_49 : decode cX4_eulerCount 49 = .ok (.iload_n 3, 1) := by decide +kernel
theorem dX4_eulerCount_50 : decode cX4_eulerCount 50 = .ok (.iconst 1, 1) := by decide +kernel
theorem dX4_eulerCount_51 : decode cX4_eulerCount 51 = .ok (.isub, 1) := by decide +kernel
theorem dX4_eulerCount_52 : decode cX4_eulerCount 52 = .ok (.iload_n 2, 1) := by decide +kernel
theorem dX4_eulerCount_53 : decode cX4_eulerCount 53 = .ok (.invokevirtual 15, 3) := by decide +kernel
theorem dX4_eulerCount_56 : decode cX4_eulerCount 56 = .ok (.istore 5, 2) := by decide +kernel
theorem dX4_eulerCount_58 : decode cX4_eulerCount 58 = .ok (.aload_n 0, 1) := by decide +kernel
theorem dX4_eulerCount_59 : decode cX4_eulerCount 59 = .ok (.iload_n 3, 1) := by decide +kernel
theorem dX4_eulerCount_60 : decode cX4_eulerCount 60 = .ok (.iload_n 2, 1) := by decide +kernel
theorem dX4_eulerCount_61 : decode cX4_eulerCount 61 = .ok (.iconst 1, 1) := by decide +kernel
theorem dX4_eulerCount_62 : decode cX4_eulerCount 62 = .ok (.isub, 1) := by decide +kernel
theorem dX4_eulerCount_63 : decode cX4_eulerCount 63 = .ok (.invokevirtual 15, 3) := by decide +kernel
theorem dX4_eulerCount_66 : decode cX4_eulerCount 66 = .ok (.istore 6, 2) := by decide +kernel
theorem dX4_eulerCount_68 : decode cX4_eulerCount 68 = .ok (.iload 4, 2) := by decide +kernel
theorem dX4_eulerCount_70 : decode cX4_eulerCount 70 = .ok (.iload 5, 2) := by decide +kernel
theorem dX4_eulerCount_72 : decode cX4_eulerCount 72 = .ok (.ior, 1) := by decide +kernel
theorem dX4_eulerCount_73 : decode cX4_eulerCount 73 = .ok (.iload 6, 2) := by decide +kernel
theorem dX4_eulerCount_75 : decode cX4_eulerCount 75 = .ok (.ior, 1) := by decide +kernel
theorem dX4_eulerCount_76 : decode cX4_eulerCount 76 = .ok (.aload_n 0, 1) := by decide +kernel
theorem dX4_eulerCount_77 : decode cX4_eulerCount 77 = .ok (.iload_n 3, 1) := by decide +kernel
theorem dX4_eulerCount_78 : decode cX4_eulerCount 78 = .ok (.iconst 1, 1) := by decide +kernel
theorem dX4_eulerCount_79 : decode cX4_eulerCount 79 = .ok (.isub, 1) := by decide +kernel
theorem dX4_eulerCount_80 : decode cX4_eulerCount 80 = .ok (.iload_n 2, 1) := by decide +kernel
theorem dX4_eulerCount_81 : decode cX4_eulerCount 81 = .ok (.iconst 1, 1) := by decide +kernel
theorem dX4_eulerCount_82 : decode cX4_eulerCount 82 = .ok (.isub, 1) := by decide +kernel
theorem dX4_eulerCount_83 : decode cX4_eulerCount 83 = .ok (.invokevirtual 15, 3) := by decide +kernel
theorem dX4_eulerCount_86 : decode cX4_eulerCount 86 = .ok (.ior, 1) := by decide +kernel
theorem dX4_eulerCount_87 : decode cX4_eulerCount 87 = .ok (.istore 7, 2) := by decide +kernel
theorem dX4_eulerCount_89 : decode cX4_eulerCount 89 = .ok (.iload 4, 2) := by decide +kernel
theorem dX4_eulerCount_91 : decode cX4_eulerCount 91 = .ok (.iload 5, 2) := by decide +kernel
theorem dX4_eulerCount_93 : decode cX4_eulerCount 93 = .ok (.iand, 1) := by decide +kernel
theorem dX4_eulerCount_94 : decode cX4_eulerCount 94 = .ok (.iload 6, 2) := by decide +kernel
theorem dX4_eulerCount_96 : decode cX4_eulerCount 96 = .ok (.iand, 1) := by decide +kernel
theorem dX4_eulerCount_97 : decode cX4_eulerCount 97 = .ok (.aload_n 0, 1) := by decide +kernel
theorem dX4_eulerCount_98 : decode cX4_eulerCount 98 = .ok (.iload_n 3, 1) := by decide +kernel
theorem dX4_eulerCount_99 : decode cX4_eulerCount 99 = .ok (.iconst 1, 1) := by decide +kernel
theorem dX4_eulerCount_100 : decode cX4_eulerCount 100 = .ok (.isub, 1) := by decide +kernel
theorem dX4_eulerCount_101 : decode cX4_eulerCount 101 = .ok (.iload_n 2, 1) := by decide +kernel
theorem dX4_eulerCount_102 : decode cX4_eulerCount 102 = .ok (.iconst 1, 1) := by decide +kernel
theorem dX4_eulerCount_103 : decode cX4_eulerCount 103 = .ok (.isub, 1) := by decide +kernel
theorem dX4_eulerCount_104 : decode cX4_eulerCount 104 = .ok (.invokevirtual 15, 3) := by decide +kernel
theorem dX4_eulerCount_107 : decode cX4_eulerCount 107 = .ok (.iand, 1) := by decide +kernel
theorem dX4_eulerCount_108 : decode cX4_eulerCount 108 = .ok (.istore 8, 2) := by decide +kernel
theorem dX4_eulerCount_110 : decode cX4_eulerCount 110 = .ok (.iload_n 1, 1) := by decide +kernel
theorem dX4_eulerCount_111 : decode cX4_eulerCount 111 = .ok (.iload 7, 2) := by decide +kernel
theorem dX4_eulerCount_113 : decode cX4_eulerCount 113 = .ok (.iload 8, 2) := by decide +kernel
theorem dX4_eulerCount_115 : decode cX4_eulerCount 115 = .ok (.invokestatic 19, 3) := by decide +kernel
theorem dX4_eulerCount_118 : decode cX4_eulerCount 118 = .ok (.iadd, 1) := by decide +kernel
theorem dX4_eulerCount_119 : decode cX4_eulerCount 119 = .ok (.istore_n 1, 1) := by decide +kernel
theorem dX4_eulerCount_120 : decode cX4_eulerCount 120 = .ok (.iload_n 1, 1) := by decide +kernel
theorem dX4_eulerCount_121 : decode cX4_eulerCount 121 = .ok (.iload 7, 2) := by decide +kernel
theorem dX4_eulerCount_123 : decode cX4_eulerCount 123 = .ok (.iload 8, 2) := by decide +kernel
theorem dX4_eulerCount_125 : decode cX4_eulerCount 125 = .ok (.iconst (-1), 1) := by decide +kernel
theorem dX4_eulerCount_126 : decode cX4_eulerCount 126 = .ok (.ixor, 1) := by decide +kernel
theorem dX4_eulerCount_127 : decode cX4_eulerCount 127 = .ok (.iand, 1) := by decide +kernel
theorem dX4_eulerCount_128 : decode cX4_eulerCount 128 = .ok (.invokestatic 24, 3) := by decide +kernel
theorem dX4_eulerCount_131 : decode cX4_eulerCount 131 = .ok (.isub, 1) := by decide +kernel
theorem dX4_eulerCount_132 : decode cX4_eulerCount 132 = .ok (.istore_n 1, 1) := by decide +kernel
theorem dX4_eulerCount_133 : decode cX4_eulerCount 133 = .ok (.iload_n 1, 1) := by decide +kernel
theorem dX4_eulerCount_134 : decode cX4_eulerCount 134 = .ok (.iload 4, 2) := by decide +kernel
theorem dX4_eulerCount_136 : decode cX4_eulerCount 136 = .ok (.iload 5, 2) := by decide +kernel
theorem dX4_eulerCount_138 : decode cX4_eulerCount 138 = .ok (.ior, 1) := by decide +kernel
theorem dX4_eulerCount_139 : decode cX4_eulerCount 139 = .ok (.iload 4, 2) := by decide +kernel
theorem dX4_eulerCount_141 : decode cX4_eulerCount 141 = .ok (.iload 5, 2) := by decide +kernel
theorem dX4_eulerCount_143 : decode cX4_eulerCount 143 = .ok (.iand, 1) := by decide +kernel
theorem dX4_eulerCount_144 : decode cX4_eulerCount 144 = .ok (.invokestatic 19, 3) := by decide +kernel
theorem dX4_eulerCount_147 : decode cX4_eulerCount 147 = .ok (.isub, 1) := by decide +kernel
theorem dX4_eulerCount_148 : decode cX4_eulerCount 148 = .ok (.istore_n 1, 1) := by decide +kernel
theorem dX4_eulerCount_149 : decode cX4_eulerCount 149 = .ok (.iload_n 1, 1) := by decide +kernel
theorem dX4_eulerCount_150 : decode cX4_eulerCount 150 = .ok (.iload 4, 2) := by decide +kernel
theorem dX4_eulerCount_152 : decode cX4_eulerCount 152 = .ok (.iload 6, 2) := by decide +kernel
theorem dX4_eulerCount_154 : decode cX4_eulerCount 154 = .ok (.ior, 1) := by decide +kernel
theorem dX4_eulerCount_155 : decode cX4_eulerCount 155 = .ok (.iload 4, 2) := by decide +kernel
theorem dX4_eulerCount_157 : decode cX4_eulerCount 157 = .ok (.iload 6, 2) := by decide +kernel
theorem dX4_eulerCount_159 : decode cX4_eulerCount 159 = .ok (.iand, 1) := by decide +kernel
theorem dX4_eulerCount_160 : decode cX4_eulerCount 160 = .ok (.invokestatic 19, 3) := by decide +kernel
theorem dX4_eulerCount_163 : decode cX4_eulerCount 163 = .ok (.isub, 1) := by decide +kernel
theorem dX4_eulerCount_164 : decode cX4_eulerCount 164 = .ok (.istore_n 1, 1) := by decide +kernel
theorem dX4_eulerCount_165 : decode cX4_eulerCount 165 = .ok (.iinc 3 1, 3) := by decide +kernel
theorem dX4_eulerCount_168 : decode cX4_eulerCount 168 = .ok (.goto (-134), 3) := by decide +kernel
theorem dX4_eulerCount_171 : decode cX4_eulerCount 171 = .ok (.iinc 2 1, 3) := by decide +kernel
theorem dX4_eulerCount_174 : decode cX4_eulerCount 174 = .ok (.goto (-148), 3) := by decide +kernel
theorem dX4_eulerCount_177 : decode cX4_eulerCount 177 = .ok (.iload_n 1, 1) := by decide +kernel
theorem dX4_eulerCount_178 : decode cX4_eulerCount 178 = .ok (.ireturn, 1) := by decide +kernel
theorem dX4_mixedEnds_0 : decode cX4_mixedEnds 0 = .ok (.iload_n 0, 1) := by decide +kernel
theorem dX4_mixedEnds_1 : decode cX4_mixedEnds 1 = .ok (.iload_n 0, 1) := by decide +kernel
theorem dX4_mixedEnds_2 : decode cX4_mixedEnds 2 = .ok (.iconst 1, 1) := by decide +kernel
theorem dX4_mixedEnds_3 : decode cX4_mixedEnds 3 = .ok (.ishl, 1) := by decide +kernel
theorem dX4_mixedEnds_4 : decode cX4_mixedEnds 4 = .ok (.ior, 1) := by decide +kernel
theorem dX4_mixedEnds_5 : decode cX4_mixedEnds 5 = .ok (.invokestatic 24, 3) := by decide +kernel
theorem dX4_mixedEnds_8 : decode cX4_mixedEnds 8 = .ok (.iload_n 1, 1) := by decide +kernel
theorem dX4_mixedEnds_9 : decode cX4_mixedEnds 9 = .ok (.iload_n 1, 1) := by decide +kernel
theorem dX4_mixedEnds_10 : decode cX4_mixedEnds 10 = .ok (.iconst 1, 1) := by decide +kernel
theorem dX4_mixedEnds_11 : decode cX4_mixedEnds 11 = .ok (.ishl, 1) := by decide +kernel
theorem dX4_mixedEnds_12 : decode cX4_mixedEnds 12 = .ok (.iand, 1) := by decide +kernel
theorem dX4_mixedEnds_13 : decode cX4_mixedEnds 13 = .ok (.invokestatic 24, 3) := by decide +kernel
theorem dX4_mixedEnds_16 : decode cX4_mixedEnds 16 = .ok (.isub, 1) := by decide +kernel
theorem dX4_mixedEnds_17 : decode cX4_mixedEnds 17 = .ok (.ireturn, 1) := by decide +kernel
theorem dX4_isBalanced_0 : decode cX4_isBalanced 0 = .ok (.iconst 0, 1) := by decide +kernel
theorem dX4_isBalanced_1 : decode cX4_isBalanced 1 = .ok (.istore_n 1, 1) := by decide +kernel
theorem dX4_isBalanced_2 : decode cX4_isBalanced 2 = .ok (.iload_n 1, 1) := by decide +kernel
theorem dX4_isBalanced_3 : decode cX4_isBalanced 3 = .ok (.iconst 3, 1) := by decide +kernel
theorem dX4_isBalanced_4 : decode cX4_isBalanced 4 = .ok (.if_icmp .ge 30, 3) := by decide +kernel
theorem dX4_isBalanced_7 : decode cX4_isBalanced 7 = .ok (.aload_n 0, 1) := by decide +kernel
theorem dX4_isBalanced_8 : decode cX4_isBalanced 8 = .ok (.iconst 2, 1) := by decide +kernel
theorem dX4_isBalanced_9 : decode cX4_isBalanced 9 = .ok (.iload_n 1, 1) := by decide +kernel
theorem dX4_isBalanced_10 : decode cX4_isBalanced 10 = .ok (.imul, 1) := by decide +kernel
theorem dX4_isBalanced_11 : decode cX4_isBalanced 11 = .ok (.invokevirtual 9, 3) := by decide +kernel
theorem dX4_isBalanced_14 : decode cX4_isBalanced 14 = .ok (.aload_n 0, 1) := by decide +kernel
theorem dX4_isBalanced_15 : decode cX4_isBalanced 15 = .ok (.iconst 2, 1) := by decide +kernel
theorem dX4_isBalanced_16 : decode cX4_isBalanced 16 = .ok (.iload_n 1, 1) := by decide +kernel
theorem dX4_isBalanced_17 : decode cX4_isBalanced 17 = .ok (.imul, 1) := by decide +kernel
theorem dX4_isBalanced_18 : decode cX4_isBalanced 18 = .ok (.iconst 1, 1) := by decide +kernel
theorem dX4_isBalanced_19 : decode cX4_isBalanced 19 = .ok (.iadd, 1) := by decide +kernel
theorem dX4_isBalanced_20 : decode cX4_isBalanced 20 = .ok (.invokevirtual 9, 3) := by decide +kernel
theorem dX4_isBalanced_23 : decode cX4_isBalanced 23 = .ok (.if_icmp .eq 5, 3) := by decide +kernel
theorem dX4_isBalanced_26 : decode cX4_isBalanced 26 = .ok (.iconst 0, 1) := by decide +kernel
theorem dX4_isBalanced_27 : decode cX4_isBalanced 27 = .ok (.ireturn, 1) := by decide +kernel
theorem dX4_isBalanced_28 : decode cX4_isBalanced 28 = .ok (.iinc 1 1, 3) := by decide +kernel
theorem dX4_isBalanced_31 : decode cX4_isBalanced 31 = .ok (.goto (-29), 3) := by decide +kernel
theorem dX4_isBalanced_34 : decode cX4_isBalanced 34 = .ok (.iconst 1, 1) := by decide +kernel
theorem dX4_isBalanced_35 : decode cX4_isBalanced 35 = .ok (.ireturn, 1) := by decide +kernel
theorem dX4_sumAlong_0 : decode cX4_sumAlong 0 = .ok (.iconst 0, 1) := by decide +kernel
theorem dX4_sumAlong_1 : decode cX4_sumAlong 1 = .ok (.istore_n 2, 1) := by decide +kernel
theorem dX4_sumAlong_2 : decode cX4_sumAlong 2 = .ok (.iconst 0, 1) := by decide +kernel
theorem dX4_sumAlong_3 : decode cX4_sumAlong 3 = .ok (.istore_n 3, 1) := by decide +kernel
theorem dX4_sumAlong_4 : decode cX4_sumAlong 4 = .ok (.iload_n 3, 1) := by decide +kernel
theorem dX4_sumAlong_5 : decode cX4_sumAlong 5 = .ok (.bipush 8, 2) := by decide +kernel
theorem dX4_sumAlong_7 : decode cX4_sumAlong 7 = .ok (.if_icmp .ge 76, 3) := by decide +kernel
theorem dX4_sumAlong_10 : decode cX4_sumAlong 10 = .ok (.iconst 0, 1) := by decide +kernel
theorem dX4_sumAlong_11 : decode cX4_sumAlong 11 = .ok (.istore 4, 2) := by decide +kernel
theorem dX4_sumAlong_13 : decode cX4_sumAlong 13 = .ok (.iload 4, 2) := by decide +kernel
theorem dX4_sumAlong_15 : decode cX4_sumAlong 15 = .ok (.bipush 8, 2) := by decide +kernel
theorem dX4_sumAlong_17 : decode cX4_sumAlong 17 = .ok (.if_icmp .ge 60, 3) := by decide +kernel
theorem dX4_sumAlong_20 : decode cX4_sumAlong 20 = .ok (.iconst 0, 1) := by decide +kernel
theorem dX4_sumAlong_21 : decode cX4_sumAlong 21 = .ok (.istore 5, 2) := by decide +kernel
theorem dX4_sumAlong_23 : decode cX4_sumAlong 23 = .ok (.iload 5, 2) := by decide +kernel
theorem dX4_sumAlong_25 : decode cX4_sumAlong 25 = .ok (.bipush 8, 2) := by decide +kernel
theorem dX4_sumAlong_27 : decode cX4_sumAlong 27 = .ok (.if_icmp .ge 44, 3) := by decide +kernel
theorem dX4_sumAlong_30 : decode cX4_sumAlong 30 = .ok (.aload_n 0, 1) := by decide +kernel
theorem dX4_sumAlong_31 : decode cX4_sumAlong 31 = .ok (.iload 5, 2) := by decide +kernel
theorem dX4_sumAlong_33 : decode cX4_sumAlong 33 = .ok (.iload 4, 2) := by decide +kernel
theorem dX4_sumAlong_35 : decode cX4_sumAlong 35 = .ok (.iload_n 3, 1) := by decide +kernel
theorem dX4_sumAlong_36 : decode cX4_sumAlong 36 = .ok (.invokevirtual 29, 3) := by decide +kernel
theorem dX4_sumAlong_39 : decode cX4_sumAlong 39 = .ok (.ifCond .eq 26, 3) := by decide +kernel
theorem dX4_sumAlong_42 : decode cX4_sumAlong 42 = .ok (.iload_n 2, 1) := by decide +kernel
theorem dX4_sumAlong_43 : decode cX4_sumAlong 43 = .ok (.iload_n 1, 1) := by decide +kernel
theorem dX4_sumAlong_44 : decode cX4_sumAlong 44 = .ok (.ifCond .ne 8, 3) := by decide +kernel
theorem dX4_sumAlong_47 : decode cX4_sumAlong 47 = .ok (.iload 5, 2) := by decide +kernel
theorem dX4_sumAlong_49 : decode cX4_sumAlong 49 = .ok (.goto 14, 3) := by decide +kernel
theorem dX4_sumAlong_52 : decode cX4_sumAlong 52 = .ok (.iload_n 1, 1) := by decide +kernel
theorem dX4_sumAlong_53 : decode cX4_sumAlong 53 = .ok (.iconst 1, 1) := by decide +kernel
theorem dX4_sumAlong_54 : decode cX4_sumAlong 54 = .ok (.if_icmp .ne 8, 3) := by decide +kernel
theorem dX4_sumAlong_57 : decode cX4_sumAlong 57 = .ok (.iload 4, 2) := by decide +kernel
theorem dX4_sumAlong_59 : decode cX4_sumAlong 59 = .ok (.goto 4, 3) := by decide +kernel
theorem dX4_sumAlong_62 : decode cX4_sumAlong 62 = .ok (.iload_n 3, 1) := by decide +kernel
theorem dX4_sumAlong_63 : decode cX4_sumAlong 63 = .ok (.iadd, 1) := by decide +kernel
theorem dX4_sumAlong_64 : decode cX4_sumAlong 64 = .ok (.istore_n 2, 1) := by decide +kernel
theorem dX4_sumAlong_65 : decode cX4_sumAlong 65 = .ok (.iinc 5 1, 3) := by decide +kernel
theorem dX4_sumAlong_68 : decode cX4_sumAlong 68 = .ok (.goto (-45), 3) := by decide +kernel
theorem dX4_sumAlong_71 : decode cX4_sumAlong 71 = .ok (.iinc 4 1, 3) := by decide +kernel
theorem dX4_sumAlong_74 : decode cX4_sumAlong 74 = .ok (.goto (-61), 3) := by decide +kernel
theorem dX4_sumAlong_77 : decode cX4_sumAlong 77 = .ok (.iinc 3 1, 3) := by decide +kernel
theorem dX4_sumAlong_80 : decode cX4_sumAlong 80 = .ok (.goto (-76), 3) := by decide +kernel
theorem dX4_sumAlong_83 : decode cX4_sumAlong 83 = .ok (.iload_n 2, 1) := by decide +kernel
theorem dX4_sumAlong_84 : decode cX4_sumAlong 84 = .ok (.ireturn, 1) := by decide +kernel
theorem dX5_init_0 : decode cX5_init 0 = .ok (.aload_n 0, 1) := by decide +kernel
theorem dX5_init_1 : decode cX5_init 1 = .ok (.invokespecial 3, 3) := by decide +kernel
theorem dX5_init_4 : decode cX5_init 4 = .ok (.aload_n 0, 1) := by decide +kernel
theorem dX5_init_5 : decode cX5_init 5 = .ok (.bipush 8, 2) := by decide +kernel
theorem dX5_init_7 : decode cX5_init 7 = .ok (.newarray .int, 2) := by decide +kernel
theorem dX5_init_9 : decode cX5_init 9 = .ok (.putfield 9, 3) := by decide +kernel
theorem dX5_init_12 : decode cX5_init 12 = .ok (.aload_n 0, 1) := by decide +kernel
theorem dX5_init_13 : decode cX5_init 13 = .ok (.bipush 8, 2) := by decide +kernel
theorem dX5_init_15 : decode cX5_init 15 = .ok (.newarray .char, 2) := by decide +kernel
theorem dX5_init_17 : decode cX5_init 17 = .ok (.putfield 15, 3) := by decide +kernel
theorem dX5_init_20 : decode cX5_init 20 = .ok (.aload_n 0, 1) := by decide +kernel
theorem dX5_init_21 : decode cX5_init 21 = .ok (.bipush 8, 2) := by decide +kernel
theorem dX5_init_23 : decode cX5_init 23 = .ok (.newarray .int, 2) := by decide +kernel
theorem dX5_init_25 : decode cX5_init 25 = .ok (.putfield 19, 3) := by decide +kernel
theorem dX5_init_28 : decode cX5_init 28 = .ok (.aload_n 0, 1) := by decide +kernel
theorem dX5_init_29 : decode cX5_init 29 = .ok (.bipush 8, 2) := by decide +kernel
theorem dX5_init_31 : decode cX5_init 31 = .ok (.newarray .int, 2) := by decide +kernel
theorem dX5_init_33 : decode cX5_init 33 = .ok (.putfield 22, 3) := by decide +kernel
theorem dX5_init_36 : decode cX5_init 36 = .ok (.return_, 1) := by decide +kernel
theorem dX5_isName_0 : decode cX5_isName 0 = .ok (.iload_n 0, 1) := by decide +kernel
theorem dX5_isName_1 : decode cX5_isName 1 = .ok (.ifCond .lt 13, 3) := by decide +kernel
theorem dX5_isName_4 : decode cX5_isName 4 = .ok (.iload_n 0, 1) := by decide +kernel
theorem dX5_isName_5 : decode cX5_isName 5 = .ok (.bipush 8, 2) := by decide +kernel
theorem dX5_isName_7 : decode cX5_isName 7 = .ok (.if_icmp .ge 7, 3) := by decide +kernel
theorem dX5_isName_10 : decode cX5_isName 10 = .ok (.iconst 1, 1) := by decide +kernel
theorem dX5_isName_11 : decode cX5_isName 11 = .ok (.goto 4, 3) := by decide +kernel
theorem dX5_isName_14 : decode cX5_isName 14 = .ok (.iconst 0, 1) := by decide +kernel
theorem dX5_isName_15 : decode cX5_isName 15 = .ok (.ireturn, 1) := by decide +kernel
theorem dX5_isNamed_0 : decode cX5_isNamed 0 = .ok (.iload_n 0, 1) := by decide +kernel
theorem dX5_isNamed_1 : decode cX5_isNamed 1 = .ok (.bipush 100, 2) := by decide +kernel
theorem dX5_isNamed_3 : decode cX5_isNamed 3 = .ok (.if_icmp .lt 13, 3) := by decide +kernel
theorem dX5_isNamed_6 : decode cX5_isNamed 6 = .ok (.iload_n 0, 1) := by decide +kernel
theorem dX5_isNamed_7 : decode cX5_isNamed 7 = .ok (.bipush 108, 2) := by decide +kernel
theorem dX5_isNamed_9 : decode cX5_isNamed 9 = .ok (.if_icmp .ge 7, 3) := by decide +kernel
theorem dX5_isNamed_12 : decode cX5_isNamed 12 = .ok (.iconst 1, 1) := by decide +kernel
theorem dX5_isNamed_13 : decode cX5_isNamed 13 = .ok (.goto 4, 3) := by decide +kernel
theorem dX5_isNamed_16 : decode cX5_isNamed 16 = .ok (.iconst 0, 1) := by decide +kernel
theorem dX5_isNamed_17 : decode cX5_isNamed 17 = .ok (.ireturn, 1) := by decide +kernel
theorem dX5_isTerm_0 : decode cX5_isTerm 0 = .ok (.iload_n 0, 1) := by decide +kernel
theorem dX5_isTerm_1 : decode cX5_isTerm 1 = .ok (.invokestatic 25, 3) := by decide +kernel
theorem dX5_isTerm_4 : decode cX5_isTerm 4 = .ok (.ifCond .ne 10, 3) := by decide +kernel
theorem dX5_isTerm_7 : decode cX5_isTerm 7 = .ok (.iload_n 0, 1) := by decide +kernel
theorem dX5_isTerm_8 : decode cX5_isTerm 8 = .ok (.invokestatic 29, 3) := by decide +kernel
theorem dX5_isTerm_11 : decode cX5_isTerm 11 = .ok (.ifCond .eq 7, 3) := by decide +kernel
theorem dX5_isTerm_14 : decode cX5_isTerm 14 = .ok (.iconst 1, 1) := by decide +kernel
theorem dX5_isTerm_15 : decode cX5_isTerm 15 = .ok (.goto 4, 3) := by decide +kernel
theorem dX5_isTerm_18 : decode cX5_isTerm 18 = .ok (.iconst 0, 1) := by decide +kernel
theorem dX5_isTerm_19 : decode cX5_isTerm 19 = .ok (.ireturn, 1) := by decide +kernel
theorem dX5_isOperation_0 : decode cX5_isOperation 0 = .ok (.iload_n 0, 1) := by decide +kernel
theorem dX5_isOperation_1 : decode cX5_isOperation 1 = .ok (.bipush 43, 2) := by decide +kernel
theorem dX5_isOperation_3 : decode cX5_isOperation 3 = .ok (.if_icmp .eq 15, 3) := by decide +kernel
theorem dX5_isOperation_6 : decode cX5_isOperation 6 = .ok (.iload_n 0, 1) := by decide +kernel
theorem dX5_isOperation_7 : decode cX5_isOperation 7 = .ok (.bipush 45, 2) := by decide +kernel
theorem dX5_isOperation_9 : decode cX5_isOperation 9 = .ok (.if_icmp .eq 9, 3) := by decide +kernel
theorem dX5_isOperation_12 : decode cX5_isOperation 12 = .ok (.iload_n 0, 1) := by decide +kernel
theorem dX5_isOperation_13 : decode cX5_isOperation 13 = .ok (.bipush 42, 2) := by decide +kernel
theorem dX5_isOperation_15 : decode cX5_isOperation 15 = .ok (.if_icmp .ne 7, 3) := by decide +kernel
theorem dX5_isOperation_18 : decode cX5_isOperation 18 = .ok (.iconst 1, 1) := by decide +kernel
theorem dX5_isOperation_19 : decode cX5_isOperation 19 = .ok (.goto 4, 3) := by decide +kernel
theorem dX5_isOperation_22 : decode cX5_isOperation 22 = .ok (.iconst 0, 1) := by decide +kernel
theorem dX5_isOperation_23 : decode cX5_isOperation 23 = .ok (.ireturn, 1) := by decide +kernel
theorem dX5_valueOf_0 : decode cX5_valueOf 0 = .ok (.iload_n 1, 1) := by decide +kernel
theorem dX5_valueOf_1 : decode cX5_valueOf 1 = .ok (.invokestatic 29, 3) := by decide +kernel
theorem dX5_valueOf_4 : decode cX5_valueOf 4 = .ok (.ifCond .eq 15, 3) := by decide +kernel
theorem dX5_valueOf_7 : decode cX5_valueOf 7 = .ok (.aload_n 0, 1) := by decide +kernel
theorem dX5_valueOf_8 : decode cX5_valueOf 8 = .ok (.getfield 22, 3) := by decide +kernel
theorem dX5_valueOf_11 : decode cX5_valueOf 11 = .ok (.iload_n 1, 1) := by decide +kernel
theorem dX5_valueOf_12 : decode cX5_valueOf 12 = .ok (.bipush 100, 2) := by decide +kernel
theorem dX5_valueOf_14 : decode cX5_valueOf 14 = .ok (.isub, 1) := by decide +kernel
theorem dX5_valueOf_15 : decode cX5_valueOf 15 = .ok (.iaload, 1) := by decide +kernel
theorem dX5_valueOf_16 : decode cX5_valueOf 16 = .ok (.goto 4, 3) := by decide +kernel
theorem dX5_valueOf_19 : decode cX5_valueOf 19 = .ok (.iload_n 1, 1) := by decide +kernel
theorem dX5_valueOf_20 : decode cX5_valueOf 20 = .ok (.ireturn, 1) := by decide +kernel
theorem dX5_wouldNeedItself_0 : decode cX5_wouldNeedItself 0 = .ok (.iload_n 2, 1) := by decide +kernel
theorem dX5_wouldNeedItself_1 : decode cX5_wouldNeedItself 1 = .ok (.invokestatic 32, 3) := by decide +kernel
theorem dX5_wouldNeedItself_4 : decode cX5_wouldNeedItself 4 = .ok (.iload_n 3, 1) := by decide +kernel
theorem dX5_wouldNeedItself_5 : decode cX5_wouldNeedItself 5 = .ok (.invokestatic 32, 3) := by decide +kernel
theorem dX5_wouldNeedItself_8 : decode cX5_wouldNeedItself 8 = .ok (.ior, 1) := by decide +kernel
theorem dX5_wouldNeedItself_9 : decode cX5_wouldNeedItself 9 = .ok (.istore 4, 2) := by decide +kernel
theorem dX5_wouldNeedItself_11 : decode cX5_wouldNeedItself 11 = .ok (.iconst 0, 1) := by decide +kernel
theorem dX5_wouldNeedItself_12 : decode cX5_wouldNeedItself 12 = .ok (.istore 5, 2) := by decide +kernel
theorem dX5_wouldNeedItself_14 : decode cX5_wouldNeedItself 14 = .ok (.iload 5, 2) := by decide +kernel
theorem dX5_wouldNeedItself_16 : decode cX5_wouldNeedItself 16 = .ok (.bipush 8, 2) := by decide +kernel
theorem dX5_wouldNeedItself_18 : decode cX5_wouldNeedItself 18 = .ok (.if_icmp .ge 62, 3) := by decide +kernel
theorem dX5_wouldNeedItself_21 : decode cX5_wouldNeedItself 21 = .ok (.iconst 0, 1) := by decide +kernel
theorem dX5_wouldNeedItself_22 : decode cX5_wouldNeedItself 22 = .ok (.istore 6, 2) := by decide +kernel
theorem dX5_wouldNeedItself_24 : decode cX5_wouldNeedItself 24 = .ok (.iload 6, 2) := by decide +kernel
theorem dX5_wouldNeedItself_26 : decode cX5_wouldNeedItself 26 = .ok (.bipush 8, 2) := by decide +kernel
theorem dX5_wouldNeedItself_28 : decode cX5_wouldNeedItself 28 = .ok (.if_icmp .ge 46, 3) := by decide +kernel
theorem dX5_wouldNeedItself_31 : decode cX5_wouldNeedItself 31 = .ok (.iload 4, 2) := by decide +kernel
theorem dX5_wouldNeedItself_33 : decode cX5_wouldNeedItself 33 = .ok (.iload 6, 2) := by decide +kernel
theorem dX5_wouldNeedItself_35 : decode cX5_wouldNeedItself 35 = .ok (.ishr, 1) := by decide +kernel
theorem dX5_wouldNeedItself_36 : decode cX5_wouldNeedItself 36 = .ok (.iconst 1, 1) := by decide +kernel
theorem dX5_wouldNeedItself_37 : decode cX5_wouldNeedItself 37 = .ok (.iand, 1) := by decide +kernel
theorem dX5_wouldNeedItself_38 : decode cX5_wouldNeedItself 38 = .ok (.iconst 1, 1) := by decide +kernel
theorem dX5_wouldNeedItself_39 : decode cX5_wouldNeedItself 39 = .ok (.if_icmp .ne 29, 3) := by decide +kernel
theorem dX5_wouldNeedItself_42 : decode cX5_wouldNeedItself 42 = .ok (.iload 4, 2) := by decide +kernel
theorem dX5_wouldNeedItself_44 : decode cX5_wouldNeedItself 44 = .ok (.aload_n 0, 1) := by decide +kernel
theorem dX5_wouldNeedItself_45 : decode cX5_wouldNeedItself 45 = .ok (.getfield 9, 3) := by decide +kernel
theorem dX5_wouldNeedItself_48 : decode cX5_wouldNeedItself 48 = .ok (.iload 6, 2) := by decide +kernel
theorem dX5_wouldNeedItself_50 : decode cX5_wouldNeedItself 50 = .ok (.iaload, 1) := by decide +kernel
theorem dX5_wouldNeedItself_51 : decode cX5_wouldNeedItself 51 = .ok (.invokestatic 32, 3) := by decide +kernel
theorem dX5_wouldNeedItself_54 : decode cX5_wouldNeedItself 54 = .ok (.aload_n 0, 1) := by decide +kernel
theorem dX5_wouldNeedItself_55 : decode cX5_wouldNeedItself 55 = .ok (.getfield 19, 3) := by decide +kernel
theorem dX5_wouldNeedItself_58 : decode cX5_wouldNeedItself 58 = .ok (.iload 6, 2) := by decide +kernel
theorem dX5_wouldNeedItself_60 : decode cX5_wouldNeedItself 60 = .ok (.iaload, 1) := by decide +kernel
theorem dX5_wouldNeedItself_61 : decode cX5_wouldNeedItself 61 = .ok (.invokestatic 32, 3) := by decide +kernel
theorem dX5_wouldNeedItself_64 : decode cX5_wouldNeedItself 64 = .ok (.ior, 1) := by decide +kernel
theorem dX5_wouldNeedItself_65 : decode cX5_wouldNeedItself 65 = .ok (.ior, 1) := by decide +kernel
theorem dX5_wouldNeedItself_66 : decode cX5_wouldNeedItself 66 = .ok (.istore 4, 2) := by decide +kernel
theorem dX5_wouldNeedItself_68 : decode cX5_wouldNeedItself 68 = .ok (.iinc 6 1, 3) := by decide +kernel
theorem dX5_wouldNeedItself_71 : decode cX5_wouldNeedItself 71 = .ok (.goto (-47), 3) := by decide +kernel
theorem dX5_wouldNeedItself_74 : decode cX5_wouldNeedItself 74 = .ok (.iinc 5 1, 3) := by decide +kernel
theorem dX5_wouldNeedItself_77 : decode cX5_wouldNeedItself 77 = .ok (.goto (-63), 3) := by decide +kernel
theorem dX5_wouldNeedItself_80 : decode cX5_wouldNeedItself 80 = .ok (.iload 4, 2) := by decide +kernel
theorem dX5_wouldNeedItself_82 : decode cX5_wouldNeedItself 82 = .ok (.iload_n 1, 1) := by decide +kernel
theorem dX5_wouldNeedItself_83 : decode cX5_wouldNeedItself 83 = .ok (.ishr, 1) := by decide +kernel
theorem dX5_wouldNeedItself_84 : decode cX5_wouldNeedItself 84 = .ok (.iconst 1, 1) := by decide +kernel
theorem dX5_wouldNeedItself_85 : decode cX5_wouldNeedItself 85 = .ok (.iand, 1) := by decide +kernel
theorem dX5_wouldNeedItself_86 : decode cX5_wouldNeedItself 86 = .ok (.iconst 1, 1) := by decide +kernel
theorem dX5_wouldNeedItself_87 : decode cX5_wouldNeedItself 87 = .ok (.if_icmp .ne 7, 3) := by decide +kernel
theorem dX5_wouldNeedItself_90 : decode cX5_wouldNeedItself 90 = .ok (.iconst 1, 1) := by decide +kernel
theorem dX5_wouldNeedItself_91 : decode cX5_wouldNeedItself 91 = .ok (.goto 4, 3) := by decide +kernel
theorem dX5_wouldNeedItself_94 : decode cX5_wouldNeedItself 94 = .ok (.iconst 0, 1) := by decide +kernel
theorem dX5_wouldNeedItself_95 : decode cX5_wouldNeedItself 95 = .ok (.ireturn, 1) := by decide +kernel
theorem dX5_needOf_0 : decode cX5_needOf 0 = .ok (.iload_n 0, 1) := by decide +kernel
theorem dX5_needOf_1 : decode cX5_needOf 1 = .ok (.invokestatic 29, 3) := by decide +kernel
theorem dX5_needOf_4 : decode cX5_needOf 4 = .ok (.ifCond .eq 12, 3) := by decide +kernel
theorem dX5_needOf_7 : decode cX5_needOf 7 = .ok (.iconst 1, 1) := by decide +kernel
theorem dX5_needOf_8 : decode cX5_needOf 8 = .ok (.iload_n 0, 1) := by decide +kernel
theorem dX5_needOf_9 : decode cX5_needOf 9 = .ok (.bipush 100, 2) := by decide +kernel
theorem dX5_needOf_11 : decode cX5_needOf 11 = .ok (.isub, 1) := by decide +kernel
theorem dX5_needOf_12 : decode cX5_needOf 12 = .ok (.ishl, 1) := by decide +kernel
theorem dX5_needOf_13 : decode cX5_needOf 13 = .ok (.goto 4, 3) := by decide +kernel
theorem dX5_needOf_16 : decode cX5_needOf 16 = .ok (.iconst 0, 1) := by decide +kernel
theorem dX5_needOf_17 : decode cX5_needOf 17 = .ok (.ireturn, 1) := by decide +kernel
theorem dX5_putFormula_0 : decode cX5_putFormula 0 = .ok (.aload_n 0, 1) := by decide +kernel
theorem dX5_putFormula_1 : decode cX5_putFormula 1 = .ok (.getfield 9, 3) := by decide +kernel
theorem dX5_putFormula_4 : decode cX5_putFormula 4 = .ok (.iload_n 1, 1) := by decide +kernel
theorem dX5_putFormula_5 : decode cX5_putFormula 5 = .ok (.iload_n 2, 1) := by decide +kernel
theorem dX5_putFormula_6 : decode cX5_putFormula 6 = .ok (.iastore, 1) := by decide +kernel
theorem dX5_putFormula_7 : decode cX5_putFormula 7 = .ok (.aload_n 0, 1) := by decide +kernel
theorem dX5_putFormula_8 : decode cX5_putFormula 8 = .ok (.getfield 15, 3) := by decide +kernel
theorem dX5_putFormula_11 : decode cX5_putFormula 11 = .ok (.iload_n 1, 1) := by decide +kernel
theorem dX5_putFormula_12 : decode cX5_putFormula 12 = .ok (.iload_n 3, 1) := by decide +kernel
theorem dX5_putFormula_13 : decode cX5_putFormula 13 = .ok (.castore, 1) := by decide +kernel
theorem dX5_putFormula_14 : decode cX5_putFormula 14 = .ok (.aload_n 0, 1) := by decide +kernel
theorem dX5_putFormula_15 : decode cX5_putFormula 15 = .ok (.getfield 19, 3) := by decide +kernel
theorem dX5_putFormula_18 : decode cX5_putFormula 18 = .ok (.iload_n 1, 1) := by decide +kernel
theorem dX5_putFormula_19 : decode cX5_putFormula 19 = .ok (.iload 4, 2) := by decide +kernel
theorem dX5_putFormula_21 : decode cX5_putFormula 21 = .ok (.iastore, 1) := by decide +kernel
theorem dX5_putFormula_22 : decode cX5_putFormula 22 = .ok (.iconst 0, 1) := by decide +kernel
theorem dX5_putFormula_23 : decode cX5_putFormula 23 = .ok (.istore 5, 2) := by decide +kernel
theorem dX5_putFormula_25 : decode cX5_putFormula 25 = .ok (.iload 5, 2) := by decide +kernel
theorem dX5_putFormula_27 : decode cX5_putFormula 27 = .ok (.bipush 8, 2) := by decide +kernel
theorem dX5_putFormula_29 : decode cX5_putFormula 29 = .ok (.if_icmp .ge 41, 3) := by decide +kernel
theorem dX5_putFormula_32 : decode cX5_putFormula 32 = .ok (.iconst 0, 1) := by decide +kernel
theorem dX5_putFormula_33 : decode cX5_putFormula 33 = .ok (.istore 6, 2) := by decide +kernel
theorem dX5_putFormula_35 : decode cX5_putFormula 35 = .ok (.iload 6, 2) := by decide +kernel
theorem dX5_putFormula_37 : decode cX5_putFormula 37 = .ok (.bipush 8, 2) := by decide +kernel
theorem dX5_putFormula_39 : decode cX5_putFormula 39 = .ok (.if_icmp .ge 25, 3) := by decide +kernel
theorem dX5_putFormula_42 : decode cX5_putFormula 42 = .ok (.aload_n 0, 1) := by decide +kernel
theorem dX5_putFormula_43 : decode cX5_putFormula 43 = .ok (.getfield 22, 3) := by decide +kernel
theorem dX5_putFormula_46 : decode cX5_putFormula 46 = .ok (.iload 6, 2) := by decide +kernel
theorem dX5_putFormula_48 : decode cX5_putFormula 48 = .ok (.aload_n 0, 1) := by decide +kernel
theorem dX5_putFormula_49 : decode cX5_putFormula 49 = .ok (.iload 6, 2) := by decide +kernel
theorem dX5_putFormula_51 : decode cX5_putFormula 51 = .ok (.invokevirtual 36, 3) := by decide +kernel
theorem dX5_putFormula_54 : decode cX5_putFormula 54 = .ok (.invokestatic 39, 3) := by decide +kernel
theorem dX5_putFormula_57 : decode cX5_putFormula 57 = .ok (.iastore, 1) := by decide +kernel
theorem dX5_putFormula_58 : decode cX5_putFormula 58 = .ok (.iinc 6 1, 3) := by decide +kernel
theorem dX5_putFormula_61 : decode cX5_putFormula 61 = .ok (.goto (-26), 3) := by decide +kernel
theorem dX5_putFormula_64 : decode cX5_putFormula 64 = .ok (.iinc 5 1, 3) := by decide +kernel
theorem dX5_putFormula_67 : decode cX5_putFormula 67 = .ok (.goto (-42), 3) := by decide +kernel
theorem dX5_putFormula_70 : decode cX5_putFormula 70 = .ok (.return_, 1) := by decide +kernel
theorem dX5_outcome_0 : decode cX5_outcome 0 = .ok (.aload_n 0, 1) := by decide +kernel
theorem dX5_outcome_1 : decode cX5_outcome 1 = .ok (.aload_n 0, 1) := by decide +kernel
theorem dX5_outcome_2 : decode cX5_outcome 2 = .ok (.getfield 9, 3) := by decide +kernel
theorem dX5_outcome_5 : decode cX5_outcome 5 = .ok (.iload_n 1, 1) := by decide +kernel
theorem dX5_outcome_6 : decode cX5_outcome 6 = .ok (.iaload, 1) := by decide +kernel
theorem dX5_outcome_7 : decode cX5_outcome 7 = .ok (.invokevirtual 42, 3) := by decide +kernel
theorem dX5_outcome_10 : decode cX5_outcome 10 = .ok (.istore_n 2, 1) := by decide +kernel
theorem dX5_outcome_11 : decode cX5_outcome 11 = .ok (.aload_n 0, 1) := by decide +kernel
theorem dX5_outcome_12 : decode cX5_outcome 12 = .ok (.aload_n 0, 1) := by decide +kernel
theorem dX5_outcome_13 : decode cX5_outcome 13 = .ok (.getfield 19, 3) := by decide +kernel
theorem dX5_outcome_16 : decode cX5_outcome 16 = .ok (.iload_n 1, 1) := by decide +kernel
theorem dX5_outcome_17 : decode cX5_outcome 17 = .ok (.iaload, 1) := by decide +kernel
theorem dX5_outcome_18 : decode cX5_outcome 18 = .ok (.invokevirtual 42, 3) := by decide +kernel
theorem dX5_outcome_21 : decode cX5_outcome 21 = .ok (.istore_n 3, 1) := by decide +kernel
theorem dX5_outcome_22 : decode cX5_outcome 22 = .ok (.aload_n 0, 1) := by decide +kernel
theorem dX5_outcome_23 : decode cX5_outcome 23 = .ok (.getfield 15, 3) := by decide +kernel
theorem dX5_outcome_26 : decode cX5_outcome 26 = .ok (.iload_n 1, 1) := by decide +kernel
theorem dX5_outcome_27 : decode cX5_outcome 27 = .ok (.caload, 1) := by decide +kernel
theorem dX5_outcome_28 : decode cX5_outcome 28 = .ok (.bipush 42, 2) := by decide +kernel
theorem dX5_outcome_30 : decode cX5_outcome 30 = .ok (.if_icmp .ne 7, 3) := by decide +kernel
theorem dX5_outcome_33 : decode cX5_outcome 33 = .ok (.iload_n 2, 1) := by decide +kernel
theorem dX5_outcome_34 : decode cX5_outcome 34 = .ok (.iload_n 3, 1) := by decide +kernel
theorem dX5_outcome_35 : decode cX5_outcome 35 = .ok (.imul, 1) := by decide +kernel
theorem dX5_outcome_36 : decode cX5_outcome 36 = .ok (.ireturn, 1) := by decide +kernel
theorem dX5_outcome_37 : decode cX5_outcome 37 = .ok (.aload_n 0, 1) := by decide +kernel
theorem dX5_outcome_38 : decode cX5_outcome 38 = .ok (.getfield 15, 3) := by decide +kernel
theorem dX5_outcome_41 : decode cX5_outcome 41 = .ok (.iload_n 1, 1) := by decide +kernel
theorem dX5_outcome_42 : decode cX5_outcome 42 = .ok (.caload, 1) := by decide +kernel
theorem dX5_outcome_43 : decode cX5_outcome 43 = .ok (.bipush 45, 2) := by decide +kernel
theorem dX5_outcome_45 : decode cX5_outcome 45 = .ok (.if_icmp .ne 9, 3) := by decide +kernel
theorem dX5_outcome_48 : decode cX5_outcome 48 = .ok (.iload_n 2, 1) := by decide +kernel
theorem dX5_outcome_49 : decode cX5_outcome 49 = .ok (.iload_n 3, 1) := by decide +kernel
theorem dX5_outcome_50 : decode cX5_outcome 50 = .ok (.isub, 1) := by decide +kernel
theorem dX5_outcome_51 : decode cX5_outcome 51 = .ok (.goto 6, 3) := by decide +kernel
theorem dX5_outcome_54 : decode cX5_outcome 54 = .ok (.iload_n 2, 1) := by decide +kernel
theorem dX5_outcome_55 : decode cX5_outcome 55 = .ok (.iload_n 3, 1) := by decide +kernel
theorem dX5_outcome_56 : decode cX5_outcome 56 = .ok (.iadd, 1) := by decide +kernel
theorem dX5_outcome_57 : decode cX5_outcome 57 = .ok (.ireturn, 1) := by decide +kernel
theorem dX5_cut_0 : decode cX5_cut 0 = .ok (.bipush (-99), 2) := by decide +kernel
theorem dX5_cut_2 : decode cX5_cut 2 = .ok (.bipush 99, 2) := by decide +kernel
theorem dX5_cut_4 : decode cX5_cut 4 = .ok (.iload_n 0, 1) := by decide +kernel
theorem dX5_cut_5 : decode cX5_cut 5 = .ok (.invokestatic 45, 3) := by decide +kernel
theorem dX5_cut_8 : decode cX5_cut 8 = .ok (.invokestatic 51, 3) := by decide +kernel
theorem dX5_cut_11 : decode cX5_cut 11 = .ok (.ireturn, 1) := by decide +kernel
theorem dX6_init_0 : decode cX6_init 0 = .ok (.aload_n 0, 1) := by decide +kernel
theorem dX6_init_1 : decode cX6_init 1 = .ok (.invokespecial 3, 3) := by decide +kernel
theorem dX6_init_4 : decode cX6_init 4 = .ok (.aload_n 0, 1) := by decide +kernel
theorem dX6_init_5 : decode cX6_init 5 = .ok (.bipush 6, 2) := by decide +kernel
theorem dX6_init_7 : decode cX6_init 7 = .ok (.newarray .boolean, 2) := by decide +kernel
theorem dX6_init_9 : decode cX6_init 9 = .ok (.putfield 9, 3) := by decide +kernel
theorem dX6_init_12 : decode cX6_init 12 = .ok (.aload_n 0, 1) := by decide +kernel
theorem dX6_init_13 : decode cX6_init 13 = .ok (.bipush 6, 2) := by decide +kernel
theorem dX6_init_15 : decode cX6_init 15 = .ok (.anewarray 15, 3) := by decide +kernel
theorem dX6_init_18 : decode cX6_init 18 = .ok (.putfield 17, 3) := by decide +kernel
theorem dX6_init_21 : decode cX6_init 21 = .ok (.aload_n 0, 1) := by decide +kernel
theorem dX6_init_22 : decode cX6_init 22 = .ok (.bipush 18, 2) := by decide +kernel
theorem dX6_init_24 : decode cX6_init 24 = .ok (.newarray .int, 2) := by decide +kernel
theorem dX6_init_26 : decode cX6_init 26 = .ok (.putfield 21, 3) := by decide +kernel
theorem dX6_init_29 : decode cX6_init 29 = .ok (.aload_n 0, 1) := by decide +kernel
theorem dX6_init_30 : decode cX6_init 30 = .ok (.bipush 12, 2) := by decide +kernel
theorem dX6_init_32 : decode cX6_init 32 = .ok (.newarray .int, 2) := by decide +kernel
theorem dX6_init_34 : decode cX6_init 34 = .ok (.putfield 25, 3) := by decide +kernel
theorem dX6_init_37 : decode cX6_init 37 = .ok (.aload_n 0, 1) := by decide +kernel
theorem dX6_init_38 : decode cX6_init 38 = .ok (.bipush 12, 2) := by decide +kernel
theorem dX6_init_40 : decode cX6_init 40 = .ok (.newarray .int, 2) := by decide +kernel
theorem dX6_init_42 : decode cX6_init 42 = .ok (.putfield 28, 3) := by decide +kernel
theorem dX6_init_45 : decode cX6_init 45 = .ok (.aload_n 0, 1) := by decide +kernel
theorem dX6_init_46 : decode cX6_init 46 = .ok (.bipush 12, 2) := by decide +kernel
theorem dX6_init_48 : decode cX6_init 48 = .ok (.newarray .int, 2) := by decide +kernel
theorem dX6_init_50 : decode cX6_init 50 = .ok (.putfield 31, 3) := by decide +kernel
theorem dX6_init_53 : decode cX6_init 53 = .ok (.aload_n 0, 1) := by decide +kernel
theorem dX6_init_54 : decode cX6_init 54 = .ok (.bipush 12, 2) := by decide +kernel
theorem dX6_init_56 : decode cX6_init 56 = .ok (.newarray .int, 2) := by decide +kernel
theorem dX6_init_58 : decode cX6_init 58 = .ok (.putfield 34, 3) := by decide +kernel
theorem dX6_init_61 : decode cX6_init 61 = .ok (.iconst 0, 1) := by decide +kernel
theorem dX6_init_62 : decode cX6_init 62 = .ok (.istore_n 1, 1) := by decide +kernel
theorem dX6_init_63 : decode cX6_init 63 = .ok (.iload_n 1, 1) := by decide +kernel
theorem dX6_init_64 : decode cX6_init 64 = .ok (.bipush 6, 2) := by decide +kernel
theorem dX6_init_66 : decode cX6_init 66 = .ok (.if_icmp .ge 22, 3) := by decide +kernel
theorem dX6_init_69 : decode cX6_init 69 = .ok (.aload_n 0, 1) := by decide +kernel
theorem dX6_init_70 : decode cX6_init 70 = .ok (.getfield 17, 3) := by decide +kernel
theorem dX6_init_73 : decode cX6_init 73 = .ok (.iload_n 1, 1) := by decide +kernel
theorem dX6_init_74 : decode cX6_init 74 = .ok (.new 15, 3) := by decide +kernel
theorem dX6_init_77 : decode cX6_init 77 = .ok (.dup, 1) := by decide +kernel
theorem dX6_init_78 : decode cX6_init 78 = .ok (.invokespecial 37, 3) := by decide +kernel
theorem dX6_init_81 : decode cX6_init 81 = .ok (.aastore, 1) := by decide +kernel
theorem dX6_init_82 : decode cX6_init 82 = .ok (.iinc 1 1, 3) := by decide +kernel
theorem dX6_init_85 : decode cX6_init 85 = .ok (.goto (-22), 3) := by decide +kernel
theorem dX6_init_88 : decode cX6_init 88 = .ok (.return_, 1) := by decide +kernel
theorem dX6_isPart_0 : decode cX6_isPart 0 = .ok (.iload_n 1, 1) := by decide +kernel
theorem dX6_isPart_1 : decode cX6_isPart 1 = .ok (.ifCond .lt 15, 3) := by decide +kernel
theorem dX6_isPart_4 : decode cX6_isPart 4 = .ok (.iload_n 1, 1) := by decide +kernel
theorem dX6_isPart_5 : decode cX6_isPart 5 = .ok (.aload_n 0, 1) := by decide +kernel
theorem dX6_isPart_6 : decode cX6_isPart 6 = .ok (.getfield 38, 3) := by decide +kernel
theorem dX6_isPart_9 : decode cX6_isPart 9 = .ok (.if_icmp .ge 7, 3) := by decide +kernel
theorem dX6_isPart_12 : decode cX6_isPart 12 = .ok (.iconst 1, 1) := by decide +kernel
theorem dX6_isPart_13 : decode cX6_isPart 13 = .ok (.goto 4, 3) := by decide +kernel
theorem dX6_isPart_16 : decode cX6_isPart 16 = .ok (.iconst 0, 1) := by decide +kernel
theorem dX6_isPart_17 : decode cX6_isPart 17 = .ok (.ireturn, 1) := by decide +kernel
theorem dX6_append_0 : decode cX6_append 0 = .ok (.aload_n 0, 1) := by decide +kernel
theorem dX6_append_1 : decode cX6_append 1 = .ok (.getfield 38, 3) := by decide +kernel
theorem dX6_append_4 : decode cX6_append 4 = .ok (.istore 4, 2) := by decide +kernel
theorem dX6_append_6 : decode cX6_append 6 = .ok (.aload_n 0, 1) := by decide +kernel
theorem dX6_append_7 : decode cX6_append 7 = .ok (.getfield 21, 3) := by decide +kernel
theorem dX6_append_10 : decode cX6_append 10 = .ok (.iload 4, 2) := by decide +kernel
theorem dX6_append_12 : decode cX6_append 12 = .ok (.iconst 3, 1) := by decide +kernel
theorem dX6_append_13 : decode cX6_append 13 = .ok (.imul, 1) := by decide +kernel
theorem dX6_append_14 : decode cX6_append 14 = .ok (.iload_n 1, 1) := by decide +kernel
theorem dX6_append_15 : decode cX6_append 15 = .ok (.iastore, 1) := by decide +kernel
theorem dX6_append_16 : decode cX6_append 16 = .ok (.aload_n 0, 1) := by decide +kernel
theorem dX6_append_17 : decode cX6_append 17 = .ok (.getfield 21, 3) := by decide +kernel
theorem dX6_append_20 : decode cX6_append 20 = .ok (.iload 4, 2) := by decide +kernel
theorem dX6_append_22 : decode cX6_append 22 = .ok (.iconst 3, 1) := by decide +kernel
theorem dX6_append_23 : decode cX6_append 23 = .ok (.imul, 1) := by decide +kernel
theorem dX6_append_24 : decode cX6_append 24 = .ok (.iconst 1, 1) := by decide +kernel
theorem dX6_append_25 : decode cX6_append 25 = .ok (.iadd, 1) := by decide +kernel
theorem dX6_append_26 : decode cX6_append 26 = .ok (.iload_n 2, 1) := by decide +kernel
theorem dX6_append_27 : decode cX6_append 27 = .ok (.iastore, 1) := by decide +kernel
theorem dX6_append_28 : decode cX6_append 28 = .ok (.aload_n 0, 1) := by decide +kernel
theorem dX6_append_29 : decode cX6_append 29 = .ok (.getfield 21, 3) := by decide +kernel
theorem dX6_append_32 : decode cX6_append 32 = .ok (.iload 4, 2) := by decide +kernel
theorem dX6_append_34 : decode cX6_append 34 = .ok (.iconst 3, 1) := by decide +kernel
theorem dX6_append_35 : decode cX6_append 35 = .ok (.imul, 1) := by decide +kernel
theorem dX6_append_36 : decode cX6_append 36 = .ok (.iconst 2, 1) := by decide +kernel
theorem dX6_append_37 : decode cX6_append 37 = .ok (.iadd, 1) := by decide +kernel
theorem dX6_append_38 : decode cX6_append 38 = .ok (.iload_n 3, 1) := by decide +kernel
theorem dX6_append_39 : decode cX6_append 39 = .ok (.iastore, 1) := by decide +kernel
theorem dX6_append_40 : decode cX6_append 40 = .ok (.aload_n 0, 1) := by decide +kernel
theorem dX6_append_41 : decode cX6_append 41 = .ok (.dup, 1) := by decide +kernel
theorem dX6_append_42 : decode cX6_append 42 = .ok (.getfield 38, 3) := by decide +kernel
theorem dX6_append_45 : decode cX6_append 45 = .ok (.iconst 1, 1) := by decide +kernel
theorem dX6_append_46 : decode cX6_append 46 = .ok (.iadd, 1) := by decide +kernel
theorem dX6_append_47 : decode cX6_append 47 = .ok (.putfield 38, 3) := by decide +kernel
theorem dX6_append_50 : decode cX6_append 50 = .ok (.iload 4, 2) := by decide +kernel
theorem dX6_append_52 : decode cX6_append 52 = .ok (.ireturn, 1) := by decide +kernel
theorem dX6_moveAlong_0 : decode cX6_moveAlong 0 = .ok (.iload_n 1, 1) := by decide +kernel
theorem dX6_moveAlong_1 : decode cX6_moveAlong 1 = .ok (.iconst (-1), 1) := by decide +kernel
theorem dX6_moveAlong_2 : decode cX6_moveAlong 2 = .ok (.if_icmp .ne 7, 3) := by decide +kernel
theorem dX6_moveAlong_5 : decode cX6_moveAlong 5 = .ok (.iconst 0, 1) := by decide +kernel
theorem dX6_moveAlong_6 : decode cX6_moveAlong 6 = .ok (.goto 13, 3) := by decide +kernel
theorem dX6_moveAlong_9 : decode cX6_moveAlong 9 = .ok (.aload_n 0, 1) := by decide +kernel
theorem dX6_moveAlong_10 : decode cX6_moveAlong 10 = .ok (.getfield 21, 3) := by decide +kernel
theorem dX6_moveAlong_13 : decode cX6_moveAlong 13 = .ok (.iload_n 1, 1) := by decide +kernel
theorem dX6_moveAlong_14 : decode cX6_moveAlong 14 = .ok (.iconst 3, 1) := by decide +kernel
theorem dX6_moveAlong_15 : decode cX6_moveAlong 15 = .ok (.imul, 1) := by decide +kernel
theorem dX6_moveAlong_16 : decode cX6_moveAlong 16 = .ok (.iload_n 2, 1) := by decide +kernel
theorem dX6_moveAlong_17 : decode cX6_moveAlong 17 = .ok (.iadd, 1) := by decide +kernel
theorem dX6_moveAlong_18 : decode cX6_moveAlong 18 = .ok (.iaload, 1) := by decide +kernel
theorem dX6_moveAlong_19 : decode cX6_moveAlong 19 = .ok (.ireturn, 1) := by decide +kernel
theorem dX6_apart_0 : decode cX6_apart 0 = .ok (.aload_n 0, 1) := by decide +kernel
theorem dX6_apart_1 : decode cX6_apart 1 = .ok (.iload_n 2, 1) := by decide +kernel
theorem dX6_apart_2 : decode cX6_apart 2 = .ok (.iload_n 1, 1) := by decide +kernel
theorem dX6_apart_3 : decode cX6_apart 3 = .ok (.invokevirtual 42, 3) := by decide +kernel
theorem dX6_apart_6 : decode cX6_apart 6 = .ok (.aload_n 0, 1) := by decide +kernel
theorem dX6_apart_7 : decode cX6_apart 7 = .ok (.iload_n 3, 1) := by decide +kernel
theorem dX6_apart_8 : decode cX6_apart 8 = .ok (.iload_n 1, 1) := by decide +kernel
theorem dX6_apart_9 : decode cX6_apart 9 = .ok (.invokevirtual 42, 3) := by decide +kernel
theorem dX6_apart_12 : decode cX6_apart 12 = .ok (.isub, 1) := by decide +kernel
theorem dX6_apart_13 : decode cX6_apart 13 = .ok (.ireturn, 1) := by decide +kernel
theorem dX6_bitOf_0 : decode cX6_bitOf 0 = .ok (.iconst 1, 1) := by decide +kernel
theorem dX6_bitOf_1 : decode cX6_bitOf 1 = .ok (.iload_n 0, 1) := by decide +kernel
theorem dX6_bitOf_2 : decode cX6_bitOf 2 = .ok (.iconst (-1), 1) := by decide +kernel
theorem dX6_bitOf_3 : decode cX6_bitOf 3 = .ok (.isub, 1) := by decide +kernel
theorem dX6_bitOf_4 : decode cX6_bitOf 4 = .ok (.ishl, 1) := by decide +kernel
theorem dX6_bitOf_5 : decode cX6_bitOf 5 = .ok (.ireturn, 1) := by decide +kernel
theorem dX6_groupOf_0 : decode cX6_groupOf 0 = .ok (.iload_n 2, 1) := by decide +kernel
theorem dX6_groupOf_1 : decode cX6_groupOf 1 = .ok (.invokestatic 46, 3) := by decide +kernel
theorem dX6_groupOf_4 : decode cX6_groupOf 4 = .ok (.istore_n 3, 1) := by decide +kernel
theorem dX6_groupOf_5 : decode cX6_groupOf 5 = .ok (.iconst 0, 1) := by decide +kernel
theorem dX6_groupOf_6 : decode cX6_groupOf 6 = .ok (.istore 4, 2) := by decide +kernel
theorem dX6_groupOf_8 : decode cX6_groupOf 8 = .ok (.iload 4, 2) := by decide +kernel
theorem dX6_groupOf_10 : decode cX6_groupOf 10 = .ok (.aload_n 0, 1) := by decide +kernel
theorem dX6_groupOf_11 : decode cX6_groupOf 11 = .ok (.getfield 50, 3) := by decide +kernel
theorem dX6_groupOf_14 : decode cX6_groupOf 14 = .ok (.if_icmp .ge 73, 3) := by decide +kernel
theorem dX6_groupOf_17 : decode cX6_groupOf 17 = .ok (.iconst 0, 1) := by decide +kernel
theorem dX6_groupOf_18 : decode cX6_groupOf 18 = .ok (.istore 5, 2) := by decide +kernel
theorem dX6_groupOf_20 : decode cX6_groupOf 20 = .ok (.iload 5, 2) := by decide +kernel
theorem dX6_groupOf_22 : decode cX6_groupOf 22 = .ok (.aload_n 0, 1) := by decide +kernel
theorem dX6_groupOf_23 : decode cX6_groupOf 23 = .ok (.getfield 50, 3) := by decide +kernel
theorem dX6_groupOf_26 : decode cX6_groupOf 26 = .ok (.if_icmp .ge 55, 3) := by decide +kernel
theorem dX6_groupOf_29 : decode cX6_groupOf 29 = .ok (.aload_n 0, 1) := by decide +kernel
theorem dX6_groupOf_30 : decode cX6_groupOf 30 = .ok (.getfield 28, 3) := by decide +kernel
theorem dX6_groupOf_33 : decode cX6_groupOf 33 = .ok (.iload 5, 2) := by decide +kernel
theorem dX6_groupOf_35 : decode cX6_groupOf 35 = .ok (.iaload, 1) := by decide +kernel
theorem dX6_groupOf_36 : decode cX6_groupOf 36 = .ok (.invokestatic 46, 3) := by decide +kernel
theorem dX6_groupOf_39 : decode cX6_groupOf 39 = .ok (.aload_n 0, 1) := by decide +kernel
theorem dX6_groupOf_40 : decode cX6_groupOf 40 = .ok (.getfield 31, 3) := by decide +kernel
theorem dX6_groupOf_43 : decode cX6_groupOf 43 = .ok (.iload 5, 2) := by decide +kernel
theorem dX6_groupOf_45 : decode cX6_groupOf 45 = .ok (.iaload, 1) := by decide +kernel
theorem dX6_groupOf_46 : decode cX6_groupOf 46 = .ok (.invokestatic 46, 3) := by decide +kernel
theorem dX6_groupOf_49 : decode cX6_groupOf 49 = .ok (.ior, 1) := by decide +kernel
theorem dX6_groupOf_50 : decode cX6_groupOf 50 = .ok (.istore 6, 2) := by decide +kernel
theorem dX6_groupOf_52 : decode cX6_groupOf 52 = .ok (.aload_n 0, 1) := by decide +kernel
theorem dX6_groupOf_53 : decode cX6_groupOf 53 = .ok (.getfield 25, 3) := by decide +kernel
theorem dX6_groupOf_56 : decode cX6_groupOf 56 = .ok (.iload 5, 2) := by decide +kernel
theorem dX6_groupOf_58 : decode cX6_groupOf 58 = .ok (.iaload, 1) := by decide +kernel
theorem dX6_groupOf_59 : decode cX6_groupOf 59 = .ok (.iload_n 1, 1) := by decide +kernel
theorem dX6_groupOf_60 : decode cX6_groupOf 60 = .ok (.if_icmp .ne 15, 3) := by decide +kernel
theorem dX6_groupOf_63 : decode cX6_groupOf 63 = .ok (.iload_n 3, 1) := by decide +kernel
theorem dX6_groupOf_64 : decode cX6_groupOf 64 = .ok (.iload 6, 2) := by decide +kernel
theorem dX6_groupOf_66 : decode cX6_groupOf 66 = .ok (.iand, 1) := by decide +kernel
theorem dX6_groupOf_67 : decode cX6_groupOf 67 = .ok (.ifCond .eq 8, 3) := by decide +kernel
theorem dX6_groupOf_70 : decode cX6_groupOf 70 = .ok (.iload_n 3, 1) := by decide +kernel
theorem dX6_groupOf_71 : decode cX6_groupOf 71 = .ok (.iload 6, 2) := by decide +kernel
theorem dX6_groupOf_73 : decode cX6_groupOf 73 = .ok (.ior, 1) := by decide +kernel
theorem dX6_groupOf_74 : decode cX6_groupOf 74 = .ok (.istore_n 3, 1) := by decide +kernel
theorem dX6_groupOf_75 : decode cX6_groupOf 75 = .ok (.iinc 5 1, 3) := by decide +kernel
theorem dX6_groupOf_78 : decode cX6_groupOf 78 = .ok (.goto (-58), 3) := by decide +kernel
theorem dX6_groupOf_81 : decode cX6_groupOf 81 = .ok (.iinc 4 1, 3) := by decide +kernel
theorem dX6_groupOf_84 : decode cX6_groupOf 84 = .ok (.goto (-76), 3) := by decide +kernel
theorem dX6_groupOf_87 : decode cX6_groupOf 87 = .ok (.iload_n 3, 1) := by decide +kernel
theorem dX6_groupOf_88 : decode cX6_groupOf 88 = .ok (.ireturn, 1) := by decide +kernel
theorem dX6_areTied_0 : decode cX6_areTied 0 = .ok (.aload_n 0, 1) := by decide +kernel
theorem dX6_areTied_1 : decode cX6_areTied 1 = .ok (.iload_n 1, 1) := by decide +kernel
theorem dX6_areTied_2 : decode cX6_areTied 2 = .ok (.iload_n 2, 1) := by decide +kernel
theorem dX6_areTied_3 : decode cX6_areTied 3 = .ok (.invokevirtual 53, 3) := by decide +kernel
theorem dX6_areTied_6 : decode cX6_areTied 6 = .ok (.iload_n 3, 1) := by decide +kernel
theorem dX6_areTied_7 : decode cX6_areTied 7 = .ok (.invokestatic 46, 3) := by decide +kernel
theorem dX6_areTied_10 : decode cX6_areTied 10 = .ok (.iand, 1) := by decide +kernel
theorem dX6_areTied_11 : decode cX6_areTied 11 = .ok (.ifCond .eq 7, 3) := by decide +kernel
theorem dX6_areTied_14 : decode cX6_areTied 14 = .ok (.iconst 1, 1) := by decide +kernel
theorem dX6_areTied_15 : decode cX6_areTied 15 = .ok (.goto 4, 3) := by decide +kernel
theorem dX6_areTied_18 : decode cX6_areTied 18 = .ok (.iconst 0, 1) := by decide +kernel
theorem dX6_areTied_19 : decode cX6_areTied 19 = .ok (.ireturn, 1) := by decide +kernel
theorem dX6_slideGroup_0 : decode cX6_slideGroup 0 = .ok (.iconst 0, 1) := by decide +kernel
theorem dX6_slideGroup_1 : decode cX6_slideGroup 1 = .ok (.istore 4, 2) := by decide +kernel
theorem dX6_slideGroup_3 : decode cX6_slideGroup 3 = .ok (.iconst 0, 1) := by decide +kernel
theorem dX6_slideGroup_4 : decode cX6_slideGroup 4 = .ok (.istore 5, 2) := by decide +kernel
theorem dX6_slideGroup_6 : decode cX6_slideGroup 6 = .ok (.iload 5, 2) := by decide +kernel
theorem dX6_slideGroup_8 : decode cX6_slideGroup 8 = .ok (.aload_n 0, 1) := by decide +kernel
theorem dX6_slideGroup_9 : decode cX6_slideGroup 9 = .ok (.getfield 38, 3) := by decide +kernel
theorem dX6_slideGroup_12 : decode cX6_slideGroup 12 = .ok (.if_icmp .ge 41, 3) := by decide +kernel
theorem dX6_slideGroup_15 : decode cX6_slideGroup 15 = .ok (.iload_n 3, 1) := by decide +kernel
theorem dX6_slideGroup_16 : decode cX6_slideGroup 16 = .ok (.ifCond .eq 37, 3) := by decide +kernel
theorem dX6_slideGroup_19 : decode cX6_slideGroup 19 = .ok (.iload_n 2, 1) := by decide +kernel
theorem dX6_slideGroup_20 : decode cX6_slideGroup 20 = .ok (.iload 5, 2) := by decide +kernel
theorem dX6_slideGroup_22 : decode cX6_slideGroup 22 = .ok (.invokestatic 46, 3) := by decide +kernel
theorem dX6_slideGroup_25 : decode cX6_slideGroup 25 = .ok (.iand, 1) := by decide +kernel
theorem dX6_slideGroup_26 : decode cX6_slideGroup 26 = .ok (.ifCond .eq 21, 3) := by decide +kernel
theorem dX6_slideGroup_29 : decode cX6_slideGroup 29 = .ok (.aload_n 0, 1) := by decide +kernel
theorem dX6_slideGroup_30 : decode cX6_slideGroup 30 = .ok (.getfield 21, 3) := by decide +kernel
theorem dX6_slideGroup_33 : decode cX6_slideGroup 33 = .ok (.iload 5, 2) := by decide +kernel
theorem dX6_slideGroup_35 : decode cX6_slideGroup 35 = .ok (.iconst 3, 1) := by decide +kernel
theorem dX6_slideGroup_36 : decode cX6_slideGroup 36 = .ok (.imul, 1) := by decide +kernel
theorem dX6_slideGroup_37 : decode cX6_slideGroup 37 = .ok (.iload_n 1, 1) := by decide +kernel
theorem dX6_slideGroup_38 : decode cX6_slideGroup 38 = .ok (.iadd, 1) := by decide +kernel
theorem dX6_slideGroup_39 : decode cX6_slideGroup 39 = .ok (.dup2, 1) := by decide +kernel
theorem dX6_slideGroup_40 : decode cX6_slideGroup 40 = .ok (.iaload, 1) := by decide +kernel
theorem dX6_slideGroup_41 : decode cX6_slideGroup 41 = .ok (.iload_n 3, 1) := by decide +kernel
theorem dX6_slideGroup_42 : decode cX6_slideGroup 42 = .ok (.iadd, 1) := by decide +kernel
theorem dX6_slideGroup_43 : decode cX6_slideGroup 43 = .ok (.iastore, 1) := by decide +kernel
theorem dX6_slideGroup_44 : decode cX6_slideGroup 44 = .ok (.iinc 4 1, 3) := by decide +kernel
theorem dX6_slideGroup_47 : decode cX6_slideGroup 47 = .ok (.iinc 5 1, 3) := by decide +kernel
theorem dX6_slideGroup_50 : decode cX6_slideGroup 50 = .ok (.goto (-44), 3) := by decide +kernel
theorem dX6_slideGroup_53 : decode cX6_slideGroup 53 = .ok (.iload 4, 2) := by decide +kernel
theorem dX6_slideGroup_55 : decode cX6_slideGroup 55 = .ok (.ireturn, 1) := by decide +kernel
theorem dX6_tie_0 : decode cX6_tie 0 = .ok (.iload 4, 2) := by decide +kernel
theorem dX6_tie_2 : decode cX6_tie 2 = .ok (.aload_n 0, 1) := by decide +kernel
theorem dX6_tie_3 : decode cX6_tie 3 = .ok (.iload_n 1, 1) := by decide +kernel
theorem dX6_tie_4 : decode cX6_tie 4 = .ok (.iload_n 2, 1) := by decide +kernel
theorem dX6_tie_5 : decode cX6_tie 5 = .ok (.iload_n 3, 1) := by decide +kernel
theorem dX6_tie_6 : decode cX6_tie 6 = .ok (.invokevirtual 56, 3) := by decide +kernel
theorem dX6_tie_9 : decode cX6_tie 9 = .ok (.isub, 1) := by decide +kernel
theorem dX6_tie_10 : decode cX6_tie 10 = .ok (.istore 5, 2) := by decide +kernel
theorem dX6_tie_12 : decode cX6_tie 12 = .ok (.aload_n 0, 1) := by decide +kernel
theorem dX6_tie_13 : decode cX6_tie 13 = .ok (.iload_n 1, 1) := by decide +kernel
theorem dX6_tie_14 : decode cX6_tie 14 = .ok (.iload_n 2, 1) := by decide +kernel
theorem dX6_tie_15 : decode cX6_tie 15 = .ok (.iconst (-1), 1) := by decide +kernel
theorem dX6_tie_16 : decode cX6_tie 16 = .ok (.invokevirtual 60, 3) := by decide +kernel
theorem dX6_tie_19 : decode cX6_tie 19 = .ok (.istore 6, 2) := by decide +kernel
theorem dX6_tie_21 : decode cX6_tie 21 = .ok (.aload_n 0, 1) := by decide +kernel
theorem dX6_tie_22 : decode cX6_tie 22 = .ok (.iload_n 1, 1) := by decide +kernel
theorem dX6_tie_23 : decode cX6_tie 23 = .ok (.iload 6, 2) := by decide +kernel
theorem dX6_tie_25 : decode cX6_tie 25 = .ok (.ifCond .eq 7, 3) := by decide +kernel
theorem dX6_tie_28 : decode cX6_tie 28 = .ok (.iload_n 3, 1) := by decide +kernel
theorem dX6_tie_29 : decode cX6_tie 29 = .ok (.goto 4, 3) := by decide +kernel
theorem dX6_tie_32 : decode cX6_tie 32 = .ok (.iload_n 2, 1) := by decide +kernel
theorem dX6_tie_33 : decode cX6_tie 33 = .ok (.invokevirtual 53, 3) := by decide +kernel
theorem dX6_tie_36 : decode cX6_tie 36 = .ok (.istore 7, 2) := by decide +kernel
theorem dX6_tie_38 : decode cX6_tie 38 = .ok (.aload_n 0, 1) := by decide +kernel
theorem dX6_tie_39 : decode cX6_tie 39 = .ok (.iload_n 1, 1) := by decide +kernel
theorem dX6_tie_40 : decode cX6_tie 40 = .ok (.iload 7, 2) := by decide +kernel
theorem dX6_tie_42 : decode cX6_tie 42 = .ok (.iload 6, 2) := by decide +kernel
theorem dX6_tie_44 : decode cX6_tie 44 = .ok (.ifCond .eq 9, 3) := by decide +kernel
theorem dX6_tie_47 : decode cX6_tie 47 = .ok (.iload 5, 2) := by decide +kernel
theorem dX6_tie_49 : decode cX6_tie 49 = .ok (.ineg, 1) := by decide +kernel
theorem dX6_tie_50 : decode cX6_tie 50 = .ok (.goto 5, 3) := by decide +kernel
theorem dX6_tie_53 : decode cX6_tie 53 = .ok (.iload 5, 2) := by decide +kernel
theorem dX6_tie_55 : decode cX6_tie 55 = .ok (.invokevirtual 64, 3) := by decide +kernel
theorem dX6_tie_58 : decode cX6_tie 58 = .ok (.istore 8, 2) := by decide +kernel
theorem dX6_tie_60 : decode cX6_tie 60 = .ok (.aload_n 0, 1) := by decide +kernel
theorem dX6_tie_61 : decode cX6_tie 61 = .ok (.getfield 25, 3) := by decide +kernel
theorem dX6_tie_64 : decode cX6_tie 64 = .ok (.aload_n 0, 1) := by decide +kernel
theorem dX6_tie_65 : decode cX6_tie 65 = .ok (.getfield 50, 3) := by decide +kernel
theorem dX6_tie_68 : decode cX6_tie 68 = .ok (.iload_n 1, 1) := by decide +kernel
theorem dX6_tie_69 : decode cX6_tie 69 = .ok (.iastore, 1) := by decide +kernel
theorem dX6_tie_70 : decode cX6_tie 70 = .ok (.aload_n 0, 1) := by decide +kernel
theorem dX6_tie_71 : decode cX6_tie 71 = .ok (.getfield 28, 3) := by decide +kernel
theorem dX6_tie_74 : decode cX6_tie 74 = .ok (.aload_n 0, 1) := by decide +kernel
theorem dX6_tie_75 : decode cX6_tie 75 = .ok (.getfield 50, 3) := by decide +kernel
theorem dX6_tie_78 : decode cX6_tie 78 = .ok (.iload_n 2, 1) := by decide +kernel
theorem dX6_tie_79 : decode cX6_tie 79 = .ok (.iastore, 1) := by decide +kernel
theorem dX6_tie_80 : decode cX6_tie 80 = .ok (.aload_n 0, 1) := by decide +kernel
theorem dX6_tie_81 : decode cX6_tie 81 = .ok (.getfield 31, 3) := by decide +kernel
theorem dX6_tie_84 : decode cX6_tie 84 = .ok (.aload_n 0, 1) := by decide +kernel
theorem dX6_tie_85 : decode cX6_tie 85 = .ok (.getfield 50, 3) := by decide +kernel
theorem dX6_tie_88 : decode cX6_tie 88 = .ok (.iload_n 3, 1) := by decide +kernel
theorem dX6_tie_89 : decode cX6_tie 89 = .ok (.iastore, 1) := by decide +kernel
theorem dX6_tie_90 : decode cX6_tie 90 = .ok (.aload_n 0, 1) := by decide +kernel
theorem dX6_tie_91 : decode cX6_tie 91 = .ok (.getfield 34, 3) := by decide +kernel
theorem dX6_tie_94 : decode cX6_tie 94 = .ok (.aload_n 0, 1) := by decide +kernel
theorem dX6_tie_95 : decode cX6_tie 95 = .ok (.getfield 50, 3) := by decide +kernel
theorem dX6_tie_98 : decode cX6_tie 98 = .ok (.iload 4, 2) := by decide +kernel
theorem dX6_tie_100 : decode cX6_tie 100 = .ok (.iastore, 1) := by decide +kernel
theorem dX6_tie_101 : decode cX6_tie 101 = .ok (.aload_n 0, 1) := by decide +kernel
theorem dX6_tie_102 : decode cX6_tie 102 = .ok (.dup, 1) := by decide +kernel
theorem dX6_tie_103 : decode cX6_tie 103 = .ok (.getfield 50, 3) := by decide +kernel
theorem dX6_tie_106 : decode cX6_tie 106 = .ok (.iconst 1, 1) := by decide +kernel
theorem dX6_tie_107 : decode cX6_tie 107 = .ok (.iadd, 1) := by decide +kernel
theorem dX6_tie_108 : decode cX6_tie 108 = .ok (.putfield 50, 3) := by decide +kernel
theorem dX6_tie_111 : decode cX6_tie 111 = .ok (.iload 8, 2) := by decide +kernel
theorem dX6_tie_113 : decode cX6_tie 113 = .ok (.ireturn, 1) := by decide +kernel
theorem dX6_doMatesFit_0 : decode cX6_doMatesFit 0 = .ok (.iconst 0, 1) := by decide +kernel
theorem dX6_doMatesFit_1 : decode cX6_doMatesFit 1 = .ok (.istore_n 1, 1) := by decide +kernel
theorem dX6_doMatesFit_2 : decode cX6_doMatesFit 2 = .ok (.iload_n 1, 1) := by decide +kernel
theorem dX6_doMatesFit_3 : decode cX6_doMatesFit 3 = .ok (.aload_n 0, 1) := by decide +kernel
theorem dX6_doMatesFit_4 : decode cX6_doMatesFit 4 = .ok (.getfield 50, 3) := by decide +kernel
theorem dX6_doMatesFit_7 : decode cX6_doMatesFit 7 = .ok (.if_icmp .ge 44, 3) := by decide +kernel
theorem dX6_doMatesFit_10 : decode cX6_doMatesFit 10 = .ok (.aload_n 0, 1) := by decide +kernel
theorem dX6_doMatesFit_11 : decode cX6_doMatesFit 11 = .ok (.getfield 25, 3) := by decide +kernel
theorem dX6_doMatesFit_14 : decode cX6_doMatesFit 14 = .ok (.iload_n 1, 1) := by decide +kernel
theorem dX6_doMatesFit_15 : decode cX6_doMatesFit 15 = .ok (.iaload, 1) := by decide +kernel
theorem dX6_doMatesFit_16 : decode cX6_doMatesFit 16 = .ok (.istore_n 2, 1) := by decide +kernel
theorem dX6_doMatesFit_17 : decode cX6_doMatesFit 17 = .ok (.aload_n 0, 1) := by decide +kernel
theorem dX6_doMatesFit_18 : decode cX6_doMatesFit 18 = .ok (.iload_n 2, 1) := by decide +kernel
theorem dX6_doMatesFit_19 : decode cX6_doMatesFit 19 = .ok (.aload_n 0, 1) := by decide +kernel
theorem dX6_doMatesFit_20 : decode cX6_doMatesFit 20 = .ok (.getfield 28, 3) := by decide +kernel
theorem dX6_doMatesFit_23 : decode cX6_doMatesFit 23 = .ok (.iload_n 1, 1) := by decide +kernel
theorem dX6_doMatesFit_24 : decode cX6_doMatesFit 24 = .ok (.iaload, 1) := by decide +kernel
theorem dX6_doMatesFit_25 : decode cX6_doMatesFit 25 = .ok (.aload_n 0, 1) := by decide +kernel
theorem dX6_doMatesFit_26 : decode cX6_doMatesFit 26 = .ok (.getfield 31, 3) := by decide +kernel
theorem dX6_doMatesFit_29 : decode cX6_doMatesFit 29 = .ok (.iload_n 1, 1) := by decide +kernel
theorem dX6_doMatesFit_30 : decode cX6_doMatesFit 30 = .ok (.iaload, 1) := by decide +kernel
theorem dX6_doMatesFit_31 : decode cX6_doMatesFit 31 = .ok (.invokevirtual 56, 3) := by decide +kernel
theorem dX6_doMatesFit_34 : decode cX6_doMatesFit 34 = .ok (.aload_n 0, 1) := by decide +kernel
theorem dX6_doMatesFit_35 : decode cX6_doMatesFit 35 = .ok (.getfield 34, 3) := by decide +kernel
theorem dX6_doMatesFit_38 : decode cX6_doMatesFit 38 = .ok (.iload_n 1, 1) := by decide +kernel
theorem dX6_doMatesFit_39 : decode cX6_doMatesFit 39 = .ok (.iaload, 1) := by decide +kernel
theorem dX6_doMatesFit_40 : decode cX6_doMatesFit 40 = .ok (.if_icmp .eq 5, 3) := by decide +kernel
theorem dX6_doMatesFit_43 : decode cX6_doMatesFit 43 = .ok (.iconst 0, 1) := by decide +kernel
theorem dX6_doMatesFit_44 : decode cX6_doMatesFit 44 = .ok (.ireturn, 1) := by decide +kernel
theorem dX6_doMatesFit_45 : decode cX6_doMatesFit 45 = .ok (.iinc 1 1, 3) := by decide +kernel
theorem dX6_doMatesFit_48 : decode cX6_doMatesFit 48 = .ok (.goto (-46), 3) := by decide +kernel
theorem dX6_doMatesFit_51 : decode cX6_doMatesFit 51 = .ok (.iconst 1, 1) := by decide +kernel
theorem dX6_doMatesFit_52 : decode cX6_doMatesFit 52 = .ok (.ireturn, 1) := by decide +kernel
theorem dX6_countShared_0 : decode cX6_countShared 0 = .ok (.aload_n 0, 1) := by decide +kernel
theorem dX6_countShared_1 : decode cX6_countShared 1 = .ok (.getfield 9, 3) := by decide +kernel
theorem dX6_countShared_4 : decode cX6_countShared 4 = .ok (.iload_n 1, 1) := by decide +kernel
theorem dX6_countShared_5 : decode cX6_countShared 5 = .ok (.baload, 1) := by decide +kernel
theorem dX6_countShared_6 : decode cX6_countShared 6 = .ok (.ifCond .eq 12, 3) := by decide +kernel
theorem dX6_countShared_9 : decode cX6_countShared 9 = .ok (.aload_n 0, 1) := by decide +kernel
theorem dX6_countShared_10 : decode cX6_countShared 10 = .ok (.getfield 17, 3) := by decide +kernel
theorem dX6_countShared_13 : decode cX6_countShared 13 = .ok (.iload_n 1, 1) := by decide +kernel
theorem dX6_countShared_14 : decode cX6_countShared 14 = .ok (.aaload, 1) := by decide +kernel
theorem dX6_countShared_15 : decode cX6_countShared 15 = .ok (.goto 4, 3) := by decide +kernel
theorem dX6_countShared_18 : decode cX6_countShared 18 = .ok (.aload_n 3, 1) := by decide +kernel
theorem dX6_countShared_19 : decode cX6_countShared 19 = .ok (.astore 4, 2) := by decide +kernel
theorem dX6_countShared_21 : decode cX6_countShared 21 = .ok (.aload_n 0, 1) := by decide +kernel
theorem dX6_countShared_22 : decode cX6_countShared 22 = .ok (.getfield 9, 3) := by decide +kernel
theorem dX6_countShared_25 : decode cX6_countShared 25 = .ok (.iload_n 2, 1) := by decide +kernel
theorem dX6_countShared_26 : decode cX6_countShared 26 = .ok (.baload, 1) := by decide +kernel
theorem dX6_countShared_27 : decode cX6_countShared 27 = .ok (.ifCond .eq 12, 3) := by decide +kernel
theorem dX6_countShared_30 : decode cX6_countShared 30 = .ok (.aload_n 0, 1) := by decide +kernel
theorem dX6_countShared_31 : decode cX6_countShared 31 = .ok (.getfield 17, 3) := by decide +kernel
theorem dX6_countShared_34 : decode cX6_countShared 34 = .ok (.iload_n 2, 1) := by decide +kernel
theorem dX6_countShared_35 : decode cX6_countShared 35 = .ok (.aaload, 1) := by decide +kernel
theorem dX6_countShared_36 : decode cX6_countShared 36 = .ok (.goto 4, 3) := by decide +kernel
theorem dX6_countShared_39 : decode cX6_countShared 39 = .ok (.aload_n 3, 1) := by decide +kernel
theorem dX6_countShared_40 : decode cX6_countShared 40 = .ok (.astore 5, 2) := by decide +kernel
theorem dX6_countShared_42 : decode cX6_countShared 42 = .ok (.aload_n 0, 1) := by decide +kernel
theorem dX6_countShared_43 : decode cX6_countShared 43 = .ok (.iconst 0, 1) := by decide +kernel
theorem dX6_countShared_44 : decode cX6_countShared 44 = .ok (.iload_n 1, 1) := by decide +kernel
theorem dX6_countShared_45 : decode cX6_countShared 45 = .ok (.iload_n 2, 1) := by decide +kernel
theorem dX6_countShared_46 : decode cX6_countShared 46 = .ok (.invokevirtual 56, 3) := by decide +kernel
theorem dX6_countShared_49 : decode cX6_countShared 49 = .ok (.istore 6, 2) := by decide +kernel
theorem dX6_countShared_51 : decode cX6_countShared 51 = .ok (.aload_n 0, 1) := by decide +kernel
theorem dX6_countShared_52 : decode cX6_countShared 52 = .ok (.iconst 1, 1) := by decide +kernel
theorem dX6_countShared_53 : decode cX6_countShared 53 = .ok (.iload_n 1, 1) := by decide +kernel
theorem dX6_countShared_54 : decode cX6_countShared 54 = .ok (.iload_n 2, 1) := by decide +kernel
theorem dX6_countShared_55 : decode cX6_countShared 55 = .ok (.invokevirtual 56, 3) := by decide +kernel
theorem dX6_countShared_58 : decode cX6_countShared 58 = .ok (.istore 7, 2) := by decide +kernel
theorem dX6_countShared_60 : decode cX6_countShared 60 = .ok (.aload_n 0, 1) := by decide +kernel
theorem dX6_countShared_61 : decode cX6_countShared 61 = .ok (.iconst 2, 1) := by decide +kernel
theorem dX6_countShared_62 : decode cX6_countShared 62 = .ok (.iload_n 1, 1) := by decide +kernel
theorem dX6_countShared_63 : decode cX6_countShared 63 = .ok (.iload_n 2, 1) := by decide +kernel
theorem dX6_countShared_64 : decode cX6_countShared 64 = .ok (.invokevirtual 56, 3) := by decide +kernel
theorem dX6_countShared_67 : decode cX6_countShared 67 = .ok (.istore 8, 2) := by decide +kernel
theorem dX6_countShared_69 : decode cX6_countShared 69 = .ok (.iconst 0, 1) := by decide +kernel
theorem dX6_countShared_70 : decode cX6_countShared 70 = .ok (.istore 9, 2) := by decide +kernel
theorem dX6_countShared_72 : decode cX6_countShared 72 = .ok (.iconst 0, 1) := by decide +kernel
theorem dX6_countShared_73 : decode cX6_countShared 73 = .ok (.istore 10, 2) := by decide +kernel
theorem dX6_countShared_75 : decode cX6_countShared 75 = .ok (.iload 10, 2) := by decide +kernel
theorem dX6_countShared_77 : decode cX6_countShared 77 = .ok (.bipush 8, 2) := by decide +kernel
theorem dX6_countShared_79 : decode cX6_countShared 79 = .ok (.if_icmp .ge 60, 3) := by decide +kernel
theorem dX6_countShared_82 : decode cX6_countShared 82 = .ok (.iload 10, 2) := by decide +kernel
theorem dX6_countShared_84 : decode cX6_countShared 84 = .ok (.iload 8, 2) := by decide +kernel
theorem dX6_countShared_86 : decode cX6_countShared 86 = .ok (.iadd, 1) := by decide +kernel
theorem dX6_countShared_87 : decode cX6_countShared 87 = .ok (.istore 11, 2) := by decide +kernel
theorem dX6_countShared_89 : decode cX6_countShared 89 = .ok (.iload 11, 2) := by decide +kernel
theorem dX6_countShared_91 : decode cX6_countShared 91 = .ok (.ifCond .lt 42, 3) := by decide +kernel
theorem dX6_countShared_94 : decode cX6_countShared 94 = .ok (.iload 11, 2) := by decide +kernel
theorem dX6_countShared_96 : decode cX6_countShared 96 = .ok (.bipush 8, 2) := by decide +kernel
theorem dX6_countShared_98 : decode cX6_countShared 98 = .ok (.if_icmp .ge 35, 3) := by decide +kernel
theorem dX6_countShared_101 : decode cX6_countShared 101 = .ok (.iload 9, 2) := by decide +kernel
theorem dX6_countShared_103 : decode cX6_countShared 103 = .ok (.aload 4, 2) := by decide +kernel
theorem dX6_countShared_105 : decode cX6_countShared 105 = .ok (.getfield 67, 3) := by decide +kernel
theorem dX6_countShared_108 : decode cX6_countShared 108 = .ok (.iload 10, 2) := by decide +kernel
theorem dX6_countShared_110 : decode cX6_countShared 110 = .ok (.laload, 1) := by decide +kernel
theorem dX6_countShared_111 : decode cX6_countShared 111 = .ok (.iload 6, 2) := by decide +kernel
theorem dX6_countShared_113 : decode cX6_countShared 113 = .ok (.iload 7, 2) := by decide +kernel
theorem dX6_countShared_115 : decode cX6_countShared 115 = .ok (.invokestatic 71, 3) := by decide +kernel
theorem dX6_countShared_118 : decode cX6_countShared 118 = .ok (.aload 5, 2) := by decide +kernel
theorem dX6_countShared_120 : decode cX6_countShared 120 = .ok (.getfield 67, 3) := by decide +kernel
theorem dX6_countShared_123 : decode cX6_countShared 123 = .ok (.iload 11, 2) := by decide +kernel
theorem dX6_countShared_125 : decode cX6_countShared 125 = .ok (.laload, 1) := by decide +kernel
theorem dX6_countShared_126 : decode cX6_countShared 126 = .ok (.land, 1) := by decide +kernel
theorem dX6_countShared_127 : decode cX6_countShared 127 = .ok (.invokestatic 75, 3) := by decide +kernel
theorem dX6_countShared_130 : decode cX6_countShared 130 = .ok (.iadd, 1) := by decide +kernel
theorem dX6_countShared_131 : decode cX6_countShared 131 = .ok (.istore 9, 2) := by decide +kernel
theorem dX6_countShared_133 : decode cX6_countShared 133 = .ok (.iinc 10 1, 3) := by decide +kernel
theorem dX6_countShared_136 : decode cX6_countShared 136 = .ok (.goto (-61), 3) := by decide +kernel
theorem dX6_countShared_139 : decode cX6_countShared 139 = .ok (.iload 9, 2) := by decide +kernel
theorem dX6_countShared_141 : decode cX6_countShared 141 = .ok (.ireturn, 1) := by decide +kernel
theorem dX7_depthOf_0 : decode cX7_depthOf 0 = .ok (.iconst 0, 1) := by decide +kernel
theorem dX7_depthOf_1 : decode cX7_depthOf 1 = .ok (.istore 5, 2) := by decide +kernel
theorem dX7_depthOf_3 : decode cX7_depthOf 3 = .ok (.iload 5, 2) := by decide +kernel
theorem dX7_depthOf_5 : decode cX7_depthOf 5 = .ok (.bipush 8, 2) := by decide +kernel
theorem dX7_depthOf_7 : decode cX7_depthOf 7 = .ok (.if_icmp .ge 89, 3) := by decide +kernel
theorem dX7_depthOf_10 : decode cX7_depthOf 10 = .ok (.iload_n 2, 1) := by decide +kernel
theorem dX7_depthOf_11 : decode cX7_depthOf 11 = .ok (.ifCond .eq 8, 3) := by decide +kernel
theorem dX7_depthOf_14 : decode cX7_depthOf 14 = .ok (.iload 5, 2) := by decide +kernel
theorem dX7_depthOf_16 : decode cX7_depthOf 16 = .ok (.goto 8, 3) := by decide +kernel
theorem dX7_depthOf_19 : decode cX7_depthOf 19 = .ok (.bipush 7, 2) := by decide +kernel
theorem dX7_depthOf_21 : decode cX7_depthOf 21 = .ok (.iload 5, 2) := by decide +kernel
theorem dX7_depthOf_23 : decode cX7_depthOf 23 = .ok (.isub, 1) := by decide +kernel
theorem dX7_depthOf_24 : decode cX7_depthOf 24 = .ok (.istore 6, 2) := by decide +kernel
theorem dX7_depthOf_26 : decode cX7_depthOf 26 = .ok (.iload_n 1, 1) := by decide +kernel
theorem dX7_depthOf_27 : decode cX7_depthOf 27 = .ok (.ifCond .ne 8, 3) := by decide +kernel
theorem dX7_depthOf_30 : decode cX7_depthOf 30 = .ok (.iload 6, 2) := by decide +kernel
theorem dX7_depthOf_32 : decode cX7_depthOf 32 = .ok (.goto 4, 3) := by decide +kernel
theorem dX7_depthOf_35 : decode cX7_depthOf 35 = .ok (.iload_n 3, 1) := by decide +kernel
theorem dX7_depthOf_36 : decode cX7_depthOf 36 = .ok (.istore 7, 2) := by decide +kernel
theorem dX7_depthOf_38 : decode cX7_depthOf 38 = .ok (.iload_n 1, 1) := by decide +kernel
theorem dX7_depthOf_39 : decode cX7_depthOf 39 = .ok (.ifCond .ne 7, 3) := by decide +kernel
theorem dX7_depthOf_42 : decode cX7_depthOf 42 = .ok (.iload_n 3, 1) := by decide +kernel
theorem dX7_depthOf_43 : decode cX7_depthOf 43 = .ok (.goto 15, 3) := by decide +kernel
theorem dX7_depthOf_46 : decode cX7_depthOf 46 = .ok (.iload_n 1, 1) := by decide +kernel
theorem dX7_depthOf_47 : decode cX7_depthOf 47 = .ok (.iconst 1, 1) := by decide +kernel
theorem dX7_depthOf_48 : decode cX7_depthOf 48 = .ok (.if_icmp .ne 8, 3) := by decide +kernel
theorem dX7_depthOf_51 : decode cX7_depthOf 51 = .ok (.iload 6, 2) := by decide +kernel
theorem dX7_depthOf_53 : decode cX7_depthOf 53 = .ok (.goto 5, 3) := by decide +kernel
theorem dX7_depthOf_56 : decode cX7_depthOf 56 = .ok (.iload 4, 2) := by decide +kernel
theorem dX7_depthOf_58 : decode cX7_depthOf 58 = .ok (.istore 8, 2) := by decide +kernel
theorem dX7_depthOf_60 : decode cX7_depthOf 60 = .ok (.iload_n 1, 1) := by decide +kernel
theorem dX7_depthOf_61 : decode cX7_depthOf 61 = .ok (.iconst 2, 1) := by decide +kernel
theorem dX7_depthOf_62 : decode cX7_depthOf 62 = .ok (.if_icmp .ne 8, 3) := by decide +kernel
theorem dX7_depthOf_65 : decode cX7_depthOf 65 = .ok (.iload 6, 2) := by decide +kernel
theorem dX7_depthOf_67 : decode cX7_depthOf 67 = .ok (.goto 5, 3) := by decide +kernel
theorem dX7_depthOf_70 : decode cX7_depthOf 70 = .ok (.iload 4, 2) := by decide +kernel
theorem dX7_depthOf_72 : decode cX7_depthOf 72 = .ok (.istore 9, 2) := by decide +kernel
theorem dX7_depthOf_74 : decode cX7_depthOf 74 = .ok (.aload_n 0, 1) := by decide +kernel
theorem dX7_depthOf_75 : decode cX7_depthOf 75 = .ok (.iload 7, 2) := by decide +kernel
theorem dX7_depthOf_77 : decode cX7_depthOf 77 = .ok (.iload 8, 2) := by decide +kernel
theorem dX7_depthOf_79 : decode cX7_depthOf 79 = .ok (.iload 9, 2) := by decide +kernel
theorem dX7_depthOf_81 : decode cX7_depthOf 81 = .ok (.invokevirtual 9, 3) := by decide +kernel
theorem dX7_depthOf_84 : decode cX7_depthOf 84 = .ok (.ifCond .eq 6, 3) := by decide +kernel
theorem dX7_depthOf_87 : decode cX7_depthOf 87 = .ok (.iload 5, 2) := by decide +kernel
theorem dX7_depthOf_89 : decode cX7_depthOf 89 = .ok (.ireturn, 1) := by decide +kernel
theorem dX7_depthOf_90 : decode cX7_depthOf 90 = .ok (.iinc 5 1, 3) := by decide +kernel
theorem dX7_depthOf_93 : decode cX7_depthOf 93 = .ok (.goto (-90), 3) := by decide +kernel
theorem dX7_depthOf_96 : decode cX7_depthOf 96 = .ok (.bipush 8, 2) := by decide +kernel
theorem dX7_depthOf_98 : decode cX7_depthOf 98 = .ok (.ireturn, 1) := by decide +kernel
theorem dX7_countLines_0 : decode cX7_countLines 0 = .ok (.iconst 0, 1) := by decide +kernel
theorem dX7_countLines_1 : decode cX7_countLines 1 = .ok (.istore_n 3, 1) := by decide +kernel
theorem dX7_countLines_2 : decode cX7_countLines 2 = .ok (.iconst 0, 1) := by decide +kernel
theorem dX7_countLines_3 : decode cX7_countLines 3 = .ok (.istore 4, 2) := by decide +kernel
theorem dX7_countLines_5 : decode cX7_countLines 5 = .ok (.iload 4, 2) := by decide +kernel
theorem dX7_countLines_7 : decode cX7_countLines 7 = .ok (.bipush 8, 2) := by decide +kernel
theorem dX7_countLines_9 : decode cX7_countLines 9 = .ok (.if_icmp .gt 87, 3) := by decide +kernel
theorem dX7_countLines_12 : decode cX7_countLines 12 = .ok (.iconst 0, 1) := by decide +kernel
theorem dX7_countLines_13 : decode cX7_countLines 13 = .ok (.istore 5, 2) := by decide +kernel
theorem dX7_countLines_15 : decode cX7_countLines 15 = .ok (.iload 5, 2) := by decide +kernel
theorem dX7_countLines_17 : decode cX7_countLines 17 = .ok (.bipush 8, 2) := by decide +kernel
theorem dX7_countLines_19 : decode cX7_countLines 19 = .ok (.if_icmp .gt 71, 3) := by decide +kernel
theorem dX7_countLines_22 : decode cX7_countLines 22 = .ok (.aload_n 0, 1) := by decide +kernel
theorem dX7_countLines_23 : decode cX7_countLines 23 = .ok (.iload_n 1, 1) := by decide +kernel
theorem dX7_countLines_24 : decode cX7_countLines 24 = .ok (.iload_n 2, 1) := by decide +kernel
theorem dX7_countLines_25 : decode cX7_countLines 25 = .ok (.iload 4, 2) := by decide +kernel
theorem dX7_countLines_27 : decode cX7_countLines 27 = .ok (.iload 5, 2) := by decide +kernel
theorem dX7_countLines_29 : decode cX7_countLines 29 = .ok (.invokestatic 15, 3) := by decide +kernel
theorem dX7_countLines_32 : decode cX7_countLines 32 = .ok (.istore 6, 2) := by decide +kernel
theorem dX7_countLines_34 : decode cX7_countLines 34 = .ok (.iload_n 3, 1) := by decide +kernel
theorem dX7_countLines_35 : decode cX7_countLines 35 = .ok (.iload 6, 2) := by decide +kernel
theorem dX7_countLines_37 : decode cX7_countLines 37 = .ok (.aload_n 0, 1) := by decide +kernel
theorem dX7_countLines_38 : decode cX7_countLines 38 = .ok (.iload_n 1, 1) := by decide +kernel
theorem dX7_countLines_39 : decode cX7_countLines 39 = .ok (.iload_n 2, 1) := by decide +kernel
theorem dX7_countLines_40 : decode cX7_countLines 40 = .ok (.iload 4, 2) := by decide +kernel
theorem dX7_countLines_42 : decode cX7_countLines 42 = .ok (.iconst 1, 1) := by decide +kernel
theorem dX7_countLines_43 : decode cX7_countLines 43 = .ok (.isub, 1) := by decide +kernel
theorem dX7_countLines_44 : decode cX7_countLines 44 = .ok (.iload 5, 2) := by decide +kernel
theorem dX7_countLines_46 : decode cX7_countLines 46 = .ok (.invokestatic 15, 3) := by decide +kernel
theorem dX7_countLines_49 : decode cX7_countLines 49 = .ok (.if_icmp .ne 7, 3) := by decide +kernel
theorem dX7_countLines_52 : decode cX7_countLines 52 = .ok (.iconst 0, 1) := by decide +kernel
theorem dX7_countLines_53 : decode cX7_countLines 53 = .ok (.goto 4, 3) := by decide +kernel
theorem dX7_countLines_56 : decode cX7_countLines 56 = .ok (.iconst 1, 1) := by decide +kernel
theorem dX7_countLines_57 : decode cX7_countLines 57 = .ok (.iadd, 1) := by decide +kernel
theorem dX7_countLines_58 : decode cX7_countLines 58 = .ok (.istore_n 3, 1) := by decide +kernel
theorem dX7_countLines_59 : decode cX7_countLines 59 = .ok (.iload_n 3, 1) := by decide +kernel
theorem dX7_countLines_60 : decode cX7_countLines 60 = .ok (.iload 6, 2) := by decide +kernel
theorem dX7_countLines_62 : decode cX7_countLines 62 = .ok (.aload_n 0, 1) := by decide +kernel
theorem dX7_countLines_63 : decode cX7_countLines 63 = .ok (.iload_n 1, 1) := by decide +kernel
theorem dX7_countLines_64 : decode cX7_countLines 64 = .ok (.iload_n 2, 1) := by decide +kernel
theorem dX7_countLines_65 : decode cX7_countLines 65 = .ok (.iload 4, 2) := by decide +kernel
theorem dX7_countLines_67 : decode cX7_countLines 67 = .ok (.iload 5, 2) := by decide +kernel
theorem dX7_countLines_69 : decode cX7_countLines 69 = .ok (.iconst 1, 1) := by decide +kernel
theorem dX7_countLines_70 : decode cX7_countLines 70 = .ok (.isub, 1) := by decide +kernel
theorem dX7_countLines_71 : decode cX7_countLines 71 = .ok (.invokestatic 15, 3) := by decide +kernel
theorem dX7_countLines_74 : decode cX7_countLines 74 = .ok (.if_icmp .ne 7, 3) := by decide +kernel
theorem dX7_countLines_77 : decode cX7_countLines 77 = .ok (.iconst 0, 1) := by decide +kernel
theorem dX7_countLines_78 : decode cX7_countLines 78 = .ok (.goto 4, 3) := by decide +kernel
theorem dX7_countLines_81 : decode cX7_countLines 81 = .ok (.iconst 1, 1) := by decide +kernel
theorem dX7_countLines_82 : decode cX7_countLines 82 = .ok (.iadd, 1) := by decide +kernel
theorem dX7_countLines_83 : decode cX7_countLines 83 = .ok (.istore_n 3, 1) := by decide +kernel
theorem dX7_countLines_84 : decode cX7_countLines 84 = .ok (.iinc 5 1, 3) := by decide +kernel
theorem dX7_countLines_87 : decode cX7_countLines 87 = .ok (.goto (-72), 3) := by decide +kernel
theorem dX7_countLines_90 : decode cX7_countLines 90 = .ok (.iinc 4 1, 3) := by decide +kernel
theorem dX7_countLines_93 : decode cX7_countLines 93 = .ok (.goto (-88), 3) := by decide +kernel
theorem dX7_countLines_96 : decode cX7_countLines 96 = .ok (.iload_n 3, 1) := by decide +kernel
theorem dX7_countLines_97 : decode cX7_countLines 97 = .ok (.ireturn, 1) := by decide +kernel
theorem dX8_init_0 : decode cX8_init 0 = .ok (.aload_n 0, 1) := by decide +kernel
theorem dX8_init_1 : decode cX8_init 1 = .ok (.invokespecial 3, 3) := by decide +kernel
theorem dX8_init_4 : decode cX8_init 4 = .ok (.aload_n 0, 1) := by decide +kernel
theorem dX8_init_5 : decode cX8_init 5 = .ok (.new 9, 3) := by decide +kernel
theorem dX8_init_8 : decode cX8_init 8 = .ok (.dup, 1) := by decide +kernel
theorem dX8_init_9 : decode cX8_init 9 = .ok (.invokespecial 11, 3) := by decide +kernel
theorem dX8_init_12 : decode cX8_init 12 = .ok (.putfield 12, 3) := by decide +kernel
theorem dX8_init_15 : decode cX8_init 15 = .ok (.aload_n 0, 1) := by decide +kernel
theorem dX8_init_16 : decode cX8_init 16 = .ok (.new 9, 3) := by decide +kernel
theorem dX8_init_19 : decode cX8_init 19 = .ok (.dup, 1) := by decide +kernel
theorem dX8_init_20 : decode cX8_init 20 = .ok (.invokespecial 11, 3) := by decide +kernel
theorem dX8_init_23 : decode cX8_init 23 = .ok (.putfield 18, 3) := by decide +kernel
theorem dX8_init_26 : decode cX8_init 26 = .ok (.aload_n 0, 1) := by decide +kernel
theorem dX8_init_27 : decode cX8_init 27 = .ok (.new 9, 3) := by decide +kernel
theorem dX8_init_30 : decode cX8_init 30 = .ok (.dup, 1) := by decide +kernel
theorem dX8_init_31 : decode cX8_init 31 = .ok (.invokespecial 11, 3) := by decide +kernel
theorem dX8_init_34 : decode cX8_init 34 = .ok (.putfield 21, 3) := by decide +kernel
theorem dX8_init_37 : decode cX8_init 37 = .ok (.aload_n 0, 1) := by decide +kernel
theorem dX8_init_38 : decode cX8_init 38 = .ok (.new 9, 3) := by decide +kernel
theorem dX8_init_41 : decode cX8_init 41 = .ok (.dup, 1) := by decide +kernel
theorem dX8_init_42 : decode cX8_init 42 = .ok (.invokespecial 11, 3) := by decide +kernel
theorem dX8_init_45 : decode cX8_init 45 = .ok (.putfield 24, 3) := by decide +kernel
theorem dX8_init_48 : decode cX8_init 48 = .ok (.return_, 1) := by decide +kernel
theorem dX8_carryOut_0 : decode cX8_carryOut 0 = .ok (.aload 5, 2) := by decide +kernel
theorem dX8_carryOut_2 : decode cX8_carryOut 2 = .ok (.aload 4, 2) := by decide +kernel
theorem dX8_carryOut_4 : decode cX8_carryOut 4 = .ok (.invokevirtual 27, 3) := by decide +kernel
theorem dX8_carryOut_7 : decode cX8_carryOut 7 = .ok (.aload_n 0, 1) := by decide +kernel
theorem dX8_carryOut_8 : decode cX8_carryOut 8 = .ok (.iload_n 1, 1) := by decide +kernel
theorem dX8_carryOut_9 : decode cX8_carryOut 9 = .ok (.aload_n 3, 1) := by decide +kernel
theorem dX8_carryOut_10 : decode cX8_carryOut 10 = .ok (.aload 4, 2) := by decide +kernel
theorem dX8_carryOut_12 : decode cX8_carryOut 12 = .ok (.invokevirtual 33, 3) := by decide +kernel
theorem dX8_carryOut_15 : decode cX8_carryOut 15 = .ok (.istore 6, 2) := by decide +kernel
theorem dX8_carryOut_17 : decode cX8_carryOut 17 = .ok (.iload 6, 2) := by decide +kernel
theorem dX8_carryOut_19 : decode cX8_carryOut 19 = .ok (.bipush 45, 2) := by decide +kernel
theorem dX8_carryOut_21 : decode cX8_carryOut 21 = .ok (.if_icmp .ne 27, 3) := by decide +kernel
theorem dX8_carryOut_24 : decode cX8_carryOut 24 = .ok (.aload_n 0, 1) := by decide +kernel
theorem dX8_carryOut_25 : decode cX8_carryOut 25 = .ok (.iload_n 1, 1) := by decide +kernel
theorem dX8_carryOut_26 : decode cX8_carryOut 26 = .ok (.aload_n 3, 1) := by decide +kernel
theorem dX8_carryOut_27 : decode cX8_carryOut 27 = .ok (.aload 4, 2) := by decide +kernel
theorem dX8_carryOut_29 : decode cX8_carryOut 29 = .ok (.getfield 37, 3) := by decide +kernel
theorem dX8_carryOut_32 : decode cX8_carryOut 32 = .ok (.aload 5, 2) := by decide +kernel
theorem dX8_carryOut_34 : decode cX8_carryOut 34 = .ok (.getfield 37, 3) := by decide +kernel
theorem dX8_carryOut_37 : decode cX8_carryOut 37 = .ok (.invokevirtual 40, 3) := by decide +kernel
theorem dX8_carryOut_40 : decode cX8_carryOut 40 = .ok (.aload 5, 2) := by decide +kernel
theorem dX8_carryOut_42 : decode cX8_carryOut 42 = .ok (.aload 4, 2) := by decide +kernel
theorem dX8_carryOut_44 : decode cX8_carryOut 44 = .ok (.iload_n 2, 1) := by decide +kernel
theorem dX8_carryOut_45 : decode cX8_carryOut 45 = .ok (.invokevirtual 44, 3) := by decide +kernel
theorem dX8_carryOut_48 : decode cX8_carryOut 48 = .ok (.iload 6, 2) := by decide +kernel
theorem dX8_carryOut_50 : decode cX8_carryOut 50 = .ok (.ireturn, 1) := by decide +kernel
theorem dX8_faultOf_0 : decode cX8_faultOf 0 = .ok (.iload_n 1, 1) := by decide +kernel
theorem dX8_faultOf_1 : decode cX8_faultOf 1 = .ok (.aload_n 2, 1) := by decide +kernel
theorem dX8_faultOf_2 : decode cX8_faultOf 2 = .ok (.invokestatic 48, 3) := by decide +kernel
theorem dX8_faultOf_5 : decode cX8_faultOf 5 = .ok (.ifCond .eq 6, 3) := by decide +kernel
theorem dX8_faultOf_8 : decode cX8_faultOf 8 = .ok (.bipush 120, 2) := by decide +kernel
theorem dX8_faultOf_10 : decode cX8_faultOf 10 = .ok (.ireturn, 1) := by decide +kernel
theorem dX8_faultOf_11 : decode cX8_faultOf 11 = .ok (.iload_n 1, 1) := by decide +kernel
theorem dX8_faultOf_12 : decode cX8_faultOf 12 = .ok (.bipush 101, 2) := by decide +kernel
theorem dX8_faultOf_14 : decode cX8_faultOf 14 = .ok (.if_icmp .eq 6, 3) := by decide +kernel
theorem dX8_faultOf_17 : decode cX8_faultOf 17 = .ok (.bipush 45, 2) := by decide +kernel
theorem dX8_faultOf_19 : decode cX8_faultOf 19 = .ok (.ireturn, 1) := by decide +kernel
theorem dX8_faultOf_20 : decode cX8_faultOf 20 = .ok (.aload_n 3, 1) := by decide +kernel
theorem dX8_faultOf_21 : decode cX8_faultOf 21 = .ok (.aload_n 2, 1) := by decide +kernel
theorem dX8_faultOf_22 : decode cX8_faultOf 22 = .ok (.iconst 0, 1) := by decide +kernel
theorem dX8_faultOf_23 : decode cX8_faultOf 23 = .ok (.iaload, 1) := by decide +kernel
theorem dX8_faultOf_24 : decode cX8_faultOf 24 = .ok (.aload_n 2, 1) := by decide +kernel
theorem dX8_faultOf_25 : decode cX8_faultOf 25 = .ok (.iconst 1, 1) := by decide +kernel
theorem dX8_faultOf_26 : decode cX8_faultOf 26 = .ok (.iaload, 1) := by decide +kernel
theorem dX8_faultOf_27 : decode cX8_faultOf 27 = .ok (.aload_n 0, 1) := by decide +kernel
theorem dX8_faultOf_28 : decode cX8_faultOf 28 = .ok (.getfield 18, 3) := by decide +kernel
theorem dX8_faultOf_31 : decode cX8_faultOf 31 = .ok (.invokevirtual 52, 3) := by decide +kernel
theorem dX8_faultOf_34 : decode cX8_faultOf 34 = .ok (.aload_n 0, 1) := by decide +kernel
theorem dX8_faultOf_35 : decode cX8_faultOf 35 = .ok (.aload_n 0, 1) := by decide +kernel
theorem dX8_faultOf_36 : decode cX8_faultOf 36 = .ok (.getfield 18, 3) := by decide +kernel
theorem dX8_faultOf_39 : decode cX8_faultOf 39 = .ok (.invokevirtual 56, 3) := by decide +kernel
theorem dX8_faultOf_42 : decode cX8_faultOf 42 = .ok (.istore 4, 2) := by decide +kernel
theorem dX8_faultOf_44 : decode cX8_faultOf 44 = .ok (.iload 4, 2) := by decide +kernel
theorem dX8_faultOf_46 : decode cX8_faultOf 46 = .ok (.ifCond .ne 6, 3) := by decide +kernel
theorem dX8_faultOf_49 : decode cX8_faultOf 49 = .ok (.bipush 108, 2) := by decide +kernel
theorem dX8_faultOf_51 : decode cX8_faultOf 51 = .ok (.ireturn, 1) := by decide +kernel
theorem dX8_faultOf_52 : decode cX8_faultOf 52 = .ok (.iload 4, 2) := by decide +kernel
theorem dX8_faultOf_54 : decode cX8_faultOf 54 = .ok (.iconst 1, 1) := by decide +kernel
theorem dX8_faultOf_55 : decode cX8_faultOf 55 = .ok (.if_icmp .ne 8, 3) := by decide +kernel
theorem dX8_faultOf_58 : decode cX8_faultOf 58 = .ok (.bipush 45, 2) := by decide +kernel
theorem dX8_faultOf_60 : decode cX8_faultOf 60 = .ok (.goto 5, 3) := by decide +kernel
theorem dX8_faultOf_63 : decode cX8_faultOf 63 = .ok (.bipush 100, 2) := by decide +kernel
theorem dX8_faultOf_65 : decode cX8_faultOf 65 = .ok (.ireturn, 1) := by decide +kernel
theorem dX8_isUnfit_0 : decode cX8_isUnfit 0 = .ok (.iload_n 0, 1) := by decide +kernel
theorem dX8_isUnfit_1 : decode cX8_isUnfit 1 = .ok (.bipush 98, 2) := by decide +kernel
theorem dX8_isUnfit_3 : decode cX8_isUnfit 3 = .ok (.if_icmp .eq 15, 3) := by decide +kernel
theorem dX8_isUnfit_6 : decode cX8_isUnfit 6 = .ok (.iload_n 0, 1) := by decide +kernel
theorem dX8_isUnfit_7 : decode cX8_isUnfit 7 = .ok (.bipush 99, 2) := by decide +kernel
theorem dX8_isUnfit_9 : decode cX8_isUnfit 9 = .ok (.if_icmp .eq 9, 3) := by decide +kernel
theorem dX8_isUnfit_12 : decode cX8_isUnfit 12 = .ok (.iload_n 0, 1) := by decide +kernel
theorem dX8_isUnfit_13 : decode cX8_isUnfit 13 = .ok (.bipush 105, 2) := by decide +kernel
theorem dX8_isUnfit_15 : decode cX8_isUnfit 15 = .ok (.if_icmp .ne 30, 3) := by decide +kernel
theorem dX8_isUnfit_18 : decode cX8_isUnfit 18 = .ok (.aload_n 1, 1) := by decide +kernel
theorem dX8_isUnfit_19 : decode cX8_isUnfit 19 = .ok (.iconst 3, 1) := by decide +kernel
theorem dX8_isUnfit_20 : decode cX8_isUnfit 20 = .ok (.iaload, 1) := by decide +kernel
theorem dX8_isUnfit_21 : decode cX8_isUnfit 21 = .ok (.iconst 1, 1) := by decide +kernel
theorem dX8_isUnfit_22 : decode cX8_isUnfit 22 = .ok (.if_icmp .lt 17, 3) := by decide +kernel
theorem dX8_isUnfit_25 : decode cX8_isUnfit 25 = .ok (.aload_n 1, 1) := by decide +kernel
theorem dX8_isUnfit_26 : decode cX8_isUnfit 26 = .ok (.iconst 4, 1) := by decide +kernel
theorem dX8_isUnfit_27 : decode cX8_isUnfit 27 = .ok (.iaload, 1) := by decide +kernel
theorem dX8_isUnfit_28 : decode cX8_isUnfit 28 = .ok (.iconst 1, 1) := by decide +kernel
theorem dX8_isUnfit_29 : decode cX8_isUnfit 29 = .ok (.if_icmp .lt 10, 3) := by decide +kernel
theorem dX8_isUnfit_32 : decode cX8_isUnfit 32 = .ok (.aload_n 1, 1) := by decide +kernel
theorem dX8_isUnfit_33 : decode cX8_isUnfit 33 = .ok (.iconst 5, 1) := by decide +kernel
theorem dX8_isUnfit_34 : decode cX8_isUnfit 34 = .ok (.iaload, 1) := by decide +kernel
theorem dX8_isUnfit_35 : decode cX8_isUnfit 35 = .ok (.iconst 1, 1) := by decide +kernel
theorem dX8_isUnfit_36 : decode cX8_isUnfit 36 = .ok (.if_icmp .ge 7, 3) := by decide +kernel
theorem dX8_isUnfit_39 : decode cX8_isUnfit 39 = .ok (.iconst 1, 1) := by decide +kernel
theorem dX8_isUnfit_40 : decode cX8_isUnfit 40 = .ok (.goto 4, 3) := by decide +kernel
theorem dX8_isUnfit_43 : decode cX8_isUnfit 43 = .ok (.iconst 0, 1) := by decide +kernel
theorem dX8_isUnfit_44 : decode cX8_isUnfit 44 = .ok (.ireturn, 1) := by decide +kernel
theorem dX8_isUnfit_45 : decode cX8_isUnfit 45 = .ok (.iload_n 0, 1) := by decide +kernel
theorem dX8_isUnfit_46 : decode cX8_isUnfit 46 = .ok (.bipush 109, 2) := by decide +kernel
theorem dX8_isUnfit_48 : decode cX8_isUnfit 48 = .ok (.if_icmp .ne 18, 3) := by decide +kernel
theorem dX8_isUnfit_51 : decode cX8_isUnfit 51 = .ok (.aload_n 1, 1) := by decide +kernel
theorem dX8_isUnfit_52 : decode cX8_isUnfit 52 = .ok (.iconst 0, 1) := by decide +kernel
theorem dX8_isUnfit_53 : decode cX8_isUnfit 53 = .ok (.iaload, 1) := by decide +kernel
theorem dX8_isUnfit_54 : decode cX8_isUnfit 54 = .ok (.invokestatic 60, 3) := by decide +kernel
theorem dX8_isUnfit_57 : decode cX8_isUnfit 57 = .ok (.ifCond .ne 7, 3) := by decide +kernel
theorem dX8_isUnfit_60 : decode cX8_isUnfit 60 = .ok (.iconst 1, 1) := by decide +kernel
theorem dX8_isUnfit_61 : decode cX8_isUnfit 61 = .ok (.goto 4, 3) := by decide +kernel
theorem dX8_isUnfit_64 : decode cX8_isUnfit 64 = .ok (.iconst 0, 1) := by decide +kernel
theorem dX8_isUnfit_65 : decode cX8_isUnfit 65 = .ok (.ireturn, 1) := by decide +kernel
theorem dX8_isUnfit_66 : decode cX8_isUnfit 66 = .ok (.iload_n 0, 1) := by decide +kernel
theorem dX8_isUnfit_67 : decode cX8_isUnfit 67 = .ok (.bipush 112, 2) := by decide +kernel
theorem dX8_isUnfit_69 : decode cX8_isUnfit 69 = .ok (.if_icmp .ne 15, 3) := by decide +kernel
theorem dX8_isUnfit_72 : decode cX8_isUnfit 72 = .ok (.aload_n 1, 1) := by decide +kernel
theorem dX8_isUnfit_73 : decode cX8_isUnfit 73 = .ok (.iconst 3, 1) := by decide +kernel
theorem dX8_isUnfit_74 : decode cX8_isUnfit 74 = .ok (.iaload, 1) := by decide +kernel
theorem dX8_isUnfit_75 : decode cX8_isUnfit 75 = .ok (.ifCond .ge 7, 3) := by decide +kernel
theorem dX8_isUnfit_78 : decode cX8_isUnfit 78 = .ok (.iconst 1, 1) := by decide +kernel
theorem dX8_isUnfit_79 : decode cX8_isUnfit 79 = .ok (.goto 4, 3) := by decide +kernel
theorem dX8_isUnfit_82 : decode cX8_isUnfit 82 = .ok (.iconst 0, 1) := by decide +kernel
theorem dX8_isUnfit_83 : decode cX8_isUnfit 83 = .ok (.ireturn, 1) := by decide +kernel
theorem dX8_isUnfit_84 : decode cX8_isUnfit 84 = .ok (.iload_n 0, 1) := by decide +kernel
theorem dX8_isUnfit_85 : decode cX8_isUnfit 85 = .ok (.bipush 101, 2) := by decide +kernel
theorem dX8_isUnfit_87 : decode cX8_isUnfit 87 = .ok (.if_icmp .ne 22, 3) := by decide +kernel
theorem dX8_isUnfit_90 : decode cX8_isUnfit 90 = .ok (.aload_n 1, 1) := by decide +kernel
theorem dX8_isUnfit_91 : decode cX8_isUnfit 91 = .ok (.iconst 1, 1) := by decide +kernel
theorem dX8_isUnfit_92 : decode cX8_isUnfit 92 = .ok (.iaload, 1) := by decide +kernel
theorem dX8_isUnfit_93 : decode cX8_isUnfit 93 = .ok (.invokestatic 64, 3) := by decide +kernel
theorem dX8_isUnfit_96 : decode cX8_isUnfit 96 = .ok (.ifCond .eq 9, 3) := by decide +kernel
theorem dX8_isUnfit_99 : decode cX8_isUnfit 99 = .ok (.aload_n 1, 1) := by decide +kernel
theorem dX8_isUnfit_100 : decode cX8_isUnfit 100 = .ok (.iconst 2, 1) := by decide +kernel
theorem dX8_isUnfit_101 : decode cX8_isUnfit 101 = .ok (.iaload, 1) := by decide +kernel
theorem dX8_isUnfit_102 : decode cX8_isUnfit 102 = .ok (.ifCond .ge 7, 3) := by decide +kernel
theorem dX8_isUnfit_105 : decode cX8_isUnfit 105 = .ok (.iconst 1, 1) := by decide +kernel
theorem dX8_isUnfit_106 : decode cX8_isUnfit 106 = .ok (.goto 4, 3) := by decide +kernel
theorem dX8_isUnfit_109 : decode cX8_isUnfit 109 = .ok (.iconst 0, 1) := by decide +kernel
theorem dX8_isUnfit_110 : decode cX8_isUnfit 110 = .ok (.ireturn, 1) := by decide +kernel
theorem dX8_reshape_0 : decode cX8_reshape 0 = .ok (.iload_n 1, 1) := by decide +kernel
theorem dX8_reshape_1 : decode cX8_reshape 1 = .ok (.bipush 98, 2) := by decide +kernel
theorem dX8_reshape_3 : decode cX8_reshape 3 = .ok (.if_icmp .ne 23, 3) := by decide +kernel
theorem dX8_reshape_6 : decode cX8_reshape 6 = .ok (.aload_n 0, 1) := by decide +kernel
theorem dX8_reshape_7 : decode cX8_reshape 7 = .ok (.getfield 12, 3) := by decide +kernel
theorem dX8_reshape_10 : decode cX8_reshape 10 = .ok (.aload_n 2, 1) := by decide +kernel
theorem dX8_reshape_11 : decode cX8_reshape 11 = .ok (.invokevirtual 67, 3) := by decide +kernel
theorem dX8_reshape_14 : decode cX8_reshape 14 = .ok (.aload 4, 2) := by decide +kernel
theorem dX8_reshape_16 : decode cX8_reshape 16 = .ok (.aload_n 0, 1) := by decide +kernel
theorem dX8_reshape_17 : decode cX8_reshape 17 = .ok (.getfield 12, 3) := by decide +kernel
theorem dX8_reshape_20 : decode cX8_reshape 20 = .ok (.invokevirtual 71, 3) := by decide +kernel
theorem dX8_reshape_23 : decode cX8_reshape 23 = .ok (.goto 123, 3) := by decide +kernel
theorem dX8_reshape_26 : decode cX8_reshape 26 = .ok (.iload_n 1, 1) := by decide +kernel
theorem dX8_reshape_27 : decode cX8_reshape 27 = .ok (.bipush 99, 2) := by decide +kernel
theorem dX8_reshape_29 : decode cX8_reshape 29 = .ok (.if_icmp .ne 23, 3) := by decide +kernel
theorem dX8_reshape_32 : decode cX8_reshape 32 = .ok (.aload_n 0, 1) := by decide +kernel
theorem dX8_reshape_33 : decode cX8_reshape 33 = .ok (.getfield 12, 3) := by decide +kernel
theorem dX8_reshape_36 : decode cX8_reshape 36 = .ok (.aload_n 2, 1) := by decide +kernel
theorem dX8_reshape_37 : decode cX8_reshape 37 = .ok (.invokevirtual 67, 3) := by decide +kernel
theorem dX8_reshape_40 : decode cX8_reshape 40 = .ok (.aload 4, 2) := by decide +kernel
theorem dX8_reshape_42 : decode cX8_reshape 42 = .ok (.aload_n 0, 1) := by decide +kernel
theorem dX8_reshape_43 : decode cX8_reshape 43 = .ok (.getfield 12, 3) := by decide +kernel
theorem dX8_reshape_46 : decode cX8_reshape 46 = .ok (.invokevirtual 75, 3) := by decide +kernel
theorem dX8_reshape_49 : decode cX8_reshape 49 = .ok (.goto 97, 3) := by decide +kernel
theorem dX8_reshape_52 : decode cX8_reshape 52 = .ok (.iload_n 1, 1) := by decide +kernel
theorem dX8_reshape_53 : decode cX8_reshape 53 = .ok (.bipush 105, 2) := by decide +kernel
theorem dX8_reshape_55 : decode cX8_reshape 55 = .ok (.if_icmp .ne 23, 3) := by decide +kernel
theorem dX8_reshape_58 : decode cX8_reshape 58 = .ok (.aload_n 0, 1) := by decide +kernel
theorem dX8_reshape_59 : decode cX8_reshape 59 = .ok (.getfield 12, 3) := by decide +kernel
theorem dX8_reshape_62 : decode cX8_reshape 62 = .ok (.aload_n 2, 1) := by decide +kernel
theorem dX8_reshape_63 : decode cX8_reshape 63 = .ok (.invokevirtual 67, 3) := by decide +kernel
theorem dX8_reshape_66 : decode cX8_reshape 66 = .ok (.aload 4, 2) := by decide +kernel
theorem dX8_reshape_68 : decode cX8_reshape 68 = .ok (.aload_n 0, 1) := by decide +kernel
theorem dX8_reshape_69 : decode cX8_reshape 69 = .ok (.getfield 12, 3) := by decide +kernel
theorem dX8_reshape_72 : decode cX8_reshape 72 = .ok (.invokevirtual 78, 3) := by decide +kernel
theorem dX8_reshape_75 : decode cX8_reshape 75 = .ok (.goto 71, 3) := by decide +kernel
theorem dX8_reshape_78 : decode cX8_reshape 78 = .ok (.iload_n 1, 1) := by decide +kernel
theorem dX8_reshape_79 : decode cX8_reshape 79 = .ok (.bipush 109, 2) := by decide +kernel
theorem dX8_reshape_81 : decode cX8_reshape 81 = .ok (.if_icmp .ne 22, 3) := by decide +kernel
theorem dX8_reshape_84 : decode cX8_reshape 84 = .ok (.aload_n 2, 1) := by decide +kernel
theorem dX8_reshape_85 : decode cX8_reshape 85 = .ok (.iconst 0, 1) := by decide +kernel
theorem dX8_reshape_86 : decode cX8_reshape 86 = .ok (.iaload, 1) := by decide +kernel
theorem dX8_reshape_87 : decode cX8_reshape 87 = .ok (.iconst 2, 1) := by decide +kernel
theorem dX8_reshape_88 : decode cX8_reshape 88 = .ok (.aload_n 2, 1) := by decide +kernel
theorem dX8_reshape_89 : decode cX8_reshape 89 = .ok (.iconst 1, 1) := by decide +kernel
theorem dX8_reshape_90 : decode cX8_reshape 90 = .ok (.iaload, 1) := by decide +kernel
theorem dX8_reshape_91 : decode cX8_reshape 91 = .ok (.imul, 1) := by decide +kernel
theorem dX8_reshape_92 : decode cX8_reshape 92 = .ok (.iconst 1, 1) := by decide +kernel
theorem dX8_reshape_93 : decode cX8_reshape 93 = .ok (.isub, 1) := by decide +kernel
theorem dX8_reshape_94 : decode cX8_reshape 94 = .ok (.aload_n 3, 1) := by decide +kernel
theorem dX8_reshape_95 : decode cX8_reshape 95 = .ok (.aload 4, 2) := by decide +kernel
theorem dX8_reshape_97 : decode cX8_reshape 97 = .ok (.invokestatic 81, 3) := by decide +kernel
theorem dX8_reshape_100 : decode cX8_reshape 100 = .ok (.goto 46, 3) := by decide +kernel
theorem dX8_reshape_103 : decode cX8_reshape 103 = .ok (.iload_n 1, 1) := by decide +kernel
theorem dX8_reshape_104 : decode cX8_reshape 104 = .ok (.bipush 112, 2) := by decide +kernel
theorem dX8_reshape_106 : decode cX8_reshape 106 = .ok (.if_icmp .ne 13, 3) := by decide +kernel
theorem dX8_reshape_109 : decode cX8_reshape 109 = .ok (.aload_n 2, 1) := by decide +kernel
theorem dX8_reshape_110 : decode cX8_reshape 110 = .ok (.aload_n 3, 1) := by decide +kernel
theorem dX8_reshape_111 : decode cX8_reshape 111 = .ok (.aload 4, 2) := by decide +kernel
theorem dX8_reshape_113 : decode cX8_reshape 113 = .ok (.invokestatic 85, 3) := by decide +kernel
theorem dX8_reshape_116 : decode cX8_reshape 116 = .ok (.goto 30, 3) := by decide +kernel
theorem dX8_reshape_119 : decode cX8_reshape 119 = .ok (.iload_n 1, 1) := by decide +kernel
theorem dX8_reshape_120 : decode cX8_reshape 120 = .ok (.bipush 104, 2) := by decide +kernel
theorem dX8_reshape_122 : decode cX8_reshape 122 = .ok (.if_icmp .ne 12, 3) := by decide +kernel
theorem dX8_reshape_125 : decode cX8_reshape 125 = .ok (.aload 4, 2) := by decide +kernel
theorem dX8_reshape_127 : decode cX8_reshape 127 = .ok (.aload_n 3, 1) := by decide +kernel
theorem dX8_reshape_128 : decode cX8_reshape 128 = .ok (.invokevirtual 89, 3) := by decide +kernel
theorem dX8_reshape_131 : decode cX8_reshape 131 = .ok (.goto 15, 3) := by decide +kernel
theorem dX8_reshape_134 : decode cX8_reshape 134 = .ok (.aload_n 0, 1) := by decide +kernel
theorem dX8_reshape_135 : decode cX8_reshape 135 = .ok (.aload_n 2, 1) := by decide +kernel
theorem dX8_reshape_136 : decode cX8_reshape 136 = .ok (.iconst 1, 1) := by decide +kernel
theorem dX8_reshape_137 : decode cX8_reshape 137 = .ok (.iaload, 1) := by decide +kernel
theorem dX8_reshape_138 : decode cX8_reshape 138 = .ok (.aload_n 2, 1) := by decide +kernel
theorem dX8_reshape_139 : decode cX8_reshape 139 = .ok (.iconst 2, 1) := by decide +kernel
theorem dX8_reshape_140 : decode cX8_reshape 140 = .ok (.iaload, 1) := by decide +kernel
theorem dX8_reshape_141 : decode cX8_reshape 141 = .ok (.aload 4, 2) := by decide +kernel
theorem dX8_reshape_143 : decode cX8_reshape 143 = .ok (.invokevirtual 92, 3) := by decide +kernel
theorem dX8_reshape_146 : decode cX8_reshape 146 = .ok (.return_, 1) := by decide +kernel
theorem dX8_mirror_0 : decode cX8_mirror 0 = .ok (.iconst 0, 1) := by decide +kernel
theorem dX8_mirror_1 : decode cX8_mirror 1 = .ok (.istore 4, 2) := by decide +kernel
theorem dX8_mirror_3 : decode cX8_mirror 3 = .ok (.iload 4, 2) := by decide +kernel
theorem dX8_mirror_5 : decode cX8_mirror 5 = .ok (.bipush 8, 2) := by decide +kernel
theorem dX8_mirror_7 : decode cX8_mirror 7 = .ok (.if_icmp .ge 99, 3) := by decide +kernel
theorem dX8_mirror_10 : decode cX8_mirror 10 = .ok (.iconst 0, 1) := by decide +kernel
theorem dX8_mirror_11 : decode cX8_mirror 11 = .ok (.istore 5, 2) := by decide +kernel
theorem dX8_mirror_13 : decode cX8_mirror 13 = .ok (.iload 5, 2) := by decide +kernel
theorem dX8_mirror_15 : decode cX8_mirror 15 = .ok (.bipush 8, 2) := by decide +kernel
theorem dX8_mirror_17 : decode cX8_mirror 17 = .ok (.if_icmp .ge 83, 3) := by decide +kernel
theorem dX8_mirror_20 : decode cX8_mirror 20 = .ok (.iconst 0, 1) := by decide +kernel
theorem dX8_mirror_21 : decode cX8_mirror 21 = .ok (.istore 6, 2) := by decide +kernel
theorem dX8_mirror_23 : decode cX8_mirror 23 = .ok (.iload 6, 2) := by decide +kernel
theorem dX8_mirror_25 : decode cX8_mirror 25 = .ok (.bipush 8, 2) := by decide +kernel
theorem dX8_mirror_27 : decode cX8_mirror 27 = .ok (.if_icmp .ge 67, 3) := by decide +kernel
theorem dX8_mirror_30 : decode cX8_mirror 30 = .ok (.aload_n 2, 1) := by decide +kernel
theorem dX8_mirror_31 : decode cX8_mirror 31 = .ok (.iload 6, 2) := by decide +kernel
theorem dX8_mirror_33 : decode cX8_mirror 33 = .ok (.iload 5, 2) := by decide +kernel
theorem dX8_mirror_35 : decode cX8_mirror 35 = .ok (.iload 4, 2) := by decide +kernel
theorem dX8_mirror_37 : decode cX8_mirror 37 = .ok (.invokevirtual 95, 3) := by decide +kernel
theorem dX8_mirror_40 : decode cX8_mirror 40 = .ok (.ifCond .eq 48, 3) := by decide +kernel
theorem dX8_mirror_43 : decode cX8_mirror 43 = .ok (.aload_n 3, 1) := by decide +kernel
theorem dX8_mirror_44 : decode cX8_mirror 44 = .ok (.iload_n 0, 1) := by decide +kernel
theorem dX8_mirror_45 : decode cX8_mirror 45 = .ok (.ifCond .ne 10, 3) := by decide +kernel
theorem dX8_mirror_48 : decode cX8_mirror 48 = .ok (.iload_n 1, 1) := by decide +kernel
theorem dX8_mirror_49 : decode cX8_mirror 49 = .ok (.iload 6, 2) := by decide +kernel
theorem dX8_mirror_51 : decode cX8_mirror 51 = .ok (.isub, 1) := by decide +kernel
theorem dX8_mirror_52 : decode cX8_mirror 52 = .ok (.goto 5, 3) := by decide +kernel
theorem dX8_mirror_55 : decode cX8_mirror 55 = .ok (.iload 6, 2) := by decide +kernel
theorem dX8_mirror_57 : decode cX8_mirror 57 = .ok (.iload_n 0, 1) := by decide +kernel
theorem dX8_mirror_58 : decode cX8_mirror 58 = .ok (.iconst 1, 1) := by decide +kernel
theorem dX8_mirror_59 : decode cX8_mirror 59 = .ok (.if_icmp .ne 10, 3) := by decide +kernel
theorem dX8_mirror_62 : decode cX8_mirror 62 = .ok (.iload_n 1, 1) := by decide +kernel
theorem dX8_mirror_63 : decode cX8_mirror 63 = .ok (.iload 5, 2) := by decide +kernel
theorem dX8_mirror_65 : decode cX8_mirror 65 = .ok (.isub, 1) := by decide +kernel
theorem dX8_mirror_66 : decode cX8_mirror 66 = .ok (.goto 5, 3) := by decide +kernel
theorem dX8_mirror_69 : decode cX8_mirror 69 = .ok (.iload 5, 2) := by decide +kernel
theorem dX8_mirror_71 : decode cX8_mirror 71 = .ok (.iload_n 0, 1) := by decide +kernel
theorem dX8_mirror_72 : decode cX8_mirror 72 = .ok (.iconst 2, 1) := by decide +kernel
theorem dX8_mirror_73 : decode cX8_mirror 73 = .ok (.if_icmp .ne 10, 3) := by decide +kernel
theorem dX8_mirror_76 : decode cX8_mirror 76 = .ok (.iload_n 1, 1) := by decide +kernel
theorem dX8_mirror_77 : decode cX8_mirror 77 = .ok (.iload 4, 2) := by decide +kernel
theorem dX8_mirror_79 : decode cX8_mirror 79 = .ok (.isub, 1) := by decide +kernel
theorem dX8_mirror_80 : decode cX8_mirror 80 = .ok (.goto 5, 3) := by decide +kernel
theorem dX8_mirror_83 : decode cX8_mirror 83 = .ok (.iload 4, 2) := by decide +kernel
theorem dX8_mirror_85 : decode cX8_mirror 85 = .ok (.invokevirtual 99, 3) := by decide +kernel
theorem dX8_mirror_88 : decode cX8_mirror 88 = .ok (.iinc 6 1, 3) := by decide +kernel
theorem dX8_mirror_91 : decode cX8_mirror 91 = .ok (.goto (-68), 3) := by decide +kernel
theorem dX8_mirror_94 : decode cX8_mirror 94 = .ok (.iinc 5 1, 3) := by decide +kernel
theorem dX8_mirror_97 : decode cX8_mirror 97 = .ok (.goto (-84), 3) := by decide +kernel
theorem dX8_mirror_100 : decode cX8_mirror 100 = .ok (.iinc 4 1, 3) := by decide +kernel
theorem dX8_mirror_103 : decode cX8_mirror 103 = .ok (.goto (-100), 3) := by decide +kernel
theorem dX8_mirror_106 : decode cX8_mirror 106 = .ok (.return_, 1) := by decide +kernel
theorem dX8_repeat_0 : decode cX8_repeat 0 = .ok (.iconst 1, 1) := by decide +kernel
theorem dX8_repeat_1 : decode cX8_repeat 1 = .ok (.istore_n 3, 1) := by decide +kernel
theorem dX8_repeat_2 : decode cX8_repeat 2 = .ok (.iload_n 3, 1) := by decide +kernel
theorem dX8_repeat_3 : decode cX8_repeat 3 = .ok (.bipush 8, 2) := by decide +kernel
theorem dX8_repeat_5 : decode cX8_repeat 5 = .ok (.if_icmp .ge 36, 3) := by decide +kernel
theorem dX8_repeat_8 : decode cX8_repeat 8 = .ok (.iload_n 3, 1) := by decide +kernel
theorem dX8_repeat_9 : decode cX8_repeat 9 = .ok (.aload_n 0, 1) := by decide +kernel
theorem dX8_repeat_10 : decode cX8_repeat 10 = .ok (.iconst 3, 1) := by decide +kernel
theorem dX8_repeat_11 : decode cX8_repeat 11 = .ok (.iaload, 1) := by decide +kernel
theorem dX8_repeat_12 : decode cX8_repeat 12 = .ok (.if_icmp .gt 29, 3) := by decide +kernel
theorem dX8_repeat_15 : decode cX8_repeat 15 = .ok (.aload_n 2, 1) := by decide +kernel
theorem dX8_repeat_16 : decode cX8_repeat 16 = .ok (.aload_n 1, 1) := by decide +kernel
theorem dX8_repeat_17 : decode cX8_repeat 17 = .ok (.aload_n 0, 1) := by decide +kernel
theorem dX8_repeat_18 : decode cX8_repeat 18 = .ok (.iconst 0, 1) := by decide +kernel
theorem dX8_repeat_19 : decode cX8_repeat 19 = .ok (.iaload, 1) := by decide +kernel
theorem dX8_repeat_20 : decode cX8_repeat 20 = .ok (.iload_n 3, 1) := by decide +kernel
theorem dX8_repeat_21 : decode cX8_repeat 21 = .ok (.imul, 1) := by decide +kernel
theorem dX8_repeat_22 : decode cX8_repeat 22 = .ok (.aload_n 0, 1) := by decide +kernel
theorem dX8_repeat_23 : decode cX8_repeat 23 = .ok (.iconst 1, 1) := by decide +kernel
theorem dX8_repeat_24 : decode cX8_repeat 24 = .ok (.iaload, 1) := by decide +kernel
theorem dX8_repeat_25 : decode cX8_repeat 25 = .ok (.iload_n 3, 1) := by decide +kernel
theorem dX8_repeat_26 : decode cX8_repeat 26 = .ok (.imul, 1) := by decide +kernel
theorem dX8_repeat_27 : decode cX8_repeat 27 = .ok (.aload_n 0, 1) := by decide +kernel
theorem dX8_repeat_28 : decode cX8_repeat 28 = .ok (.iconst 2, 1) := by decide +kernel
theorem dX8_repeat_29 : decode cX8_repeat 29 = .ok (.iaload, 1) := by decide +kernel
theorem dX8_repeat_30 : decode cX8_repeat 30 = .ok (.iload_n 3, 1) := by decide +kernel
theorem dX8_repeat_31 : decode cX8_repeat 31 = .ok (.imul, 1) := by decide +kernel
theorem dX8_repeat_32 : decode cX8_repeat 32 = .ok (.invokevirtual 103, 3) := by decide +kernel
theorem dX8_repeat_35 : decode cX8_repeat 35 = .ok (.iinc 3 1, 3) := by decide +kernel
theorem dX8_repeat_38 : decode cX8_repeat 38 = .ok (.goto (-36), 3) := by decide +kernel
theorem dX8_repeat_41 : decode cX8_repeat 41 = .ok (.return_, 1) := by decide +kernel
theorem dX8_push_0 : decode cX8_push 0 = .ok (.iload_n 1, 1) := by decide +kernel
theorem dX8_push_1 : decode cX8_push 1 = .ok (.iconst 2, 1) := by decide +kernel
theorem dX8_push_2 : decode cX8_push 2 = .ok (.idiv, 1) := by decide +kernel
theorem dX8_push_3 : decode cX8_push 3 = .ok (.istore 4, 2) := by decide +kernel
theorem dX8_push_5 : decode cX8_push 5 = .ok (.iload_n 1, 1) := by decide +kernel
theorem dX8_push_6 : decode cX8_push 6 = .ok (.iconst 2, 1) := by decide +kernel
theorem dX8_push_7 : decode cX8_push 7 = .ok (.irem, 1) := by decide +kernel
theorem dX8_push_8 : decode cX8_push 8 = .ok (.ifCond .ne 7, 3) := by decide +kernel
theorem dX8_push_11 : decode cX8_push 11 = .ok (.iconst (-1), 1) := by decide +kernel
theorem dX8_push_12 : decode cX8_push 12 = .ok (.goto 4, 3) := by decide +kernel
theorem dX8_push_15 : decode cX8_push 15 = .ok (.iconst 1, 1) := by decide +kernel
theorem dX8_push_16 : decode cX8_push 16 = .ok (.istore 5, 2) := by decide +kernel
theorem dX8_push_18 : decode cX8_push 18 = .ok (.iconst 1, 1) := by decide +kernel
theorem dX8_push_19 : decode cX8_push 19 = .ok (.istore 6, 2) := by decide +kernel
theorem dX8_push_21 : decode cX8_push 21 = .ok (.iload 6, 2) := by decide +kernel
theorem dX8_push_23 : decode cX8_push 23 = .ok (.bipush 8, 2) := by decide +kernel
theorem dX8_push_25 : decode cX8_push 25 = .ok (.if_icmp .ge 65, 3) := by decide +kernel
theorem dX8_push_28 : decode cX8_push 28 = .ok (.iload 6, 2) := by decide +kernel
theorem dX8_push_30 : decode cX8_push 30 = .ok (.iload_n 2, 1) := by decide +kernel
theorem dX8_push_31 : decode cX8_push 31 = .ok (.if_icmp .gt 59, 3) := by decide +kernel
theorem dX8_push_34 : decode cX8_push 34 = .ok (.iload 5, 2) := by decide +kernel
theorem dX8_push_36 : decode cX8_push 36 = .ok (.iload 6, 2) := by decide +kernel
theorem dX8_push_38 : decode cX8_push 38 = .ok (.imul, 1) := by decide +kernel
theorem dX8_push_39 : decode cX8_push 39 = .ok (.istore 7, 2) := by decide +kernel
theorem dX8_push_41 : decode cX8_push 41 = .ok (.aload_n 3, 1) := by decide +kernel
theorem dX8_push_42 : decode cX8_push 42 = .ok (.aload_n 0, 1) := by decide +kernel
theorem dX8_push_43 : decode cX8_push 43 = .ok (.getfield 18, 3) := by decide +kernel
theorem dX8_push_46 : decode cX8_push 46 = .ok (.iload 4, 2) := by decide +kernel
theorem dX8_push_48 : decode cX8_push 48 = .ok (.ifCond .ne 8, 3) := by decide +kernel
theorem dX8_push_51 : decode cX8_push 51 = .ok (.iload 7, 2) := by decide +kernel
theorem dX8_push_53 : decode cX8_push 53 = .ok (.goto 4, 3) := by decide +kernel
theorem dX8_push_56 : decode cX8_push 56 = .ok (.iconst 0, 1) := by decide +kernel
theorem dX8_push_57 : decode cX8_push 57 = .ok (.iload 4, 2) := by decide +kernel
theorem dX8_push_59 : decode cX8_push 59 = .ok (.iconst 1, 1) := by decide +kernel
theorem dX8_push_60 : decode cX8_push 60 = .ok (.if_icmp .ne 8, 3) := by decide +kernel
theorem dX8_push_63 : decode cX8_push 63 = .ok (.iload 7, 2) := by decide +kernel
theorem dX8_push_65 : decode cX8_push 65 = .ok (.goto 4, 3) := by decide +kernel
theorem dX8_push_68 : decode cX8_push 68 = .ok (.iconst 0, 1) := by decide +kernel
theorem dX8_push_69 : decode cX8_push 69 = .ok (.iload 4, 2) := by decide +kernel
theorem dX8_push_71 : decode cX8_push 71 = .ok (.iconst 2, 1) := by decide +kernel
theorem dX8_push_72 : decode cX8_push 72 = .ok (.if_icmp .ne 8, 3) := by decide +kernel
theorem dX8_push_75 : decode cX8_push 75 = .ok (.iload 7, 2) := by decide +kernel
theorem dX8_push_77 : decode cX8_push 77 = .ok (.goto 4, 3) := by decide +kernel
theorem dX8_push_80 : decode cX8_push 80 = .ok (.iconst 0, 1) := by decide +kernel
theorem dX8_push_81 : decode cX8_push 81 = .ok (.invokevirtual 103, 3) := by decide +kernel
theorem dX8_push_84 : decode cX8_push 84 = .ok (.iinc 6 1, 3) := by decide +kernel
theorem dX8_push_87 : decode cX8_push 87 = .ok (.goto (-66), 3) := by decide +kernel
theorem dX8_push_90 : decode cX8_push 90 = .ok (.return_, 1) := by decide +kernel
theorem dX8_countNamed_0 : decode cX8_countNamed 0 = .ok (.aload_n 1, 1) := by decide +kernel
theorem dX8_countNamed_1 : decode cX8_countNamed 1 = .ok (.iload_n 2, 1) := by decide +kernel
theorem dX8_countNamed_2 : decode cX8_countNamed 2 = .ok (.iload_n 3, 1) := by decide +kernel
theorem dX8_countNamed_3 : decode cX8_countNamed 3 = .ok (.aload_n 0, 1) := by decide +kernel
theorem dX8_countNamed_4 : decode cX8_countNamed 4 = .ok (.getfield 18, 3) := by decide +kernel
theorem dX8_countNamed_7 : decode cX8_countNamed 7 = .ok (.invokevirtual 52, 3) := by decide +kernel
theorem dX8_countNamed_10 : decode cX8_countNamed 10 = .ok (.aload_n 0, 1) := by decide +kernel
theorem dX8_countNamed_11 : decode cX8_countNamed 11 = .ok (.getfield 18, 3) := by decide +kernel
theorem dX8_countNamed_14 : decode cX8_countNamed 14 = .ok (.invokevirtual 107, 3) := by decide +kernel
theorem dX8_countNamed_17 : decode cX8_countNamed 17 = .ok (.ireturn, 1) := by decide +kernel
theorem dX8_countPieces_0 : decode cX8_countPieces 0 = .ok (.iconst 0, 1) := by decide +kernel
theorem dX8_countPieces_1 : decode cX8_countPieces 1 = .ok (.istore_n 2, 1) := by decide +kernel
theorem dX8_countPieces_2 : decode cX8_countPieces 2 = .ok (.aload_n 0, 1) := by decide +kernel
theorem dX8_countPieces_3 : decode cX8_countPieces 3 = .ok (.getfield 21, 3) := by decide +kernel
theorem dX8_countPieces_6 : decode cX8_countPieces 6 = .ok (.aload_n 1, 1) := by decide +kernel
theorem dX8_countPieces_7 : decode cX8_countPieces 7 = .ok (.invokevirtual 111, 3) := by decide +kernel
theorem dX8_countPieces_10 : decode cX8_countPieces 10 = .ok (.iload_n 2, 1) := by decide +kernel
theorem dX8_countPieces_11 : decode cX8_countPieces 11 = .ok (.sipush 512, 3) := by decide +kernel
theorem dX8_countPieces_14 : decode cX8_countPieces 14 = .ok (.if_icmp .ge 69, 3) := by decide +kernel
theorem dX8_countPieces_17 : decode cX8_countPieces 17 = .ok (.aload_n 0, 1) := by decide +kernel
theorem dX8_countPieces_18 : decode cX8_countPieces 18 = .ok (.getfield 24, 3) := by decide +kernel
theorem dX8_countPieces_21 : decode cX8_countPieces 21 = .ok (.aload_n 0, 1) := by decide +kernel
theorem dX8_countPieces_22 : decode cX8_countPieces 22 = .ok (.getfield 21, 3) := by decide +kernel
theorem dX8_countPieces_25 : decode cX8_countPieces 25 = .ok (.invokevirtual 113, 3) := by decide +kernel
theorem dX8_countPieces_28 : decode cX8_countPieces 28 = .ok (.ifCond .eq 55, 3) := by decide +kernel
theorem dX8_countPieces_31 : decode cX8_countPieces 31 = .ok (.iconst 1, 1) := by decide +kernel
theorem dX8_countPieces_32 : decode cX8_countPieces 32 = .ok (.istore_n 3, 1) := by decide +kernel
theorem dX8_countPieces_33 : decode cX8_countPieces 33 = .ok (.iconst 0, 1) := by decide +kernel
theorem dX8_countPieces_34 : decode cX8_countPieces 34 = .ok (.istore 4, 2) := by decide +kernel
theorem dX8_countPieces_36 : decode cX8_countPieces 36 = .ok (.iload_n 3, 1) := by decide +kernel
theorem dX8_countPieces_37 : decode cX8_countPieces 37 = .ok (.ifCond .eq 29, 3) := by decide +kernel
theorem dX8_countPieces_40 : decode cX8_countPieces 40 = .ok (.iload 4, 2) := by decide +kernel
theorem dX8_countPieces_42 : decode cX8_countPieces 42 = .ok (.sipush 512, 3) := by decide +kernel
theorem dX8_countPieces_45 : decode cX8_countPieces 45 = .ok (.if_icmp .ge 21, 3) := by decide +kernel
theorem dX8_countPieces_48 : decode cX8_countPieces 48 = .ok (.aload_n 0, 1) := by decide +kernel
theorem dX8_countPieces_49 : decode cX8_countPieces 49 = .ok (.getfield 24, 3) := by decide +kernel
theorem dX8_countPieces_52 : decode cX8_countPieces 52 = .ok (.aload_n 0, 1) := by decide +kernel
theorem dX8_countPieces_53 : decode cX8_countPieces 53 = .ok (.getfield 21, 3) := by decide +kernel
theorem dX8_countPieces_56 : decode cX8_countPieces 56 = .ok (.invokevirtual 117, 3) := by decide +kernel
theorem dX8_countPieces_59 : decode cX8_countPieces 59 = .ok (.istore_n 3, 1) := by decide +kernel
theorem dX8_countPieces_60 : decode cX8_countPieces 60 = .ok (.iinc 4 1, 3) := by decide +kernel
theorem dX8_countPieces_63 : decode cX8_countPieces 63 = .ok (.goto (-27), 3) := by decide +kernel
theorem dX8_countPieces_66 : decode cX8_countPieces 66 = .ok (.aload_n 0, 1) := by decide +kernel
theorem dX8_countPieces_67 : decode cX8_countPieces 67 = .ok (.getfield 21, 3) := by decide +kernel
theorem dX8_countPieces_70 : decode cX8_countPieces 70 = .ok (.aload_n 0, 1) := by decide +kernel
theorem dX8_countPieces_71 : decode cX8_countPieces 71 = .ok (.getfield 24, 3) := by decide +kernel
theorem dX8_countPieces_74 : decode cX8_countPieces 74 = .ok (.invokevirtual 75, 3) := by decide +kernel
theorem dX8_countPieces_77 : decode cX8_countPieces 77 = .ok (.iinc 2 1, 3) := by decide +kernel
theorem dX8_countPieces_80 : decode cX8_countPieces 80 = .ok (.goto (-70), 3) := by decide +kernel
theorem dX8_countPieces_83 : decode cX8_countPieces 83 = .ok (.iload_n 2, 1) := by decide +kernel
theorem dX8_countPieces_84 : decode cX8_countPieces 84 = .ok (.ireturn, 1) := by decide +kernel
theorem dX9_init_0 : decode cX9_init 0 = .ok (.aload_n 0, 1) := by decide +kernel
theorem dX9_init_1 : decode cX9_init 1 = .ok (.invokespecial 1, 3) := by decide +kernel
theorem dX9_init_4 : decode cX9_init 4 = .ok (.aload_n 0, 1) := by decide +kernel
theorem dX9_init_5 : decode cX9_init 5 = .ok (.new 7, 3) := by decide +kernel
theorem dX9_init_8 : decode cX9_init 8 = .ok (.dup, 1) := by decide +kernel
theorem dX9_init_9 : decode cX9_init 9 = .ok (.invokespecial 9, 3) := by decide +kernel
theorem dX9_init_12 : decode cX9_init 12 = .ok (.putfield 10, 3) := by decide +kernel
theorem dX9_init_15 : decode cX9_init 15 = .ok (.aload_n 0, 1) := by decide +kernel
theorem dX9_init_16 : decode cX9_init 16 = .ok (.new 16, 3) := by decide +kernel
theorem dX9_init_19 : decode cX9_init 19 = .ok (.dup, 1) := by decide +kernel
theorem dX9_init_20 : decode cX9_init 20 = .ok (.invokespecial 18, 3) := by decide +kernel
theorem dX9_init_23 : decode cX9_init 23 = .ok (.putfield 19, 3) := by decide +kernel
theorem dX9_init_26 : decode cX9_init 26 = .ok (.return_, 1) := by decide +kernel
theorem dX9_setNumber_0 : decode cX9_setNumber 0 = .ok (.iload_n 1, 1) := by decide +kernel
theorem dX9_setNumber_1 : decode cX9_setNumber 1 = .ok (.invokestatic 23, 3) := by decide +kernel
theorem dX9_setNumber_4 : decode cX9_setNumber 4 = .ok (.ifCond .eq 25, 3) := by decide +kernel
theorem dX9_setNumber_7 : decode cX9_setNumber 7 = .ok (.iload_n 3, 1) := by decide +kernel
theorem dX9_setNumber_8 : decode cX9_setNumber 8 = .ok (.invokestatic 29, 3) := by decide +kernel
theorem dX9_setNumber_11 : decode cX9_setNumber 11 = .ok (.ifCond .eq 18, 3) := by decide +kernel
theorem dX9_setNumber_14 : decode cX9_setNumber 14 = .ok (.iload_n 2, 1) := by decide +kernel
theorem dX9_setNumber_15 : decode cX9_setNumber 15 = .ok (.invokestatic 33, 3) := by decide +kernel
theorem dX9_setNumber_18 : decode cX9_setNumber 18 = .ok (.ifCond .eq 11, 3) := by decide +kernel
theorem dX9_setNumber_21 : decode cX9_setNumber 21 = .ok (.iload 4, 2) := by decide +kernel
theorem dX9_setNumber_23 : decode cX9_setNumber 23 = .ok (.invokestatic 33, 3) := by decide +kernel
theorem dX9_setNumber_26 : decode cX9_setNumber 26 = .ok (.ifCond .ne 13, 3) := by decide +kernel
theorem dX9_setNumber_29 : decode cX9_setNumber 29 = .ok (.new 36, 3) := by decide +kernel
theorem dX9_setNumber_32 : decode cX9_setNumber 32 = .ok (.dup, 1) := by decide +kernel
theorem dX9_setNumber_33 : decode cX9_setNumber 33 = .ok (.ldc 38, 2) := by decide +kernel
theorem dX9_setNumber_35 : decode cX9_setNumber 35 = .ok (.invokespecial 40, 3) := by decide +kernel
theorem dX9_setNumber_38 : decode cX9_setNumber 38 = .ok (.athrow, 1) := by decide +kernel
theorem dX9_setNumber_39 : decode cX9_setNumber 39 = .ok (.aload_n 0, 1) := by decide +kernel
theorem dX9_setNumber_40 : decode cX9_setNumber 40 = .ok (.getfield 10, 3) := by decide +kernel
theorem dX9_setNumber_43 : decode cX9_setNumber 43 = .ok (.getfield 43, 3) := by decide +kernel
theorem dX9_setNumber_46 : decode cX9_setNumber 46 = .ok (.getfield 47, 3) := by decide +kernel
theorem dX9_setNumber_49 : decode cX9_setNumber 49 = .ok (.astore 5, 2) := by decide +kernel
theorem dX9_setNumber_51 : decode cX9_setNumber 51 = .ok (.aload 5, 2) := by decide +kernel
theorem dX9_setNumber_53 : decode cX9_setNumber 53 = .ok (.iload_n 1, 1) := by decide +kernel
theorem dX9_setNumber_54 : decode cX9_setNumber 54 = .ok (.iload_n 2, 1) := by decide +kernel
theorem dX9_setNumber_55 : decode cX9_setNumber 55 = .ok (.iload 4, 2) := by decide +kernel
theorem dX9_setNumber_57 : decode cX9_setNumber 57 = .ok (.invokevirtual 53, 3) := by decide +kernel
theorem dX9_setNumber_60 : decode cX9_setNumber 60 = .ok (.ifCond .eq 13, 3) := by decide +kernel
theorem dX9_setNumber_63 : decode cX9_setNumber 63 = .ok (.new 57, 3) := by decide +kernel
theorem dX9_setNumber_66 : decode cX9_setNumber 66 = .ok (.dup, 1) := by decide +kernel
theorem dX9_setNumber_67 : decode cX9_setNumber 67 = .ok (.ldc 59, 2) := by decide +kernel
theorem dX9_setNumber_69 : decode cX9_setNumber 69 = .ok (.invokespecial 61, 3) := by decide +kernel
theorem dX9_setNumber_72 : decode cX9_setNumber 72 = .ok (.athrow, 1) := by decide +kernel
theorem dX9_setNumber_73 : decode cX9_setNumber 73 = .ok (.aload 5, 2) := by decide +kernel
theorem dX9_setNumber_75 : decode cX9_setNumber 75 = .ok (.getfield 62, 3) := by decide +kernel
theorem dX9_setNumber_78 : decode cX9_setNumber 78 = .ok (.iload_n 1, 1) := by decide +kernel
theorem dX9_setNumber_79 : decode cX9_setNumber 79 = .ok (.iaload, 1) := by decide +kernel
theorem dX9_setNumber_80 : decode cX9_setNumber 80 = .ok (.istore 6, 2) := by decide +kernel
theorem dX9_setNumber_82 : decode cX9_setNumber 82 = .ok (.aload 5, 2) := by decide +kernel
theorem dX9_setNumber_84 : decode cX9_setNumber 84 = .ok (.getfield 66, 3) := by decide +kernel
theorem dX9_setNumber_87 : decode cX9_setNumber 87 = .ok (.iload_n 1, 1) := by decide +kernel
theorem dX9_setNumber_88 : decode cX9_setNumber 88 = .ok (.caload, 1) := by decide +kernel
theorem dX9_setNumber_89 : decode cX9_setNumber 89 = .ok (.istore 7, 2) := by decide +kernel
theorem dX9_setNumber_91 : decode cX9_setNumber 91 = .ok (.aload 5, 2) := by decide +kernel
theorem dX9_setNumber_93 : decode cX9_setNumber 93 = .ok (.getfield 70, 3) := by decide +kernel
theorem dX9_setNumber_96 : decode cX9_setNumber 96 = .ok (.iload_n 1, 1) := by decide +kernel
theorem dX9_setNumber_97 : decode cX9_setNumber 97 = .ok (.iaload, 1) := by decide +kernel
theorem dX9_setNumber_98 : decode cX9_setNumber 98 = .ok (.istore 8, 2) := by decide +kernel
theorem dX9_setNumber_100 : decode cX9_setNumber 100 = .ok (.aload 5, 2) := by decide +kernel
theorem dX9_setNumber_102 : decode cX9_setNumber 102 = .ok (.iload_n 1, 1) := by decide +kernel
theorem dX9_setNumber_103 : decode cX9_setNumber 103 = .ok (.iload_n 2, 1) := by decide +kernel
theorem dX9_setNumber_104 : decode cX9_setNumber 104 = .ok (.iload_n 3, 1) := by decide +kernel
theorem dX9_setNumber_105 : decode cX9_setNumber 105 = .ok (.iload 4, 2) := by decide +kernel
theorem dX9_setNumber_107 : decode cX9_setNumber 107 = .ok (.invokevirtual 73, 3) := by decide +kernel
theorem dX9_setNumber_110 : decode cX9_setNumber 110 = .ok (.aload_n 0, 1) := by decide +kernel
theorem dX9_setNumber_111 : decode cX9_setNumber 111 = .ok (.getfield 10, 3) := by decide +kernel
theorem dX9_setNumber_114 : decode cX9_setNumber 114 = .ok (.getfield 43, 3) := by decide +kernel
theorem dX9_setNumber_117 : decode cX9_setNumber 117 = .ok (.invokevirtual 77, 3) := by decide +kernel
theorem dX9_setNumber_120 : decode cX9_setNumber 120 = .ok (.ifCond .ne 25, 3) := by decide +kernel
theorem dX9_setNumber_123 : decode cX9_setNumber 123 = .ok (.aload 5, 2) := by decide +kernel
theorem dX9_setNumber_125 : decode cX9_setNumber 125 = .ok (.iload_n 1, 1) := by decide +kernel
theorem dX9_setNumber_126 : decode cX9_setNumber 126 = .ok (.iload 6, 2) := by decide +kernel
theorem dX9_setNumber_128 : decode cX9_setNumber 128 = .ok (.iload 7, 2) := by decide +kernel
theorem dX9_setNumber_130 : decode cX9_setNumber 130 = .ok (.iload 8, 2) := by decide +kernel
theorem dX9_setNumber_132 : decode cX9_setNumber 132 = .ok (.invokevirtual 73, 3) := by decide +kernel
theorem dX9_setNumber_135 : decode cX9_setNumber 135 = .ok (.new 57, 3) := by decide +kernel
theorem dX9_setNumber_138 : decode cX9_setNumber 138 = .ok (.dup, 1) := by decide +kernel
theorem dX9_setNumber_139 : decode cX9_setNumber 139 = .ok (.ldc 81, 2) := by decide +kernel
theorem dX9_setNumber_141 : decode cX9_setNumber 141 = .ok (.invokespecial 61, 3) := by decide +kernel
theorem dX9_setNumber_144 : decode cX9_setNumber 144 = .ok (.athrow, 1) := by decide +kernel
theorem dX9_setNumber_145 : decode cX9_setNumber 145 = .ok (.aload_n 0, 1) := by decide +kernel
theorem dX9_setNumber_146 : decode cX9_setNumber 146 = .ok (.getfield 10, 3) := by decide +kernel
theorem dX9_setNumber_149 : decode cX9_setNumber 149 = .ok (.invokevirtual 83, 3) := by decide +kernel
theorem dX9_setNumber_152 : decode cX9_setNumber 152 = .ok (.aload 5, 2) := by decide +kernel
theorem dX9_setNumber_154 : decode cX9_setNumber 154 = .ok (.getfield 86, 3) := by decide +kernel
theorem dX9_setNumber_157 : decode cX9_setNumber 157 = .ok (.iload_n 1, 1) := by decide +kernel
theorem dX9_setNumber_158 : decode cX9_setNumber 158 = .ok (.iaload, 1) := by decide +kernel
theorem dX9_setNumber_159 : decode cX9_setNumber 159 = .ok (.ireturn, 1) := by decide +kernel
theorem dX9_number_0 : decode cX9_number 0 = .ok (.iload_n 1, 1) := by decide +kernel
theorem dX9_number_1 : decode cX9_number 1 = .ok (.invokestatic 23, 3) := by decide +kernel
theorem dX9_number_4 : decode cX9_number 4 = .ok (.ifCond .ne 13, 3) := by decide +kernel
theorem dX9_number_7 : decode cX9_number 7 = .ok (.new 36, 3) := by decide +kernel
theorem dX9_number_10 : decode cX9_number 10 = .ok (.dup, 1) := by decide +kernel
theorem dX9_number_11 : decode cX9_number 11 = .ok (.ldc 89, 2) := by decide +kernel
theorem dX9_number_13 : decode cX9_number 13 = .ok (.invokespecial 40, 3) := by decide +kernel
theorem dX9_number_16 : decode cX9_number 16 = .ok (.athrow, 1) := by decide +kernel
theorem dX9_number_17 : decode cX9_number 17 = .ok (.aload_n 0, 1) := by decide +kernel
theorem dX9_number_18 : decode cX9_number 18 = .ok (.getfield 10, 3) := by decide +kernel
theorem dX9_number_21 : decode cX9_number 21 = .ok (.getfield 43, 3) := by decide +kernel
theorem dX9_number_24 : decode cX9_number 24 = .ok (.getfield 47, 3) := by decide +kernel
theorem dX9_number_27 : decode cX9_number 27 = .ok (.getfield 86, 3) := by decide +kernel
theorem dX9_number_30 : decode cX9_number 30 = .ok (.iload_n 1, 1) := by decide +kernel
theorem dX9_number_31 : decode cX9_number 31 = .ok (.iaload, 1) := by decide +kernel
theorem dX9_number_32 : decode cX9_number 32 = .ok (.ireturn, 1) := by decide +kernel
theorem dX9_addFeature_0 : decode cX9_addFeature 0 = .ok (.ldc 91, 2) := by decide +kernel
theorem dX9_addFeature_2 : decode cX9_addFeature 2 = .ok (.iload_n 1, 1) := by decide +kernel
theorem dX9_addFeature_3 : decode cX9_addFeature 3 = .ok (.invokevirtual 93, 3) := by decide +kernel
theorem dX9_addFeature_6 : decode cX9_addFeature 6 = .ok (.ifCond .lt 13, 3) := by decide +kernel
theorem dX9_addFeature_9 : decode cX9_addFeature 9 = .ok (.iload_n 2, 1) := by decide +kernel
theorem dX9_addFeature_10 : decode cX9_addFeature 10 = .ok (.iload_n 3, 1) := by decide +kernel
theorem dX9_addFeature_11 : decode cX9_addFeature 11 = .ok (.iload 4, 2) := by decide +kernel
theorem dX9_addFeature_13 : decode cX9_addFeature 13 = .ok (.invokestatic 99, 3) := by decide +kernel
theorem dX9_addFeature_16 : decode cX9_addFeature 16 = .ok (.ifCond .ne 13, 3) := by decide +kernel
theorem dX9_addFeature_19 : decode cX9_addFeature 19 = .ok (.new 36, 3) := by decide +kernel
theorem dX9_addFeature_22 : decode cX9_addFeature 22 = .ok (.dup, 1) := by decide +kernel
theorem dX9_addFeature_23 : decode cX9_addFeature 23 = .ok (.ldc 102, 2) := by decide +kernel
theorem dX9_addFeature_25 : decode cX9_addFeature 25 = .ok (.invokespecial 40, 3) := by decide +kernel
theorem dX9_addFeature_28 : decode cX9_addFeature 28 = .ok (.athrow, 1) := by decide +kernel
theorem dX9_addFeature_29 : decode cX9_addFeature 29 = .ok (.aload_n 0, 1) := by decide +kernel
theorem dX9_addFeature_30 : decode cX9_addFeature 30 = .ok (.getfield 10, 3) := by decide +kernel
theorem dX9_addFeature_33 : decode cX9_addFeature 33 = .ok (.getfield 43, 3) := by decide +kernel
theorem dX9_addFeature_36 : decode cX9_addFeature 36 = .ok (.astore 5, 2) := by decide +kernel
theorem dX9_addFeature_38 : decode cX9_addFeature 38 = .ok (.aload 5, 2) := by decide +kernel
theorem dX9_addFeature_40 : decode cX9_addFeature 40 = .ok (.getfield 104, 3) := by decide +kernel
theorem dX9_addFeature_43 : decode cX9_addFeature 43 = .ok (.bipush 12, 2) := by decide +kernel
theorem dX9_addFeature_45 : decode cX9_addFeature 45 = .ok (.if_icmp .ge 13, 3) := by decide +kernel
theorem dX9_addFeature_48 : decode cX9_addFeature 48 = .ok (.aload 5, 2) := by decide +kernel
theorem dX9_addFeature_50 : decode cX9_addFeature 50 = .ok (.getfield 108, 3) := by decide +kernel
theorem dX9_addFeature_53 : decode cX9_addFeature 53 = .ok (.bipush 40, 2) := by decide +kernel
theorem dX9_addFeature_55 : decode cX9_addFeature 55 = .ok (.if_icmp .lt 13, 3) := by decide +kernel
theorem dX9_addFeature_58 : decode cX9_addFeature 58 = .ok (.new 111, 3) := by decide +kernel
theorem dX9_addFeature_61 : decode cX9_addFeature 61 = .ok (.dup, 1) := by decide +kernel
theorem dX9_addFeature_62 : decode cX9_addFeature 62 = .ok (.ldc 113, 2) := by decide +kernel
theorem dX9_addFeature_64 : decode cX9_addFeature 64 = .ok (.invokespecial 115, 3) := by decide +kernel
theorem dX9_addFeature_67 : decode cX9_addFeature 67 = .ok (.athrow, 1) := by decide +kernel
theorem dX9_addFeature_68 : decode cX9_addFeature 68 = .ok (.aload 5, 2) := by decide +kernel
theorem dX9_addFeature_70 : decode cX9_addFeature 70 = .ok (.aload 5, 2) := by decide +kernel
theorem dX9_addFeature_72 : decode cX9_addFeature 72 = .ok (.getfield 108, 3) := by decide +kernel
theorem dX9_addFeature_75 : decode cX9_addFeature 75 = .ok (.invokevirtual 116, 3) := by decide +kernel
theorem dX9_addFeature_78 : decode cX9_addFeature 78 = .ok (.ifCond .eq 13, 3) := by decide +kernel
theorem dX9_addFeature_81 : decode cX9_addFeature 81 = .ok (.new 57, 3) := by decide +kernel
theorem dX9_addFeature_84 : decode cX9_addFeature 84 = .ok (.dup, 1) := by decide +kernel
theorem dX9_addFeature_85 : decode cX9_addFeature 85 = .ok (.ldc 81, 2) := by decide +kernel
theorem dX9_addFeature_87 : decode cX9_addFeature 87 = .ok (.invokespecial 61, 3) := by decide +kernel
theorem dX9_addFeature_90 : decode cX9_addFeature 90 = .ok (.athrow, 1) := by decide +kernel
theorem dX9_addFeature_91 : decode cX9_addFeature 91 = .ok (.aload 5, 2) := by decide +kernel
theorem dX9_addFeature_93 : decode cX9_addFeature 93 = .ok (.iload_n 1, 1) := by decide +kernel
theorem dX9_addFeature_94 : decode cX9_addFeature 94 = .ok (.iload_n 2, 1) := by decide +kernel
theorem dX9_addFeature_95 : decode cX9_addFeature 95 = .ok (.iload_n 3, 1) := by decide +kernel
theorem dX9_addFeature_96 : decode cX9_addFeature 96 = .ok (.iload 4, 2) := by decide +kernel
theorem dX9_addFeature_98 : decode cX9_addFeature 98 = .ok (.invokevirtual 119, 3) := by decide +kernel
theorem dX9_addFeature_101 : decode cX9_addFeature 101 = .ok (.istore 6, 2) := by decide +kernel
theorem dX9_addFeature_103 : decode cX9_addFeature 103 = .ok (.aload_n 0, 1) := by decide +kernel
theorem dX9_addFeature_104 : decode cX9_addFeature 104 = .ok (.getfield 10, 3) := by decide +kernel
theorem dX9_addFeature_107 : decode cX9_addFeature 107 = .ok (.invokevirtual 83, 3) := by decide +kernel
theorem dX9_addFeature_110 : decode cX9_addFeature 110 = .ok (.iload 6, 2) := by decide +kernel
theorem dX9_addFeature_112 : decode cX9_addFeature 112 = .ok (.ireturn, 1) := by decide +kernel
theorem dX9_setSize_0 : decode cX9_setSize 0 = .ok (.aload_n 0, 1) := by decide +kernel
theorem dX9_setSize_1 : decode cX9_setSize 1 = .ok (.getfield 10, 3) := by decide +kernel
theorem dX9_setSize_4 : decode cX9_setSize 4 = .ok (.getfield 43, 3) := by decide +kernel
theorem dX9_setSize_7 : decode cX9_setSize 7 = .ok (.astore 5, 2) := by decide +kernel
theorem dX9_setSize_9 : decode cX9_setSize 9 = .ok (.aload 5, 2) := by decide +kernel
theorem dX9_setSize_11 : decode cX9_setSize 11 = .ok (.iload_n 1, 1) := by decide +kernel
theorem dX9_setSize_12 : decode cX9_setSize 12 = .ok (.invokevirtual 123, 3) := by decide +kernel
theorem dX9_setSize_15 : decode cX9_setSize 15 = .ok (.ifCond .ge 13, 3) := by decide +kernel
theorem dX9_setSize_18 : decode cX9_setSize 18 = .ok (.new 126, 3) := by decide +kernel
theorem dX9_setSize_21 : decode cX9_setSize 21 = .ok (.dup, 1) := by decide +kernel
theorem dX9_setSize_22 : decode cX9_setSize 22 = .ok (.ldc 128, 2) := by decide +kernel
theorem dX9_setSize_24 : decode cX9_setSize 24 = .ok (.invokespecial 130, 3) := by decide +kernel
theorem dX9_setSize_27 : decode cX9_setSize 27 = .ok (.athrow, 1) := by decide +kernel
theorem dX9_setSize_28 : decode cX9_setSize 28 = .ok (.iload_n 2, 1) := by decide +kernel
theorem dX9_setSize_29 : decode cX9_setSize 29 = .ok (.iload_n 3, 1) := by decide +kernel
theorem dX9_setSize_30 : decode cX9_setSize 30 = .ok (.iload 4, 2) := by decide +kernel
theorem dX9_setSize_32 : decode cX9_setSize 32 = .ok (.invokestatic 99, 3) := by decide +kernel
theorem dX9_setSize_35 : decode cX9_setSize 35 = .ok (.ifCond .ne 13, 3) := by decide +kernel
theorem dX9_setSize_38 : decode cX9_setSize 38 = .ok (.new 36, 3) := by decide +kernel
theorem dX9_setSize_41 : decode cX9_setSize 41 = .ok (.dup, 1) := by decide +kernel
theorem dX9_setSize_42 : decode cX9_setSize 42 = .ok (.ldc 131, 2) := by decide +kernel
theorem dX9_setSize_44 : decode cX9_setSize 44 = .ok (.invokespecial 40, 3) := by decide +kernel
theorem dX9_setSize_47 : decode cX9_setSize 47 = .ok (.athrow, 1) := by decide +kernel
theorem dX9_setSize_48 : decode cX9_setSize 48 = .ok (.aload 5, 2) := by decide +kernel
theorem dX9_setSize_50 : decode cX9_setSize 50 = .ok (.iload_n 1, 1) := by decide +kernel
theorem dX9_setSize_51 : decode cX9_setSize 51 = .ok (.iconst 0, 1) := by decide +kernel
theorem dX9_setSize_52 : decode cX9_setSize 52 = .ok (.iload_n 2, 1) := by decide +kernel
theorem dX9_setSize_53 : decode cX9_setSize 53 = .ok (.invokevirtual 133, 3) := by decide +kernel
theorem dX9_setSize_56 : decode cX9_setSize 56 = .ok (.istore 6, 2) := by decide +kernel
theorem dX9_setSize_58 : decode cX9_setSize 58 = .ok (.iload 6, 2) := by decide +kernel
theorem dX9_setSize_60 : decode cX9_setSize 60 = .ok (.aload 5, 2) := by decide +kernel
theorem dX9_setSize_62 : decode cX9_setSize 62 = .ok (.iload_n 1, 1) := by decide +kernel
theorem dX9_setSize_63 : decode cX9_setSize 63 = .ok (.iconst 1, 1) := by decide +kernel
theorem dX9_setSize_64 : decode cX9_setSize 64 = .ok (.iload_n 3, 1) := by decide +kernel
theorem dX9_setSize_65 : decode cX9_setSize 65 = .ok (.invokevirtual 133, 3) := by decide +kernel
theorem dX9_setSize_68 : decode cX9_setSize 68 = .ok (.iadd, 1) := by decide +kernel
theorem dX9_setSize_69 : decode cX9_setSize 69 = .ok (.istore 6, 2) := by decide +kernel
theorem dX9_setSize_71 : decode cX9_setSize 71 = .ok (.iload 6, 2) := by decide +kernel
theorem dX9_setSize_73 : decode cX9_setSize 73 = .ok (.aload 5, 2) := by decide +kernel
theorem dX9_setSize_75 : decode cX9_setSize 75 = .ok (.iload_n 1, 1) := by decide +kernel
theorem dX9_setSize_76 : decode cX9_setSize 76 = .ok (.iconst 2, 1) := by decide +kernel
theorem dX9_setSize_77 : decode cX9_setSize 77 = .ok (.iload 4, 2) := by decide +kernel
theorem dX9_setSize_79 : decode cX9_setSize 79 = .ok (.invokevirtual 133, 3) := by decide +kernel
theorem dX9_setSize_82 : decode cX9_setSize 82 = .ok (.iadd, 1) := by decide +kernel
theorem dX9_setSize_83 : decode cX9_setSize 83 = .ok (.istore 6, 2) := by decide +kernel
theorem dX9_setSize_85 : decode cX9_setSize 85 = .ok (.aload_n 0, 1) := by decide +kernel
theorem dX9_setSize_86 : decode cX9_setSize 86 = .ok (.getfield 10, 3) := by decide +kernel
theorem dX9_setSize_89 : decode cX9_setSize 89 = .ok (.invokevirtual 83, 3) := by decide +kernel
theorem dX9_setSize_92 : decode cX9_setSize 92 = .ok (.iload 6, 2) := by decide +kernel
theorem dX9_setSize_94 : decode cX9_setSize 94 = .ok (.ireturn, 1) := by decide +kernel
theorem dX9_remove_0 : decode cX9_remove 0 = .ok (.aload_n 0, 1) := by decide +kernel
theorem dX9_remove_1 : decode cX9_remove 1 = .ok (.getfield 10, 3) := by decide +kernel
theorem dX9_remove_4 : decode cX9_remove 4 = .ok (.getfield 43, 3) := by decide +kernel
theorem dX9_remove_7 : decode cX9_remove 7 = .ok (.astore_n 2, 1) := by decide +kernel
theorem dX9_remove_8 : decode cX9_remove 8 = .ok (.aload_n 2, 1) := by decide +kernel
theorem dX9_remove_9 : decode cX9_remove 9 = .ok (.iload_n 1, 1) := by decide +kernel
theorem dX9_remove_10 : decode cX9_remove 10 = .ok (.invokevirtual 123, 3) := by decide +kernel
theorem dX9_remove_13 : decode cX9_remove 13 = .ok (.istore_n 3, 1) := by decide +kernel
theorem dX9_remove_14 : decode cX9_remove 14 = .ok (.iload_n 3, 1) := by decide +kernel
theorem dX9_remove_15 : decode cX9_remove 15 = .ok (.ifCond .ge 13, 3) := by decide +kernel
theorem dX9_remove_18 : decode cX9_remove 18 = .ok (.new 126, 3) := by decide +kernel
theorem dX9_remove_21 : decode cX9_remove 21 = .ok (.dup, 1) := by decide +kernel
theorem dX9_remove_22 : decode cX9_remove 22 = .ok (.ldc 128, 2) := by decide +kernel
theorem dX9_remove_24 : decode cX9_remove 24 = .ok (.invokespecial 130, 3) := by decide +kernel
theorem dX9_remove_27 : decode cX9_remove 27 = .ok (.athrow, 1) := by decide +kernel
theorem dX9_remove_28 : decode cX9_remove 28 = .ok (.aload_n 2, 1) := by decide +kernel
theorem dX9_remove_29 : decode cX9_remove 29 = .ok (.iload_n 1, 1) := by decide +kernel
theorem dX9_remove_30 : decode cX9_remove 30 = .ok (.invokevirtual 116, 3) := by decide +kernel
theorem dX9_remove_33 : decode cX9_remove 33 = .ok (.ifCond .eq 13, 3) := by decide +kernel
theorem dX9_remove_36 : decode cX9_remove 36 = .ok (.new 57, 3) := by decide +kernel
theorem dX9_remove_39 : decode cX9_remove 39 = .ok (.dup, 1) := by decide +kernel
theorem dX9_remove_40 : decode cX9_remove 40 = .ok (.ldc 137, 2) := by decide +kernel
theorem dX9_remove_42 : decode cX9_remove 42 = .ok (.invokespecial 61, 3) := by decide +kernel
theorem dX9_remove_45 : decode cX9_remove 45 = .ok (.athrow, 1) := by decide +kernel
theorem dX9_remove_46 : decode cX9_remove 46 = .ok (.aload_n 2, 1) := by decide +kernel
theorem dX9_remove_47 : decode cX9_remove 47 = .ok (.iload_n 3, 1) := by decide +kernel
theorem dX9_remove_48 : decode cX9_remove 48 = .ok (.invokevirtual 139, 3) := by decide +kernel
theorem dX9_remove_51 : decode cX9_remove 51 = .ok (.aload_n 0, 1) := by decide +kernel
theorem dX9_remove_52 : decode cX9_remove 52 = .ok (.getfield 10, 3) := by decide +kernel
theorem dX9_remove_55 : decode cX9_remove 55 = .ok (.invokevirtual 83, 3) := by decide +kernel
theorem dX9_remove_58 : decode cX9_remove 58 = .ok (.aload_n 2, 1) := by decide +kernel
theorem dX9_remove_59 : decode cX9_remove 59 = .ok (.getfield 104, 3) := by decide +kernel
theorem dX9_remove_62 : decode cX9_remove 62 = .ok (.ireturn, 1) := by decide +kernel
theorem dX9_move_0 : decode cX9_move 0 = .ok (.aload_n 0, 1) := by decide +kernel
theorem dX9_move_1 : decode cX9_move 1 = .ok (.getfield 10, 3) := by decide +kernel
theorem dX9_move_4 : decode cX9_move 4 = .ok (.getfield 43, 3) := by decide +kernel
theorem dX9_move_7 : decode cX9_move 7 = .ok (.astore_n 3, 1) := by decide +kernel
theorem dX9_move_8 : decode cX9_move 8 = .ok (.aload_n 3, 1) := by decide +kernel
theorem dX9_move_9 : decode cX9_move 9 = .ok (.iload_n 1, 1) := by decide +kernel
theorem dX9_move_10 : decode cX9_move 10 = .ok (.invokevirtual 123, 3) := by decide +kernel
theorem dX9_move_13 : decode cX9_move 13 = .ok (.istore 4, 2) := by decide +kernel
theorem dX9_move_15 : decode cX9_move 15 = .ok (.iload 4, 2) := by decide +kernel
theorem dX9_move_17 : decode cX9_move 17 = .ok (.ifCond .ge 13, 3) := by decide +kernel
theorem dX9_move_20 : decode cX9_move 20 = .ok (.new 126, 3) := by decide +kernel
theorem dX9_move_23 : decode cX9_move 23 = .ok (.dup, 1) := by decide +kernel
theorem dX9_move_24 : decode cX9_move 24 = .ok (.ldc 128, 2) := by decide +kernel
theorem dX9_move_26 : decode cX9_move 26 = .ok (.invokespecial 130, 3) := by decide +kernel
theorem dX9_move_29 : decode cX9_move 29 = .ok (.athrow, 1) := by decide +kernel
theorem dX9_move_30 : decode cX9_move 30 = .ok (.iload_n 2, 1) := by decide +kernel
theorem dX9_move_31 : decode cX9_move 31 = .ok (.ifCond .lt 11, 3) := by decide +kernel
theorem dX9_move_34 : decode cX9_move 34 = .ok (.iload_n 2, 1) := by decide +kernel
theorem dX9_move_35 : decode cX9_move 35 = .ok (.aload_n 3, 1) := by decide +kernel
theorem dX9_move_36 : decode cX9_move 36 = .ok (.getfield 104, 3) := by decide +kernel
theorem dX9_move_39 : decode cX9_move 39 = .ok (.if_icmp .lt 13, 3) := by decide +kernel
theorem dX9_move_42 : decode cX9_move 42 = .ok (.new 143, 3) := by decide +kernel
theorem dX9_move_45 : decode cX9_move 45 = .ok (.dup, 1) := by decide +kernel
theorem dX9_move_46 : decode cX9_move 46 = .ok (.ldc 145, 2) := by decide +kernel
theorem dX9_move_48 : decode cX9_move 48 = .ok (.invokespecial 147, 3) := by decide +kernel
theorem dX9_move_51 : decode cX9_move 51 = .ok (.athrow, 1) := by decide +kernel
theorem dX9_move_52 : decode cX9_move 52 = .ok (.aload_n 3, 1) := by decide +kernel
theorem dX9_move_53 : decode cX9_move 53 = .ok (.iload 4, 2) := by decide +kernel
theorem dX9_move_55 : decode cX9_move 55 = .ok (.iload_n 2, 1) := by decide +kernel
theorem dX9_move_56 : decode cX9_move 56 = .ok (.invokevirtual 148, 3) := by decide +kernel
theorem dX9_move_59 : decode cX9_move 59 = .ok (.aload_n 3, 1) := by decide +kernel
theorem dX9_move_60 : decode cX9_move 60 = .ok (.invokevirtual 77, 3) := by decide +kernel
theorem dX9_move_63 : decode cX9_move 63 = .ok (.ifCond .ne 20, 3) := by decide +kernel
theorem dX9_move_66 : decode cX9_move 66 = .ok (.aload_n 3, 1) := by decide +kernel
theorem dX9_move_67 : decode cX9_move 67 = .ok (.iload_n 2, 1) := by decide +kernel
theorem dX9_move_68 : decode cX9_move 68 = .ok (.iload 4, 2) := by decide +kernel
theorem dX9_move_70 : decode cX9_move 70 = .ok (.invokevirtual 148, 3) := by decide +kernel
theorem dX9_move_73 : decode cX9_move 73 = .ok (.new 57, 3) := by decide +kernel
theorem dX9_move_76 : decode cX9_move 76 = .ok (.dup, 1) := by decide +kernel
theorem dX9_move_77 : decode cX9_move 77 = .ok (.ldc 81, 2) := by decide +kernel
theorem dX9_move_79 : decode cX9_move 79 = .ok (.invokespecial 61, 3) := by decide +kernel
theorem dX9_move_82 : decode cX9_move 82 = .ok (.athrow, 1) := by decide +kernel
theorem dX9_move_83 : decode cX9_move 83 = .ok (.aload_n 0, 1) := by decide +kernel
theorem dX9_move_84 : decode cX9_move 84 = .ok (.getfield 10, 3) := by decide +kernel
theorem dX9_move_87 : decode cX9_move 87 = .ok (.invokevirtual 83, 3) := by decide +kernel
theorem dX9_move_90 : decode cX9_move 90 = .ok (.iload 4, 2) := by decide +kernel
theorem dX9_move_92 : decode cX9_move 92 = .ok (.ireturn, 1) := by decide +kernel
theorem dX9_putOff_0 : decode cX9_putOff 0 = .ok (.aload_n 0, 1) := by decide +kernel
theorem dX9_putOff_1 : decode cX9_putOff 1 = .ok (.getfield 10, 3) := by decide +kernel
theorem dX9_putOff_4 : decode cX9_putOff 4 = .ok (.getfield 43, 3) := by decide +kernel
theorem dX9_putOff_7 : decode cX9_putOff 7 = .ok (.astore_n 3, 1) := by decide +kernel
theorem dX9_putOff_8 : decode cX9_putOff 8 = .ok (.aload_n 3, 1) := by decide +kernel
theorem dX9_putOff_9 : decode cX9_putOff 9 = .ok (.iload_n 1, 1) := by decide +kernel
theorem dX9_putOff_10 : decode cX9_putOff 10 = .ok (.invokevirtual 123, 3) := by decide +kernel
theorem dX9_putOff_13 : decode cX9_putOff 13 = .ok (.ifCond .ge 13, 3) := by decide +kernel
theorem dX9_putOff_16 : decode cX9_putOff 16 = .ok (.new 126, 3) := by decide +kernel
theorem dX9_putOff_19 : decode cX9_putOff 19 = .ok (.dup, 1) := by decide +kernel
theorem dX9_putOff_20 : decode cX9_putOff 20 = .ok (.ldc 128, 2) := by decide +kernel
theorem dX9_putOff_22 : decode cX9_putOff 22 = .ok (.invokespecial 130, 3) := by decide +kernel
theorem dX9_putOff_25 : decode cX9_putOff 25 = .ok (.athrow, 1) := by decide +kernel
theorem dX9_putOff_26 : decode cX9_putOff 26 = .ok (.aload_n 3, 1) := by decide +kernel
theorem dX9_putOff_27 : decode cX9_putOff 27 = .ok (.getfield 152, 3) := by decide +kernel
theorem dX9_putOff_30 : decode cX9_putOff 30 = .ok (.iload_n 1, 1) := by decide +kernel
theorem dX9_putOff_31 : decode cX9_putOff 31 = .ok (.baload, 1) := by decide +kernel
theorem dX9_putOff_32 : decode cX9_putOff 32 = .ok (.iload_n 2, 1) := by decide +kernel
theorem dX9_putOff_33 : decode cX9_putOff 33 = .ok (.if_icmp .eq 7, 3) := by decide +kernel
theorem dX9_putOff_36 : decode cX9_putOff 36 = .ok (.iconst 1, 1) := by decide +kernel
theorem dX9_putOff_37 : decode cX9_putOff 37 = .ok (.goto 4, 3) := by decide +kernel
theorem dX9_putOff_40 : decode cX9_putOff 40 = .ok (.iconst 0, 1) := by decide +kernel
theorem dX9_putOff_41 : decode cX9_putOff 41 = .ok (.istore 4, 2) := by decide +kernel
theorem dX9_putOff_43 : decode cX9_putOff 43 = .ok (.aload_n 3, 1) := by decide +kernel
theorem dX9_putOff_44 : decode cX9_putOff 44 = .ok (.getfield 152, 3) := by decide +kernel
theorem dX9_putOff_47 : decode cX9_putOff 47 = .ok (.iload_n 1, 1) := by decide +kernel
theorem dX9_putOff_48 : decode cX9_putOff 48 = .ok (.iload_n 2, 1) := by decide +kernel
theorem dX9_putOff_49 : decode cX9_putOff 49 = .ok (.bastore, 1) := by decide +kernel
theorem dX9_putOff_50 : decode cX9_putOff 50 = .ok (.aload_n 0, 1) := by decide +kernel
theorem dX9_putOff_51 : decode cX9_putOff 51 = .ok (.getfield 10, 3) := by decide +kernel
theorem dX9_putOff_54 : decode cX9_putOff 54 = .ok (.invokevirtual 83, 3) := by decide +kernel
theorem dX9_putOff_57 : decode cX9_putOff 57 = .ok (.iload 4, 2) := by decide +kernel
theorem dX9_putOff_59 : decode cX9_putOff 59 = .ok (.ireturn, 1) := by decide +kernel
theorem dX9_setBar_0 : decode cX9_setBar 0 = .ok (.aload_n 0, 1) := by decide +kernel
theorem dX9_setBar_1 : decode cX9_setBar 1 = .ok (.getfield 10, 3) := by decide +kernel
theorem dX9_setBar_4 : decode cX9_setBar 4 = .ok (.getfield 43, 3) := by decide +kernel
theorem dX9_setBar_7 : decode cX9_setBar 7 = .ok (.astore_n 2, 1) := by decide +kernel
theorem dX9_setBar_8 : decode cX9_setBar 8 = .ok (.iload_n 1, 1) := by decide +kernel
theorem dX9_setBar_9 : decode cX9_setBar 9 = .ok (.ifCond .lt 11, 3) := by decide +kernel
theorem dX9_setBar_12 : decode cX9_setBar 12 = .ok (.iload_n 1, 1) := by decide +kernel
theorem dX9_setBar_13 : decode cX9_setBar 13 = .ok (.aload_n 2, 1) := by decide +kernel
theorem dX9_setBar_14 : decode cX9_setBar 14 = .ok (.getfield 104, 3) := by decide +kernel
theorem dX9_setBar_17 : decode cX9_setBar 17 = .ok (.if_icmp .le 13, 3) := by decide +kernel
theorem dX9_setBar_20 : decode cX9_setBar 20 = .ok (.new 143, 3) := by decide +kernel
theorem dX9_setBar_23 : decode cX9_setBar 23 = .ok (.dup, 1) := by decide +kernel
theorem dX9_setBar_24 : decode cX9_setBar 24 = .ok (.ldc 145, 2) := by decide +kernel
theorem dX9_setBar_26 : decode cX9_setBar 26 = .ok (.invokespecial 147, 3) := by decide +kernel
theorem dX9_setBar_29 : decode cX9_setBar 29 = .ok (.athrow, 1) := by decide +kernel
theorem dX9_setBar_30 : decode cX9_setBar 30 = .ok (.aload_n 2, 1) := by decide +kernel
theorem dX9_setBar_31 : decode cX9_setBar 31 = .ok (.getfield 156, 3) := by decide +kernel
theorem dX9_setBar_34 : decode cX9_setBar 34 = .ok (.istore_n 3, 1) := by decide +kernel
theorem dX9_setBar_35 : decode cX9_setBar 35 = .ok (.aload_n 2, 1) := by decide +kernel
theorem dX9_setBar_36 : decode cX9_setBar 36 = .ok (.iload_n 1, 1) := by decide +kernel
theorem dX9_setBar_37 : decode cX9_setBar 37 = .ok (.putfield 156, 3) := by decide +kernel
theorem dX9_setBar_40 : decode cX9_setBar 40 = .ok (.aload_n 0, 1) := by decide +kernel
theorem dX9_setBar_41 : decode cX9_setBar 41 = .ok (.getfield 10, 3) := by decide +kernel
theorem dX9_setBar_44 : decode cX9_setBar 44 = .ok (.invokevirtual 83, 3) := by decide +kernel
theorem dX9_setBar_47 : decode cX9_setBar 47 = .ok (.iload_n 3, 1) := by decide +kernel
theorem dX9_setBar_48 : decode cX9_setBar 48 = .ok (.ireturn, 1) := by decide +kernel
theorem dX9_place_0 : decode cX9_place 0 = .ok (.aload_n 0, 1) := by decide +kernel
theorem dX9_place_1 : decode cX9_place 1 = .ok (.getfield 10, 3) := by decide +kernel
theorem dX9_place_4 : decode cX9_place 4 = .ok (.getfield 43, 3) := by decide +kernel
theorem dX9_place_7 : decode cX9_place 7 = .ok (.iload_n 1, 1) := by decide +kernel
theorem dX9_place_8 : decode cX9_place 8 = .ok (.invokevirtual 123, 3) := by decide +kernel
theorem dX9_place_11 : decode cX9_place 11 = .ok (.istore_n 2, 1) := by decide +kernel
theorem dX9_place_12 : decode cX9_place 12 = .ok (.iload_n 2, 1) := by decide +kernel
theorem dX9_place_13 : decode cX9_place 13 = .ok (.ifCond .ge 13, 3) := by decide +kernel
theorem dX9_place_16 : decode cX9_place 16 = .ok (.new 126, 3) := by decide +kernel
theorem dX9_place_19 : decode cX9_place 19 = .ok (.dup, 1) := by decide +kernel
theorem dX9_place_20 : decode cX9_place 20 = .ok (.ldc 128, 2) := by decide +kernel
theorem dX9_place_22 : decode cX9_place 22 = .ok (.invokespecial 130, 3) := by decide +kernel
theorem dX9_place_25 : decode cX9_place 25 = .ok (.athrow, 1) := by decide +kernel
theorem dX9_place_26 : decode cX9_place 26 = .ok (.iload_n 2, 1) := by decide +kernel
theorem dX9_place_27 : decode cX9_place 27 = .ok (.ireturn, 1) := by decide +kernel
theorem dX9_state_0 : decode cX9_state 0 = .ok (.aload_n 0, 1) := by decide +kernel
theorem dX9_state_1 : decode cX9_state 1 = .ok (.getfield 10, 3) := by decide +kernel
theorem dX9_state_4 : decode cX9_state 4 = .ok (.getfield 43, 3) := by decide +kernel
theorem dX9_state_7 : decode cX9_state 7 = .ok (.astore_n 2, 1) := by decide +kernel
theorem dX9_state_8 : decode cX9_state 8 = .ok (.aload_n 2, 1) := by decide +kernel
theorem dX9_state_9 : decode cX9_state 9 = .ok (.iload_n 1, 1) := by decide +kernel
theorem dX9_state_10 : decode cX9_state 10 = .ok (.invokevirtual 123, 3) := by decide +kernel
theorem dX9_state_13 : decode cX9_state 13 = .ok (.istore_n 3, 1) := by decide +kernel
theorem dX9_state_14 : decode cX9_state 14 = .ok (.iload_n 3, 1) := by decide +kernel
theorem dX9_state_15 : decode cX9_state 15 = .ok (.ifCond .ge 13, 3) := by decide +kernel
theorem dX9_state_18 : decode cX9_state 18 = .ok (.new 126, 3) := by decide +kernel
theorem dX9_state_21 : decode cX9_state 21 = .ok (.dup, 1) := by decide +kernel
theorem dX9_state_22 : decode cX9_state 22 = .ok (.ldc 128, 2) := by decide +kernel
theorem dX9_state_24 : decode cX9_state 24 = .ok (.invokespecial 130, 3) := by decide +kernel
theorem dX9_state_27 : decode cX9_state 27 = .ok (.athrow, 1) := by decide +kernel
theorem dX9_state_28 : decode cX9_state 28 = .ok (.aload_n 2, 1) := by decide +kernel
theorem dX9_state_29 : decode cX9_state 29 = .ok (.getfield 152, 3) := by decide +kernel
theorem dX9_state_32 : decode cX9_state 32 = .ok (.iload_n 1, 1) := by decide +kernel
theorem dX9_state_33 : decode cX9_state 33 = .ok (.baload, 1) := by decide +kernel
theorem dX9_state_34 : decode cX9_state 34 = .ok (.ifCond .eq 6, 3) := by decide +kernel
theorem dX9_state_37 : decode cX9_state 37 = .ok (.bipush 111, 2) := by decide +kernel
theorem dX9_state_39 : decode cX9_state 39 = .ok (.ireturn, 1) := by decide +kernel
theorem dX9_state_40 : decode cX9_state 40 = .ok (.iload_n 3, 1) := by decide +kernel
theorem dX9_state_41 : decode cX9_state 41 = .ok (.aload_n 2, 1) := by decide +kernel
theorem dX9_state_42 : decode cX9_state 42 = .ok (.getfield 156, 3) := by decide +kernel
theorem dX9_state_45 : decode cX9_state 45 = .ok (.if_icmp .lt 8, 3) := by decide +kernel
theorem dX9_state_48 : decode cX9_state 48 = .ok (.bipush 98, 2) := by decide +kernel
theorem dX9_state_50 : decode cX9_state 50 = .ok (.goto 12, 3) := by decide +kernel
theorem dX9_state_53 : decode cX9_state 53 = .ok (.aload_n 0, 1) := by decide +kernel
theorem dX9_state_54 : decode cX9_state 54 = .ok (.getfield 10, 3) := by decide +kernel
theorem dX9_state_57 : decode cX9_state 57 = .ok (.getfield 159, 3) := by decide +kernel
theorem dX9_state_60 : decode cX9_state 60 = .ok (.iload_n 1, 1) := by decide +kernel
theorem dX9_state_61 : decode cX9_state 61 = .ok (.caload, 1) := by decide +kernel
theorem dX9_state_62 : decode cX9_state 62 = .ok (.ireturn, 1) := by decide +kernel
theorem dX9_worked_0 : decode cX9_worked 0 = .ok (.aload_n 0, 1) := by decide +kernel
theorem dX9_worked_1 : decode cX9_worked 1 = .ok (.getfield 10, 3) := by decide +kernel
theorem dX9_worked_4 : decode cX9_worked 4 = .ok (.getfield 162, 3) := by decide +kernel
theorem dX9_worked_7 : decode cX9_worked 7 = .ok (.lreturn, 1) := by decide +kernel
theorem dX9_has_0 : decode cX9_has 0 = .ok (.iload_n 1, 1) := by decide +kernel
theorem dX9_has_1 : decode cX9_has 1 = .ok (.iload_n 2, 1) := by decide +kernel
theorem dX9_has_2 : decode cX9_has 2 = .ok (.iload_n 3, 1) := by decide +kernel
theorem dX9_has_3 : decode cX9_has 3 = .ok (.invokestatic 166, 3) := by decide +kernel
theorem dX9_has_6 : decode cX9_has 6 = .ok (.ifCond .ne 13, 3) := by decide +kernel
theorem dX9_has_9 : decode cX9_has 9 = .ok (.new 143, 3) := by decide +kernel
theorem dX9_has_12 : decode cX9_has 12 = .ok (.dup, 1) := by decide +kernel
theorem dX9_has_13 : decode cX9_has 13 = .ok (.ldc 171, 2) := by decide +kernel
theorem dX9_has_15 : decode cX9_has 15 = .ok (.invokespecial 147, 3) := by decide +kernel
theorem dX9_has_18 : decode cX9_has 18 = .ok (.athrow, 1) := by decide +kernel
theorem dX9_has_19 : decode cX9_has 19 = .ok (.aload_n 0, 1) := by decide +kernel
theorem dX9_has_20 : decode cX9_has 20 = .ok (.getfield 10, 3) := by decide +kernel
theorem dX9_has_23 : decode cX9_has 23 = .ok (.invokevirtual 173, 3) := by decide +kernel
theorem dX9_has_26 : decode cX9_has 26 = .ok (.getfield 177, 3) := by decide +kernel
theorem dX9_has_29 : decode cX9_has 29 = .ok (.iload_n 1, 1) := by decide +kernel
theorem dX9_has_30 : decode cX9_has 30 = .ok (.iload_n 2, 1) := by decide +kernel
theorem dX9_has_31 : decode cX9_has 31 = .ok (.iload_n 3, 1) := by decide +kernel
theorem dX9_has_32 : decode cX9_has 32 = .ok (.invokevirtual 183, 3) := by decide +kernel
theorem dX9_has_35 : decode cX9_has 35 = .ok (.ireturn, 1) := by decide +kernel
theorem dX9_hasAnew_0 : decode cX9_hasAnew 0 = .ok (.iload_n 1, 1) := by decide +kernel
theorem dX9_hasAnew_1 : decode cX9_hasAnew 1 = .ok (.iload_n 2, 1) := by decide +kernel
theorem dX9_hasAnew_2 : decode cX9_hasAnew 2 = .ok (.iload_n 3, 1) := by decide +kernel
theorem dX9_hasAnew_3 : decode cX9_hasAnew 3 = .ok (.invokestatic 166, 3) := by decide +kernel
theorem dX9_hasAnew_6 : decode cX9_hasAnew 6 = .ok (.ifCond .ne 13, 3) := by decide +kernel
theorem dX9_hasAnew_9 : decode cX9_hasAnew 9 = .ok (.new 143, 3) := by decide +kernel
theorem dX9_hasAnew_12 : decode cX9_hasAnew 12 = .ok (.dup, 1) := by decide +kernel
theorem dX9_hasAnew_13 : decode cX9_hasAnew 13 = .ok (.ldc 171, 2) := by decide +kernel
theorem dX9_hasAnew_15 : decode cX9_hasAnew 15 = .ok (.invokespecial 147, 3) := by decide +kernel
theorem dX9_hasAnew_18 : decode cX9_hasAnew 18 = .ok (.athrow, 1) := by decide +kernel
theorem dX9_hasAnew_19 : decode cX9_hasAnew 19 = .ok (.aload_n 0, 1) := by decide +kernel
theorem dX9_hasAnew_20 : decode cX9_hasAnew 20 = .ok (.getfield 10, 3) := by decide +kernel
theorem dX9_hasAnew_23 : decode cX9_hasAnew 23 = .ok (.invokevirtual 186, 3) := by decide +kernel
theorem dX9_hasAnew_26 : decode cX9_hasAnew 26 = .ok (.getfield 177, 3) := by decide +kernel
theorem dX9_hasAnew_29 : decode cX9_hasAnew 29 = .ok (.iload_n 1, 1) := by decide +kernel
theorem dX9_hasAnew_30 : decode cX9_hasAnew 30 = .ok (.iload_n 2, 1) := by decide +kernel
theorem dX9_hasAnew_31 : decode cX9_hasAnew 31 = .ok (.iload_n 3, 1) := by decide +kernel
theorem dX9_hasAnew_32 : decode cX9_hasAnew 32 = .ok (.invokevirtual 183, 3) := by decide +kernel
theorem dX9_hasAnew_35 : decode cX9_hasAnew 35 = .ok (.ireturn, 1) := by decide +kernel
theorem dX9_nameOf_0 : decode cX9_nameOf 0 = .ok (.iload_n 1, 1) := by decide +kernel
theorem dX9_nameOf_1 : decode cX9_nameOf 1 = .ok (.iload_n 2, 1) := by decide +kernel
theorem dX9_nameOf_2 : decode cX9_nameOf 2 = .ok (.iload_n 3, 1) := by decide +kernel
theorem dX9_nameOf_3 : decode cX9_nameOf 3 = .ok (.invokestatic 166, 3) := by decide +kernel
theorem dX9_nameOf_6 : decode cX9_nameOf 6 = .ok (.ifCond .ne 13, 3) := by decide +kernel
theorem dX9_nameOf_9 : decode cX9_nameOf 9 = .ok (.new 143, 3) := by decide +kernel
theorem dX9_nameOf_12 : decode cX9_nameOf 12 = .ok (.dup, 1) := by decide +kernel
theorem dX9_nameOf_13 : decode cX9_nameOf 13 = .ok (.ldc 171, 2) := by decide +kernel
theorem dX9_nameOf_15 : decode cX9_nameOf 15 = .ok (.invokespecial 147, 3) := by decide +kernel
theorem dX9_nameOf_18 : decode cX9_nameOf 18 = .ok (.athrow, 1) := by decide +kernel
theorem dX9_nameOf_19 : decode cX9_nameOf 19 = .ok (.iload 4, 2) := by decide +kernel
theorem dX9_nameOf_21 : decode cX9_nameOf 21 = .ok (.invokestatic 189, 3) := by decide +kernel
theorem dX9_nameOf_24 : decode cX9_nameOf 24 = .ok (.ifCond .ne 13, 3) := by decide +kernel
theorem dX9_nameOf_27 : decode cX9_nameOf 27 = .ok (.new 36, 3) := by decide +kernel
theorem dX9_nameOf_30 : decode cX9_nameOf 30 = .ok (.dup, 1) := by decide +kernel
theorem dX9_nameOf_31 : decode cX9_nameOf 31 = .ok (.ldc 192, 2) := by decide +kernel
theorem dX9_nameOf_33 : decode cX9_nameOf 33 = .ok (.invokespecial 40, 3) := by decide +kernel
theorem dX9_nameOf_36 : decode cX9_nameOf 36 = .ok (.athrow, 1) := by decide +kernel
theorem dX9_nameOf_37 : decode cX9_nameOf 37 = .ok (.aload_n 0, 1) := by decide +kernel
theorem dX9_nameOf_38 : decode cX9_nameOf 38 = .ok (.getfield 10, 3) := by decide +kernel
theorem dX9_nameOf_41 : decode cX9_nameOf 41 = .ok (.invokevirtual 173, 3) := by decide +kernel
theorem dX9_nameOf_44 : decode cX9_nameOf 44 = .ok (.iload_n 1, 1) := by decide +kernel
theorem dX9_nameOf_45 : decode cX9_nameOf 45 = .ok (.iload_n 2, 1) := by decide +kernel
theorem dX9_nameOf_46 : decode cX9_nameOf 46 = .ok (.iload_n 3, 1) := by decide +kernel
theorem dX9_nameOf_47 : decode cX9_nameOf 47 = .ok (.iload 4, 2) := by decide +kernel
theorem dX9_nameOf_49 : decode cX9_nameOf 49 = .ok (.invokevirtual 194, 3) := by decide +kernel
theorem dX9_nameOf_52 : decode cX9_nameOf 52 = .ok (.istore 5, 2) := by decide +kernel
theorem dX9_nameOf_54 : decode cX9_nameOf 54 = .ok (.iload 5, 2) := by decide +kernel
theorem dX9_nameOf_56 : decode cX9_nameOf 56 = .ok (.ifCond .ge 13, 3) := by decide +kernel
theorem dX9_nameOf_59 : decode cX9_nameOf 59 = .ok (.new 126, 3) := by decide +kernel
theorem dX9_nameOf_62 : decode cX9_nameOf 62 = .ok (.dup, 1) := by decide +kernel
theorem dX9_nameOf_63 : decode cX9_nameOf 63 = .ok (.ldc 198, 2) := by decide +kernel
theorem dX9_nameOf_65 : decode cX9_nameOf 65 = .ok (.invokespecial 130, 3) := by decide +kernel
theorem dX9_nameOf_68 : decode cX9_nameOf 68 = .ok (.athrow, 1) := by decide +kernel
theorem dX9_nameOf_69 : decode cX9_nameOf 69 = .ok (.iload 5, 2) := by decide +kernel
theorem dX9_nameOf_71 : decode cX9_nameOf 71 = .ok (.ireturn, 1) := by decide +kernel
theorem dX9_squares_0 : decode cX9_squares 0 = .ok (.iload_n 1, 1) := by decide +kernel
theorem dX9_squares_1 : decode cX9_squares 1 = .ok (.ifCond .lt 16, 3) := by decide +kernel
theorem dX9_squares_4 : decode cX9_squares 4 = .ok (.iload_n 1, 1) := by decide +kernel
theorem dX9_squares_5 : decode cX9_squares 5 = .ok (.bipush 40, 2) := by decide +kernel
theorem dX9_squares_7 : decode cX9_squares 7 = .ok (.if_icmp .ge 10, 3) := by decide +kernel
theorem dX9_squares_10 : decode cX9_squares 10 = .ok (.iload_n 2, 1) := by decide +kernel
theorem dX9_squares_11 : decode cX9_squares 11 = .ok (.invokestatic 189, 3) := by decide +kernel
theorem dX9_squares_14 : decode cX9_squares 14 = .ok (.ifCond .ne 13, 3) := by decide +kernel
theorem dX9_squares_17 : decode cX9_squares 17 = .ok (.new 36, 3) := by decide +kernel
theorem dX9_squares_20 : decode cX9_squares 20 = .ok (.dup, 1) := by decide +kernel
theorem dX9_squares_21 : decode cX9_squares 21 = .ok (.ldc 200, 2) := by decide +kernel
theorem dX9_squares_23 : decode cX9_squares 23 = .ok (.invokespecial 40, 3) := by decide +kernel
theorem dX9_squares_26 : decode cX9_squares 26 = .ok (.athrow, 1) := by decide +kernel
theorem dX9_squares_27 : decode cX9_squares 27 = .ok (.aload_n 0, 1) := by decide +kernel
theorem dX9_squares_28 : decode cX9_squares 28 = .ok (.getfield 10, 3) := by decide +kernel
theorem dX9_squares_31 : decode cX9_squares 31 = .ok (.iload_n 1, 1) := by decide +kernel
theorem dX9_squares_32 : decode cX9_squares 32 = .ok (.iload_n 2, 1) := by decide +kernel
theorem dX9_squares_33 : decode cX9_squares 33 = .ok (.invokevirtual 202, 3) := by decide +kernel
theorem dX9_squares_36 : decode cX9_squares 36 = .ok (.ireturn, 1) := by decide +kernel
theorem dX9_volume_0 : decode cX9_volume 0 = .ok (.aload_n 0, 1) := by decide +kernel
theorem dX9_volume_1 : decode cX9_volume 1 = .ok (.getfield 10, 3) := by decide +kernel
theorem dX9_volume_4 : decode cX9_volume 4 = .ok (.invokevirtual 173, 3) := by decide +kernel
theorem dX9_volume_7 : decode cX9_volume 7 = .ok (.getfield 177, 3) := by decide +kernel
theorem dX9_volume_10 : decode cX9_volume 10 = .ok (.invokevirtual 206, 3) := by decide +kernel
theorem dX9_volume_13 : decode cX9_volume 13 = .ok (.ireturn, 1) := by decide +kernel
theorem dX9_area_0 : decode cX9_area 0 = .ok (.iconst 0, 1) := by decide +kernel
theorem dX9_area_1 : decode cX9_area 1 = .ok (.istore_n 1, 1) := by decide +kernel
theorem dX9_area_2 : decode cX9_area 2 = .ok (.iconst 0, 1) := by decide +kernel
theorem dX9_area_3 : decode cX9_area 3 = .ok (.istore_n 2, 1) := by decide +kernel
theorem dX9_area_4 : decode cX9_area 4 = .ok (.iload_n 2, 1) := by decide +kernel
theorem dX9_area_5 : decode cX9_area 5 = .ok (.bipush 6, 2) := by decide +kernel
theorem dX9_area_7 : decode cX9_area 7 = .ok (.if_icmp .ge 26, 3) := by decide +kernel
theorem dX9_area_10 : decode cX9_area 10 = .ok (.iload_n 1, 1) := by decide +kernel
theorem dX9_area_11 : decode cX9_area 11 = .ok (.aload_n 0, 1) := by decide +kernel
theorem dX9_area_12 : decode cX9_area 12 = .ok (.getfield 10, 3) := by decide +kernel
theorem dX9_area_15 : decode cX9_area 15 = .ok (.invokevirtual 173, 3) := by decide +kernel
theorem dX9_area_18 : decode cX9_area 18 = .ok (.getfield 177, 3) := by decide +kernel
theorem dX9_area_21 : decode cX9_area 21 = .ok (.iload_n 2, 1) := by decide +kernel
theorem dX9_area_22 : decode cX9_area 22 = .ok (.invokevirtual 209, 3) := by decide +kernel
theorem dX9_area_25 : decode cX9_area 25 = .ok (.iadd, 1) := by decide +kernel
theorem dX9_area_26 : decode cX9_area 26 = .ok (.istore_n 1, 1) := by decide +kernel
theorem dX9_area_27 : decode cX9_area 27 = .ok (.iinc 2 1, 3) := by decide +kernel
theorem dX9_area_30 : decode cX9_area 30 = .ok (.goto (-26), 3) := by decide +kernel
theorem dX9_area_33 : decode cX9_area 33 = .ok (.iload_n 1, 1) := by decide +kernel
theorem dX9_area_34 : decode cX9_area 34 = .ok (.ireturn, 1) := by decide +kernel
theorem dX9_bodies_0 : decode cX9_bodies 0 = .ok (.aload_n 0, 1) := by decide +kernel
theorem dX9_bodies_1 : decode cX9_bodies 1 = .ok (.getfield 10, 3) := by decide +kernel
theorem dX9_bodies_4 : decode cX9_bodies 4 = .ok (.invokevirtual 212, 3) := by decide +kernel
theorem dX9_bodies_7 : decode cX9_bodies 7 = .ok (.ireturn, 1) := by decide +kernel
theorem dX9_euler_0 : decode cX9_euler 0 = .ok (.aload_n 0, 1) := by decide +kernel
theorem dX9_euler_1 : decode cX9_euler 1 = .ok (.getfield 10, 3) := by decide +kernel
theorem dX9_euler_4 : decode cX9_euler 4 = .ok (.invokevirtual 173, 3) := by decide +kernel
theorem dX9_euler_7 : decode cX9_euler 7 = .ok (.getfield 177, 3) := by decide +kernel
theorem dX9_euler_10 : decode cX9_euler 10 = .ok (.invokestatic 215, 3) := by decide +kernel
theorem dX9_euler_13 : decode cX9_euler 13 = .ok (.ireturn, 1) := by decide +kernel
theorem dX9_centre_0 : decode cX9_centre 0 = .ok (.iload_n 1, 1) := by decide +kernel
theorem dX9_centre_1 : decode cX9_centre 1 = .ok (.invokestatic 221, 3) := by decide +kernel
theorem dX9_centre_4 : decode cX9_centre 4 = .ok (.ifCond .ne 13, 3) := by decide +kernel
theorem dX9_centre_7 : decode cX9_centre 7 = .ok (.new 36, 3) := by decide +kernel
theorem dX9_centre_10 : decode cX9_centre 10 = .ok (.dup, 1) := by decide +kernel
theorem dX9_centre_11 : decode cX9_centre 11 = .ok (.ldc 224, 2) := by decide +kernel
theorem dX9_centre_13 : decode cX9_centre 13 = .ok (.invokespecial 40, 3) := by decide +kernel
theorem dX9_centre_16 : decode cX9_centre 16 = .ok (.athrow, 1) := by decide +kernel
theorem dX9_centre_17 : decode cX9_centre 17 = .ok (.aload_n 0, 1) := by decide +kernel
theorem dX9_centre_18 : decode cX9_centre 18 = .ok (.getfield 10, 3) := by decide +kernel
theorem dX9_centre_21 : decode cX9_centre 21 = .ok (.invokevirtual 173, 3) := by decide +kernel
theorem dX9_centre_24 : decode cX9_centre 24 = .ok (.getfield 177, 3) := by decide +kernel
theorem dX9_centre_27 : decode cX9_centre 27 = .ok (.astore_n 2, 1) := by decide +kernel
theorem dX9_centre_28 : decode cX9_centre 28 = .ok (.aload_n 2, 1) := by decide +kernel
theorem dX9_centre_29 : decode cX9_centre 29 = .ok (.invokevirtual 206, 3) := by decide +kernel
theorem dX9_centre_32 : decode cX9_centre 32 = .ok (.istore_n 3, 1) := by decide +kernel
theorem dX9_centre_33 : decode cX9_centre 33 = .ok (.iload_n 3, 1) := by decide +kernel
theorem dX9_centre_34 : decode cX9_centre 34 = .ok (.ifCond .ne 13, 3) := by decide +kernel
theorem dX9_centre_37 : decode cX9_centre 37 = .ok (.new 226, 3) := by decide +kernel
theorem dX9_centre_40 : decode cX9_centre 40 = .ok (.dup, 1) := by decide +kernel
theorem dX9_centre_41 : decode cX9_centre 41 = .ok (.ldc 228, 2) := by decide +kernel
theorem dX9_centre_43 : decode cX9_centre 43 = .ok (.invokespecial 230, 3) := by decide +kernel
theorem dX9_centre_46 : decode cX9_centre 46 = .ok (.athrow, 1) := by decide +kernel
theorem dX9_centre_47 : decode cX9_centre 47 = .ok (.aload_n 2, 1) := by decide +kernel
theorem dX9_centre_48 : decode cX9_centre 48 = .ok (.iload_n 1, 1) := by decide +kernel
theorem dX9_centre_49 : decode cX9_centre 49 = .ok (.invokestatic 231, 3) := by decide +kernel
theorem dX9_centre_52 : decode cX9_centre 52 = .ok (.i2d, 1) := by decide +kernel
theorem dX9_centre_53 : decode cX9_centre 53 = .ok (.iload_n 3, 1) := by decide +kernel
theorem dX9_centre_54 : decode cX9_centre 54 = .ok (.i2d, 1) := by decide +kernel
theorem dX9_centre_55 : decode cX9_centre 55 = .ok (.ddiv, 1) := by decide +kernel
theorem dX9_centre_56 : decode cX9_centre 56 = .ok (.dreturn, 1) := by decide +kernel
theorem dX9_filled_0 : decode cX9_filled 0 = .ok (.aload_n 0, 1) := by decide +kernel
theorem dX9_filled_1 : decode cX9_filled 1 = .ok (.getfield 10, 3) := by decide +kernel
theorem dX9_filled_4 : decode cX9_filled 4 = .ok (.invokevirtual 173, 3) := by decide +kernel
theorem dX9_filled_7 : decode cX9_filled 7 = .ok (.getfield 177, 3) := by decide +kernel
theorem dX9_filled_10 : decode cX9_filled 10 = .ok (.invokevirtual 206, 3) := by decide +kernel
theorem dX9_filled_13 : decode cX9_filled 13 = .ok (.i2f, 1) := by decide +kernel
theorem dX9_filled_14 : decode cX9_filled 14 = .ok (.ldc 235, 2) := by decide +kernel
theorem dX9_filled_16 : decode cX9_filled 16 = .ok (.fdiv, 1) := by decide +kernel
theorem dX9_filled_17 : decode cX9_filled 17 = .ok (.freturn, 1) := by decide +kernel
theorem dX9_addPart_0 : decode cX9_addPart 0 = .ok (.iload_n 1, 1) := by decide +kernel
theorem dX9_addPart_1 : decode cX9_addPart 1 = .ok (.invokestatic 236, 3) := by decide +kernel
theorem dX9_addPart_4 : decode cX9_addPart 4 = .ok (.ifCond .eq 17, 3) := by decide +kernel
theorem dX9_addPart_7 : decode cX9_addPart 7 = .ok (.iload_n 2, 1) := by decide +kernel
theorem dX9_addPart_8 : decode cX9_addPart 8 = .ok (.invokestatic 236, 3) := by decide +kernel
theorem dX9_addPart_11 : decode cX9_addPart 11 = .ok (.ifCond .eq 10, 3) := by decide +kernel
theorem dX9_addPart_14 : decode cX9_addPart 14 = .ok (.iload_n 3, 1) := by decide +kernel
theorem dX9_addPart_15 : decode cX9_addPart 15 = .ok (.invokestatic 236, 3) := by decide +kernel
theorem dX9_addPart_18 : decode cX9_addPart 18 = .ok (.ifCond .ne 13, 3) := by decide +kernel
theorem dX9_addPart_21 : decode cX9_addPart 21 = .ok (.new 36, 3) := by decide +kernel
theorem dX9_addPart_24 : decode cX9_addPart 24 = .ok (.dup, 1) := by decide +kernel
theorem dX9_addPart_25 : decode cX9_addPart 25 = .ok (.ldc 239, 2) := by decide +kernel
theorem dX9_addPart_27 : decode cX9_addPart 27 = .ok (.invokespecial 40, 3) := by decide +kernel
theorem dX9_addPart_30 : decode cX9_addPart 30 = .ok (.athrow, 1) := by decide +kernel
theorem dX9_addPart_31 : decode cX9_addPart 31 = .ok (.aload_n 0, 1) := by decide +kernel
theorem dX9_addPart_32 : decode cX9_addPart 32 = .ok (.getfield 19, 3) := by decide +kernel
theorem dX9_addPart_35 : decode cX9_addPart 35 = .ok (.getfield 241, 3) := by decide +kernel
theorem dX9_addPart_38 : decode cX9_addPart 38 = .ok (.bipush 6, 2) := by decide +kernel
theorem dX9_addPart_40 : decode cX9_addPart 40 = .ok (.if_icmp .lt 13, 3) := by decide +kernel
theorem dX9_addPart_43 : decode cX9_addPart 43 = .ok (.new 111, 3) := by decide +kernel
theorem dX9_addPart_46 : decode cX9_addPart 46 = .ok (.dup, 1) := by decide +kernel
theorem dX9_addPart_47 : decode cX9_addPart 47 = .ok (.ldc 242, 2) := by decide +kernel
theorem dX9_addPart_49 : decode cX9_addPart 49 = .ok (.invokespecial 115, 3) := by decide +kernel
theorem dX9_addPart_52 : decode cX9_addPart 52 = .ok (.athrow, 1) := by decide +kernel
theorem dX9_addPart_53 : decode cX9_addPart 53 = .ok (.aload_n 0, 1) := by decide +kernel
theorem dX9_addPart_54 : decode cX9_addPart 54 = .ok (.getfield 19, 3) := by decide +kernel
theorem dX9_addPart_57 : decode cX9_addPart 57 = .ok (.iload_n 1, 1) := by decide +kernel
theorem dX9_addPart_58 : decode cX9_addPart 58 = .ok (.iload_n 2, 1) := by decide +kernel
theorem dX9_addPart_59 : decode cX9_addPart 59 = .ok (.iload_n 3, 1) := by decide +kernel
theorem dX9_addPart_60 : decode cX9_addPart 60 = .ok (.invokevirtual 244, 3) := by decide +kernel
theorem dX9_addPart_63 : decode cX9_addPart 63 = .ok (.ireturn, 1) := by decide +kernel
theorem dX9_freeze_0 : decode cX9_freeze 0 = .ok (.aload_n 0, 1) := by decide +kernel
theorem dX9_freeze_1 : decode cX9_freeze 1 = .ok (.getfield 19, 3) := by decide +kernel
theorem dX9_freeze_4 : decode cX9_freeze 4 = .ok (.iload_n 1, 1) := by decide +kernel
theorem dX9_freeze_5 : decode cX9_freeze 5 = .ok (.invokevirtual 246, 3) := by decide +kernel
theorem dX9_freeze_8 : decode cX9_freeze 8 = .ok (.ifCond .ne 13, 3) := by decide +kernel
theorem dX9_freeze_11 : decode cX9_freeze 11 = .ok (.new 143, 3) := by decide +kernel
theorem dX9_freeze_14 : decode cX9_freeze 14 = .ok (.dup, 1) := by decide +kernel
theorem dX9_freeze_15 : decode cX9_freeze 15 = .ok (.ldc 249, 2) := by decide +kernel
theorem dX9_freeze_17 : decode cX9_freeze 17 = .ok (.invokespecial 147, 3) := by decide +kernel
theorem dX9_freeze_20 : decode cX9_freeze 20 = .ok (.athrow, 1) := by decide +kernel
theorem dX9_freeze_21 : decode cX9_freeze 21 = .ok (.aload_n 0, 1) := by decide +kernel
theorem dX9_freeze_22 : decode cX9_freeze 22 = .ok (.getfield 19, 3) := by decide +kernel
theorem dX9_freeze_25 : decode cX9_freeze 25 = .ok (.getfield 251, 3) := by decide +kernel
theorem dX9_freeze_28 : decode cX9_freeze 28 = .ok (.iload_n 1, 1) := by decide +kernel
theorem dX9_freeze_29 : decode cX9_freeze 29 = .ok (.baload, 1) := by decide +kernel
theorem dX9_freeze_30 : decode cX9_freeze 30 = .ok (.istore_n 3, 1) := by decide +kernel
theorem dX9_freeze_31 : decode cX9_freeze 31 = .ok (.aload_n 0, 1) := by decide +kernel
theorem dX9_freeze_32 : decode cX9_freeze 32 = .ok (.getfield 19, 3) := by decide +kernel
theorem dX9_freeze_35 : decode cX9_freeze 35 = .ok (.getfield 251, 3) := by decide +kernel
theorem dX9_freeze_38 : decode cX9_freeze 38 = .ok (.iload_n 1, 1) := by decide +kernel
theorem dX9_freeze_39 : decode cX9_freeze 39 = .ok (.iload_n 2, 1) := by decide +kernel
theorem dX9_freeze_40 : decode cX9_freeze 40 = .ok (.bastore, 1) := by decide +kernel
theorem dX9_freeze_41 : decode cX9_freeze 41 = .ok (.iload_n 2, 1) := by decide +kernel
theorem dX9_freeze_42 : decode cX9_freeze 42 = .ok (.ifCond .eq 25, 3) := by decide +kernel
theorem dX9_freeze_45 : decode cX9_freeze 45 = .ok (.aload_n 0, 1) := by decide +kernel
theorem dX9_freeze_46 : decode cX9_freeze 46 = .ok (.getfield 19, 3) := by decide +kernel
theorem dX9_freeze_49 : decode cX9_freeze 49 = .ok (.getfield 254, 3) := by decide +kernel
theorem dX9_freeze_52 : decode cX9_freeze 52 = .ok (.iload_n 1, 1) := by decide +kernel
theorem dX9_freeze_53 : decode cX9_freeze 53 = .ok (.aaload, 1) := by decide +kernel
theorem dX9_freeze_54 : decode cX9_freeze 54 = .ok (.aload_n 0, 1) := by decide +kernel
theorem dX9_freeze_55 : decode cX9_freeze 55 = .ok (.getfield 10, 3) := by decide +kernel
theorem dX9_freeze_58 : decode cX9_freeze 58 = .ok (.invokevirtual 173, 3) := by decide +kernel
theorem dX9_freeze_61 : decode cX9_freeze 61 = .ok (.getfield 177, 3) := by decide +kernel
theorem dX9_freeze_64 : decode cX9_freeze 64 = .ok (.invokevirtual 258, 3) := by decide +kernel
theorem dX9_freeze_67 : decode cX9_freeze 67 = .ok (.iload_n 3, 1) := by decide +kernel
theorem dX9_freeze_68 : decode cX9_freeze 68 = .ok (.ireturn, 1) := by decide +kernel
theorem dX9_mate_0 : decode cX9_mate 0 = .ok (.aload_n 0, 1) := by decide +kernel
theorem dX9_mate_1 : decode cX9_mate 1 = .ok (.getfield 19, 3) := by decide +kernel
theorem dX9_mate_4 : decode cX9_mate 4 = .ok (.iload_n 2, 1) := by decide +kernel
theorem dX9_mate_5 : decode cX9_mate 5 = .ok (.invokevirtual 246, 3) := by decide +kernel
theorem dX9_mate_8 : decode cX9_mate 8 = .ok (.ifCond .eq 19, 3) := by decide +kernel
theorem dX9_mate_11 : decode cX9_mate 11 = .ok (.aload_n 0, 1) := by decide +kernel
theorem dX9_mate_12 : decode cX9_mate 12 = .ok (.getfield 19, 3) := by decide +kernel
theorem dX9_mate_15 : decode cX9_mate 15 = .ok (.iload_n 3, 1) := by decide +kernel
theorem dX9_mate_16 : decode cX9_mate 16 = .ok (.invokevirtual 246, 3) := by decide +kernel
theorem dX9_mate_19 : decode cX9_mate 19 = .ok (.ifCond .ne 18, 3) := by decide +kernel
theorem dX9_mate_22 : decode cX9_mate 22 = .ok (.iload_n 3, 1) := by decide +kernel
theorem dX9_mate_23 : decode cX9_mate 23 = .ok (.iconst (-1), 1) := by decide +kernel
theorem dX9_mate_24 : decode cX9_mate 24 = .ok (.if_icmp .eq 13, 3) := by decide +kernel
theorem dX9_mate_27 : decode cX9_mate 27 = .ok (.new 143, 3) := by decide +kernel
theorem dX9_mate_30 : decode cX9_mate 30 = .ok (.dup, 1) := by decide +kernel
theorem dX9_mate_31 : decode cX9_mate 31 = .ok (.ldc 249, 2) := by decide +kernel
theorem dX9_mate_33 : decode cX9_mate 33 = .ok (.invokespecial 147, 3) := by decide +kernel
theorem dX9_mate_36 : decode cX9_mate 36 = .ok (.athrow, 1) := by decide +kernel
theorem dX9_mate_37 : decode cX9_mate 37 = .ok (.iload_n 1, 1) := by decide +kernel
theorem dX9_mate_38 : decode cX9_mate 38 = .ok (.invokestatic 221, 3) := by decide +kernel
theorem dX9_mate_41 : decode cX9_mate 41 = .ok (.ifCond .eq 16, 3) := by decide +kernel
theorem dX9_mate_44 : decode cX9_mate 44 = .ok (.iload_n 2, 1) := by decide +kernel
theorem dX9_mate_45 : decode cX9_mate 45 = .ok (.iload_n 3, 1) := by decide +kernel
theorem dX9_mate_46 : decode cX9_mate 46 = .ok (.if_icmp .eq 11, 3) := by decide +kernel
theorem dX9_mate_49 : decode cX9_mate 49 = .ok (.iload 4, 2) := by decide +kernel
theorem dX9_mate_51 : decode cX9_mate 51 = .ok (.invokestatic 236, 3) := by decide +kernel
theorem dX9_mate_54 : decode cX9_mate 54 = .ok (.ifCond .ne 14, 3) := by decide +kernel
theorem dX9_mate_57 : decode cX9_mate 57 = .ok (.new 36, 3) := by decide +kernel
theorem dX9_mate_60 : decode cX9_mate 60 = .ok (.dup, 1) := by decide +kernel
theorem dX9_mate_61 : decode cX9_mate 61 = .ok (.ldc_w 262, 3) := by decide +kernel
theorem dX9_mate_64 : decode cX9_mate 64 = .ok (.invokespecial 40, 3) := by decide +kernel
theorem dX9_mate_67 : decode cX9_mate 67 = .ok (.athrow, 1) := by decide +kernel
theorem dX9_mate_68 : decode cX9_mate 68 = .ok (.aload_n 0, 1) := by decide +kernel
theorem dX9_mate_69 : decode cX9_mate 69 = .ok (.getfield 19, 3) := by decide +kernel
theorem dX9_mate_72 : decode cX9_mate 72 = .ok (.iload_n 1, 1) := by decide +kernel
theorem dX9_mate_73 : decode cX9_mate 73 = .ok (.iload_n 2, 1) := by decide +kernel
theorem dX9_mate_74 : decode cX9_mate 74 = .ok (.iload_n 3, 1) := by decide +kernel
theorem dX9_mate_75 : decode cX9_mate 75 = .ok (.invokevirtual 264, 3) := by decide +kernel
theorem dX9_mate_78 : decode cX9_mate 78 = .ok (.ifCond .eq 14, 3) := by decide +kernel
theorem dX9_mate_81 : decode cX9_mate 81 = .ok (.new 57, 3) := by decide +kernel
theorem dX9_mate_84 : decode cX9_mate 84 = .ok (.dup, 1) := by decide +kernel
theorem dX9_mate_85 : decode cX9_mate 85 = .ok (.ldc_w 267, 3) := by decide +kernel
theorem dX9_mate_88 : decode cX9_mate 88 = .ok (.invokespecial 61, 3) := by decide +kernel
theorem dX9_mate_91 : decode cX9_mate 91 = .ok (.athrow, 1) := by decide +kernel
theorem dX9_mate_92 : decode cX9_mate 92 = .ok (.aload_n 0, 1) := by decide +kernel
theorem dX9_mate_93 : decode cX9_mate 93 = .ok (.getfield 19, 3) := by decide +kernel
theorem dX9_mate_96 : decode cX9_mate 96 = .ok (.getfield 269, 3) := by decide +kernel
theorem dX9_mate_99 : decode cX9_mate 99 = .ok (.bipush 12, 2) := by decide +kernel
theorem dX9_mate_101 : decode cX9_mate 101 = .ok (.if_icmp .lt 14, 3) := by decide +kernel
theorem dX9_mate_104 : decode cX9_mate 104 = .ok (.new 111, 3) := by decide +kernel
theorem dX9_mate_107 : decode cX9_mate 107 = .ok (.dup, 1) := by decide +kernel
theorem dX9_mate_108 : decode cX9_mate 108 = .ok (.ldc_w 272, 3) := by decide +kernel
theorem dX9_mate_111 : decode cX9_mate 111 = .ok (.invokespecial 115, 3) := by decide +kernel
theorem dX9_mate_114 : decode cX9_mate 114 = .ok (.athrow, 1) := by decide +kernel
theorem dX9_mate_115 : decode cX9_mate 115 = .ok (.aload_n 0, 1) := by decide +kernel
theorem dX9_mate_116 : decode cX9_mate 116 = .ok (.getfield 19, 3) := by decide +kernel
theorem dX9_mate_119 : decode cX9_mate 119 = .ok (.iload_n 1, 1) := by decide +kernel
theorem dX9_mate_120 : decode cX9_mate 120 = .ok (.iload_n 2, 1) := by decide +kernel
theorem dX9_mate_121 : decode cX9_mate 121 = .ok (.iload_n 3, 1) := by decide +kernel
theorem dX9_mate_122 : decode cX9_mate 122 = .ok (.iload 4, 2) := by decide +kernel
theorem dX9_mate_124 : decode cX9_mate 124 = .ok (.invokevirtual 274, 3) := by decide +kernel
theorem dX9_mate_127 : decode cX9_mate 127 = .ok (.ireturn, 1) := by decide +kernel
theorem dX9_drag_0 : decode cX9_drag 0 = .ok (.aload_n 0, 1) := by decide +kernel
theorem dX9_drag_1 : decode cX9_drag 1 = .ok (.getfield 19, 3) := by decide +kernel
theorem dX9_drag_4 : decode cX9_drag 4 = .ok (.iload_n 1, 1) := by decide +kernel
theorem dX9_drag_5 : decode cX9_drag 5 = .ok (.invokevirtual 246, 3) := by decide +kernel
theorem dX9_drag_8 : decode cX9_drag 8 = .ok (.ifCond .ne 13, 3) := by decide +kernel
theorem dX9_drag_11 : decode cX9_drag 11 = .ok (.new 143, 3) := by decide +kernel
theorem dX9_drag_14 : decode cX9_drag 14 = .ok (.dup, 1) := by decide +kernel
theorem dX9_drag_15 : decode cX9_drag 15 = .ok (.ldc 249, 2) := by decide +kernel
theorem dX9_drag_17 : decode cX9_drag 17 = .ok (.invokespecial 147, 3) := by decide +kernel
theorem dX9_drag_20 : decode cX9_drag 20 = .ok (.athrow, 1) := by decide +kernel
theorem dX9_drag_21 : decode cX9_drag 21 = .ok (.iload_n 2, 1) := by decide +kernel
theorem dX9_drag_22 : decode cX9_drag 22 = .ok (.invokestatic 221, 3) := by decide +kernel
theorem dX9_drag_25 : decode cX9_drag 25 = .ok (.ifCond .eq 10, 3) := by decide +kernel
theorem dX9_drag_28 : decode cX9_drag 28 = .ok (.iload_n 3, 1) := by decide +kernel
theorem dX9_drag_29 : decode cX9_drag 29 = .ok (.invokestatic 236, 3) := by decide +kernel
theorem dX9_drag_32 : decode cX9_drag 32 = .ok (.ifCond .ne 14, 3) := by decide +kernel
theorem dX9_drag_35 : decode cX9_drag 35 = .ok (.new 36, 3) := by decide +kernel
theorem dX9_drag_38 : decode cX9_drag 38 = .ok (.dup, 1) := by decide +kernel
theorem dX9_drag_39 : decode cX9_drag 39 = .ok (.ldc_w 277, 3) := by decide +kernel
theorem dX9_drag_42 : decode cX9_drag 42 = .ok (.invokespecial 40, 3) := by decide +kernel
theorem dX9_drag_45 : decode cX9_drag 45 = .ok (.athrow, 1) := by decide +kernel
theorem dX9_drag_46 : decode cX9_drag 46 = .ok (.aload_n 0, 1) := by decide +kernel
theorem dX9_drag_47 : decode cX9_drag 47 = .ok (.getfield 19, 3) := by decide +kernel
theorem dX9_drag_50 : decode cX9_drag 50 = .ok (.iload_n 2, 1) := by decide +kernel
theorem dX9_drag_51 : decode cX9_drag 51 = .ok (.iload_n 1, 1) := by decide +kernel
theorem dX9_drag_52 : decode cX9_drag 52 = .ok (.iconst (-1), 1) := by decide +kernel
theorem dX9_drag_53 : decode cX9_drag 53 = .ok (.invokevirtual 264, 3) := by decide +kernel
theorem dX9_drag_56 : decode cX9_drag 56 = .ok (.ifCond .eq 14, 3) := by decide +kernel
theorem dX9_drag_59 : decode cX9_drag 59 = .ok (.new 57, 3) := by decide +kernel
theorem dX9_drag_62 : decode cX9_drag 62 = .ok (.dup, 1) := by decide +kernel
theorem dX9_drag_63 : decode cX9_drag 63 = .ok (.ldc_w 279, 3) := by decide +kernel
theorem dX9_drag_66 : decode cX9_drag 66 = .ok (.invokespecial 61, 3) := by decide +kernel
theorem dX9_drag_69 : decode cX9_drag 69 = .ok (.athrow, 1) := by decide +kernel
theorem dX9_drag_70 : decode cX9_drag 70 = .ok (.aload_n 0, 1) := by decide +kernel
theorem dX9_drag_71 : decode cX9_drag 71 = .ok (.getfield 19, 3) := by decide +kernel
theorem dX9_drag_74 : decode cX9_drag 74 = .ok (.iload_n 2, 1) := by decide +kernel
theorem dX9_drag_75 : decode cX9_drag 75 = .ok (.aload_n 0, 1) := by decide +kernel
theorem dX9_drag_76 : decode cX9_drag 76 = .ok (.getfield 19, 3) := by decide +kernel
theorem dX9_drag_79 : decode cX9_drag 79 = .ok (.iload_n 2, 1) := by decide +kernel
theorem dX9_drag_80 : decode cX9_drag 80 = .ok (.iload_n 1, 1) := by decide +kernel
theorem dX9_drag_81 : decode cX9_drag 81 = .ok (.invokevirtual 281, 3) := by decide +kernel
theorem dX9_drag_84 : decode cX9_drag 84 = .ok (.iload_n 3, 1) := by decide +kernel
theorem dX9_drag_85 : decode cX9_drag 85 = .ok (.invokevirtual 284, 3) := by decide +kernel
theorem dX9_drag_88 : decode cX9_drag 88 = .ok (.ireturn, 1) := by decide +kernel
theorem dX9_moved_0 : decode cX9_moved 0 = .ok (.aload_n 0, 1) := by decide +kernel
theorem dX9_moved_1 : decode cX9_moved 1 = .ok (.getfield 19, 3) := by decide +kernel
theorem dX9_moved_4 : decode cX9_moved 4 = .ok (.iload_n 1, 1) := by decide +kernel
theorem dX9_moved_5 : decode cX9_moved 5 = .ok (.invokevirtual 246, 3) := by decide +kernel
theorem dX9_moved_8 : decode cX9_moved 8 = .ok (.ifCond .ne 13, 3) := by decide +kernel
theorem dX9_moved_11 : decode cX9_moved 11 = .ok (.new 143, 3) := by decide +kernel
theorem dX9_moved_14 : decode cX9_moved 14 = .ok (.dup, 1) := by decide +kernel
theorem dX9_moved_15 : decode cX9_moved 15 = .ok (.ldc 249, 2) := by decide +kernel
theorem dX9_moved_17 : decode cX9_moved 17 = .ok (.invokespecial 147, 3) := by decide +kernel
theorem dX9_moved_20 : decode cX9_moved 20 = .ok (.athrow, 1) := by decide +kernel
theorem dX9_moved_21 : decode cX9_moved 21 = .ok (.iload_n 2, 1) := by decide +kernel
theorem dX9_moved_22 : decode cX9_moved 22 = .ok (.invokestatic 221, 3) := by decide +kernel
theorem dX9_moved_25 : decode cX9_moved 25 = .ok (.ifCond .ne 13, 3) := by decide +kernel
theorem dX9_moved_28 : decode cX9_moved 28 = .ok (.new 36, 3) := by decide +kernel
theorem dX9_moved_31 : decode cX9_moved 31 = .ok (.dup, 1) := by decide +kernel
theorem dX9_moved_32 : decode cX9_moved 32 = .ok (.ldc 224, 2) := by decide +kernel
theorem dX9_moved_34 : decode cX9_moved 34 = .ok (.invokespecial 40, 3) := by decide +kernel
theorem dX9_moved_37 : decode cX9_moved 37 = .ok (.athrow, 1) := by decide +kernel
theorem dX9_moved_38 : decode cX9_moved 38 = .ok (.aload_n 0, 1) := by decide +kernel
theorem dX9_moved_39 : decode cX9_moved 39 = .ok (.getfield 19, 3) := by decide +kernel
theorem dX9_moved_42 : decode cX9_moved 42 = .ok (.iload_n 1, 1) := by decide +kernel
theorem dX9_moved_43 : decode cX9_moved 43 = .ok (.iload_n 2, 1) := by decide +kernel
theorem dX9_moved_44 : decode cX9_moved 44 = .ok (.invokevirtual 287, 3) := by decide +kernel
theorem dX9_moved_47 : decode cX9_moved 47 = .ok (.ireturn, 1) := by decide +kernel
theorem dX9_freedoms_0 : decode cX9_freedoms 0 = .ok (.iconst 3, 1) := by decide +kernel
theorem dX9_freedoms_1 : decode cX9_freedoms 1 = .ok (.aload_n 0, 1) := by decide +kernel
theorem dX9_freedoms_2 : decode cX9_freedoms 2 = .ok (.getfield 19, 3) := by decide +kernel
theorem dX9_freedoms_5 : decode cX9_freedoms 5 = .ok (.getfield 241, 3) := by decide +kernel
theorem dX9_freedoms_8 : decode cX9_freedoms 8 = .ok (.imul, 1) := by decide +kernel
theorem dX9_freedoms_9 : decode cX9_freedoms 9 = .ok (.aload_n 0, 1) := by decide +kernel
theorem dX9_freedoms_10 : decode cX9_freedoms 10 = .ok (.getfield 19, 3) := by decide +kernel
theorem dX9_freedoms_13 : decode cX9_freedoms 13 = .ok (.getfield 269, 3) := by decide +kernel
theorem dX9_freedoms_16 : decode cX9_freedoms 16 = .ok (.isub, 1) := by decide +kernel
theorem dX9_freedoms_17 : decode cX9_freedoms 17 = .ok (.ireturn, 1) := by decide +kernel
theorem dX9_clashes_0 : decode cX9_clashes 0 = .ok (.aload_n 0, 1) := by decide +kernel
theorem dX9_clashes_1 : decode cX9_clashes 1 = .ok (.getfield 19, 3) := by decide +kernel
theorem dX9_clashes_4 : decode cX9_clashes 4 = .ok (.iload_n 1, 1) := by decide +kernel
theorem dX9_clashes_5 : decode cX9_clashes 5 = .ok (.invokevirtual 246, 3) := by decide +kernel
theorem dX9_clashes_8 : decode cX9_clashes 8 = .ok (.ifCond .eq 14, 3) := by decide +kernel
theorem dX9_clashes_11 : decode cX9_clashes 11 = .ok (.aload_n 0, 1) := by decide +kernel
theorem dX9_clashes_12 : decode cX9_clashes 12 = .ok (.getfield 19, 3) := by decide +kernel
theorem dX9_clashes_15 : decode cX9_clashes 15 = .ok (.iload_n 2, 1) := by decide +kernel
theorem dX9_clashes_16 : decode cX9_clashes 16 = .ok (.invokevirtual 246, 3) := by decide +kernel
theorem dX9_clashes_19 : decode cX9_clashes 19 = .ok (.ifCond .ne 13, 3) := by decide +kernel
theorem dX9_clashes_22 : decode cX9_clashes 22 = .ok (.new 143, 3) := by decide +kernel
theorem dX9_clashes_25 : decode cX9_clashes 25 = .ok (.dup, 1) := by decide +kernel
theorem dX9_clashes_26 : decode cX9_clashes 26 = .ok (.ldc 249, 2) := by decide +kernel
theorem dX9_clashes_28 : decode cX9_clashes 28 = .ok (.invokespecial 147, 3) := by decide +kernel
theorem dX9_clashes_31 : decode cX9_clashes 31 = .ok (.athrow, 1) := by decide +kernel
theorem dX9_clashes_32 : decode cX9_clashes 32 = .ok (.iload_n 1, 1) := by decide +kernel
theorem dX9_clashes_33 : decode cX9_clashes 33 = .ok (.iload_n 2, 1) := by decide +kernel
theorem dX9_clashes_34 : decode cX9_clashes 34 = .ok (.if_icmp .ne 14, 3) := by decide +kernel
theorem dX9_clashes_37 : decode cX9_clashes 37 = .ok (.new 36, 3) := by decide +kernel
theorem dX9_clashes_40 : decode cX9_clashes 40 = .ok (.dup, 1) := by decide +kernel
theorem dX9_clashes_41 : decode cX9_clashes 41 = .ok (.ldc_w 290, 3) := by decide +kernel
theorem dX9_clashes_44 : decode cX9_clashes 44 = .ok (.invokespecial 40, 3) := by decide +kernel
theorem dX9_clashes_47 : decode cX9_clashes 47 = .ok (.athrow, 1) := by decide +kernel
theorem dX9_clashes_48 : decode cX9_clashes 48 = .ok (.aload_n 0, 1) := by decide +kernel
theorem dX9_clashes_49 : decode cX9_clashes 49 = .ok (.getfield 19, 3) := by decide +kernel
theorem dX9_clashes_52 : decode cX9_clashes 52 = .ok (.iload_n 1, 1) := by decide +kernel
theorem dX9_clashes_53 : decode cX9_clashes 53 = .ok (.iload_n 2, 1) := by decide +kernel
theorem dX9_clashes_54 : decode cX9_clashes 54 = .ok (.aload_n 0, 1) := by decide +kernel
theorem dX9_clashes_55 : decode cX9_clashes 55 = .ok (.getfield 10, 3) := by decide +kernel
theorem dX9_clashes_58 : decode cX9_clashes 58 = .ok (.invokevirtual 173, 3) := by decide +kernel
theorem dX9_clashes_61 : decode cX9_clashes 61 = .ok (.getfield 177, 3) := by decide +kernel
theorem dX9_clashes_64 : decode cX9_clashes 64 = .ok (.invokevirtual 292, 3) := by decide +kernel
theorem dX9_clashes_67 : decode cX9_clashes 67 = .ok (.ireturn, 1) := by decide +kernel
theorem dX9_depth_0 : decode cX9_depth 0 = .ok (.iload_n 1, 1) := by decide +kernel
theorem dX9_depth_1 : decode cX9_depth 1 = .ok (.invokestatic 221, 3) := by decide +kernel
theorem dX9_depth_4 : decode cX9_depth 4 = .ok (.ifCond .ne 13, 3) := by decide +kernel
theorem dX9_depth_7 : decode cX9_depth 7 = .ok (.new 36, 3) := by decide +kernel
theorem dX9_depth_10 : decode cX9_depth 10 = .ok (.dup, 1) := by decide +kernel
theorem dX9_depth_11 : decode cX9_depth 11 = .ok (.ldc 224, 2) := by decide +kernel
theorem dX9_depth_13 : decode cX9_depth 13 = .ok (.invokespecial 40, 3) := by decide +kernel
theorem dX9_depth_16 : decode cX9_depth 16 = .ok (.athrow, 1) := by decide +kernel
theorem dX9_depth_17 : decode cX9_depth 17 = .ok (.iload_n 3, 1) := by decide +kernel
theorem dX9_depth_18 : decode cX9_depth 18 = .ok (.iload 4, 2) := by decide +kernel
theorem dX9_depth_20 : decode cX9_depth 20 = .ok (.iconst 0, 1) := by decide +kernel
theorem dX9_depth_21 : decode cX9_depth 21 = .ok (.invokestatic 166, 3) := by decide +kernel
theorem dX9_depth_24 : decode cX9_depth 24 = .ok (.ifCond .ne 14, 3) := by decide +kernel
theorem dX9_depth_27 : decode cX9_depth 27 = .ok (.new 143, 3) := by decide +kernel
theorem dX9_depth_30 : decode cX9_depth 30 = .ok (.dup, 1) := by decide +kernel
theorem dX9_depth_31 : decode cX9_depth 31 = .ok (.ldc_w 296, 3) := by decide +kernel
theorem dX9_depth_34 : decode cX9_depth 34 = .ok (.invokespecial 147, 3) := by decide +kernel
theorem dX9_depth_37 : decode cX9_depth 37 = .ok (.athrow, 1) := by decide +kernel
theorem dX9_depth_38 : decode cX9_depth 38 = .ok (.aload_n 0, 1) := by decide +kernel
theorem dX9_depth_39 : decode cX9_depth 39 = .ok (.getfield 10, 3) := by decide +kernel
theorem dX9_depth_42 : decode cX9_depth 42 = .ok (.invokevirtual 173, 3) := by decide +kernel
theorem dX9_depth_45 : decode cX9_depth 45 = .ok (.getfield 177, 3) := by decide +kernel
theorem dX9_depth_48 : decode cX9_depth 48 = .ok (.iload_n 1, 1) := by decide +kernel
theorem dX9_depth_49 : decode cX9_depth 49 = .ok (.iload_n 2, 1) := by decide +kernel
theorem dX9_depth_50 : decode cX9_depth 50 = .ok (.iload_n 3, 1) := by decide +kernel
theorem dX9_depth_51 : decode cX9_depth 51 = .ok (.iload 4, 2) := by decide +kernel
theorem dX9_depth_53 : decode cX9_depth 53 = .ok (.invokestatic 298, 3) := by decide +kernel
theorem dX9_depth_56 : decode cX9_depth 56 = .ok (.ireturn, 1) := by decide +kernel
theorem dX9_lines_0 : decode cX9_lines 0 = .ok (.iload_n 1, 1) := by decide +kernel
theorem dX9_lines_1 : decode cX9_lines 1 = .ok (.invokestatic 221, 3) := by decide +kernel
theorem dX9_lines_4 : decode cX9_lines 4 = .ok (.ifCond .ne 13, 3) := by decide +kernel
theorem dX9_lines_7 : decode cX9_lines 7 = .ok (.new 36, 3) := by decide +kernel
theorem dX9_lines_10 : decode cX9_lines 10 = .ok (.dup, 1) := by decide +kernel
theorem dX9_lines_11 : decode cX9_lines 11 = .ok (.ldc 224, 2) := by decide +kernel
theorem dX9_lines_13 : decode cX9_lines 13 = .ok (.invokespecial 40, 3) := by decide +kernel
theorem dX9_lines_16 : decode cX9_lines 16 = .ok (.athrow, 1) := by decide +kernel
theorem dX9_lines_17 : decode cX9_lines 17 = .ok (.aload_n 0, 1) := by decide +kernel
theorem dX9_lines_18 : decode cX9_lines 18 = .ok (.getfield 10, 3) := by decide +kernel
theorem dX9_lines_21 : decode cX9_lines 21 = .ok (.invokevirtual 173, 3) := by decide +kernel
theorem dX9_lines_24 : decode cX9_lines 24 = .ok (.getfield 177, 3) := by decide +kernel
theorem dX9_lines_27 : decode cX9_lines 27 = .ok (.iload_n 1, 1) := by decide +kernel
theorem dX9_lines_28 : decode cX9_lines 28 = .ok (.iload_n 2, 1) := by decide +kernel
theorem dX9_lines_29 : decode cX9_lines 29 = .ok (.invokestatic 304, 3) := by decide +kernel
theorem dX9_lines_32 : decode cX9_lines 32 = .ok (.ireturn, 1) := by decide +kernel
theorem dX9_isSound_0 : decode cX9_isSound 0 = .ok (.aload_n 0, 1) := by decide +kernel
theorem dX9_isSound_1 : decode cX9_isSound 1 = .ok (.getfield 10, 3) := by decide +kernel
theorem dX9_isSound_4 : decode cX9_isSound 4 = .ok (.invokevirtual 173, 3) := by decide +kernel
theorem dX9_isSound_7 : decode cX9_isSound 7 = .ok (.getfield 177, 3) := by decide +kernel
theorem dX9_isSound_10 : decode cX9_isSound 10 = .ok (.astore_n 1, 1) := by decide +kernel
theorem dX9_isSound_11 : decode cX9_isSound 11 = .ok (.aload_n 1, 1) := by decide +kernel
theorem dX9_isSound_12 : decode cX9_isSound 12 = .ok (.aload_n 0, 1) := by decide +kernel
theorem dX9_isSound_13 : decode cX9_isSound 13 = .ok (.getfield 10, 3) := by decide +kernel
theorem dX9_isSound_16 : decode cX9_isSound 16 = .ok (.invokevirtual 186, 3) := by decide +kernel
theorem dX9_isSound_19 : decode cX9_isSound 19 = .ok (.getfield 177, 3) := by decide +kernel
theorem dX9_isSound_22 : decode cX9_isSound 22 = .ok (.invokevirtual 308, 3) := by decide +kernel
theorem dX9_isSound_25 : decode cX9_isSound 25 = .ok (.ifCond .eq 37, 3) := by decide +kernel
theorem dX9_isSound_28 : decode cX9_isSound 28 = .ok (.aload_n 1, 1) := by decide +kernel
theorem dX9_isSound_29 : decode cX9_isSound 29 = .ok (.invokestatic 312, 3) := by decide +kernel
theorem dX9_isSound_32 : decode cX9_isSound 32 = .ok (.ifCond .eq 30, 3) := by decide +kernel
theorem dX9_isSound_35 : decode cX9_isSound 35 = .ok (.aload_n 0, 1) := by decide +kernel
theorem dX9_isSound_36 : decode cX9_isSound 36 = .ok (.getfield 10, 3) := by decide +kernel
theorem dX9_isSound_39 : decode cX9_isSound 39 = .ok (.getfield 43, 3) := by decide +kernel
theorem dX9_isSound_42 : decode cX9_isSound 42 = .ok (.invokevirtual 77, 3) := by decide +kernel
theorem dX9_isSound_45 : decode cX9_isSound 45 = .ok (.ifCond .eq 17, 3) := by decide +kernel
theorem dX9_isSound_48 : decode cX9_isSound 48 = .ok (.aload_n 0, 1) := by decide +kernel
theorem dX9_isSound_49 : decode cX9_isSound 49 = .ok (.getfield 19, 3) := by decide +kernel
theorem dX9_isSound_52 : decode cX9_isSound 52 = .ok (.invokevirtual 315, 3) := by decide +kernel
theorem dX9_isSound_55 : decode cX9_isSound 55 = .ok (.ifCond .eq 7, 3) := by decide +kernel
theorem dX9_isSound_58 : decode cX9_isSound 58 = .ok (.iconst 1, 1) := by decide +kernel
theorem dX9_isSound_59 : decode cX9_isSound 59 = .ok (.goto 4, 3) := by decide +kernel
theorem dX9_isSound_62 : decode cX9_isSound 62 = .ok (.iconst 0, 1) := by decide +kernel
theorem dX9_isSound_63 : decode cX9_isSound 63 = .ok (.ireturn, 1) := by decide +kernel
theorem dX9_isAxis_0 : decode cX9_isAxis 0 = .ok (.iload_n 0, 1) := by decide +kernel
theorem dX9_isAxis_1 : decode cX9_isAxis 1 = .ok (.ifCond .lt 12, 3) := by decide +kernel
theorem dX9_isAxis_4 : decode cX9_isAxis 4 = .ok (.iload_n 0, 1) := by decide +kernel
theorem dX9_isAxis_5 : decode cX9_isAxis 5 = .ok (.iconst 3, 1) := by decide +kernel
theorem dX9_isAxis_6 : decode cX9_isAxis 6 = .ok (.if_icmp .ge 7, 3) := by decide +kernel
theorem dX9_isAxis_9 : decode cX9_isAxis 9 = .ok (.iconst 1, 1) := by decide +kernel
theorem dX9_isAxis_10 : decode cX9_isAxis 10 = .ok (.goto 4, 3) := by decide +kernel
theorem dX9_isAxis_13 : decode cX9_isAxis 13 = .ok (.iconst 0, 1) := by decide +kernel
theorem dX9_isAxis_14 : decode cX9_isAxis 14 = .ok (.ireturn, 1) := by decide +kernel
theorem dX9_isSide_0 : decode cX9_isSide 0 = .ok (.iload_n 0, 1) := by decide +kernel
theorem dX9_isSide_1 : decode cX9_isSide 1 = .ok (.ifCond .lt 13, 3) := by decide +kernel
theorem dX9_isSide_4 : decode cX9_isSide 4 = .ok (.iload_n 0, 1) := by decide +kernel
theorem dX9_isSide_5 : decode cX9_isSide 5 = .ok (.bipush 6, 2) := by decide +kernel
theorem dX9_isSide_7 : decode cX9_isSide 7 = .ok (.if_icmp .ge 7, 3) := by decide +kernel
theorem dX9_isSide_10 : decode cX9_isSide 10 = .ok (.iconst 1, 1) := by decide +kernel
theorem dX9_isSide_11 : decode cX9_isSide 11 = .ok (.goto 4, 3) := by decide +kernel
theorem dX9_isSide_14 : decode cX9_isSide 14 = .ok (.iconst 0, 1) := by decide +kernel
theorem dX9_isSide_15 : decode cX9_isSide 15 = .ok (.ireturn, 1) := by decide +kernel
theorem dX9_isGiven_0 : decode cX9_isGiven 0 = .ok (.iload_n 0, 1) := by decide +kernel
theorem dX9_isGiven_1 : decode cX9_isGiven 1 = .ok (.bipush (-20), 2) := by decide +kernel
theorem dX9_isGiven_3 : decode cX9_isGiven 3 = .ok (.if_icmp .lt 13, 3) := by decide +kernel
theorem dX9_isGiven_6 : decode cX9_isGiven 6 = .ok (.iload_n 0, 1) := by decide +kernel
theorem dX9_isGiven_7 : decode cX9_isGiven 7 = .ok (.bipush 20, 2) := by decide +kernel
theorem dX9_isGiven_9 : decode cX9_isGiven 9 = .ok (.if_icmp .gt 7, 3) := by decide +kernel
theorem dX9_isGiven_12 : decode cX9_isGiven 12 = .ok (.iconst 1, 1) := by decide +kernel
theorem dX9_isGiven_13 : decode cX9_isGiven 13 = .ok (.goto 4, 3) := by decide +kernel
theorem dX9_isGiven_16 : decode cX9_isGiven 16 = .ok (.iconst 0, 1) := by decide +kernel
theorem dX9_isGiven_17 : decode cX9_isGiven 17 = .ok (.ireturn, 1) := by decide +kernel
theorem dX9_areTerms_0 : decode cX9_areTerms 0 = .ok (.iload_n 0, 1) := by decide +kernel
theorem dX9_areTerms_1 : decode cX9_areTerms 1 = .ok (.invokestatic 33, 3) := by decide +kernel
theorem dX9_areTerms_4 : decode cX9_areTerms 4 = .ok (.ifCond .eq 21, 3) := by decide +kernel
theorem dX9_areTerms_7 : decode cX9_areTerms 7 = .ok (.iload_n 1, 1) := by decide +kernel
theorem dX9_areTerms_8 : decode cX9_areTerms 8 = .ok (.invokestatic 33, 3) := by decide +kernel
theorem dX9_areTerms_11 : decode cX9_areTerms 11 = .ok (.ifCond .eq 14, 3) := by decide +kernel
theorem dX9_areTerms_14 : decode cX9_areTerms 14 = .ok (.iload_n 2, 1) := by decide +kernel
theorem dX9_areTerms_15 : decode cX9_areTerms 15 = .ok (.invokestatic 33, 3) := by decide +kernel
theorem dX9_areTerms_18 : decode cX9_areTerms 18 = .ok (.ifCond .eq 7, 3) := by decide +kernel
theorem dX9_areTerms_21 : decode cX9_areTerms 21 = .ok (.iconst 1, 1) := by decide +kernel
theorem dX9_areTerms_22 : decode cX9_areTerms 22 = .ok (.goto 4, 3) := by decide +kernel
theorem dX9_areTerms_25 : decode cX9_areTerms 25 = .ok (.iconst 0, 1) := by decide +kernel
theorem dX9_areTerms_26 : decode cX9_areTerms 26 = .ok (.ireturn, 1) := by decide +kernel
theorem dX10_init_0 : decode cX10_init 0 = .ok (.aload_n 0, 1) := by decide +kernel
theorem dX10_init_1 : decode cX10_init 1 = .ok (.invokespecial 1, 3) := by decide +kernel
theorem dX10_init_4 : decode cX10_init 4 = .ok (.aload_n 0, 1) := by decide +kernel
theorem dX10_init_5 : decode cX10_init 5 = .ok (.bipush 8, 2) := by decide +kernel
theorem dX10_init_7 : decode cX10_init 7 = .ok (.newarray .int, 2) := by decide +kernel
theorem dX10_init_9 : decode cX10_init 9 = .ok (.putfield 7, 3) := by decide +kernel
theorem dX10_init_12 : decode cX10_init 12 = .ok (.aload_n 0, 1) := by decide +kernel
theorem dX10_init_13 : decode cX10_init 13 = .ok (.bipush 8, 2) := by decide +kernel
theorem dX10_init_15 : decode cX10_init 15 = .ok (.newarray .int, 2) := by decide +kernel
theorem dX10_init_17 : decode cX10_init 17 = .ok (.putfield 13, 3) := by decide +kernel
theorem dX10_init_20 : decode cX10_init 20 = .ok (.aload_n 0, 1) := by decide +kernel
theorem dX10_init_21 : decode cX10_init 21 = .ok (.bipush 8, 2) := by decide +kernel
theorem dX10_init_23 : decode cX10_init 23 = .ok (.newarray .char, 2) := by decide +kernel
theorem dX10_init_25 : decode cX10_init 25 = .ok (.putfield 16, 3) := by decide +kernel
theorem dX10_init_28 : decode cX10_init 28 = .ok (.aload_n 0, 1) := by decide +kernel
theorem dX10_init_29 : decode cX10_init 29 = .ok (.bipush 8, 2) := by decide +kernel
theorem dX10_init_31 : decode cX10_init 31 = .ok (.newarray .int, 2) := by decide +kernel
theorem dX10_init_33 : decode cX10_init 33 = .ok (.putfield 20, 3) := by decide +kernel
theorem dX10_init_36 : decode cX10_init 36 = .ok (.aload_n 0, 1) := by decide +kernel
theorem dX10_init_37 : decode cX10_init 37 = .ok (.bipush 13, 2) := by decide +kernel
theorem dX10_init_39 : decode cX10_init 39 = .ok (.newarray .int, 2) := by decide +kernel
theorem dX10_init_41 : decode cX10_init 41 = .ok (.putfield 23, 3) := by decide +kernel
theorem dX10_init_44 : decode cX10_init 44 = .ok (.aload_n 0, 1) := by decide +kernel
theorem dX10_init_45 : decode cX10_init 45 = .ok (.bipush 40, 2) := by decide +kernel
theorem dX10_init_47 : decode cX10_init 47 = .ok (.newarray .char, 2) := by decide +kernel
theorem dX10_init_49 : decode cX10_init 49 = .ok (.putfield 26, 3) := by decide +kernel
theorem dX10_init_52 : decode cX10_init 52 = .ok (.aload_n 0, 1) := by decide +kernel
theorem dX10_init_53 : decode cX10_init 53 = .ok (.sipush 240, 3) := by decide +kernel
theorem dX10_init_56 : decode cX10_init 56 = .ok (.newarray .int, 2) := by decide +kernel
theorem dX10_init_58 : decode cX10_init 58 = .ok (.putfield 29, 3) := by decide +kernel
theorem dX10_init_61 : decode cX10_init 61 = .ok (.aload_n 0, 1) := by decide +kernel
theorem dX10_init_62 : decode cX10_init 62 = .ok (.bipush 40, 2) := by decide +kernel
theorem dX10_init_64 : decode cX10_init 64 = .ok (.newarray .boolean, 2) := by decide +kernel
theorem dX10_init_66 : decode cX10_init 66 = .ok (.putfield 32, 3) := by decide +kernel
theorem dX10_init_69 : decode cX10_init 69 = .ok (.aload_n 0, 1) := by decide +kernel
theorem dX10_init_70 : decode cX10_init 70 = .ok (.bipush 40, 2) := by decide +kernel
theorem dX10_init_72 : decode cX10_init 72 = .ok (.newarray .boolean, 2) := by decide +kernel
theorem dX10_init_74 : decode cX10_init 74 = .ok (.putfield 36, 3) := by decide +kernel
theorem dX10_init_77 : decode cX10_init 77 = .ok (.aload_n 0, 1) := by decide +kernel
theorem dX10_init_78 : decode cX10_init 78 = .ok (.bipush 40, 2) := by decide +kernel
theorem dX10_init_80 : decode cX10_init 80 = .ok (.newarray .char, 2) := by decide +kernel
theorem dX10_init_82 : decode cX10_init 82 = .ok (.putfield 39, 3) := by decide +kernel
theorem dX10_init_85 : decode cX10_init 85 = .ok (.aload_n 0, 1) := by decide +kernel
theorem dX10_init_86 : decode cX10_init 86 = .ok (.bipush 13, 2) := by decide +kernel
theorem dX10_init_88 : decode cX10_init 88 = .ok (.newarray .int, 2) := by decide +kernel
theorem dX10_init_90 : decode cX10_init 90 = .ok (.putfield 42, 3) := by decide +kernel
theorem dX10_init_93 : decode cX10_init 93 = .ok (.aload_n 0, 1) := by decide +kernel
theorem dX10_init_94 : decode cX10_init 94 = .ok (.sipush 240, 3) := by decide +kernel
theorem dX10_init_97 : decode cX10_init 97 = .ok (.newarray .int, 2) := by decide +kernel
theorem dX10_init_99 : decode cX10_init 99 = .ok (.putfield 45, 3) := by decide +kernel
theorem dX10_init_102 : decode cX10_init 102 = .ok (.aload_n 0, 1) := by decide +kernel
theorem dX10_init_103 : decode cX10_init 103 = .ok (.bipush 40, 2) := by decide +kernel
theorem dX10_init_105 : decode cX10_init 105 = .ok (.newarray .boolean, 2) := by decide +kernel
theorem dX10_init_107 : decode cX10_init 107 = .ok (.putfield 48, 3) := by decide +kernel
theorem dX10_init_110 : decode cX10_init 110 = .ok (.aload_n 0, 1) := by decide +kernel
theorem dX10_init_111 : decode cX10_init 111 = .ok (.bipush 8, 2) := by decide +kernel
theorem dX10_init_113 : decode cX10_init 113 = .ok (.newarray .int, 2) := by decide +kernel
theorem dX10_init_115 : decode cX10_init 115 = .ok (.putfield 51, 3) := by decide +kernel
theorem dX10_init_118 : decode cX10_init 118 = .ok (.aload_n 0, 1) := by decide +kernel
theorem dX10_init_119 : decode cX10_init 119 = .ok (.sipush 512, 3) := by decide +kernel
theorem dX10_init_122 : decode cX10_init 122 = .ok (.newarray .boolean, 2) := by decide +kernel
theorem dX10_init_124 : decode cX10_init 124 = .ok (.putfield 54, 3) := by decide +kernel
theorem dX10_init_127 : decode cX10_init 127 = .ok (.aload_n 0, 1) := by decide +kernel
theorem dX10_init_128 : decode cX10_init 128 = .ok (.sipush 512, 3) := by decide +kernel
theorem dX10_init_131 : decode cX10_init 131 = .ok (.newarray .boolean, 2) := by decide +kernel
theorem dX10_init_133 : decode cX10_init 133 = .ok (.putfield 57, 3) := by decide +kernel
theorem dX10_init_136 : decode cX10_init 136 = .ok (.aload_n 0, 1) := by decide +kernel
theorem dX10_init_137 : decode cX10_init 137 = .ok (.sipush 3072, 3) := by decide +kernel
theorem dX10_init_140 : decode cX10_init 140 = .ok (.newarray .int, 2) := by decide +kernel
theorem dX10_init_142 : decode cX10_init 142 = .ok (.putfield 60, 3) := by decide +kernel
theorem dX10_init_145 : decode cX10_init 145 = .ok (.aload_n 0, 1) := by decide +kernel
theorem dX10_init_146 : decode cX10_init 146 = .ok (.sipush 512, 3) := by decide +kernel
theorem dX10_init_149 : decode cX10_init 149 = .ok (.newarray .boolean, 2) := by decide +kernel
theorem dX10_init_151 : decode cX10_init 151 = .ok (.putfield 63, 3) := by decide +kernel
theorem dX10_init_154 : decode cX10_init 154 = .ok (.aload_n 0, 1) := by decide +kernel
theorem dX10_init_155 : decode cX10_init 155 = .ok (.sipush 729, 3) := by decide +kernel
theorem dX10_init_158 : decode cX10_init 158 = .ok (.newarray .boolean, 2) := by decide +kernel
theorem dX10_init_160 : decode cX10_init 160 = .ok (.putfield 66, 3) := by decide +kernel
theorem dX10_init_163 : decode cX10_init 163 = .ok (.aload_n 0, 1) := by decide +kernel
theorem dX10_init_164 : decode cX10_init 164 = .ok (.sipush 2187, 3) := by decide +kernel
theorem dX10_init_167 : decode cX10_init 167 = .ok (.newarray .boolean, 2) := by decide +kernel
theorem dX10_init_169 : decode cX10_init 169 = .ok (.putfield 69, 3) := by decide +kernel
theorem dX10_init_172 : decode cX10_init 172 = .ok (.aload_n 0, 1) := by decide +kernel
theorem dX10_init_173 : decode cX10_init 173 = .ok (.bipush 18, 2) := by decide +kernel
theorem dX10_init_175 : decode cX10_init 175 = .ok (.newarray .int, 2) := by decide +kernel
theorem dX10_init_177 : decode cX10_init 177 = .ok (.putfield 72, 3) := by decide +kernel
theorem dX10_init_180 : decode cX10_init 180 = .ok (.aload_n 0, 1) := by decide +kernel
theorem dX10_init_181 : decode cX10_init 181 = .ok (.bipush 6, 2) := by decide +kernel
theorem dX10_init_183 : decode cX10_init 183 = .ok (.newarray .boolean, 2) := by decide +kernel
theorem dX10_init_185 : decode cX10_init 185 = .ok (.putfield 75, 3) := by decide +kernel
theorem dX10_init_188 : decode cX10_init 188 = .ok (.aload_n 0, 1) := by decide +kernel
theorem dX10_init_189 : decode cX10_init 189 = .ok (.sipush 3072, 3) := by decide +kernel
theorem dX10_init_192 : decode cX10_init 192 = .ok (.newarray .boolean, 2) := by decide +kernel
theorem dX10_init_194 : decode cX10_init 194 = .ok (.putfield 78, 3) := by decide +kernel
theorem dX10_init_197 : decode cX10_init 197 = .ok (.aload_n 0, 1) := by decide +kernel
theorem dX10_init_198 : decode cX10_init 198 = .ok (.bipush 12, 2) := by decide +kernel
theorem dX10_init_200 : decode cX10_init 200 = .ok (.newarray .int, 2) := by decide +kernel
theorem dX10_init_202 : decode cX10_init 202 = .ok (.putfield 81, 3) := by decide +kernel
theorem dX10_init_205 : decode cX10_init 205 = .ok (.aload_n 0, 1) := by decide +kernel
theorem dX10_init_206 : decode cX10_init 206 = .ok (.bipush 12, 2) := by decide +kernel
theorem dX10_init_208 : decode cX10_init 208 = .ok (.newarray .int, 2) := by decide +kernel
theorem dX10_init_210 : decode cX10_init 210 = .ok (.putfield 84, 3) := by decide +kernel
theorem dX10_init_213 : decode cX10_init 213 = .ok (.aload_n 0, 1) := by decide +kernel
theorem dX10_init_214 : decode cX10_init 214 = .ok (.bipush 12, 2) := by decide +kernel
theorem dX10_init_216 : decode cX10_init 216 = .ok (.newarray .int, 2) := by decide +kernel
theorem dX10_init_218 : decode cX10_init 218 = .ok (.putfield 87, 3) := by decide +kernel
theorem dX10_init_221 : decode cX10_init 221 = .ok (.aload_n 0, 1) := by decide +kernel
theorem dX10_init_222 : decode cX10_init 222 = .ok (.bipush 7, 2) := by decide +kernel
theorem dX10_init_224 : decode cX10_init 224 = .ok (.newarray .boolean, 2) := by decide +kernel
theorem dX10_init_226 : decode cX10_init 226 = .ok (.putfield 90, 3) := by decide +kernel
theorem dX10_init_229 : decode cX10_init 229 = .ok (.aload_n 0, 1) := by decide +kernel
theorem dX10_init_230 : decode cX10_init 230 = .ok (.sipush 512, 3) := by decide +kernel
theorem dX10_init_233 : decode cX10_init 233 = .ok (.newarray .boolean, 2) := by decide +kernel
theorem dX10_init_235 : decode cX10_init 235 = .ok (.putfield 93, 3) := by decide +kernel
theorem dX10_init_238 : decode cX10_init 238 = .ok (.iconst 0, 1) := by decide +kernel
theorem dX10_init_239 : decode cX10_init 239 = .ok (.istore_n 1, 1) := by decide +kernel
theorem dX10_init_240 : decode cX10_init 240 = .ok (.iload_n 1, 1) := by decide +kernel
theorem dX10_init_241 : decode cX10_init 241 = .ok (.bipush 8, 2) := by decide +kernel
theorem dX10_init_243 : decode cX10_init 243 = .ok (.if_icmp .ge 17, 3) := by decide +kernel
theorem dX10_init_246 : decode cX10_init 246 = .ok (.aload_n 0, 1) := by decide +kernel
theorem dX10_init_247 : decode cX10_init 247 = .ok (.getfield 16, 3) := by decide +kernel
theorem dX10_init_250 : decode cX10_init 250 = .ok (.iload_n 1, 1) := by decide +kernel
theorem dX10_init_251 : decode cX10_init 251 = .ok (.bipush 43, 2) := by decide +kernel
theorem dX10_init_253 : decode cX10_init 253 = .ok (.castore, 1) := by decide +kernel
theorem dX10_init_254 : decode cX10_init 254 = .ok (.iinc 1 1, 3) := by decide +kernel
theorem dX10_init_257 : decode cX10_init 257 = .ok (.goto (-17), 3) := by decide +kernel
theorem dX10_init_260 : decode cX10_init 260 = .ok (.iconst 0, 1) := by decide +kernel
theorem dX10_init_261 : decode cX10_init 261 = .ok (.istore_n 1, 1) := by decide +kernel
theorem dX10_init_262 : decode cX10_init 262 = .ok (.iload_n 1, 1) := by decide +kernel
theorem dX10_init_263 : decode cX10_init 263 = .ok (.sipush 3072, 3) := by decide +kernel
theorem dX10_init_266 : decode cX10_init 266 = .ok (.if_icmp .ge 16, 3) := by decide +kernel
theorem dX10_init_269 : decode cX10_init 269 = .ok (.aload_n 0, 1) := by decide +kernel
theorem dX10_init_270 : decode cX10_init 270 = .ok (.getfield 60, 3) := by decide +kernel
theorem dX10_init_273 : decode cX10_init 273 = .ok (.iload_n 1, 1) := by decide +kernel
theorem dX10_init_274 : decode cX10_init 274 = .ok (.iconst (-1), 1) := by decide +kernel
theorem dX10_init_275 : decode cX10_init 275 = .ok (.iastore, 1) := by decide +kernel
theorem dX10_init_276 : decode cX10_init 276 = .ok (.iinc 1 1, 3) := by decide +kernel
theorem dX10_init_279 : decode cX10_init 279 = .ok (.goto (-17), 3) := by decide +kernel
theorem dX10_init_282 : decode cX10_init 282 = .ok (.return_, 1) := by decide +kernel
theorem dX10_thrown_0 : decode cX10_thrown 0 = .ok (.aload_n 0, 1) := by decide +kernel
theorem dX10_thrown_1 : decode cX10_thrown 1 = .ok (.getfield 96, 3) := by decide +kernel
theorem dX10_thrown_4 : decode cX10_thrown 4 = .ok (.ireturn, 1) := by decide +kernel
theorem dX10_in_0 : decode cX10_in 0 = .ok (.iload_n 0, 1) := by decide +kernel
theorem dX10_in_1 : decode cX10_in 1 = .ok (.iload_n 1, 1) := by decide +kernel
theorem dX10_in_2 : decode cX10_in 2 = .ok (.if_icmp .lt 12, 3) := by decide +kernel
theorem dX10_in_5 : decode cX10_in 5 = .ok (.iload_n 0, 1) := by decide +kernel
theorem dX10_in_6 : decode cX10_in 6 = .ok (.iload_n 2, 1) := by decide +kernel
theorem dX10_in_7 : decode cX10_in 7 = .ok (.if_icmp .gt 7, 3) := by decide +kernel
theorem dX10_in_10 : decode cX10_in 10 = .ok (.iconst 1, 1) := by decide +kernel
theorem dX10_in_11 : decode cX10_in 11 = .ok (.goto 4, 3) := by decide +kernel
theorem dX10_in_14 : decode cX10_in 14 = .ok (.iconst 0, 1) := by decide +kernel
theorem dX10_in_15 : decode cX10_in 15 = .ok (.ireturn, 1) := by decide +kernel
theorem dX10_fails_0 : decode cX10_fails 0 = .ok (.aload_n 0, 1) := by decide +kernel
theorem dX10_fails_1 : decode cX10_fails 1 = .ok (.iload_n 1, 1) := by decide +kernel
theorem dX10_fails_2 : decode cX10_fails 2 = .ok (.putfield 96, 3) := by decide +kernel
theorem dX10_fails_5 : decode cX10_fails 5 = .ok (.iconst 0, 1) := by decide +kernel
theorem dX10_fails_6 : decode cX10_fails 6 = .ok (.ireturn, 1) := by decide +kernel
theorem dX10_isTerm_0 : decode cX10_isTerm 0 = .ok (.iload_n 0, 1) := by decide +kernel
theorem dX10_isTerm_1 : decode cX10_isTerm 1 = .ok (.bipush (-20), 2) := by decide +kernel
theorem dX10_isTerm_3 : decode cX10_isTerm 3 = .ok (.bipush 20, 2) := by decide +kernel
theorem dX10_isTerm_5 : decode cX10_isTerm 5 = .ok (.invokestatic 100, 3) := by decide +kernel
theorem dX10_isTerm_8 : decode cX10_isTerm 8 = .ok (.ifCond .ne 14, 3) := by decide +kernel
theorem dX10_isTerm_11 : decode cX10_isTerm 11 = .ok (.iload_n 0, 1) := by decide +kernel
theorem dX10_isTerm_12 : decode cX10_isTerm 12 = .ok (.bipush 100, 2) := by decide +kernel
theorem dX10_isTerm_14 : decode cX10_isTerm 14 = .ok (.bipush 107, 2) := by decide +kernel
theorem dX10_isTerm_16 : decode cX10_isTerm 16 = .ok (.invokestatic 100, 3) := by decide +kernel
theorem dX10_isTerm_19 : decode cX10_isTerm 19 = .ok (.ifCond .eq 7, 3) := by decide +kernel
theorem dX10_isTerm_22 : decode cX10_isTerm 22 = .ok (.iconst 1, 1) := by decide +kernel
theorem dX10_isTerm_23 : decode cX10_isTerm 23 = .ok (.goto 4, 3) := by decide +kernel
theorem dX10_isTerm_26 : decode cX10_isTerm 26 = .ok (.iconst 0, 1) := by decide +kernel
theorem dX10_isTerm_27 : decode cX10_isTerm 27 = .ok (.ireturn, 1) := by decide +kernel
theorem dX10_term_0 : decode cX10_term 0 = .ok (.iload_n 1, 1) := by decide +kernel
theorem dX10_term_1 : decode cX10_term 1 = .ok (.bipush 100, 2) := by decide +kernel
theorem dX10_term_3 : decode cX10_term 3 = .ok (.if_icmp .lt 15, 3) := by decide +kernel
theorem dX10_term_6 : decode cX10_term 6 = .ok (.aload_n 0, 1) := by decide +kernel
theorem dX10_term_7 : decode cX10_term 7 = .ok (.getfield 20, 3) := by decide +kernel
theorem dX10_term_10 : decode cX10_term 10 = .ok (.iload_n 1, 1) := by decide +kernel
theorem dX10_term_11 : decode cX10_term 11 = .ok (.bipush 100, 2) := by decide +kernel
theorem dX10_term_13 : decode cX10_term 13 = .ok (.isub, 1) := by decide +kernel
theorem dX10_term_14 : decode cX10_term 14 = .ok (.iaload, 1) := by decide +kernel
theorem dX10_term_15 : decode cX10_term 15 = .ok (.goto 4, 3) := by decide +kernel
theorem dX10_term_18 : decode cX10_term 18 = .ok (.iload_n 1, 1) := by decide +kernel
theorem dX10_term_19 : decode cX10_term 19 = .ok (.ireturn, 1) := by decide +kernel
theorem dX10_finds_0 : decode cX10_finds 0 = .ok (.iconst 0, 1) := by decide +kernel
theorem dX10_finds_1 : decode cX10_finds 1 = .ok (.istore_n 1, 1) := by decide +kernel
theorem dX10_finds_2 : decode cX10_finds 2 = .ok (.iload_n 1, 1) := by decide +kernel
theorem dX10_finds_3 : decode cX10_finds 3 = .ok (.bipush 8, 2) := by decide +kernel
theorem dX10_finds_5 : decode cX10_finds 5 = .ok (.if_icmp .ge 120, 3) := by decide +kernel
theorem dX10_finds_8 : decode cX10_finds 8 = .ok (.iconst 0, 1) := by decide +kernel
theorem dX10_finds_9 : decode cX10_finds 9 = .ok (.istore_n 2, 1) := by decide +kernel
theorem dX10_finds_10 : decode cX10_finds 10 = .ok (.iload_n 2, 1) := by decide +kernel
theorem dX10_finds_11 : decode cX10_finds 11 = .ok (.bipush 8, 2) := by decide +kernel
theorem dX10_finds_13 : decode cX10_finds 13 = .ok (.if_icmp .ge 106, 3) := by decide +kernel
theorem dX10_finds_16 : decode cX10_finds 16 = .ok (.aload_n 0, 1) := by decide +kernel
theorem dX10_finds_17 : decode cX10_finds 17 = .ok (.aload_n 0, 1) := by decide +kernel
theorem dX10_finds_18 : decode cX10_finds 18 = .ok (.getfield 7, 3) := by decide +kernel
theorem dX10_finds_21 : decode cX10_finds 21 = .ok (.iload_n 2, 1) := by decide +kernel
theorem dX10_finds_22 : decode cX10_finds 22 = .ok (.iaload, 1) := by decide +kernel
theorem dX10_finds_23 : decode cX10_finds 23 = .ok (.invokevirtual 104, 3) := by decide +kernel
theorem dX10_finds_26 : decode cX10_finds 26 = .ok (.istore_n 3, 1) := by decide +kernel
theorem dX10_finds_27 : decode cX10_finds 27 = .ok (.aload_n 0, 1) := by decide +kernel
theorem dX10_finds_28 : decode cX10_finds 28 = .ok (.aload_n 0, 1) := by decide +kernel
theorem dX10_finds_29 : decode cX10_finds 29 = .ok (.getfield 13, 3) := by decide +kernel
theorem dX10_finds_32 : decode cX10_finds 32 = .ok (.iload_n 2, 1) := by decide +kernel
theorem dX10_finds_33 : decode cX10_finds 33 = .ok (.iaload, 1) := by decide +kernel
theorem dX10_finds_34 : decode cX10_finds 34 = .ok (.invokevirtual 104, 3) := by decide +kernel
theorem dX10_finds_37 : decode cX10_finds 37 = .ok (.istore 4, 2) := by decide +kernel
theorem dX10_finds_39 : decode cX10_finds 39 = .ok (.aload_n 0, 1) := by decide +kernel
theorem dX10_finds_40 : decode cX10_finds 40 = .ok (.getfield 16, 3) := by decide +kernel
theorem dX10_finds_43 : decode cX10_finds 43 = .ok (.iload_n 2, 1) := by decide +kernel
theorem dX10_finds_44 : decode cX10_finds 44 = .ok (.caload, 1) := by decide +kernel
theorem dX10_finds_45 : decode cX10_finds 45 = .ok (.bipush 43, 2) := by decide +kernel
theorem dX10_finds_47 : decode cX10_finds 47 = .ok (.if_icmp .ne 10, 3) := by decide +kernel
theorem dX10_finds_50 : decode cX10_finds 50 = .ok (.iload_n 3, 1) := by decide +kernel
theorem dX10_finds_51 : decode cX10_finds 51 = .ok (.iload 4, 2) := by decide +kernel
theorem dX10_finds_53 : decode cX10_finds 53 = .ok (.iadd, 1) := by decide +kernel
theorem dX10_finds_54 : decode cX10_finds 54 = .ok (.goto 25, 3) := by decide +kernel
theorem dX10_finds_57 : decode cX10_finds 57 = .ok (.aload_n 0, 1) := by decide +kernel
theorem dX10_finds_58 : decode cX10_finds 58 = .ok (.getfield 16, 3) := by decide +kernel
theorem dX10_finds_61 : decode cX10_finds 61 = .ok (.iload_n 2, 1) := by decide +kernel
theorem dX10_finds_62 : decode cX10_finds 62 = .ok (.caload, 1) := by decide +kernel
theorem dX10_finds_63 : decode cX10_finds 63 = .ok (.bipush 45, 2) := by decide +kernel
theorem dX10_finds_65 : decode cX10_finds 65 = .ok (.if_icmp .ne 10, 3) := by decide +kernel
theorem dX10_finds_68 : decode cX10_finds 68 = .ok (.iload_n 3, 1) := by decide +kernel
theorem dX10_finds_69 : decode cX10_finds 69 = .ok (.iload 4, 2) := by decide +kernel
theorem dX10_finds_71 : decode cX10_finds 71 = .ok (.isub, 1) := by decide +kernel
theorem dX10_finds_72 : decode cX10_finds 72 = .ok (.goto 7, 3) := by decide +kernel
theorem dX10_finds_75 : decode cX10_finds 75 = .ok (.iload_n 3, 1) := by decide +kernel
theorem dX10_finds_76 : decode cX10_finds 76 = .ok (.iload 4, 2) := by decide +kernel
theorem dX10_finds_78 : decode cX10_finds 78 = .ok (.imul, 1) := by decide +kernel
theorem dX10_finds_79 : decode cX10_finds 79 = .ok (.istore 5, 2) := by decide +kernel
theorem dX10_finds_81 : decode cX10_finds 81 = .ok (.aload_n 0, 1) := by decide +kernel
theorem dX10_finds_82 : decode cX10_finds 82 = .ok (.getfield 20, 3) := by decide +kernel
theorem dX10_finds_85 : decode cX10_finds 85 = .ok (.iload_n 2, 1) := by decide +kernel
theorem dX10_finds_86 : decode cX10_finds 86 = .ok (.iload 5, 2) := by decide +kernel
theorem dX10_finds_88 : decode cX10_finds 88 = .ok (.bipush 99, 2) := by decide +kernel
theorem dX10_finds_90 : decode cX10_finds 90 = .ok (.if_icmp .le 8, 3) := by decide +kernel
theorem dX10_finds_93 : decode cX10_finds 93 = .ok (.bipush 99, 2) := by decide +kernel
theorem dX10_finds_95 : decode cX10_finds 95 = .ok (.goto 17, 3) := by decide +kernel
theorem dX10_finds_98 : decode cX10_finds 98 = .ok (.iload 5, 2) := by decide +kernel
theorem dX10_finds_100 : decode cX10_finds 100 = .ok (.bipush (-99), 2) := by decide +kernel
theorem dX10_finds_102 : decode cX10_finds 102 = .ok (.if_icmp .ge 8, 3) := by decide +kernel
theorem dX10_finds_105 : decode cX10_finds 105 = .ok (.bipush (-99), 2) := by decide +kernel
theorem dX10_finds_107 : decode cX10_finds 107 = .ok (.goto 5, 3) := by decide +kernel
theorem dX10_finds_110 : decode cX10_finds 110 = .ok (.iload 5, 2) := by decide +kernel
theorem dX10_finds_112 : decode cX10_finds 112 = .ok (.iastore, 1) := by decide +kernel
theorem dX10_finds_113 : decode cX10_finds 113 = .ok (.iinc 2 1, 3) := by decide +kernel
theorem dX10_finds_116 : decode cX10_finds 116 = .ok (.goto (-106), 3) := by decide +kernel
theorem dX10_finds_119 : decode cX10_finds 119 = .ok (.iinc 1 1, 3) := by decide +kernel
theorem dX10_finds_122 : decode cX10_finds 122 = .ok (.goto (-120), 3) := by decide +kernel
theorem dX10_finds_125 : decode cX10_finds 125 = .ok (.return_, 1) := by decide +kernel
theorem dX10_isRound_0 : decode cX10_isRound 0 = .ok (.iconst 0, 1) := by decide +kernel
theorem dX10_isRound_1 : decode cX10_isRound 1 = .ok (.istore_n 2, 1) := by decide +kernel
theorem dX10_isRound_2 : decode cX10_isRound 2 = .ok (.iconst (-1), 1) := by decide +kernel
theorem dX10_isRound_3 : decode cX10_isRound 3 = .ok (.istore_n 3, 1) := by decide +kernel
theorem dX10_isRound_4 : decode cX10_isRound 4 = .ok (.iload_n 2, 1) := by decide +kernel
theorem dX10_isRound_5 : decode cX10_isRound 5 = .ok (.aload_n 0, 1) := by decide +kernel
theorem dX10_isRound_6 : decode cX10_isRound 6 = .ok (.getfield 7, 3) := by decide +kernel
theorem dX10_isRound_9 : decode cX10_isRound 9 = .ok (.iload_n 1, 1) := by decide +kernel
theorem dX10_isRound_10 : decode cX10_isRound 10 = .ok (.iaload, 1) := by decide +kernel
theorem dX10_isRound_11 : decode cX10_isRound 11 = .ok (.bipush 100, 2) := by decide +kernel
theorem dX10_isRound_13 : decode cX10_isRound 13 = .ok (.if_icmp .lt 17, 3) := by decide +kernel
theorem dX10_isRound_16 : decode cX10_isRound 16 = .ok (.iconst 1, 1) := by decide +kernel
theorem dX10_isRound_17 : decode cX10_isRound 17 = .ok (.aload_n 0, 1) := by decide +kernel
theorem dX10_isRound_18 : decode cX10_isRound 18 = .ok (.getfield 7, 3) := by decide +kernel
theorem dX10_isRound_21 : decode cX10_isRound 21 = .ok (.iload_n 1, 1) := by decide +kernel
theorem dX10_isRound_22 : decode cX10_isRound 22 = .ok (.iaload, 1) := by decide +kernel
theorem dX10_isRound_23 : decode cX10_isRound 23 = .ok (.bipush 100, 2) := by decide +kernel
theorem dX10_isRound_25 : decode cX10_isRound 25 = .ok (.isub, 1) := by decide +kernel
theorem dX10_isRound_26 : decode cX10_isRound 26 = .ok (.ishl, 1) := by decide +kernel
theorem dX10_isRound_27 : decode cX10_isRound 27 = .ok (.goto 4, 3) := by decide +kernel
theorem dX10_isRound_30 : decode cX10_isRound 30 = .ok (.iconst 0, 1) := by decide +kernel
theorem dX10_isRound_31 : decode cX10_isRound 31 = .ok (.ior, 1) := by decide +kernel
theorem dX10_isRound_32 : decode cX10_isRound 32 = .ok (.istore_n 2, 1) := by decide +kernel
theorem dX10_isRound_33 : decode cX10_isRound 33 = .ok (.iload_n 2, 1) := by decide +kernel
theorem dX10_isRound_34 : decode cX10_isRound 34 = .ok (.aload_n 0, 1) := by decide +kernel
theorem dX10_isRound_35 : decode cX10_isRound 35 = .ok (.getfield 13, 3) := by decide +kernel
theorem dX10_isRound_38 : decode cX10_isRound 38 = .ok (.iload_n 1, 1) := by decide +kernel
theorem dX10_isRound_39 : decode cX10_isRound 39 = .ok (.iaload, 1) := by decide +kernel
theorem dX10_isRound_40 : decode cX10_isRound 40 = .ok (.bipush 100, 2) := by decide +kernel
theorem dX10_isRound_42 : decode cX10_isRound 42 = .ok (.if_icmp .lt 17, 3) := by decide +kernel
theorem dX10_isRound_45 : decode cX10_isRound 45 = .ok (.iconst 1, 1) := by decide +kernel
theorem dX10_isRound_46 : decode cX10_isRound 46 = .ok (.aload_n 0, 1) := by decide +kernel
theorem dX10_isRound_47 : decode cX10_isRound 47 = .ok (.getfield 13, 3) := by decide +kernel
theorem dX10_isRound_50 : decode cX10_isRound 50 = .ok (.iload_n 1, 1) := by decide +kernel
theorem dX10_isRound_51 : decode cX10_isRound 51 = .ok (.iaload, 1) := by decide +kernel
theorem dX10_isRound_52 : decode cX10_isRound 52 = .ok (.bipush 100, 2) := by decide +kernel
theorem dX10_isRound_54 : decode cX10_isRound 54 = .ok (.isub, 1) := by decide +kernel
theorem dX10_isRound_55 : decode cX10_isRound 55 = .ok (.ishl, 1) := by decide +kernel
theorem dX10_isRound_56 : decode cX10_isRound 56 = .ok (.goto 4, 3) := by decide +kernel
theorem dX10_isRound_59 : decode cX10_isRound 59 = .ok (.iconst 0, 1) := by decide +kernel
theorem dX10_isRound_60 : decode cX10_isRound 60 = .ok (.ior, 1) := by decide +kernel
theorem dX10_isRound_61 : decode cX10_isRound 61 = .ok (.istore_n 2, 1) := by decide +kernel
theorem dX10_isRound_62 : decode cX10_isRound 62 = .ok (.iload_n 3, 1) := by decide +kernel
theorem dX10_isRound_63 : decode cX10_isRound 63 = .ok (.iload_n 2, 1) := by decide +kernel
theorem dX10_isRound_64 : decode cX10_isRound 64 = .ok (.if_icmp .eq 96, 3) := by decide +kernel
theorem dX10_isRound_67 : decode cX10_isRound 67 = .ok (.iload_n 2, 1) := by decide +kernel
theorem dX10_isRound_68 : decode cX10_isRound 68 = .ok (.istore_n 3, 1) := by decide +kernel
theorem dX10_isRound_69 : decode cX10_isRound 69 = .ok (.iconst 0, 1) := by decide +kernel
theorem dX10_isRound_70 : decode cX10_isRound 70 = .ok (.istore 4, 2) := by decide +kernel
theorem dX10_isRound_72 : decode cX10_isRound 72 = .ok (.iload 4, 2) := by decide +kernel
theorem dX10_isRound_74 : decode cX10_isRound 74 = .ok (.bipush 8, 2) := by decide +kernel
theorem dX10_isRound_76 : decode cX10_isRound 76 = .ok (.if_icmp .ge 81, 3) := by decide +kernel
theorem dX10_isRound_79 : decode cX10_isRound 79 = .ok (.iload_n 2, 1) := by decide +kernel
theorem dX10_isRound_80 : decode cX10_isRound 80 = .ok (.iload 4, 2) := by decide +kernel
theorem dX10_isRound_82 : decode cX10_isRound 82 = .ok (.ishr, 1) := by decide +kernel
theorem dX10_isRound_83 : decode cX10_isRound 83 = .ok (.iconst 1, 1) := by decide +kernel
theorem dX10_isRound_84 : decode cX10_isRound 84 = .ok (.iand, 1) := by decide +kernel
theorem dX10_isRound_85 : decode cX10_isRound 85 = .ok (.iconst 1, 1) := by decide +kernel
theorem dX10_isRound_86 : decode cX10_isRound 86 = .ok (.if_icmp .ne 65, 3) := by decide +kernel
theorem dX10_isRound_89 : decode cX10_isRound 89 = .ok (.iload_n 2, 1) := by decide +kernel
theorem dX10_isRound_90 : decode cX10_isRound 90 = .ok (.aload_n 0, 1) := by decide +kernel
theorem dX10_isRound_91 : decode cX10_isRound 91 = .ok (.getfield 7, 3) := by decide +kernel
theorem dX10_isRound_94 : decode cX10_isRound 94 = .ok (.iload 4, 2) := by decide +kernel
theorem dX10_isRound_96 : decode cX10_isRound 96 = .ok (.iaload, 1) := by decide +kernel
theorem dX10_isRound_97 : decode cX10_isRound 97 = .ok (.bipush 100, 2) := by decide +kernel
theorem dX10_isRound_99 : decode cX10_isRound 99 = .ok (.if_icmp .lt 18, 3) := by decide +kernel
theorem dX10_isRound_102 : decode cX10_isRound 102 = .ok (.iconst 1, 1) := by decide +kernel
theorem dX10_isRound_103 : decode cX10_isRound 103 = .ok (.aload_n 0, 1) := by decide +kernel
theorem dX10_isRound_104 : decode cX10_isRound 104 = .ok (.getfield 7, 3) := by decide +kernel
theorem dX10_isRound_107 : decode cX10_isRound 107 = .ok (.iload 4, 2) := by decide +kernel
theorem dX10_isRound_109 : decode cX10_isRound 109 = .ok (.iaload, 1) := by decide +kernel
theorem dX10_isRound_110 : decode cX10_isRound 110 = .ok (.bipush 100, 2) := by decide +kernel
theorem dX10_isRound_112 : decode cX10_isRound 112 = .ok (.isub, 1) := by decide +kernel
theorem dX10_isRound_113 : decode cX10_isRound 113 = .ok (.ishl, 1) := by decide +kernel
theorem dX10_isRound_114 : decode cX10_isRound 114 = .ok (.goto 4, 3) := by decide +kernel
theorem dX10_isRound_117 : decode cX10_isRound 117 = .ok (.iconst 0, 1) := by decide +kernel
theorem dX10_isRound_118 : decode cX10_isRound 118 = .ok (.ior, 1) := by decide +kernel
theorem dX10_isRound_119 : decode cX10_isRound 119 = .ok (.istore_n 2, 1) := by decide +kernel
theorem dX10_isRound_120 : decode cX10_isRound 120 = .ok (.iload_n 2, 1) := by decide +kernel
theorem dX10_isRound_121 : decode cX10_isRound 121 = .ok (.aload_n 0, 1) := by decide +kernel
theorem dX10_isRound_122 : decode cX10_isRound 122 = .ok (.getfield 13, 3) := by decide +kernel
theorem dX10_isRound_125 : decode cX10_isRound 125 = .ok (.iload 4, 2) := by decide +kernel
theorem dX10_isRound_127 : decode cX10_isRound 127 = .ok (.iaload, 1) := by decide +kernel
theorem dX10_isRound_128 : decode cX10_isRound 128 = .ok (.bipush 100, 2) := by decide +kernel
theorem dX10_isRound_130 : decode cX10_isRound 130 = .ok (.if_icmp .lt 18, 3) := by decide +kernel
theorem dX10_isRound_133 : decode cX10_isRound 133 = .ok (.iconst 1, 1) := by decide +kernel
theorem dX10_isRound_134 : decode cX10_isRound 134 = .ok (.aload_n 0, 1) := by decide +kernel
theorem dX10_isRound_135 : decode cX10_isRound 135 = .ok (.getfield 13, 3) := by decide +kernel
theorem dX10_isRound_138 : decode cX10_isRound 138 = .ok (.iload 4, 2) := by decide +kernel
theorem dX10_isRound_140 : decode cX10_isRound 140 = .ok (.iaload, 1) := by decide +kernel
theorem dX10_isRound_141 : decode cX10_isRound 141 = .ok (.bipush 100, 2) := by decide +kernel
theorem dX10_isRound_143 : decode cX10_isRound 143 = .ok (.isub, 1) := by decide +kernel
theorem dX10_isRound_144 : decode cX10_isRound 144 = .ok (.ishl, 1) := by decide +kernel
theorem dX10_isRound_145 : decode cX10_isRound 145 = .ok (.goto 4, 3) := by decide +kernel
theorem dX10_isRound_148 : decode cX10_isRound 148 = .ok (.iconst 0, 1) := by decide +kernel
theorem dX10_isRound_149 : decode cX10_isRound 149 = .ok (.ior, 1) := by decide +kernel
theorem dX10_isRound_150 : decode cX10_isRound 150 = .ok (.istore_n 2, 1) := by decide +kernel
theorem dX10_isRound_151 : decode cX10_isRound 151 = .ok (.iinc 4 1, 3) := by decide +kernel
theorem dX10_isRound_154 : decode cX10_isRound 154 = .ok (.goto (-82), 3) := by decide +kernel
theorem dX10_isRound_157 : decode cX10_isRound 157 = .ok (.goto (-95), 3) := by decide +kernel
theorem dX10_isRound_160 : decode cX10_isRound 160 = .ok (.iload_n 2, 1) := by decide +kernel
theorem dX10_isRound_161 : decode cX10_isRound 161 = .ok (.iload_n 1, 1) := by decide +kernel
theorem dX10_isRound_162 : decode cX10_isRound 162 = .ok (.ishr, 1) := by decide +kernel
theorem dX10_isRound_163 : decode cX10_isRound 163 = .ok (.iconst 1, 1) := by decide +kernel
theorem dX10_isRound_164 : decode cX10_isRound 164 = .ok (.iand, 1) := by decide +kernel
theorem dX10_isRound_165 : decode cX10_isRound 165 = .ok (.iconst 1, 1) := by decide +kernel
theorem dX10_isRound_166 : decode cX10_isRound 166 = .ok (.if_icmp .ne 7, 3) := by decide +kernel
theorem dX10_isRound_169 : decode cX10_isRound 169 = .ok (.iconst 1, 1) := by decide +kernel
theorem dX10_isRound_170 : decode cX10_isRound 170 = .ok (.goto 4, 3) := by decide +kernel
theorem dX10_isRound_173 : decode cX10_isRound 173 = .ok (.iconst 0, 1) := by decide +kernel
theorem dX10_isRound_174 : decode cX10_isRound 174 = .ok (.ireturn, 1) := by decide +kernel
theorem dX10_setNumber_0 : decode cX10_setNumber 0 = .ok (.aload_n 0, 1) := by decide +kernel
theorem dX10_setNumber_1 : decode cX10_setNumber 1 = .ok (.iconst 0, 1) := by decide +kernel
theorem dX10_setNumber_2 : decode cX10_setNumber 2 = .ok (.putfield 96, 3) := by decide +kernel
theorem dX10_setNumber_5 : decode cX10_setNumber 5 = .ok (.iload_n 1, 1) := by decide +kernel
theorem dX10_setNumber_6 : decode cX10_setNumber 6 = .ok (.iconst 0, 1) := by decide +kernel
theorem dX10_setNumber_7 : decode cX10_setNumber 7 = .ok (.bipush 7, 2) := by decide +kernel
theorem dX10_setNumber_9 : decode cX10_setNumber 9 = .ok (.invokestatic 100, 3) := by decide +kernel
theorem dX10_setNumber_12 : decode cX10_setNumber 12 = .ok (.ifCond .eq 36, 3) := by decide +kernel
theorem dX10_setNumber_15 : decode cX10_setNumber 15 = .ok (.iload_n 2, 1) := by decide +kernel
theorem dX10_setNumber_16 : decode cX10_setNumber 16 = .ok (.invokestatic 108, 3) := by decide +kernel
theorem dX10_setNumber_19 : decode cX10_setNumber 19 = .ok (.ifCond .eq 29, 3) := by decide +kernel
theorem dX10_setNumber_22 : decode cX10_setNumber 22 = .ok (.iload 4, 2) := by decide +kernel
theorem dX10_setNumber_24 : decode cX10_setNumber 24 = .ok (.invokestatic 108, 3) := by decide +kernel
theorem dX10_setNumber_27 : decode cX10_setNumber 27 = .ok (.ifCond .eq 21, 3) := by decide +kernel
theorem dX10_setNumber_30 : decode cX10_setNumber 30 = .ok (.iload_n 3, 1) := by decide +kernel
theorem dX10_setNumber_31 : decode cX10_setNumber 31 = .ok (.bipush 43, 2) := by decide +kernel
theorem dX10_setNumber_33 : decode cX10_setNumber 33 = .ok (.if_icmp .eq 21, 3) := by decide +kernel
theorem dX10_setNumber_36 : decode cX10_setNumber 36 = .ok (.iload_n 3, 1) := by decide +kernel
theorem dX10_setNumber_37 : decode cX10_setNumber 37 = .ok (.bipush 45, 2) := by decide +kernel
theorem dX10_setNumber_39 : decode cX10_setNumber 39 = .ok (.if_icmp .eq 15, 3) := by decide +kernel
theorem dX10_setNumber_42 : decode cX10_setNumber 42 = .ok (.iload_n 3, 1) := by decide +kernel
theorem dX10_setNumber_43 : decode cX10_setNumber 43 = .ok (.bipush 42, 2) := by decide +kernel
theorem dX10_setNumber_45 : decode cX10_setNumber 45 = .ok (.if_icmp .eq 9, 3) := by decide +kernel
theorem dX10_setNumber_48 : decode cX10_setNumber 48 = .ok (.aload_n 0, 1) := by decide +kernel
theorem dX10_setNumber_49 : decode cX10_setNumber 49 = .ok (.iconst 1, 1) := by decide +kernel
theorem dX10_setNumber_50 : decode cX10_setNumber 50 = .ok (.invokevirtual 112, 3) := by decide +kernel
theorem dX10_setNumber_53 : decode cX10_setNumber 53 = .ok (.ireturn, 1) := by decide +kernel
theorem dX10_setNumber_54 : decode cX10_setNumber 54 = .ok (.aload_n 0, 1) := by decide +kernel
theorem dX10_setNumber_55 : decode cX10_setNumber 55 = .ok (.getfield 7, 3) := by decide +kernel
theorem dX10_setNumber_58 : decode cX10_setNumber 58 = .ok (.iload_n 1, 1) := by decide +kernel
theorem dX10_setNumber_59 : decode cX10_setNumber 59 = .ok (.iaload, 1) := by decide +kernel
theorem dX10_setNumber_60 : decode cX10_setNumber 60 = .ok (.istore 5, 2) := by decide +kernel
theorem dX10_setNumber_62 : decode cX10_setNumber 62 = .ok (.aload_n 0, 1) := by decide +kernel
theorem dX10_setNumber_63 : decode cX10_setNumber 63 = .ok (.getfield 13, 3) := by decide +kernel
theorem dX10_setNumber_66 : decode cX10_setNumber 66 = .ok (.iload_n 1, 1) := by decide +kernel
theorem dX10_setNumber_67 : decode cX10_setNumber 67 = .ok (.iaload, 1) := by decide +kernel
theorem dX10_setNumber_68 : decode cX10_setNumber 68 = .ok (.istore 6, 2) := by decide +kernel
theorem dX10_setNumber_70 : decode cX10_setNumber 70 = .ok (.aload_n 0, 1) := by decide +kernel
theorem dX10_setNumber_71 : decode cX10_setNumber 71 = .ok (.getfield 16, 3) := by decide +kernel
theorem dX10_setNumber_74 : decode cX10_setNumber 74 = .ok (.iload_n 1, 1) := by decide +kernel
theorem dX10_setNumber_75 : decode cX10_setNumber 75 = .ok (.caload, 1) := by decide +kernel
theorem dX10_setNumber_76 : decode cX10_setNumber 76 = .ok (.istore 7, 2) := by decide +kernel
theorem dX10_setNumber_78 : decode cX10_setNumber 78 = .ok (.aload_n 0, 1) := by decide +kernel
theorem dX10_setNumber_79 : decode cX10_setNumber 79 = .ok (.invokevirtual 115, 3) := by decide +kernel
theorem dX10_setNumber_82 : decode cX10_setNumber 82 = .ok (.aload_n 0, 1) := by decide +kernel
theorem dX10_setNumber_83 : decode cX10_setNumber 83 = .ok (.getfield 7, 3) := by decide +kernel
theorem dX10_setNumber_86 : decode cX10_setNumber 86 = .ok (.iload_n 1, 1) := by decide +kernel
theorem dX10_setNumber_87 : decode cX10_setNumber 87 = .ok (.iload_n 2, 1) := by decide +kernel
theorem dX10_setNumber_88 : decode cX10_setNumber 88 = .ok (.iastore, 1) := by decide +kernel
theorem dX10_setNumber_89 : decode cX10_setNumber 89 = .ok (.aload_n 0, 1) := by decide +kernel
theorem dX10_setNumber_90 : decode cX10_setNumber 90 = .ok (.getfield 13, 3) := by decide +kernel
theorem dX10_setNumber_93 : decode cX10_setNumber 93 = .ok (.iload_n 1, 1) := by decide +kernel
theorem dX10_setNumber_94 : decode cX10_setNumber 94 = .ok (.iload 4, 2) := by decide +kernel
theorem dX10_setNumber_96 : decode cX10_setNumber 96 = .ok (.iastore, 1) := by decide +kernel
theorem dX10_setNumber_97 : decode cX10_setNumber 97 = .ok (.aload_n 0, 1) := by decide +kernel
theorem dX10_setNumber_98 : decode cX10_setNumber 98 = .ok (.getfield 16, 3) := by decide +kernel
theorem dX10_setNumber_101 : decode cX10_setNumber 101 = .ok (.iload_n 1, 1) := by decide +kernel
theorem dX10_setNumber_102 : decode cX10_setNumber 102 = .ok (.iload_n 3, 1) := by decide +kernel
theorem dX10_setNumber_103 : decode cX10_setNumber 103 = .ok (.castore, 1) := by decide +kernel
theorem dX10_setNumber_104 : decode cX10_setNumber 104 = .ok (.aload_n 0, 1) := by decide +kernel
theorem dX10_setNumber_105 : decode cX10_setNumber 105 = .ok (.iload_n 1, 1) := by decide +kernel
theorem dX10_setNumber_106 : decode cX10_setNumber 106 = .ok (.invokevirtual 118, 3) := by decide +kernel
theorem dX10_setNumber_109 : decode cX10_setNumber 109 = .ok (.istore 8, 2) := by decide +kernel
theorem dX10_setNumber_111 : decode cX10_setNumber 111 = .ok (.iload 8, 2) := by decide +kernel
theorem dX10_setNumber_113 : decode cX10_setNumber 113 = .ok (.ifCond .ne 21, 3) := by decide +kernel
theorem dX10_setNumber_116 : decode cX10_setNumber 116 = .ok (.aload_n 0, 1) := by decide +kernel
theorem dX10_setNumber_117 : decode cX10_setNumber 117 = .ok (.invokevirtual 121, 3) := by decide +kernel
theorem dX10_setNumber_120 : decode cX10_setNumber 120 = .ok (.aload_n 0, 1) := by decide +kernel
theorem dX10_setNumber_121 : decode cX10_setNumber 121 = .ok (.invokevirtual 124, 3) := by decide +kernel
theorem dX10_setNumber_124 : decode cX10_setNumber 124 = .ok (.ifCond .ne 7, 3) := by decide +kernel
theorem dX10_setNumber_127 : decode cX10_setNumber 127 = .ok (.iconst 1, 1) := by decide +kernel
theorem dX10_setNumber_128 : decode cX10_setNumber 128 = .ok (.goto 4, 3) := by decide +kernel
theorem dX10_setNumber_131 : decode cX10_setNumber 131 = .ok (.iconst 0, 1) := by decide +kernel
theorem dX10_setNumber_132 : decode cX10_setNumber 132 = .ok (.istore 8, 2) := by decide +kernel
theorem dX10_setNumber_134 : decode cX10_setNumber 134 = .ok (.iload 8, 2) := by decide +kernel
theorem dX10_setNumber_136 : decode cX10_setNumber 136 = .ok (.ifCond .eq 37, 3) := by decide +kernel
theorem dX10_setNumber_139 : decode cX10_setNumber 139 = .ok (.aload_n 0, 1) := by decide +kernel
theorem dX10_setNumber_140 : decode cX10_setNumber 140 = .ok (.getfield 7, 3) := by decide +kernel
theorem dX10_setNumber_143 : decode cX10_setNumber 143 = .ok (.iload_n 1, 1) := by decide +kernel
theorem dX10_setNumber_144 : decode cX10_setNumber 144 = .ok (.iload 5, 2) := by decide +kernel
theorem dX10_setNumber_146 : decode cX10_setNumber 146 = .ok (.iastore, 1) := by decide +kernel
theorem dX10_setNumber_147 : decode cX10_setNumber 147 = .ok (.aload_n 0, 1) := by decide +kernel
theorem dX10_setNumber_148 : decode cX10_setNumber 148 = .ok (.getfield 13, 3) := by decide +kernel
theorem dX10_setNumber_151 : decode cX10_setNumber 151 = .ok (.iload_n 1, 1) := by decide +kernel
theorem dX10_setNumber_152 : decode cX10_setNumber 152 = .ok (.iload 6, 2) := by decide +kernel
theorem dX10_setNumber_154 : decode cX10_setNumber 154 = .ok (.iastore, 1) := by decide +kernel
theorem dX10_setNumber_155 : decode cX10_setNumber 155 = .ok (.aload_n 0, 1) := by decide +kernel
theorem dX10_setNumber_156 : decode cX10_setNumber 156 = .ok (.getfield 16, 3) := by decide +kernel
theorem dX10_setNumber_159 : decode cX10_setNumber 159 = .ok (.iload_n 1, 1) := by decide +kernel
theorem dX10_setNumber_160 : decode cX10_setNumber 160 = .ok (.iload 7, 2) := by decide +kernel
theorem dX10_setNumber_162 : decode cX10_setNumber 162 = .ok (.castore, 1) := by decide +kernel
theorem dX10_setNumber_163 : decode cX10_setNumber 163 = .ok (.aload_n 0, 1) := by decide +kernel
theorem dX10_setNumber_164 : decode cX10_setNumber 164 = .ok (.invokevirtual 121, 3) := by decide +kernel
theorem dX10_setNumber_167 : decode cX10_setNumber 167 = .ok (.aload_n 0, 1) := by decide +kernel
theorem dX10_setNumber_168 : decode cX10_setNumber 168 = .ok (.iconst 2, 1) := by decide +kernel
theorem dX10_setNumber_169 : decode cX10_setNumber 169 = .ok (.invokevirtual 112, 3) := by decide +kernel
theorem dX10_setNumber_172 : decode cX10_setNumber 172 = .ok (.ireturn, 1) := by decide +kernel
theorem dX10_setNumber_173 : decode cX10_setNumber 173 = .ok (.aload_n 0, 1) := by decide +kernel
theorem dX10_setNumber_174 : decode cX10_setNumber 174 = .ok (.invokevirtual 128, 3) := by decide +kernel
theorem dX10_setNumber_177 : decode cX10_setNumber 177 = .ok (.aload_n 0, 1) := by decide +kernel
theorem dX10_setNumber_178 : decode cX10_setNumber 178 = .ok (.getfield 20, 3) := by decide +kernel
theorem dX10_setNumber_181 : decode cX10_setNumber 181 = .ok (.iload_n 1, 1) := by decide +kernel
theorem dX10_setNumber_182 : decode cX10_setNumber 182 = .ok (.iaload, 1) := by decide +kernel
theorem dX10_setNumber_183 : decode cX10_setNumber 183 = .ok (.ireturn, 1) := by decide +kernel
theorem dX10_number_0 : decode cX10_number 0 = .ok (.aload_n 0, 1) := by decide +kernel
theorem dX10_number_1 : decode cX10_number 1 = .ok (.iconst 0, 1) := by decide +kernel
theorem dX10_number_2 : decode cX10_number 2 = .ok (.putfield 96, 3) := by decide +kernel
theorem dX10_number_5 : decode cX10_number 5 = .ok (.iload_n 1, 1) := by decide +kernel
theorem dX10_number_6 : decode cX10_number 6 = .ok (.iconst 0, 1) := by decide +kernel
theorem dX10_number_7 : decode cX10_number 7 = .ok (.bipush 7, 2) := by decide +kernel
theorem dX10_number_9 : decode cX10_number 9 = .ok (.invokestatic 100, 3) := by decide +kernel
theorem dX10_number_12 : decode cX10_number 12 = .ok (.ifCond .eq 12, 3) := by decide +kernel
theorem dX10_number_15 : decode cX10_number 15 = .ok (.aload_n 0, 1) := by decide +kernel
theorem dX10_number_16 : decode cX10_number 16 = .ok (.getfield 20, 3) := by decide +kernel
theorem dX10_number_19 : decode cX10_number 19 = .ok (.iload_n 1, 1) := by decide +kernel
theorem dX10_number_20 : decode cX10_number 20 = .ok (.iaload, 1) := by decide +kernel
theorem dX10_number_21 : decode cX10_number 21 = .ok (.goto 8, 3) := by decide +kernel
theorem dX10_number_24 : decode cX10_number 24 = .ok (.aload_n 0, 1) := by decide +kernel
theorem dX10_number_25 : decode cX10_number 25 = .ok (.iconst 1, 1) := by decide +kernel
theorem dX10_number_26 : decode cX10_number 26 = .ok (.invokevirtual 112, 3) := by decide +kernel
theorem dX10_number_29 : decode cX10_number 29 = .ok (.ireturn, 1) := by decide +kernel
theorem dX10_remembers_0 : decode cX10_remembers 0 = .ok (.aload_n 0, 1) := by decide +kernel
theorem dX10_remembers_1 : decode cX10_remembers 1 = .ok (.aload_n 0, 1) := by decide +kernel
theorem dX10_remembers_2 : decode cX10_remembers 2 = .ok (.getfield 131, 3) := by decide +kernel
theorem dX10_remembers_5 : decode cX10_remembers 5 = .ok (.putfield 134, 3) := by decide +kernel
theorem dX10_remembers_8 : decode cX10_remembers 8 = .ok (.aload_n 0, 1) := by decide +kernel
theorem dX10_remembers_9 : decode cX10_remembers 9 = .ok (.aload_n 0, 1) := by decide +kernel
theorem dX10_remembers_10 : decode cX10_remembers 10 = .ok (.getfield 137, 3) := by decide +kernel
theorem dX10_remembers_13 : decode cX10_remembers 13 = .ok (.putfield 140, 3) := by decide +kernel
theorem dX10_remembers_16 : decode cX10_remembers 16 = .ok (.iconst 0, 1) := by decide +kernel
theorem dX10_remembers_17 : decode cX10_remembers 17 = .ok (.istore_n 1, 1) := by decide +kernel
theorem dX10_remembers_18 : decode cX10_remembers 18 = .ok (.iload_n 1, 1) := by decide +kernel
theorem dX10_remembers_19 : decode cX10_remembers 19 = .ok (.bipush 13, 2) := by decide +kernel
theorem dX10_remembers_21 : decode cX10_remembers 21 = .ok (.if_icmp .ge 21, 3) := by decide +kernel
theorem dX10_remembers_24 : decode cX10_remembers 24 = .ok (.aload_n 0, 1) := by decide +kernel
theorem dX10_remembers_25 : decode cX10_remembers 25 = .ok (.getfield 42, 3) := by decide +kernel
theorem dX10_remembers_28 : decode cX10_remembers 28 = .ok (.iload_n 1, 1) := by decide +kernel
theorem dX10_remembers_29 : decode cX10_remembers 29 = .ok (.aload_n 0, 1) := by decide +kernel
theorem dX10_remembers_30 : decode cX10_remembers 30 = .ok (.getfield 23, 3) := by decide +kernel
theorem dX10_remembers_33 : decode cX10_remembers 33 = .ok (.iload_n 1, 1) := by decide +kernel
theorem dX10_remembers_34 : decode cX10_remembers 34 = .ok (.iaload, 1) := by decide +kernel
theorem dX10_remembers_35 : decode cX10_remembers 35 = .ok (.iastore, 1) := by decide +kernel
theorem dX10_remembers_36 : decode cX10_remembers 36 = .ok (.iinc 1 1, 3) := by decide +kernel
theorem dX10_remembers_39 : decode cX10_remembers 39 = .ok (.goto (-21), 3) := by decide +kernel
theorem dX10_remembers_42 : decode cX10_remembers 42 = .ok (.iconst 0, 1) := by decide +kernel
theorem dX10_remembers_43 : decode cX10_remembers 43 = .ok (.istore_n 1, 1) := by decide +kernel
theorem dX10_remembers_44 : decode cX10_remembers 44 = .ok (.iload_n 1, 1) := by decide +kernel
theorem dX10_remembers_45 : decode cX10_remembers 45 = .ok (.sipush 240, 3) := by decide +kernel
theorem dX10_remembers_48 : decode cX10_remembers 48 = .ok (.if_icmp .ge 25, 3) := by decide +kernel
theorem dX10_remembers_51 : decode cX10_remembers 51 = .ok (.aload_n 0, 1) := by decide +kernel
theorem dX10_remembers_52 : decode cX10_remembers 52 = .ok (.getfield 45, 3) := by decide +kernel
theorem dX10_remembers_55 : decode cX10_remembers 55 = .ok (.iload_n 1, 1) := by decide +kernel
theorem dX10_remembers_56 : decode cX10_remembers 56 = .ok (.aload_n 0, 1) := by decide +kernel
theorem dX10_remembers_57 : decode cX10_remembers 57 = .ok (.aload_n 0, 1) := by decide +kernel
theorem dX10_remembers_58 : decode cX10_remembers 58 = .ok (.getfield 29, 3) := by decide +kernel
theorem dX10_remembers_61 : decode cX10_remembers 61 = .ok (.iload_n 1, 1) := by decide +kernel
theorem dX10_remembers_62 : decode cX10_remembers 62 = .ok (.iaload, 1) := by decide +kernel
theorem dX10_remembers_63 : decode cX10_remembers 63 = .ok (.invokevirtual 104, 3) := by decide +kernel
theorem dX10_remembers_66 : decode cX10_remembers 66 = .ok (.iastore, 1) := by decide +kernel
theorem dX10_remembers_67 : decode cX10_remembers 67 = .ok (.iinc 1 1, 3) := by decide +kernel
theorem dX10_remembers_70 : decode cX10_remembers 70 = .ok (.goto (-26), 3) := by decide +kernel
theorem dX10_remembers_73 : decode cX10_remembers 73 = .ok (.iconst 0, 1) := by decide +kernel
theorem dX10_remembers_74 : decode cX10_remembers 74 = .ok (.istore_n 1, 1) := by decide +kernel
theorem dX10_remembers_75 : decode cX10_remembers 75 = .ok (.iload_n 1, 1) := by decide +kernel
theorem dX10_remembers_76 : decode cX10_remembers 76 = .ok (.bipush 40, 2) := by decide +kernel
theorem dX10_remembers_78 : decode cX10_remembers 78 = .ok (.if_icmp .ge 21, 3) := by decide +kernel
theorem dX10_remembers_81 : decode cX10_remembers 81 = .ok (.aload_n 0, 1) := by decide +kernel
theorem dX10_remembers_82 : decode cX10_remembers 82 = .ok (.getfield 48, 3) := by decide +kernel
theorem dX10_remembers_85 : decode cX10_remembers 85 = .ok (.iload_n 1, 1) := by decide +kernel
theorem dX10_remembers_86 : decode cX10_remembers 86 = .ok (.aload_n 0, 1) := by decide +kernel
theorem dX10_remembers_87 : decode cX10_remembers 87 = .ok (.getfield 36, 3) := by decide +kernel
theorem dX10_remembers_90 : decode cX10_remembers 90 = .ok (.iload_n 1, 1) := by decide +kernel
theorem dX10_remembers_91 : decode cX10_remembers 91 = .ok (.baload, 1) := by decide +kernel
theorem dX10_remembers_92 : decode cX10_remembers 92 = .ok (.bastore, 1) := by decide +kernel
theorem dX10_remembers_93 : decode cX10_remembers 93 = .ok (.iinc 1 1, 3) := by decide +kernel
theorem dX10_remembers_96 : decode cX10_remembers 96 = .ok (.goto (-21), 3) := by decide +kernel
theorem dX10_remembers_99 : decode cX10_remembers 99 = .ok (.return_, 1) := by decide +kernel
theorem dX10_dimension_0 : decode cX10_dimension 0 = .ok (.aload_n 0, 1) := by decide +kernel
theorem dX10_dimension_1 : decode cX10_dimension 1 = .ok (.aload_n 0, 1) := by decide +kernel
theorem dX10_dimension_2 : decode cX10_dimension 2 = .ok (.getfield 29, 3) := by decide +kernel
theorem dX10_dimension_5 : decode cX10_dimension 5 = .ok (.bipush 6, 2) := by decide +kernel
theorem dX10_dimension_7 : decode cX10_dimension 7 = .ok (.iload_n 1, 1) := by decide +kernel
theorem dX10_dimension_8 : decode cX10_dimension 8 = .ok (.imul, 1) := by decide +kernel
theorem dX10_dimension_9 : decode cX10_dimension 9 = .ok (.iload_n 2, 1) := by decide +kernel
theorem dX10_dimension_10 : decode cX10_dimension 10 = .ok (.iadd, 1) := by decide +kernel
theorem dX10_dimension_11 : decode cX10_dimension 11 = .ok (.iaload, 1) := by decide +kernel
theorem dX10_dimension_12 : decode cX10_dimension 12 = .ok (.invokevirtual 104, 3) := by decide +kernel
theorem dX10_dimension_15 : decode cX10_dimension 15 = .ok (.ireturn, 1) := by decide +kernel
theorem dX10_isFeature_0 : decode cX10_isFeature 0 = .ok (.iload_n 1, 1) := by decide +kernel
theorem dX10_isFeature_1 : decode cX10_isFeature 1 = .ok (.iconst 0, 1) := by decide +kernel
theorem dX10_isFeature_2 : decode cX10_isFeature 2 = .ok (.aload_n 0, 1) := by decide +kernel
theorem dX10_isFeature_3 : decode cX10_isFeature 3 = .ok (.getfield 143, 3) := by decide +kernel
theorem dX10_isFeature_6 : decode cX10_isFeature 6 = .ok (.iconst 1, 1) := by decide +kernel
theorem dX10_isFeature_7 : decode cX10_isFeature 7 = .ok (.isub, 1) := by decide +kernel
theorem dX10_isFeature_8 : decode cX10_isFeature 8 = .ok (.invokestatic 100, 3) := by decide +kernel
theorem dX10_isFeature_11 : decode cX10_isFeature 11 = .ok (.ifCond .eq 16, 3) := by decide +kernel
theorem dX10_isFeature_14 : decode cX10_isFeature 14 = .ok (.aload_n 0, 1) := by decide +kernel
theorem dX10_isFeature_15 : decode cX10_isFeature 15 = .ok (.getfield 32, 3) := by decide +kernel
theorem dX10_isFeature_18 : decode cX10_isFeature 18 = .ok (.iload_n 1, 1) := by decide +kernel
theorem dX10_isFeature_19 : decode cX10_isFeature 19 = .ok (.baload, 1) := by decide +kernel
theorem dX10_isFeature_20 : decode cX10_isFeature 20 = .ok (.ifCond .eq 7, 3) := by decide +kernel
theorem dX10_isFeature_23 : decode cX10_isFeature 23 = .ok (.iconst 1, 1) := by decide +kernel
theorem dX10_isFeature_24 : decode cX10_isFeature 24 = .ok (.goto 4, 3) := by decide +kernel
theorem dX10_isFeature_27 : decode cX10_isFeature 27 = .ok (.iconst 0, 1) := by decide +kernel
theorem dX10_isFeature_28 : decode cX10_isFeature 28 = .ok (.ireturn, 1) := by decide +kernel
theorem dX10_placeOf_0 : decode cX10_placeOf 0 = .ok (.iconst 0, 1) := by decide +kernel
theorem dX10_placeOf_1 : decode cX10_placeOf 1 = .ok (.istore_n 2, 1) := by decide +kernel
theorem dX10_placeOf_2 : decode cX10_placeOf 2 = .ok (.aload_n 0, 1) := by decide +kernel
theorem dX10_placeOf_3 : decode cX10_placeOf 3 = .ok (.getfield 23, 3) := by decide +kernel
theorem dX10_placeOf_6 : decode cX10_placeOf 6 = .ok (.iload_n 2, 1) := by decide +kernel
theorem dX10_placeOf_7 : decode cX10_placeOf 7 = .ok (.iaload, 1) := by decide +kernel
theorem dX10_placeOf_8 : decode cX10_placeOf 8 = .ok (.iload_n 1, 1) := by decide +kernel
theorem dX10_placeOf_9 : decode cX10_placeOf 9 = .ok (.if_icmp .eq 9, 3) := by decide +kernel
theorem dX10_placeOf_12 : decode cX10_placeOf 12 = .ok (.iinc 2 1, 3) := by decide +kernel
theorem dX10_placeOf_15 : decode cX10_placeOf 15 = .ok (.goto (-13), 3) := by decide +kernel
theorem dX10_placeOf_18 : decode cX10_placeOf 18 = .ok (.iload_n 2, 1) := by decide +kernel
theorem dX10_placeOf_19 : decode cX10_placeOf 19 = .ok (.ireturn, 1) := by decide +kernel
theorem dX10_needed_0 : decode cX10_needed 0 = .ok (.aload_n 0, 1) := by decide +kernel
theorem dX10_needed_1 : decode cX10_needed 1 = .ok (.getfield 26, 3) := by decide +kernel
theorem dX10_needed_4 : decode cX10_needed 4 = .ok (.iload_n 1, 1) := by decide +kernel
theorem dX10_needed_5 : decode cX10_needed 5 = .ok (.caload, 1) := by decide +kernel
theorem dX10_needed_6 : decode cX10_needed 6 = .ok (.bipush 101, 2) := by decide +kernel
theorem dX10_needed_8 : decode cX10_needed 8 = .ok (.if_icmp .ne 12, 3) := by decide +kernel
theorem dX10_needed_11 : decode cX10_needed 11 = .ok (.aload_n 0, 1) := by decide +kernel
theorem dX10_needed_12 : decode cX10_needed 12 = .ok (.iload_n 1, 1) := by decide +kernel
theorem dX10_needed_13 : decode cX10_needed 13 = .ok (.iconst 0, 1) := by decide +kernel
theorem dX10_needed_14 : decode cX10_needed 14 = .ok (.invokevirtual 146, 3) := by decide +kernel
theorem dX10_needed_17 : decode cX10_needed 17 = .ok (.goto 4, 3) := by decide +kernel
theorem dX10_needed_20 : decode cX10_needed 20 = .ok (.iconst (-1), 1) := by decide +kernel
theorem dX10_needed_21 : decode cX10_needed 21 = .ok (.istore_n 2, 1) := by decide +kernel
theorem dX10_needed_22 : decode cX10_needed 22 = .ok (.iload_n 2, 1) := by decide +kernel
theorem dX10_needed_23 : decode cX10_needed 23 = .ok (.iload_n 1, 1) := by decide +kernel
theorem dX10_needed_24 : decode cX10_needed 24 = .ok (.if_icmp .eq 15, 3) := by decide +kernel
theorem dX10_needed_27 : decode cX10_needed 27 = .ok (.aload_n 0, 1) := by decide +kernel
theorem dX10_needed_28 : decode cX10_needed 28 = .ok (.iload_n 2, 1) := by decide +kernel
theorem dX10_needed_29 : decode cX10_needed 29 = .ok (.invokevirtual 150, 3) := by decide +kernel
theorem dX10_needed_32 : decode cX10_needed 32 = .ok (.ifCond .eq 7, 3) := by decide +kernel
theorem dX10_needed_35 : decode cX10_needed 35 = .ok (.iload_n 2, 1) := by decide +kernel
theorem dX10_needed_36 : decode cX10_needed 36 = .ok (.goto 4, 3) := by decide +kernel
theorem dX10_needed_39 : decode cX10_needed 39 = .ok (.iconst (-1), 1) := by decide +kernel
theorem dX10_needed_40 : decode cX10_needed 40 = .ok (.ireturn, 1) := by decide +kernel
theorem dX10_isOrdered_0 : decode cX10_isOrdered 0 = .ok (.iconst 0, 1) := by decide +kernel
theorem dX10_isOrdered_1 : decode cX10_isOrdered 1 = .ok (.istore_n 1, 1) := by decide +kernel
theorem dX10_isOrdered_2 : decode cX10_isOrdered 2 = .ok (.iload_n 1, 1) := by decide +kernel
theorem dX10_isOrdered_3 : decode cX10_isOrdered 3 = .ok (.aload_n 0, 1) := by decide +kernel
theorem dX10_isOrdered_4 : decode cX10_isOrdered 4 = .ok (.getfield 131, 3) := by decide +kernel
theorem dX10_isOrdered_7 : decode cX10_isOrdered 7 = .ok (.if_icmp .ge 36, 3) := by decide +kernel
theorem dX10_isOrdered_10 : decode cX10_isOrdered 10 = .ok (.aload_n 0, 1) := by decide +kernel
theorem dX10_isOrdered_11 : decode cX10_isOrdered 11 = .ok (.aload_n 0, 1) := by decide +kernel
theorem dX10_isOrdered_12 : decode cX10_isOrdered 12 = .ok (.getfield 23, 3) := by decide +kernel
theorem dX10_isOrdered_15 : decode cX10_isOrdered 15 = .ok (.iload_n 1, 1) := by decide +kernel
theorem dX10_isOrdered_16 : decode cX10_isOrdered 16 = .ok (.iaload, 1) := by decide +kernel
theorem dX10_isOrdered_17 : decode cX10_isOrdered 17 = .ok (.invokevirtual 153, 3) := by decide +kernel
theorem dX10_isOrdered_20 : decode cX10_isOrdered 20 = .ok (.istore_n 2, 1) := by decide +kernel
theorem dX10_isOrdered_21 : decode cX10_isOrdered 21 = .ok (.iload_n 2, 1) := by decide +kernel
theorem dX10_isOrdered_22 : decode cX10_isOrdered 22 = .ok (.iconst (-1), 1) := by decide +kernel
theorem dX10_isOrdered_23 : decode cX10_isOrdered 23 = .ok (.if_icmp .eq 14, 3) := by decide +kernel
theorem dX10_isOrdered_26 : decode cX10_isOrdered 26 = .ok (.aload_n 0, 1) := by decide +kernel
theorem dX10_isOrdered_27 : decode cX10_isOrdered 27 = .ok (.iload_n 2, 1) := by decide +kernel
theorem dX10_isOrdered_28 : decode cX10_isOrdered 28 = .ok (.invokevirtual 156, 3) := by decide +kernel
theorem dX10_isOrdered_31 : decode cX10_isOrdered 31 = .ok (.iload_n 1, 1) := by decide +kernel
theorem dX10_isOrdered_32 : decode cX10_isOrdered 32 = .ok (.if_icmp .le 5, 3) := by decide +kernel
theorem dX10_isOrdered_35 : decode cX10_isOrdered 35 = .ok (.iconst 0, 1) := by decide +kernel
theorem dX10_isOrdered_36 : decode cX10_isOrdered 36 = .ok (.ireturn, 1) := by decide +kernel
theorem dX10_isOrdered_37 : decode cX10_isOrdered 37 = .ok (.iinc 1 1, 3) := by decide +kernel
theorem dX10_isOrdered_40 : decode cX10_isOrdered 40 = .ok (.goto (-38), 3) := by decide +kernel
theorem dX10_isOrdered_43 : decode cX10_isOrdered 43 = .ok (.iconst 1, 1) := by decide +kernel
theorem dX10_isOrdered_44 : decode cX10_isOrdered 44 = .ok (.ireturn, 1) := by decide +kernel
theorem dX10_carriesOut_0 : decode cX10_carriesOut 0 = .ok (.iconst (-1), 1) := by decide +kernel
theorem dX10_carriesOut_1 : decode cX10_carriesOut 1 = .ok (.istore_n 1, 1) := by decide +kernel
theorem dX10_carriesOut_2 : decode cX10_carriesOut 2 = .ok (.aload_n 0, 1) := by decide +kernel
theorem dX10_carriesOut_3 : decode cX10_carriesOut 3 = .ok (.getfield 137, 3) := by decide +kernel
theorem dX10_carriesOut_6 : decode cX10_carriesOut 6 = .ok (.iconst 1, 1) := by decide +kernel
theorem dX10_carriesOut_7 : decode cX10_carriesOut 7 = .ok (.isub, 1) := by decide +kernel
theorem dX10_carriesOut_8 : decode cX10_carriesOut 8 = .ok (.istore_n 2, 1) := by decide +kernel
theorem dX10_carriesOut_9 : decode cX10_carriesOut 9 = .ok (.iload_n 2, 1) := by decide +kernel
theorem dX10_carriesOut_10 : decode cX10_carriesOut 10 = .ok (.ifCond .lt 125, 3) := by decide +kernel
theorem dX10_carriesOut_13 : decode cX10_carriesOut 13 = .ok (.aload_n 0, 1) := by decide +kernel
theorem dX10_carriesOut_14 : decode cX10_carriesOut 14 = .ok (.getfield 23, 3) := by decide +kernel
theorem dX10_carriesOut_17 : decode cX10_carriesOut 17 = .ok (.iload_n 2, 1) := by decide +kernel
theorem dX10_carriesOut_18 : decode cX10_carriesOut 18 = .ok (.iaload, 1) := by decide +kernel
theorem dX10_carriesOut_19 : decode cX10_carriesOut 19 = .ok (.istore_n 3, 1) := by decide +kernel
theorem dX10_carriesOut_20 : decode cX10_carriesOut 20 = .ok (.iload_n 2, 1) := by decide +kernel
theorem dX10_carriesOut_21 : decode cX10_carriesOut 21 = .ok (.aload_n 0, 1) := by decide +kernel
theorem dX10_carriesOut_22 : decode cX10_carriesOut 22 = .ok (.getfield 134, 3) := by decide +kernel
theorem dX10_carriesOut_25 : decode cX10_carriesOut 25 = .ok (.if_icmp .ge 36, 3) := by decide +kernel
theorem dX10_carriesOut_28 : decode cX10_carriesOut 28 = .ok (.aload_n 0, 1) := by decide +kernel
theorem dX10_carriesOut_29 : decode cX10_carriesOut 29 = .ok (.getfield 42, 3) := by decide +kernel
theorem dX10_carriesOut_32 : decode cX10_carriesOut 32 = .ok (.iload_n 2, 1) := by decide +kernel
theorem dX10_carriesOut_33 : decode cX10_carriesOut 33 = .ok (.iaload, 1) := by decide +kernel
theorem dX10_carriesOut_34 : decode cX10_carriesOut 34 = .ok (.iload_n 3, 1) := by decide +kernel
theorem dX10_carriesOut_35 : decode cX10_carriesOut 35 = .ok (.if_icmp .ne 26, 3) := by decide +kernel
theorem dX10_carriesOut_38 : decode cX10_carriesOut 38 = .ok (.aload_n 0, 1) := by decide +kernel
theorem dX10_carriesOut_39 : decode cX10_carriesOut 39 = .ok (.getfield 48, 3) := by decide +kernel
theorem dX10_carriesOut_42 : decode cX10_carriesOut 42 = .ok (.iload_n 3, 1) := by decide +kernel
theorem dX10_carriesOut_43 : decode cX10_carriesOut 43 = .ok (.baload, 1) := by decide +kernel
theorem dX10_carriesOut_44 : decode cX10_carriesOut 44 = .ok (.aload_n 0, 1) := by decide +kernel
theorem dX10_carriesOut_45 : decode cX10_carriesOut 45 = .ok (.getfield 36, 3) := by decide +kernel
theorem dX10_carriesOut_48 : decode cX10_carriesOut 48 = .ok (.iload_n 3, 1) := by decide +kernel
theorem dX10_carriesOut_49 : decode cX10_carriesOut 49 = .ok (.baload, 1) := by decide +kernel
theorem dX10_carriesOut_50 : decode cX10_carriesOut 50 = .ok (.if_icmp .ne 11, 3) := by decide +kernel
theorem dX10_carriesOut_53 : decode cX10_carriesOut 53 = .ok (.iload_n 2, 1) := by decide +kernel
theorem dX10_carriesOut_54 : decode cX10_carriesOut 54 = .ok (.aload_n 0, 1) := by decide +kernel
theorem dX10_carriesOut_55 : decode cX10_carriesOut 55 = .ok (.getfield 140, 3) := by decide +kernel
theorem dX10_carriesOut_58 : decode cX10_carriesOut 58 = .ok (.if_icmp .lt 7, 3) := by decide +kernel
theorem dX10_carriesOut_61 : decode cX10_carriesOut 61 = .ok (.iconst 1, 1) := by decide +kernel
theorem dX10_carriesOut_62 : decode cX10_carriesOut 62 = .ok (.goto 4, 3) := by decide +kernel
theorem dX10_carriesOut_65 : decode cX10_carriesOut 65 = .ok (.iconst 0, 1) := by decide +kernel
theorem dX10_carriesOut_66 : decode cX10_carriesOut 66 = .ok (.istore 4, 2) := by decide +kernel
theorem dX10_carriesOut_68 : decode cX10_carriesOut 68 = .ok (.iconst 0, 1) := by decide +kernel
theorem dX10_carriesOut_69 : decode cX10_carriesOut 69 = .ok (.istore 5, 2) := by decide +kernel
theorem dX10_carriesOut_71 : decode cX10_carriesOut 71 = .ok (.iload 5, 2) := by decide +kernel
theorem dX10_carriesOut_73 : decode cX10_carriesOut 73 = .ok (.bipush 6, 2) := by decide +kernel
theorem dX10_carriesOut_75 : decode cX10_carriesOut 75 = .ok (.if_icmp .ge 43, 3) := by decide +kernel
theorem dX10_carriesOut_78 : decode cX10_carriesOut 78 = .ok (.iload 4, 2) := by decide +kernel
theorem dX10_carriesOut_80 : decode cX10_carriesOut 80 = .ok (.ifCond .ne 25, 3) := by decide +kernel
theorem dX10_carriesOut_83 : decode cX10_carriesOut 83 = .ok (.aload_n 0, 1) := by decide +kernel
theorem dX10_carriesOut_84 : decode cX10_carriesOut 84 = .ok (.getfield 45, 3) := by decide +kernel
theorem dX10_carriesOut_87 : decode cX10_carriesOut 87 = .ok (.bipush 6, 2) := by decide +kernel
theorem dX10_carriesOut_89 : decode cX10_carriesOut 89 = .ok (.iload_n 3, 1) := by decide +kernel
theorem dX10_carriesOut_90 : decode cX10_carriesOut 90 = .ok (.imul, 1) := by decide +kernel
theorem dX10_carriesOut_91 : decode cX10_carriesOut 91 = .ok (.iload 5, 2) := by decide +kernel
theorem dX10_carriesOut_93 : decode cX10_carriesOut 93 = .ok (.iadd, 1) := by decide +kernel
theorem dX10_carriesOut_94 : decode cX10_carriesOut 94 = .ok (.iaload, 1) := by decide +kernel
theorem dX10_carriesOut_95 : decode cX10_carriesOut 95 = .ok (.aload_n 0, 1) := by decide +kernel
theorem dX10_carriesOut_96 : decode cX10_carriesOut 96 = .ok (.iload_n 3, 1) := by decide +kernel
theorem dX10_carriesOut_97 : decode cX10_carriesOut 97 = .ok (.iload 5, 2) := by decide +kernel
theorem dX10_carriesOut_99 : decode cX10_carriesOut 99 = .ok (.invokevirtual 146, 3) := by decide +kernel
theorem dX10_carriesOut_102 : decode cX10_carriesOut 102 = .ok (.if_icmp .eq 7, 3) := by decide +kernel
theorem dX10_carriesOut_105 : decode cX10_carriesOut 105 = .ok (.iconst 1, 1) := by decide +kernel
theorem dX10_carriesOut_106 : decode cX10_carriesOut 106 = .ok (.goto 4, 3) := by decide +kernel
theorem dX10_carriesOut_109 : decode cX10_carriesOut 109 = .ok (.iconst 0, 1) := by decide +kernel
theorem dX10_carriesOut_110 : decode cX10_carriesOut 110 = .ok (.istore 4, 2) := by decide +kernel
theorem dX10_carriesOut_112 : decode cX10_carriesOut 112 = .ok (.iinc 5 1, 3) := by decide +kernel
theorem dX10_carriesOut_115 : decode cX10_carriesOut 115 = .ok (.goto (-44), 3) := by decide +kernel
theorem dX10_carriesOut_118 : decode cX10_carriesOut 118 = .ok (.iload 4, 2) := by decide +kernel
theorem dX10_carriesOut_120 : decode cX10_carriesOut 120 = .ok (.ifCond .eq 7, 3) := by decide +kernel
theorem dX10_carriesOut_123 : decode cX10_carriesOut 123 = .ok (.iload_n 2, 1) := by decide +kernel
theorem dX10_carriesOut_124 : decode cX10_carriesOut 124 = .ok (.goto 4, 3) := by decide +kernel
theorem dX10_carriesOut_127 : decode cX10_carriesOut 127 = .ok (.iload_n 1, 1) := by decide +kernel
theorem dX10_carriesOut_128 : decode cX10_carriesOut 128 = .ok (.istore_n 1, 1) := by decide +kernel
theorem dX10_carriesOut_129 : decode cX10_carriesOut 129 = .ok (.iinc 2 (-1), 3) := by decide +kernel
theorem dX10_carriesOut_132 : decode cX10_carriesOut 132 = .ok (.goto (-123), 3) := by decide +kernel
theorem dX10_carriesOut_135 : decode cX10_carriesOut 135 = .ok (.iload_n 1, 1) := by decide +kernel
theorem dX10_carriesOut_136 : decode cX10_carriesOut 136 = .ok (.istore_n 2, 1) := by decide +kernel
theorem dX10_carriesOut_137 : decode cX10_carriesOut 137 = .ok (.iload_n 1, 1) := by decide +kernel
theorem dX10_carriesOut_138 : decode cX10_carriesOut 138 = .ok (.iconst (-1), 1) := by decide +kernel
theorem dX10_carriesOut_139 : decode cX10_carriesOut 139 = .ok (.if_icmp .eq 45, 3) := by decide +kernel
theorem dX10_carriesOut_142 : decode cX10_carriesOut 142 = .ok (.iload_n 2, 1) := by decide +kernel
theorem dX10_carriesOut_143 : decode cX10_carriesOut 143 = .ok (.aload_n 0, 1) := by decide +kernel
theorem dX10_carriesOut_144 : decode cX10_carriesOut 144 = .ok (.getfield 137, 3) := by decide +kernel
theorem dX10_carriesOut_147 : decode cX10_carriesOut 147 = .ok (.if_icmp .ge 37, 3) := by decide +kernel
theorem dX10_carriesOut_150 : decode cX10_carriesOut 150 = .ok (.aload_n 0, 1) := by decide +kernel
theorem dX10_carriesOut_151 : decode cX10_carriesOut 151 = .ok (.dup, 1) := by decide +kernel
theorem dX10_carriesOut_152 : decode cX10_carriesOut 152 = .ok (.getfield 159, 3) := by decide +kernel
theorem dX10_carriesOut_155 : decode cX10_carriesOut 155 = .ok (.aload_n 0, 1) := by decide +kernel
theorem dX10_carriesOut_156 : decode cX10_carriesOut 156 = .ok (.getfield 36, 3) := by decide +kernel
theorem dX10_carriesOut_159 : decode cX10_carriesOut 159 = .ok (.aload_n 0, 1) := by decide +kernel
theorem dX10_carriesOut_160 : decode cX10_carriesOut 160 = .ok (.getfield 23, 3) := by decide +kernel
theorem dX10_carriesOut_163 : decode cX10_carriesOut 163 = .ok (.iload_n 2, 1) := by decide +kernel
theorem dX10_carriesOut_164 : decode cX10_carriesOut 164 = .ok (.iaload, 1) := by decide +kernel
theorem dX10_carriesOut_165 : decode cX10_carriesOut 165 = .ok (.baload, 1) := by decide +kernel
theorem dX10_carriesOut_166 : decode cX10_carriesOut 166 = .ok (.ifCond .eq 7, 3) := by decide +kernel
theorem dX10_carriesOut_169 : decode cX10_carriesOut 169 = .ok (.lconst 0, 1) := by decide +kernel
theorem dX10_carriesOut_170 : decode cX10_carriesOut 170 = .ok (.goto 4, 3) := by decide +kernel
theorem dX10_carriesOut_173 : decode cX10_carriesOut 173 = .ok (.lconst 1, 1) := by decide +kernel
theorem dX10_carriesOut_174 : decode cX10_carriesOut 174 = .ok (.ladd, 1) := by decide +kernel
theorem dX10_carriesOut_175 : decode cX10_carriesOut 175 = .ok (.putfield 159, 3) := by decide +kernel
theorem dX10_carriesOut_178 : decode cX10_carriesOut 178 = .ok (.iinc 2 1, 3) := by decide +kernel
theorem dX10_carriesOut_181 : decode cX10_carriesOut 181 = .ok (.goto (-44), 3) := by decide +kernel
theorem dX10_carriesOut_184 : decode cX10_carriesOut 184 = .ok (.iconst 0, 1) := by decide +kernel
theorem dX10_carriesOut_185 : decode cX10_carriesOut 185 = .ok (.istore_n 2, 1) := by decide +kernel
theorem dX10_carriesOut_186 : decode cX10_carriesOut 186 = .ok (.iload_n 2, 1) := by decide +kernel
theorem dX10_carriesOut_187 : decode cX10_carriesOut 187 = .ok (.sipush 512, 3) := by decide +kernel
theorem dX10_carriesOut_190 : decode cX10_carriesOut 190 = .ok (.if_icmp .ge 16, 3) := by decide +kernel
theorem dX10_carriesOut_193 : decode cX10_carriesOut 193 = .ok (.aload_n 0, 1) := by decide +kernel
theorem dX10_carriesOut_194 : decode cX10_carriesOut 194 = .ok (.getfield 54, 3) := by decide +kernel
theorem dX10_carriesOut_197 : decode cX10_carriesOut 197 = .ok (.iload_n 2, 1) := by decide +kernel
theorem dX10_carriesOut_198 : decode cX10_carriesOut 198 = .ok (.iconst 0, 1) := by decide +kernel
theorem dX10_carriesOut_199 : decode cX10_carriesOut 199 = .ok (.bastore, 1) := by decide +kernel
theorem dX10_carriesOut_200 : decode cX10_carriesOut 200 = .ok (.iinc 2 1, 3) := by decide +kernel
theorem dX10_carriesOut_203 : decode cX10_carriesOut 203 = .ok (.goto (-17), 3) := by decide +kernel
theorem dX10_carriesOut_206 : decode cX10_carriesOut 206 = .ok (.iconst 0, 1) := by decide +kernel
theorem dX10_carriesOut_207 : decode cX10_carriesOut 207 = .ok (.istore_n 2, 1) := by decide +kernel
theorem dX10_carriesOut_208 : decode cX10_carriesOut 208 = .ok (.iload_n 2, 1) := by decide +kernel
theorem dX10_carriesOut_209 : decode cX10_carriesOut 209 = .ok (.sipush 3072, 3) := by decide +kernel
theorem dX10_carriesOut_212 : decode cX10_carriesOut 212 = .ok (.if_icmp .ge 16, 3) := by decide +kernel
theorem dX10_carriesOut_215 : decode cX10_carriesOut 215 = .ok (.aload_n 0, 1) := by decide +kernel
theorem dX10_carriesOut_216 : decode cX10_carriesOut 216 = .ok (.getfield 60, 3) := by decide +kernel
theorem dX10_carriesOut_219 : decode cX10_carriesOut 219 = .ok (.iload_n 2, 1) := by decide +kernel
theorem dX10_carriesOut_220 : decode cX10_carriesOut 220 = .ok (.iconst (-1), 1) := by decide +kernel
theorem dX10_carriesOut_221 : decode cX10_carriesOut 221 = .ok (.iastore, 1) := by decide +kernel
theorem dX10_carriesOut_222 : decode cX10_carriesOut 222 = .ok (.iinc 2 1, 3) := by decide +kernel
theorem dX10_carriesOut_225 : decode cX10_carriesOut 225 = .ok (.goto (-17), 3) := by decide +kernel
theorem dX10_carriesOut_228 : decode cX10_carriesOut 228 = .ok (.iconst 0, 1) := by decide +kernel
theorem dX10_carriesOut_229 : decode cX10_carriesOut 229 = .ok (.istore_n 2, 1) := by decide +kernel
theorem dX10_carriesOut_230 : decode cX10_carriesOut 230 = .ok (.iload_n 2, 1) := by decide +kernel
theorem dX10_carriesOut_231 : decode cX10_carriesOut 231 = .ok (.aload_n 0, 1) := by decide +kernel
theorem dX10_carriesOut_232 : decode cX10_carriesOut 232 = .ok (.getfield 137, 3) := by decide +kernel
theorem dX10_carriesOut_235 : decode cX10_carriesOut 235 = .ok (.if_icmp .ge 33, 3) := by decide +kernel
theorem dX10_carriesOut_238 : decode cX10_carriesOut 238 = .ok (.aload_n 0, 1) := by decide +kernel
theorem dX10_carriesOut_239 : decode cX10_carriesOut 239 = .ok (.getfield 36, 3) := by decide +kernel
theorem dX10_carriesOut_242 : decode cX10_carriesOut 242 = .ok (.aload_n 0, 1) := by decide +kernel
theorem dX10_carriesOut_243 : decode cX10_carriesOut 243 = .ok (.getfield 23, 3) := by decide +kernel
theorem dX10_carriesOut_246 : decode cX10_carriesOut 246 = .ok (.iload_n 2, 1) := by decide +kernel
theorem dX10_carriesOut_247 : decode cX10_carriesOut 247 = .ok (.iaload, 1) := by decide +kernel
theorem dX10_carriesOut_248 : decode cX10_carriesOut 248 = .ok (.baload, 1) := by decide +kernel
theorem dX10_carriesOut_249 : decode cX10_carriesOut 249 = .ok (.ifCond .ne 13, 3) := by decide +kernel
theorem dX10_carriesOut_252 : decode cX10_carriesOut 252 = .ok (.aload_n 0, 1) := by decide +kernel
theorem dX10_carriesOut_253 : decode cX10_carriesOut 253 = .ok (.aload_n 0, 1) := by decide +kernel
theorem dX10_carriesOut_254 : decode cX10_carriesOut 254 = .ok (.getfield 23, 3) := by decide +kernel
theorem dX10_carriesOut_257 : decode cX10_carriesOut 257 = .ok (.iload_n 2, 1) := by decide +kernel
theorem dX10_carriesOut_258 : decode cX10_carriesOut 258 = .ok (.iaload, 1) := by decide +kernel
theorem dX10_carriesOut_259 : decode cX10_carriesOut 259 = .ok (.invokevirtual 163, 3) := by decide +kernel
theorem dX10_carriesOut_262 : decode cX10_carriesOut 262 = .ok (.iinc 2 1, 3) := by decide +kernel
theorem dX10_carriesOut_265 : decode cX10_carriesOut 265 = .ok (.goto (-35), 3) := by decide +kernel
theorem dX10_carriesOut_268 : decode cX10_carriesOut 268 = .ok (.return_, 1) := by decide +kernel
theorem dX10_isDimension_0 : decode cX10_isDimension 0 = .ok (.iload_n 1, 1) := by decide +kernel
theorem dX10_isDimension_1 : decode cX10_isDimension 1 = .ok (.invokestatic 108, 3) := by decide +kernel
theorem dX10_isDimension_4 : decode cX10_isDimension 4 = .ok (.ifCond .eq 21, 3) := by decide +kernel
theorem dX10_isDimension_7 : decode cX10_isDimension 7 = .ok (.iload_n 2, 1) := by decide +kernel
theorem dX10_isDimension_8 : decode cX10_isDimension 8 = .ok (.invokestatic 108, 3) := by decide +kernel
theorem dX10_isDimension_11 : decode cX10_isDimension 11 = .ok (.ifCond .eq 14, 3) := by decide +kernel
theorem dX10_isDimension_14 : decode cX10_isDimension 14 = .ok (.iload_n 3, 1) := by decide +kernel
theorem dX10_isDimension_15 : decode cX10_isDimension 15 = .ok (.invokestatic 108, 3) := by decide +kernel
theorem dX10_isDimension_18 : decode cX10_isDimension 18 = .ok (.ifCond .eq 7, 3) := by decide +kernel
theorem dX10_isDimension_21 : decode cX10_isDimension 21 = .ok (.iconst 1, 1) := by decide +kernel
theorem dX10_isDimension_22 : decode cX10_isDimension 22 = .ok (.goto 4, 3) := by decide +kernel
theorem dX10_isDimension_25 : decode cX10_isDimension 25 = .ok (.iconst 0, 1) := by decide +kernel
theorem dX10_isDimension_26 : decode cX10_isDimension 26 = .ok (.ireturn, 1) := by decide +kernel
theorem dX10_addFeature_0 : decode cX10_addFeature 0 = .ok (.aload_n 0, 1) := by decide +kernel
theorem dX10_addFeature_1 : decode cX10_addFeature 1 = .ok (.iconst 0, 1) := by decide +kernel
theorem dX10_addFeature_2 : decode cX10_addFeature 2 = .ok (.putfield 96, 3) := by decide +kernel
theorem dX10_addFeature_5 : decode cX10_addFeature 5 = .ok (.iload_n 1, 1) := by decide +kernel
theorem dX10_addFeature_6 : decode cX10_addFeature 6 = .ok (.bipush 98, 2) := by decide +kernel
theorem dX10_addFeature_8 : decode cX10_addFeature 8 = .ok (.if_icmp .eq 39, 3) := by decide +kernel
theorem dX10_addFeature_11 : decode cX10_addFeature 11 = .ok (.iload_n 1, 1) := by decide +kernel
theorem dX10_addFeature_12 : decode cX10_addFeature 12 = .ok (.bipush 99, 2) := by decide +kernel
theorem dX10_addFeature_14 : decode cX10_addFeature 14 = .ok (.if_icmp .eq 33, 3) := by decide +kernel
theorem dX10_addFeature_17 : decode cX10_addFeature 17 = .ok (.iload_n 1, 1) := by decide +kernel
theorem dX10_addFeature_18 : decode cX10_addFeature 18 = .ok (.bipush 105, 2) := by decide +kernel
theorem dX10_addFeature_20 : decode cX10_addFeature 20 = .ok (.if_icmp .eq 27, 3) := by decide +kernel
theorem dX10_addFeature_23 : decode cX10_addFeature 23 = .ok (.iload_n 1, 1) := by decide +kernel
theorem dX10_addFeature_24 : decode cX10_addFeature 24 = .ok (.bipush 109, 2) := by decide +kernel
theorem dX10_addFeature_26 : decode cX10_addFeature 26 = .ok (.if_icmp .eq 21, 3) := by decide +kernel
theorem dX10_addFeature_29 : decode cX10_addFeature 29 = .ok (.iload_n 1, 1) := by decide +kernel
theorem dX10_addFeature_30 : decode cX10_addFeature 30 = .ok (.bipush 112, 2) := by decide +kernel
theorem dX10_addFeature_32 : decode cX10_addFeature 32 = .ok (.if_icmp .eq 15, 3) := by decide +kernel
theorem dX10_addFeature_35 : decode cX10_addFeature 35 = .ok (.iload_n 1, 1) := by decide +kernel
theorem dX10_addFeature_36 : decode cX10_addFeature 36 = .ok (.bipush 104, 2) := by decide +kernel
theorem dX10_addFeature_38 : decode cX10_addFeature 38 = .ok (.if_icmp .eq 9, 3) := by decide +kernel
theorem dX10_addFeature_41 : decode cX10_addFeature 41 = .ok (.iload_n 1, 1) := by decide +kernel
theorem dX10_addFeature_42 : decode cX10_addFeature 42 = .ok (.bipush 101, 2) := by decide +kernel
theorem dX10_addFeature_44 : decode cX10_addFeature 44 = .ok (.if_icmp .ne 7, 3) := by decide +kernel
theorem dX10_addFeature_47 : decode cX10_addFeature 47 = .ok (.iconst 1, 1) := by decide +kernel
theorem dX10_addFeature_48 : decode cX10_addFeature 48 = .ok (.goto 4, 3) := by decide +kernel
theorem dX10_addFeature_51 : decode cX10_addFeature 51 = .ok (.iconst 0, 1) := by decide +kernel
theorem dX10_addFeature_52 : decode cX10_addFeature 52 = .ok (.istore 5, 2) := by decide +kernel
theorem dX10_addFeature_54 : decode cX10_addFeature 54 = .ok (.iload 5, 2) := by decide +kernel
theorem dX10_addFeature_56 : decode cX10_addFeature 56 = .ok (.ifCond .eq 14, 3) := by decide +kernel
theorem dX10_addFeature_59 : decode cX10_addFeature 59 = .ok (.aload_n 0, 1) := by decide +kernel
theorem dX10_addFeature_60 : decode cX10_addFeature 60 = .ok (.iload_n 2, 1) := by decide +kernel
theorem dX10_addFeature_61 : decode cX10_addFeature 61 = .ok (.iload_n 3, 1) := by decide +kernel
theorem dX10_addFeature_62 : decode cX10_addFeature 62 = .ok (.iload 4, 2) := by decide +kernel
theorem dX10_addFeature_64 : decode cX10_addFeature 64 = .ok (.invokevirtual 167, 3) := by decide +kernel
theorem dX10_addFeature_67 : decode cX10_addFeature 67 = .ok (.ifCond .ne 9, 3) := by decide +kernel
theorem dX10_addFeature_70 : decode cX10_addFeature 70 = .ok (.aload_n 0, 1) := by decide +kernel
theorem dX10_addFeature_71 : decode cX10_addFeature 71 = .ok (.iconst 1, 1) := by decide +kernel
theorem dX10_addFeature_72 : decode cX10_addFeature 72 = .ok (.invokevirtual 112, 3) := by decide +kernel
theorem dX10_addFeature_75 : decode cX10_addFeature 75 = .ok (.ireturn, 1) := by decide +kernel
theorem dX10_addFeature_76 : decode cX10_addFeature 76 = .ok (.aload_n 0, 1) := by decide +kernel
theorem dX10_addFeature_77 : decode cX10_addFeature 77 = .ok (.getfield 131, 3) := by decide +kernel
theorem dX10_addFeature_80 : decode cX10_addFeature 80 = .ok (.bipush 12, 2) := by decide +kernel
theorem dX10_addFeature_82 : decode cX10_addFeature 82 = .ok (.if_icmp .eq 12, 3) := by decide +kernel
theorem dX10_addFeature_85 : decode cX10_addFeature 85 = .ok (.aload_n 0, 1) := by decide +kernel
theorem dX10_addFeature_86 : decode cX10_addFeature 86 = .ok (.getfield 143, 3) := by decide +kernel
theorem dX10_addFeature_89 : decode cX10_addFeature 89 = .ok (.bipush 40, 2) := by decide +kernel
theorem dX10_addFeature_91 : decode cX10_addFeature 91 = .ok (.if_icmp .ne 9, 3) := by decide +kernel
theorem dX10_addFeature_94 : decode cX10_addFeature 94 = .ok (.aload_n 0, 1) := by decide +kernel
theorem dX10_addFeature_95 : decode cX10_addFeature 95 = .ok (.iconst 2, 1) := by decide +kernel
theorem dX10_addFeature_96 : decode cX10_addFeature 96 = .ok (.invokevirtual 112, 3) := by decide +kernel
theorem dX10_addFeature_99 : decode cX10_addFeature 99 = .ok (.ireturn, 1) := by decide +kernel
theorem dX10_addFeature_100 : decode cX10_addFeature 100 = .ok (.aload_n 0, 1) := by decide +kernel
theorem dX10_addFeature_101 : decode cX10_addFeature 101 = .ok (.invokevirtual 115, 3) := by decide +kernel
theorem dX10_addFeature_104 : decode cX10_addFeature 104 = .ok (.aload_n 0, 1) := by decide +kernel
theorem dX10_addFeature_105 : decode cX10_addFeature 105 = .ok (.getfield 143, 3) := by decide +kernel
theorem dX10_addFeature_108 : decode cX10_addFeature 108 = .ok (.istore 6, 2) := by decide +kernel
theorem dX10_addFeature_110 : decode cX10_addFeature 110 = .ok (.aload_n 0, 1) := by decide +kernel
theorem dX10_addFeature_111 : decode cX10_addFeature 111 = .ok (.getfield 26, 3) := by decide +kernel
theorem dX10_addFeature_114 : decode cX10_addFeature 114 = .ok (.iload 6, 2) := by decide +kernel
theorem dX10_addFeature_116 : decode cX10_addFeature 116 = .ok (.iload_n 1, 1) := by decide +kernel
theorem dX10_addFeature_117 : decode cX10_addFeature 117 = .ok (.castore, 1) := by decide +kernel
theorem dX10_addFeature_118 : decode cX10_addFeature 118 = .ok (.aload_n 0, 1) := by decide +kernel
theorem dX10_addFeature_119 : decode cX10_addFeature 119 = .ok (.getfield 29, 3) := by decide +kernel
theorem dX10_addFeature_122 : decode cX10_addFeature 122 = .ok (.bipush 6, 2) := by decide +kernel
theorem dX10_addFeature_124 : decode cX10_addFeature 124 = .ok (.iload 6, 2) := by decide +kernel
theorem dX10_addFeature_126 : decode cX10_addFeature 126 = .ok (.imul, 1) := by decide +kernel
theorem dX10_addFeature_127 : decode cX10_addFeature 127 = .ok (.iload_n 2, 1) := by decide +kernel
theorem dX10_addFeature_128 : decode cX10_addFeature 128 = .ok (.iastore, 1) := by decide +kernel
theorem dX10_addFeature_129 : decode cX10_addFeature 129 = .ok (.aload_n 0, 1) := by decide +kernel
theorem dX10_addFeature_130 : decode cX10_addFeature 130 = .ok (.getfield 29, 3) := by decide +kernel
theorem dX10_addFeature_133 : decode cX10_addFeature 133 = .ok (.bipush 6, 2) := by decide +kernel
theorem dX10_addFeature_135 : decode cX10_addFeature 135 = .ok (.iload 6, 2) := by decide +kernel
theorem dX10_addFeature_137 : decode cX10_addFeature 137 = .ok (.imul, 1) := by decide +kernel
theorem dX10_addFeature_138 : decode cX10_addFeature 138 = .ok (.iconst 1, 1) := by decide +kernel
theorem dX10_addFeature_139 : decode cX10_addFeature 139 = .ok (.iadd, 1) := by decide +kernel
theorem dX10_addFeature_140 : decode cX10_addFeature 140 = .ok (.iload_n 3, 1) := by decide +kernel
theorem dX10_addFeature_141 : decode cX10_addFeature 141 = .ok (.iastore, 1) := by decide +kernel
theorem dX10_addFeature_142 : decode cX10_addFeature 142 = .ok (.aload_n 0, 1) := by decide +kernel
theorem dX10_addFeature_143 : decode cX10_addFeature 143 = .ok (.getfield 29, 3) := by decide +kernel
theorem dX10_addFeature_146 : decode cX10_addFeature 146 = .ok (.bipush 6, 2) := by decide +kernel
theorem dX10_addFeature_148 : decode cX10_addFeature 148 = .ok (.iload 6, 2) := by decide +kernel
theorem dX10_addFeature_150 : decode cX10_addFeature 150 = .ok (.imul, 1) := by decide +kernel
theorem dX10_addFeature_151 : decode cX10_addFeature 151 = .ok (.iconst 2, 1) := by decide +kernel
theorem dX10_addFeature_152 : decode cX10_addFeature 152 = .ok (.iadd, 1) := by decide +kernel
theorem dX10_addFeature_153 : decode cX10_addFeature 153 = .ok (.iload 4, 2) := by decide +kernel
theorem dX10_addFeature_155 : decode cX10_addFeature 155 = .ok (.iastore, 1) := by decide +kernel
theorem dX10_addFeature_156 : decode cX10_addFeature 156 = .ok (.aload_n 0, 1) := by decide +kernel
theorem dX10_addFeature_157 : decode cX10_addFeature 157 = .ok (.getfield 29, 3) := by decide +kernel
theorem dX10_addFeature_160 : decode cX10_addFeature 160 = .ok (.bipush 6, 2) := by decide +kernel
theorem dX10_addFeature_162 : decode cX10_addFeature 162 = .ok (.iload 6, 2) := by decide +kernel
theorem dX10_addFeature_164 : decode cX10_addFeature 164 = .ok (.imul, 1) := by decide +kernel
theorem dX10_addFeature_165 : decode cX10_addFeature 165 = .ok (.iconst 3, 1) := by decide +kernel
theorem dX10_addFeature_166 : decode cX10_addFeature 166 = .ok (.iadd, 1) := by decide +kernel
theorem dX10_addFeature_167 : decode cX10_addFeature 167 = .ok (.iconst 1, 1) := by decide +kernel
theorem dX10_addFeature_168 : decode cX10_addFeature 168 = .ok (.iastore, 1) := by decide +kernel
theorem dX10_addFeature_169 : decode cX10_addFeature 169 = .ok (.aload_n 0, 1) := by decide +kernel
theorem dX10_addFeature_170 : decode cX10_addFeature 170 = .ok (.getfield 29, 3) := by decide +kernel
theorem dX10_addFeature_173 : decode cX10_addFeature 173 = .ok (.bipush 6, 2) := by decide +kernel
theorem dX10_addFeature_175 : decode cX10_addFeature 175 = .ok (.iload 6, 2) := by decide +kernel
theorem dX10_addFeature_177 : decode cX10_addFeature 177 = .ok (.imul, 1) := by decide +kernel
theorem dX10_addFeature_178 : decode cX10_addFeature 178 = .ok (.iconst 4, 1) := by decide +kernel
theorem dX10_addFeature_179 : decode cX10_addFeature 179 = .ok (.iadd, 1) := by decide +kernel
theorem dX10_addFeature_180 : decode cX10_addFeature 180 = .ok (.iconst 1, 1) := by decide +kernel
theorem dX10_addFeature_181 : decode cX10_addFeature 181 = .ok (.iastore, 1) := by decide +kernel
theorem dX10_addFeature_182 : decode cX10_addFeature 182 = .ok (.aload_n 0, 1) := by decide +kernel
theorem dX10_addFeature_183 : decode cX10_addFeature 183 = .ok (.getfield 29, 3) := by decide +kernel
theorem dX10_addFeature_186 : decode cX10_addFeature 186 = .ok (.bipush 6, 2) := by decide +kernel
theorem dX10_addFeature_188 : decode cX10_addFeature 188 = .ok (.iload 6, 2) := by decide +kernel
theorem dX10_addFeature_190 : decode cX10_addFeature 190 = .ok (.imul, 1) := by decide +kernel
theorem dX10_addFeature_191 : decode cX10_addFeature 191 = .ok (.iconst 5, 1) := by decide +kernel
theorem dX10_addFeature_192 : decode cX10_addFeature 192 = .ok (.iadd, 1) := by decide +kernel
theorem dX10_addFeature_193 : decode cX10_addFeature 193 = .ok (.iconst 1, 1) := by decide +kernel
theorem dX10_addFeature_194 : decode cX10_addFeature 194 = .ok (.iastore, 1) := by decide +kernel
theorem dX10_addFeature_195 : decode cX10_addFeature 195 = .ok (.aload_n 0, 1) := by decide +kernel
theorem dX10_addFeature_196 : decode cX10_addFeature 196 = .ok (.getfield 32, 3) := by decide +kernel
theorem dX10_addFeature_199 : decode cX10_addFeature 199 = .ok (.iload 6, 2) := by decide +kernel
theorem dX10_addFeature_201 : decode cX10_addFeature 201 = .ok (.iconst 1, 1) := by decide +kernel
theorem dX10_addFeature_202 : decode cX10_addFeature 202 = .ok (.bastore, 1) := by decide +kernel
theorem dX10_addFeature_203 : decode cX10_addFeature 203 = .ok (.aload_n 0, 1) := by decide +kernel
theorem dX10_addFeature_204 : decode cX10_addFeature 204 = .ok (.getfield 36, 3) := by decide +kernel
theorem dX10_addFeature_207 : decode cX10_addFeature 207 = .ok (.iload 6, 2) := by decide +kernel
theorem dX10_addFeature_209 : decode cX10_addFeature 209 = .ok (.iconst 0, 1) := by decide +kernel
theorem dX10_addFeature_210 : decode cX10_addFeature 210 = .ok (.bastore, 1) := by decide +kernel
theorem dX10_addFeature_211 : decode cX10_addFeature 211 = .ok (.aload_n 0, 1) := by decide +kernel
theorem dX10_addFeature_212 : decode cX10_addFeature 212 = .ok (.getfield 23, 3) := by decide +kernel
theorem dX10_addFeature_215 : decode cX10_addFeature 215 = .ok (.aload_n 0, 1) := by decide +kernel
theorem dX10_addFeature_216 : decode cX10_addFeature 216 = .ok (.getfield 131, 3) := by decide +kernel
theorem dX10_addFeature_219 : decode cX10_addFeature 219 = .ok (.iload 6, 2) := by decide +kernel
theorem dX10_addFeature_221 : decode cX10_addFeature 221 = .ok (.iastore, 1) := by decide +kernel
theorem dX10_addFeature_222 : decode cX10_addFeature 222 = .ok (.aload_n 0, 1) := by decide +kernel
theorem dX10_addFeature_223 : decode cX10_addFeature 223 = .ok (.getfield 137, 3) := by decide +kernel
theorem dX10_addFeature_226 : decode cX10_addFeature 226 = .ok (.aload_n 0, 1) := by decide +kernel
theorem dX10_addFeature_227 : decode cX10_addFeature 227 = .ok (.getfield 131, 3) := by decide +kernel
theorem dX10_addFeature_230 : decode cX10_addFeature 230 = .ok (.if_icmp .ne 7, 3) := by decide +kernel
theorem dX10_addFeature_233 : decode cX10_addFeature 233 = .ok (.iconst 1, 1) := by decide +kernel
theorem dX10_addFeature_234 : decode cX10_addFeature 234 = .ok (.goto 4, 3) := by decide +kernel
theorem dX10_addFeature_237 : decode cX10_addFeature 237 = .ok (.iconst 0, 1) := by decide +kernel
theorem dX10_addFeature_238 : decode cX10_addFeature 238 = .ok (.istore 7, 2) := by decide +kernel
theorem dX10_addFeature_240 : decode cX10_addFeature 240 = .ok (.aload_n 0, 1) := by decide +kernel
theorem dX10_addFeature_241 : decode cX10_addFeature 241 = .ok (.dup, 1) := by decide +kernel
theorem dX10_addFeature_242 : decode cX10_addFeature 242 = .ok (.getfield 131, 3) := by decide +kernel
theorem dX10_addFeature_245 : decode cX10_addFeature 245 = .ok (.iconst 1, 1) := by decide +kernel
theorem dX10_addFeature_246 : decode cX10_addFeature 246 = .ok (.iadd, 1) := by decide +kernel
theorem dX10_addFeature_247 : decode cX10_addFeature 247 = .ok (.putfield 131, 3) := by decide +kernel
theorem dX10_addFeature_250 : decode cX10_addFeature 250 = .ok (.aload_n 0, 1) := by decide +kernel
theorem dX10_addFeature_251 : decode cX10_addFeature 251 = .ok (.dup, 1) := by decide +kernel
theorem dX10_addFeature_252 : decode cX10_addFeature 252 = .ok (.getfield 143, 3) := by decide +kernel
theorem dX10_addFeature_255 : decode cX10_addFeature 255 = .ok (.iconst 1, 1) := by decide +kernel
theorem dX10_addFeature_256 : decode cX10_addFeature 256 = .ok (.iadd, 1) := by decide +kernel
theorem dX10_addFeature_257 : decode cX10_addFeature 257 = .ok (.putfield 143, 3) := by decide +kernel
theorem dX10_addFeature_260 : decode cX10_addFeature 260 = .ok (.aload_n 0, 1) := by decide +kernel
theorem dX10_addFeature_261 : decode cX10_addFeature 261 = .ok (.invokevirtual 124, 3) := by decide +kernel
theorem dX10_addFeature_264 : decode cX10_addFeature 264 = .ok (.ifCond .ne 37, 3) := by decide +kernel
theorem dX10_addFeature_267 : decode cX10_addFeature 267 = .ok (.aload_n 0, 1) := by decide +kernel
theorem dX10_addFeature_268 : decode cX10_addFeature 268 = .ok (.dup, 1) := by decide +kernel
theorem dX10_addFeature_269 : decode cX10_addFeature 269 = .ok (.getfield 131, 3) := by decide +kernel
theorem dX10_addFeature_272 : decode cX10_addFeature 272 = .ok (.iconst 1, 1) := by decide +kernel
theorem dX10_addFeature_273 : decode cX10_addFeature 273 = .ok (.isub, 1) := by decide +kernel
theorem dX10_addFeature_274 : decode cX10_addFeature 274 = .ok (.putfield 131, 3) := by decide +kernel
theorem dX10_addFeature_277 : decode cX10_addFeature 277 = .ok (.aload_n 0, 1) := by decide +kernel
theorem dX10_addFeature_278 : decode cX10_addFeature 278 = .ok (.dup, 1) := by decide +kernel
theorem dX10_addFeature_279 : decode cX10_addFeature 279 = .ok (.getfield 143, 3) := by decide +kernel
theorem dX10_addFeature_282 : decode cX10_addFeature 282 = .ok (.iconst 1, 1) := by decide +kernel
theorem dX10_addFeature_283 : decode cX10_addFeature 283 = .ok (.isub, 1) := by decide +kernel
theorem dX10_addFeature_284 : decode cX10_addFeature 284 = .ok (.putfield 143, 3) := by decide +kernel
theorem dX10_addFeature_287 : decode cX10_addFeature 287 = .ok (.aload_n 0, 1) := by decide +kernel
theorem dX10_addFeature_288 : decode cX10_addFeature 288 = .ok (.getfield 32, 3) := by decide +kernel
theorem dX10_addFeature_291 : decode cX10_addFeature 291 = .ok (.iload 6, 2) := by decide +kernel
theorem dX10_addFeature_293 : decode cX10_addFeature 293 = .ok (.iconst 0, 1) := by decide +kernel
theorem dX10_addFeature_294 : decode cX10_addFeature 294 = .ok (.bastore, 1) := by decide +kernel
theorem dX10_addFeature_295 : decode cX10_addFeature 295 = .ok (.aload_n 0, 1) := by decide +kernel
theorem dX10_addFeature_296 : decode cX10_addFeature 296 = .ok (.iconst 3, 1) := by decide +kernel
theorem dX10_addFeature_297 : decode cX10_addFeature 297 = .ok (.invokevirtual 112, 3) := by decide +kernel
theorem dX10_addFeature_300 : decode cX10_addFeature 300 = .ok (.ireturn, 1) := by decide +kernel
theorem dX10_addFeature_301 : decode cX10_addFeature 301 = .ok (.aload_n 0, 1) := by decide +kernel
theorem dX10_addFeature_302 : decode cX10_addFeature 302 = .ok (.iload 7, 2) := by decide +kernel
theorem dX10_addFeature_304 : decode cX10_addFeature 304 = .ok (.ifCond .eq 10, 3) := by decide +kernel
theorem dX10_addFeature_307 : decode cX10_addFeature 307 = .ok (.aload_n 0, 1) := by decide +kernel
theorem dX10_addFeature_308 : decode cX10_addFeature 308 = .ok (.getfield 131, 3) := by decide +kernel
theorem dX10_addFeature_311 : decode cX10_addFeature 311 = .ok (.goto 7, 3) := by decide +kernel
theorem dX10_addFeature_314 : decode cX10_addFeature 314 = .ok (.aload_n 0, 1) := by decide +kernel
theorem dX10_addFeature_315 : decode cX10_addFeature 315 = .ok (.getfield 137, 3) := by decide +kernel
theorem dX10_addFeature_318 : decode cX10_addFeature 318 = .ok (.putfield 137, 3) := by decide +kernel
theorem dX10_addFeature_321 : decode cX10_addFeature 321 = .ok (.aload_n 0, 1) := by decide +kernel
theorem dX10_addFeature_322 : decode cX10_addFeature 322 = .ok (.invokevirtual 128, 3) := by decide +kernel
theorem dX10_addFeature_325 : decode cX10_addFeature 325 = .ok (.iload 6, 2) := by decide +kernel
theorem dX10_addFeature_327 : decode cX10_addFeature 327 = .ok (.ireturn, 1) := by decide +kernel
theorem dX10_setSize_0 : decode cX10_setSize 0 = .ok (.aload_n 0, 1) := by decide +kernel
theorem dX10_setSize_1 : decode cX10_setSize 1 = .ok (.iconst 0, 1) := by decide +kernel
theorem dX10_setSize_2 : decode cX10_setSize 2 = .ok (.putfield 96, 3) := by decide +kernel
theorem dX10_setSize_5 : decode cX10_setSize 5 = .ok (.aload_n 0, 1) := by decide +kernel
theorem dX10_setSize_6 : decode cX10_setSize 6 = .ok (.iload_n 1, 1) := by decide +kernel
theorem dX10_setSize_7 : decode cX10_setSize 7 = .ok (.invokevirtual 150, 3) := by decide +kernel
theorem dX10_setSize_10 : decode cX10_setSize 10 = .ok (.ifCond .ne 9, 3) := by decide +kernel
theorem dX10_setSize_13 : decode cX10_setSize 13 = .ok (.aload_n 0, 1) := by decide +kernel
theorem dX10_setSize_14 : decode cX10_setSize 14 = .ok (.iconst 1, 1) := by decide +kernel
theorem dX10_setSize_15 : decode cX10_setSize 15 = .ok (.invokevirtual 112, 3) := by decide +kernel
theorem dX10_setSize_18 : decode cX10_setSize 18 = .ok (.ireturn, 1) := by decide +kernel
theorem dX10_setSize_19 : decode cX10_setSize 19 = .ok (.aload_n 0, 1) := by decide +kernel
theorem dX10_setSize_20 : decode cX10_setSize 20 = .ok (.iload_n 2, 1) := by decide +kernel
theorem dX10_setSize_21 : decode cX10_setSize 21 = .ok (.iload_n 3, 1) := by decide +kernel
theorem dX10_setSize_22 : decode cX10_setSize 22 = .ok (.iload 4, 2) := by decide +kernel
theorem dX10_setSize_24 : decode cX10_setSize 24 = .ok (.invokevirtual 167, 3) := by decide +kernel
theorem dX10_setSize_27 : decode cX10_setSize 27 = .ok (.ifCond .ne 9, 3) := by decide +kernel
theorem dX10_setSize_30 : decode cX10_setSize 30 = .ok (.aload_n 0, 1) := by decide +kernel
theorem dX10_setSize_31 : decode cX10_setSize 31 = .ok (.iconst 2, 1) := by decide +kernel
theorem dX10_setSize_32 : decode cX10_setSize 32 = .ok (.invokevirtual 112, 3) := by decide +kernel
theorem dX10_setSize_35 : decode cX10_setSize 35 = .ok (.ireturn, 1) := by decide +kernel
theorem dX10_setSize_36 : decode cX10_setSize 36 = .ok (.aload_n 0, 1) := by decide +kernel
theorem dX10_setSize_37 : decode cX10_setSize 37 = .ok (.invokevirtual 115, 3) := by decide +kernel
theorem dX10_setSize_40 : decode cX10_setSize 40 = .ok (.aload_n 0, 1) := by decide +kernel
theorem dX10_setSize_41 : decode cX10_setSize 41 = .ok (.iload_n 2, 1) := by decide +kernel
theorem dX10_setSize_42 : decode cX10_setSize 42 = .ok (.invokevirtual 104, 3) := by decide +kernel
theorem dX10_setSize_45 : decode cX10_setSize 45 = .ok (.aload_n 0, 1) := by decide +kernel
theorem dX10_setSize_46 : decode cX10_setSize 46 = .ok (.iload_n 1, 1) := by decide +kernel
theorem dX10_setSize_47 : decode cX10_setSize 47 = .ok (.iconst 3, 1) := by decide +kernel
theorem dX10_setSize_48 : decode cX10_setSize 48 = .ok (.invokevirtual 146, 3) := by decide +kernel
theorem dX10_setSize_51 : decode cX10_setSize 51 = .ok (.if_icmp .ne 7, 3) := by decide +kernel
theorem dX10_setSize_54 : decode cX10_setSize 54 = .ok (.iconst 0, 1) := by decide +kernel
theorem dX10_setSize_55 : decode cX10_setSize 55 = .ok (.goto 4, 3) := by decide +kernel
theorem dX10_setSize_58 : decode cX10_setSize 58 = .ok (.iconst 1, 1) := by decide +kernel
theorem dX10_setSize_59 : decode cX10_setSize 59 = .ok (.istore 5, 2) := by decide +kernel
theorem dX10_setSize_61 : decode cX10_setSize 61 = .ok (.iload 5, 2) := by decide +kernel
theorem dX10_setSize_63 : decode cX10_setSize 63 = .ok (.aload_n 0, 1) := by decide +kernel
theorem dX10_setSize_64 : decode cX10_setSize 64 = .ok (.iload_n 3, 1) := by decide +kernel
theorem dX10_setSize_65 : decode cX10_setSize 65 = .ok (.invokevirtual 104, 3) := by decide +kernel
theorem dX10_setSize_68 : decode cX10_setSize 68 = .ok (.aload_n 0, 1) := by decide +kernel
theorem dX10_setSize_69 : decode cX10_setSize 69 = .ok (.iload_n 1, 1) := by decide +kernel
theorem dX10_setSize_70 : decode cX10_setSize 70 = .ok (.iconst 4, 1) := by decide +kernel
theorem dX10_setSize_71 : decode cX10_setSize 71 = .ok (.invokevirtual 146, 3) := by decide +kernel
theorem dX10_setSize_74 : decode cX10_setSize 74 = .ok (.if_icmp .ne 7, 3) := by decide +kernel
theorem dX10_setSize_77 : decode cX10_setSize 77 = .ok (.iconst 0, 1) := by decide +kernel
theorem dX10_setSize_78 : decode cX10_setSize 78 = .ok (.goto 4, 3) := by decide +kernel
theorem dX10_setSize_81 : decode cX10_setSize 81 = .ok (.iconst 1, 1) := by decide +kernel
theorem dX10_setSize_82 : decode cX10_setSize 82 = .ok (.iadd, 1) := by decide +kernel
theorem dX10_setSize_83 : decode cX10_setSize 83 = .ok (.istore 5, 2) := by decide +kernel
theorem dX10_setSize_85 : decode cX10_setSize 85 = .ok (.iload 5, 2) := by decide +kernel
theorem dX10_setSize_87 : decode cX10_setSize 87 = .ok (.aload_n 0, 1) := by decide +kernel
theorem dX10_setSize_88 : decode cX10_setSize 88 = .ok (.iload 4, 2) := by decide +kernel
theorem dX10_setSize_90 : decode cX10_setSize 90 = .ok (.invokevirtual 104, 3) := by decide +kernel
theorem dX10_setSize_93 : decode cX10_setSize 93 = .ok (.aload_n 0, 1) := by decide +kernel
theorem dX10_setSize_94 : decode cX10_setSize 94 = .ok (.iload_n 1, 1) := by decide +kernel
theorem dX10_setSize_95 : decode cX10_setSize 95 = .ok (.iconst 5, 1) := by decide +kernel
theorem dX10_setSize_96 : decode cX10_setSize 96 = .ok (.invokevirtual 146, 3) := by decide +kernel
theorem dX10_setSize_99 : decode cX10_setSize 99 = .ok (.if_icmp .ne 7, 3) := by decide +kernel
theorem dX10_setSize_102 : decode cX10_setSize 102 = .ok (.iconst 0, 1) := by decide +kernel
theorem dX10_setSize_103 : decode cX10_setSize 103 = .ok (.goto 4, 3) := by decide +kernel
theorem dX10_setSize_106 : decode cX10_setSize 106 = .ok (.iconst 1, 1) := by decide +kernel
theorem dX10_setSize_107 : decode cX10_setSize 107 = .ok (.iadd, 1) := by decide +kernel
theorem dX10_setSize_108 : decode cX10_setSize 108 = .ok (.istore 5, 2) := by decide +kernel
theorem dX10_setSize_110 : decode cX10_setSize 110 = .ok (.aload_n 0, 1) := by decide +kernel
theorem dX10_setSize_111 : decode cX10_setSize 111 = .ok (.getfield 29, 3) := by decide +kernel
theorem dX10_setSize_114 : decode cX10_setSize 114 = .ok (.bipush 6, 2) := by decide +kernel
theorem dX10_setSize_116 : decode cX10_setSize 116 = .ok (.iload_n 1, 1) := by decide +kernel
theorem dX10_setSize_117 : decode cX10_setSize 117 = .ok (.imul, 1) := by decide +kernel
theorem dX10_setSize_118 : decode cX10_setSize 118 = .ok (.iconst 3, 1) := by decide +kernel
theorem dX10_setSize_119 : decode cX10_setSize 119 = .ok (.iadd, 1) := by decide +kernel
theorem dX10_setSize_120 : decode cX10_setSize 120 = .ok (.iload_n 2, 1) := by decide +kernel
theorem dX10_setSize_121 : decode cX10_setSize 121 = .ok (.iastore, 1) := by decide +kernel
theorem dX10_setSize_122 : decode cX10_setSize 122 = .ok (.aload_n 0, 1) := by decide +kernel
theorem dX10_setSize_123 : decode cX10_setSize 123 = .ok (.getfield 29, 3) := by decide +kernel
theorem dX10_setSize_126 : decode cX10_setSize 126 = .ok (.bipush 6, 2) := by decide +kernel
theorem dX10_setSize_128 : decode cX10_setSize 128 = .ok (.iload_n 1, 1) := by decide +kernel
theorem dX10_setSize_129 : decode cX10_setSize 129 = .ok (.imul, 1) := by decide +kernel
theorem dX10_setSize_130 : decode cX10_setSize 130 = .ok (.iconst 4, 1) := by decide +kernel
theorem dX10_setSize_131 : decode cX10_setSize 131 = .ok (.iadd, 1) := by decide +kernel
theorem dX10_setSize_132 : decode cX10_setSize 132 = .ok (.iload_n 3, 1) := by decide +kernel
theorem dX10_setSize_133 : decode cX10_setSize 133 = .ok (.iastore, 1) := by decide +kernel
theorem dX10_setSize_134 : decode cX10_setSize 134 = .ok (.aload_n 0, 1) := by decide +kernel
theorem dX10_setSize_135 : decode cX10_setSize 135 = .ok (.getfield 29, 3) := by decide +kernel
theorem dX10_setSize_138 : decode cX10_setSize 138 = .ok (.bipush 6, 2) := by decide +kernel
theorem dX10_setSize_140 : decode cX10_setSize 140 = .ok (.iload_n 1, 1) := by decide +kernel
theorem dX10_setSize_141 : decode cX10_setSize 141 = .ok (.imul, 1) := by decide +kernel
theorem dX10_setSize_142 : decode cX10_setSize 142 = .ok (.iconst 5, 1) := by decide +kernel
theorem dX10_setSize_143 : decode cX10_setSize 143 = .ok (.iadd, 1) := by decide +kernel
theorem dX10_setSize_144 : decode cX10_setSize 144 = .ok (.iload 4, 2) := by decide +kernel
theorem dX10_setSize_146 : decode cX10_setSize 146 = .ok (.iastore, 1) := by decide +kernel
theorem dX10_setSize_147 : decode cX10_setSize 147 = .ok (.aload_n 0, 1) := by decide +kernel
theorem dX10_setSize_148 : decode cX10_setSize 148 = .ok (.invokevirtual 128, 3) := by decide +kernel
theorem dX10_setSize_151 : decode cX10_setSize 151 = .ok (.iload 5, 2) := by decide +kernel
theorem dX10_setSize_153 : decode cX10_setSize 153 = .ok (.ireturn, 1) := by decide +kernel
theorem dX10_takes_0 : decode cX10_takes 0 = .ok (.iload_n 1, 1) := by decide +kernel
theorem dX10_takes_1 : decode cX10_takes 1 = .ok (.istore_n 2, 1) := by decide +kernel
theorem dX10_takes_2 : decode cX10_takes 2 = .ok (.iload_n 2, 1) := by decide +kernel
theorem dX10_takes_3 : decode cX10_takes 3 = .ok (.aload_n 0, 1) := by decide +kernel
theorem dX10_takes_4 : decode cX10_takes 4 = .ok (.getfield 131, 3) := by decide +kernel
theorem dX10_takes_7 : decode cX10_takes 7 = .ok (.iconst 1, 1) := by decide +kernel
theorem dX10_takes_8 : decode cX10_takes 8 = .ok (.isub, 1) := by decide +kernel
theorem dX10_takes_9 : decode cX10_takes 9 = .ok (.if_icmp .ge 23, 3) := by decide +kernel
theorem dX10_takes_12 : decode cX10_takes 12 = .ok (.aload_n 0, 1) := by decide +kernel
theorem dX10_takes_13 : decode cX10_takes 13 = .ok (.getfield 23, 3) := by decide +kernel
theorem dX10_takes_16 : decode cX10_takes 16 = .ok (.iload_n 2, 1) := by decide +kernel
theorem dX10_takes_17 : decode cX10_takes 17 = .ok (.aload_n 0, 1) := by decide +kernel
theorem dX10_takes_18 : decode cX10_takes 18 = .ok (.getfield 23, 3) := by decide +kernel
theorem dX10_takes_21 : decode cX10_takes 21 = .ok (.iload_n 2, 1) := by decide +kernel
theorem dX10_takes_22 : decode cX10_takes 22 = .ok (.iconst 1, 1) := by decide +kernel
theorem dX10_takes_23 : decode cX10_takes 23 = .ok (.iadd, 1) := by decide +kernel
theorem dX10_takes_24 : decode cX10_takes 24 = .ok (.iaload, 1) := by decide +kernel
theorem dX10_takes_25 : decode cX10_takes 25 = .ok (.iastore, 1) := by decide +kernel
theorem dX10_takes_26 : decode cX10_takes 26 = .ok (.iinc 2 1, 3) := by decide +kernel
theorem dX10_takes_29 : decode cX10_takes 29 = .ok (.goto (-27), 3) := by decide +kernel
theorem dX10_takes_32 : decode cX10_takes 32 = .ok (.aload_n 0, 1) := by decide +kernel
theorem dX10_takes_33 : decode cX10_takes 33 = .ok (.dup, 1) := by decide +kernel
theorem dX10_takes_34 : decode cX10_takes 34 = .ok (.getfield 131, 3) := by decide +kernel
theorem dX10_takes_37 : decode cX10_takes 37 = .ok (.iconst 1, 1) := by decide +kernel
theorem dX10_takes_38 : decode cX10_takes 38 = .ok (.isub, 1) := by decide +kernel
theorem dX10_takes_39 : decode cX10_takes 39 = .ok (.putfield 131, 3) := by decide +kernel
theorem dX10_takes_42 : decode cX10_takes 42 = .ok (.return_, 1) := by decide +kernel
theorem dX10_remove_0 : decode cX10_remove 0 = .ok (.aload_n 0, 1) := by decide +kernel
theorem dX10_remove_1 : decode cX10_remove 1 = .ok (.iconst 0, 1) := by decide +kernel
theorem dX10_remove_2 : decode cX10_remove 2 = .ok (.putfield 96, 3) := by decide +kernel
theorem dX10_remove_5 : decode cX10_remove 5 = .ok (.aload_n 0, 1) := by decide +kernel
theorem dX10_remove_6 : decode cX10_remove 6 = .ok (.iload_n 1, 1) := by decide +kernel
theorem dX10_remove_7 : decode cX10_remove 7 = .ok (.invokevirtual 150, 3) := by decide +kernel
theorem dX10_remove_10 : decode cX10_remove 10 = .ok (.ifCond .ne 9, 3) := by decide +kernel
theorem dX10_remove_13 : decode cX10_remove 13 = .ok (.aload_n 0, 1) := by decide +kernel
theorem dX10_remove_14 : decode cX10_remove 14 = .ok (.iconst 1, 1) := by decide +kernel
theorem dX10_remove_15 : decode cX10_remove 15 = .ok (.invokevirtual 112, 3) := by decide +kernel
theorem dX10_remove_18 : decode cX10_remove 18 = .ok (.ireturn, 1) := by decide +kernel
theorem dX10_remove_19 : decode cX10_remove 19 = .ok (.iconst 0, 1) := by decide +kernel
theorem dX10_remove_20 : decode cX10_remove 20 = .ok (.istore_n 2, 1) := by decide +kernel
theorem dX10_remove_21 : decode cX10_remove 21 = .ok (.iload_n 2, 1) := by decide +kernel
theorem dX10_remove_22 : decode cX10_remove 22 = .ok (.aload_n 0, 1) := by decide +kernel
theorem dX10_remove_23 : decode cX10_remove 23 = .ok (.getfield 131, 3) := by decide +kernel
theorem dX10_remove_26 : decode cX10_remove 26 = .ok (.if_icmp .ge 29, 3) := by decide +kernel
theorem dX10_remove_29 : decode cX10_remove 29 = .ok (.aload_n 0, 1) := by decide +kernel
theorem dX10_remove_30 : decode cX10_remove 30 = .ok (.aload_n 0, 1) := by decide +kernel
theorem dX10_remove_31 : decode cX10_remove 31 = .ok (.getfield 23, 3) := by decide +kernel
theorem dX10_remove_34 : decode cX10_remove 34 = .ok (.iload_n 2, 1) := by decide +kernel
theorem dX10_remove_35 : decode cX10_remove 35 = .ok (.iaload, 1) := by decide +kernel
theorem dX10_remove_36 : decode cX10_remove 36 = .ok (.invokevirtual 153, 3) := by decide +kernel
theorem dX10_remove_39 : decode cX10_remove 39 = .ok (.iload_n 1, 1) := by decide +kernel
theorem dX10_remove_40 : decode cX10_remove 40 = .ok (.if_icmp .ne 9, 3) := by decide +kernel
theorem dX10_remove_43 : decode cX10_remove 43 = .ok (.aload_n 0, 1) := by decide +kernel
theorem dX10_remove_44 : decode cX10_remove 44 = .ok (.iconst 2, 1) := by decide +kernel
theorem dX10_remove_45 : decode cX10_remove 45 = .ok (.invokevirtual 112, 3) := by decide +kernel
theorem dX10_remove_48 : decode cX10_remove 48 = .ok (.ireturn, 1) := by decide +kernel
theorem dX10_remove_49 : decode cX10_remove 49 = .ok (.iinc 2 1, 3) := by decide +kernel
theorem dX10_remove_52 : decode cX10_remove 52 = .ok (.goto (-31), 3) := by decide +kernel
theorem dX10_remove_55 : decode cX10_remove 55 = .ok (.aload_n 0, 1) := by decide +kernel
theorem dX10_remove_56 : decode cX10_remove 56 = .ok (.invokevirtual 115, 3) := by decide +kernel
theorem dX10_remove_59 : decode cX10_remove 59 = .ok (.aload_n 0, 1) := by decide +kernel
theorem dX10_remove_60 : decode cX10_remove 60 = .ok (.getfield 137, 3) := by decide +kernel
theorem dX10_remove_63 : decode cX10_remove 63 = .ok (.aload_n 0, 1) := by decide +kernel
theorem dX10_remove_64 : decode cX10_remove 64 = .ok (.getfield 131, 3) := by decide +kernel
theorem dX10_remove_67 : decode cX10_remove 67 = .ok (.if_icmp .ne 7, 3) := by decide +kernel
theorem dX10_remove_70 : decode cX10_remove 70 = .ok (.iconst 1, 1) := by decide +kernel
theorem dX10_remove_71 : decode cX10_remove 71 = .ok (.goto 4, 3) := by decide +kernel
theorem dX10_remove_74 : decode cX10_remove 74 = .ok (.iconst 0, 1) := by decide +kernel
theorem dX10_remove_75 : decode cX10_remove 75 = .ok (.istore_n 2, 1) := by decide +kernel
theorem dX10_remove_76 : decode cX10_remove 76 = .ok (.aload_n 0, 1) := by decide +kernel
theorem dX10_remove_77 : decode cX10_remove 77 = .ok (.aload_n 0, 1) := by decide +kernel
theorem dX10_remove_78 : decode cX10_remove 78 = .ok (.iload_n 1, 1) := by decide +kernel
theorem dX10_remove_79 : decode cX10_remove 79 = .ok (.invokevirtual 156, 3) := by decide +kernel
theorem dX10_remove_82 : decode cX10_remove 82 = .ok (.invokevirtual 170, 3) := by decide +kernel
theorem dX10_remove_85 : decode cX10_remove 85 = .ok (.aload_n 0, 1) := by decide +kernel
theorem dX10_remove_86 : decode cX10_remove 86 = .ok (.getfield 32, 3) := by decide +kernel
theorem dX10_remove_89 : decode cX10_remove 89 = .ok (.iload_n 1, 1) := by decide +kernel
theorem dX10_remove_90 : decode cX10_remove 90 = .ok (.iconst 0, 1) := by decide +kernel
theorem dX10_remove_91 : decode cX10_remove 91 = .ok (.bastore, 1) := by decide +kernel
theorem dX10_remove_92 : decode cX10_remove 92 = .ok (.aload_n 0, 1) := by decide +kernel
theorem dX10_remove_93 : decode cX10_remove 93 = .ok (.iload_n 2, 1) := by decide +kernel
theorem dX10_remove_94 : decode cX10_remove 94 = .ok (.ifCond .eq 10, 3) := by decide +kernel
theorem dX10_remove_97 : decode cX10_remove 97 = .ok (.aload_n 0, 1) := by decide +kernel
theorem dX10_remove_98 : decode cX10_remove 98 = .ok (.getfield 131, 3) := by decide +kernel
theorem dX10_remove_101 : decode cX10_remove 101 = .ok (.goto 7, 3) := by decide +kernel
theorem dX10_remove_104 : decode cX10_remove 104 = .ok (.aload_n 0, 1) := by decide +kernel
theorem dX10_remove_105 : decode cX10_remove 105 = .ok (.getfield 137, 3) := by decide +kernel
theorem dX10_remove_108 : decode cX10_remove 108 = .ok (.putfield 137, 3) := by decide +kernel
theorem dX10_remove_111 : decode cX10_remove 111 = .ok (.aload_n 0, 1) := by decide +kernel
theorem dX10_remove_112 : decode cX10_remove 112 = .ok (.invokevirtual 128, 3) := by decide +kernel
theorem dX10_remove_115 : decode cX10_remove 115 = .ok (.aload_n 0, 1) := by decide +kernel
theorem dX10_remove_116 : decode cX10_remove 116 = .ok (.getfield 131, 3) := by decide +kernel
theorem dX10_remove_119 : decode cX10_remove 119 = .ok (.ireturn, 1) := by decide +kernel
theorem dX10_puts_0 : decode cX10_puts 0 = .ok (.aload_n 0, 1) := by decide +kernel
theorem dX10_puts_1 : decode cX10_puts 1 = .ok (.getfield 23, 3) := by decide +kernel
theorem dX10_puts_4 : decode cX10_puts 4 = .ok (.iload_n 1, 1) := by decide +kernel
theorem dX10_puts_5 : decode cX10_puts 5 = .ok (.iaload, 1) := by decide +kernel
theorem dX10_puts_6 : decode cX10_puts 6 = .ok (.istore_n 3, 1) := by decide +kernel
theorem dX10_puts_7 : decode cX10_puts 7 = .ok (.aload_n 0, 1) := by decide +kernel
theorem dX10_puts_8 : decode cX10_puts 8 = .ok (.iload_n 1, 1) := by decide +kernel
theorem dX10_puts_9 : decode cX10_puts 9 = .ok (.invokevirtual 170, 3) := by decide +kernel
theorem dX10_puts_12 : decode cX10_puts 12 = .ok (.aload_n 0, 1) := by decide +kernel
theorem dX10_puts_13 : decode cX10_puts 13 = .ok (.getfield 131, 3) := by decide +kernel
theorem dX10_puts_16 : decode cX10_puts 16 = .ok (.istore 4, 2) := by decide +kernel
theorem dX10_puts_18 : decode cX10_puts 18 = .ok (.iload 4, 2) := by decide +kernel
theorem dX10_puts_20 : decode cX10_puts 20 = .ok (.iload_n 2, 1) := by decide +kernel
theorem dX10_puts_21 : decode cX10_puts 21 = .ok (.if_icmp .le 25, 3) := by decide +kernel
theorem dX10_puts_24 : decode cX10_puts 24 = .ok (.aload_n 0, 1) := by decide +kernel
theorem dX10_puts_25 : decode cX10_puts 25 = .ok (.getfield 23, 3) := by decide +kernel
theorem dX10_puts_28 : decode cX10_puts 28 = .ok (.iload 4, 2) := by decide +kernel
theorem dX10_puts_30 : decode cX10_puts 30 = .ok (.aload_n 0, 1) := by decide +kernel
theorem dX10_puts_31 : decode cX10_puts 31 = .ok (.getfield 23, 3) := by decide +kernel
theorem dX10_puts_34 : decode cX10_puts 34 = .ok (.iload 4, 2) := by decide +kernel
theorem dX10_puts_36 : decode cX10_puts 36 = .ok (.iconst 1, 1) := by decide +kernel
theorem dX10_puts_37 : decode cX10_puts 37 = .ok (.isub, 1) := by decide +kernel
theorem dX10_puts_38 : decode cX10_puts 38 = .ok (.iaload, 1) := by decide +kernel
theorem dX10_puts_39 : decode cX10_puts 39 = .ok (.iastore, 1) := by decide +kernel
theorem dX10_puts_40 : decode cX10_puts 40 = .ok (.iinc 4 (-1), 3) := by decide +kernel
theorem dX10_puts_43 : decode cX10_puts 43 = .ok (.goto (-25), 3) := by decide +kernel
theorem dX10_puts_46 : decode cX10_puts 46 = .ok (.aload_n 0, 1) := by decide +kernel
theorem dX10_puts_47 : decode cX10_puts 47 = .ok (.getfield 23, 3) := by decide +kernel
theorem dX10_puts_50 : decode cX10_puts 50 = .ok (.iload_n 2, 1) := by decide +kernel
theorem dX10_puts_51 : decode cX10_puts 51 = .ok (.iload_n 3, 1) := by decide +kernel
theorem dX10_puts_52 : decode cX10_puts 52 = .ok (.iastore, 1) := by decide +kernel
theorem dX10_puts_53 : decode cX10_puts 53 = .ok (.aload_n 0, 1) := by decide +kernel
theorem dX10_puts_54 : decode cX10_puts 54 = .ok (.dup, 1) := by decide +kernel
theorem dX10_puts_55 : decode cX10_puts 55 = .ok (.getfield 131, 3) := by decide +kernel
theorem dX10_puts_58 : decode cX10_puts 58 = .ok (.iconst 1, 1) := by decide +kernel
theorem dX10_puts_59 : decode cX10_puts 59 = .ok (.iadd, 1) := by decide +kernel
theorem dX10_puts_60 : decode cX10_puts 60 = .ok (.putfield 131, 3) := by decide +kernel
theorem dX10_puts_63 : decode cX10_puts 63 = .ok (.return_, 1) := by decide +kernel
theorem dX10_move_0 : decode cX10_move 0 = .ok (.aload_n 0, 1) := by decide +kernel
theorem dX10_move_1 : decode cX10_move 1 = .ok (.iconst 0, 1) := by decide +kernel
theorem dX10_move_2 : decode cX10_move 2 = .ok (.putfield 96, 3) := by decide +kernel
theorem dX10_move_5 : decode cX10_move 5 = .ok (.aload_n 0, 1) := by decide +kernel
theorem dX10_move_6 : decode cX10_move 6 = .ok (.iload_n 1, 1) := by decide +kernel
theorem dX10_move_7 : decode cX10_move 7 = .ok (.invokevirtual 150, 3) := by decide +kernel
theorem dX10_move_10 : decode cX10_move 10 = .ok (.ifCond .ne 9, 3) := by decide +kernel
theorem dX10_move_13 : decode cX10_move 13 = .ok (.aload_n 0, 1) := by decide +kernel
theorem dX10_move_14 : decode cX10_move 14 = .ok (.iconst 1, 1) := by decide +kernel
theorem dX10_move_15 : decode cX10_move 15 = .ok (.invokevirtual 112, 3) := by decide +kernel
theorem dX10_move_18 : decode cX10_move 18 = .ok (.ireturn, 1) := by decide +kernel
theorem dX10_move_19 : decode cX10_move 19 = .ok (.iload_n 2, 1) := by decide +kernel
theorem dX10_move_20 : decode cX10_move 20 = .ok (.iconst 0, 1) := by decide +kernel
theorem dX10_move_21 : decode cX10_move 21 = .ok (.aload_n 0, 1) := by decide +kernel
theorem dX10_move_22 : decode cX10_move 22 = .ok (.getfield 131, 3) := by decide +kernel
theorem dX10_move_25 : decode cX10_move 25 = .ok (.iconst 1, 1) := by decide +kernel
theorem dX10_move_26 : decode cX10_move 26 = .ok (.isub, 1) := by decide +kernel
theorem dX10_move_27 : decode cX10_move 27 = .ok (.invokestatic 100, 3) := by decide +kernel
theorem dX10_move_30 : decode cX10_move 30 = .ok (.ifCond .ne 9, 3) := by decide +kernel
theorem dX10_move_33 : decode cX10_move 33 = .ok (.aload_n 0, 1) := by decide +kernel
theorem dX10_move_34 : decode cX10_move 34 = .ok (.iconst 2, 1) := by decide +kernel
theorem dX10_move_35 : decode cX10_move 35 = .ok (.invokevirtual 112, 3) := by decide +kernel
theorem dX10_move_38 : decode cX10_move 38 = .ok (.ireturn, 1) := by decide +kernel
theorem dX10_move_39 : decode cX10_move 39 = .ok (.aload_n 0, 1) := by decide +kernel
theorem dX10_move_40 : decode cX10_move 40 = .ok (.invokevirtual 115, 3) := by decide +kernel
theorem dX10_move_43 : decode cX10_move 43 = .ok (.aload_n 0, 1) := by decide +kernel
theorem dX10_move_44 : decode cX10_move 44 = .ok (.iload_n 1, 1) := by decide +kernel
theorem dX10_move_45 : decode cX10_move 45 = .ok (.invokevirtual 156, 3) := by decide +kernel
theorem dX10_move_48 : decode cX10_move 48 = .ok (.istore_n 3, 1) := by decide +kernel
theorem dX10_move_49 : decode cX10_move 49 = .ok (.aload_n 0, 1) := by decide +kernel
theorem dX10_move_50 : decode cX10_move 50 = .ok (.iload_n 3, 1) := by decide +kernel
theorem dX10_move_51 : decode cX10_move 51 = .ok (.iload_n 2, 1) := by decide +kernel
theorem dX10_move_52 : decode cX10_move 52 = .ok (.invokevirtual 173, 3) := by decide +kernel
theorem dX10_move_55 : decode cX10_move 55 = .ok (.aload_n 0, 1) := by decide +kernel
theorem dX10_move_56 : decode cX10_move 56 = .ok (.invokevirtual 124, 3) := by decide +kernel
theorem dX10_move_59 : decode cX10_move 59 = .ok (.ifCond .ne 15, 3) := by decide +kernel
theorem dX10_move_62 : decode cX10_move 62 = .ok (.aload_n 0, 1) := by decide +kernel
theorem dX10_move_63 : decode cX10_move 63 = .ok (.iload_n 2, 1) := by decide +kernel
theorem dX10_move_64 : decode cX10_move 64 = .ok (.iload_n 3, 1) := by decide +kernel
theorem dX10_move_65 : decode cX10_move 65 = .ok (.invokevirtual 173, 3) := by decide +kernel
theorem dX10_move_68 : decode cX10_move 68 = .ok (.aload_n 0, 1) := by decide +kernel
theorem dX10_move_69 : decode cX10_move 69 = .ok (.iconst 3, 1) := by decide +kernel
theorem dX10_move_70 : decode cX10_move 70 = .ok (.invokevirtual 112, 3) := by decide +kernel
theorem dX10_move_73 : decode cX10_move 73 = .ok (.ireturn, 1) := by decide +kernel
theorem dX10_move_74 : decode cX10_move 74 = .ok (.aload_n 0, 1) := by decide +kernel
theorem dX10_move_75 : decode cX10_move 75 = .ok (.invokevirtual 128, 3) := by decide +kernel
theorem dX10_move_78 : decode cX10_move 78 = .ok (.iload_n 3, 1) := by decide +kernel
theorem dX10_move_79 : decode cX10_move 79 = .ok (.ireturn, 1) := by decide +kernel
theorem dX10_putOff_0 : decode cX10_putOff 0 = .ok (.aload_n 0, 1) := by decide +kernel
theorem dX10_putOff_1 : decode cX10_putOff 1 = .ok (.aload_n 0, 1) := by decide +kernel
theorem dX10_putOff_2 : decode cX10_putOff 2 = .ok (.iload_n 1, 1) := by decide +kernel
theorem dX10_putOff_3 : decode cX10_putOff 3 = .ok (.invokevirtual 150, 3) := by decide +kernel
theorem dX10_putOff_6 : decode cX10_putOff 6 = .ok (.ifCond .eq 7, 3) := by decide +kernel
theorem dX10_putOff_9 : decode cX10_putOff 9 = .ok (.iconst 0, 1) := by decide +kernel
theorem dX10_putOff_10 : decode cX10_putOff 10 = .ok (.goto 4, 3) := by decide +kernel
theorem dX10_putOff_13 : decode cX10_putOff 13 = .ok (.iconst 1, 1) := by decide +kernel
theorem dX10_putOff_14 : decode cX10_putOff 14 = .ok (.putfield 96, 3) := by decide +kernel
theorem dX10_putOff_17 : decode cX10_putOff 17 = .ok (.aload_n 0, 1) := by decide +kernel
theorem dX10_putOff_18 : decode cX10_putOff 18 = .ok (.getfield 96, 3) := by decide +kernel
theorem dX10_putOff_21 : decode cX10_putOff 21 = .ok (.ifCond .le 5, 3) := by decide +kernel
theorem dX10_putOff_24 : decode cX10_putOff 24 = .ok (.iconst 0, 1) := by decide +kernel
theorem dX10_putOff_25 : decode cX10_putOff 25 = .ok (.ireturn, 1) := by decide +kernel
theorem dX10_putOff_26 : decode cX10_putOff 26 = .ok (.aload_n 0, 1) := by decide +kernel
theorem dX10_putOff_27 : decode cX10_putOff 27 = .ok (.invokevirtual 115, 3) := by decide +kernel
theorem dX10_putOff_30 : decode cX10_putOff 30 = .ok (.aload_n 0, 1) := by decide +kernel
theorem dX10_putOff_31 : decode cX10_putOff 31 = .ok (.getfield 36, 3) := by decide +kernel
theorem dX10_putOff_34 : decode cX10_putOff 34 = .ok (.iload_n 1, 1) := by decide +kernel
theorem dX10_putOff_35 : decode cX10_putOff 35 = .ok (.baload, 1) := by decide +kernel
theorem dX10_putOff_36 : decode cX10_putOff 36 = .ok (.istore_n 3, 1) := by decide +kernel
theorem dX10_putOff_37 : decode cX10_putOff 37 = .ok (.aload_n 0, 1) := by decide +kernel
theorem dX10_putOff_38 : decode cX10_putOff 38 = .ok (.getfield 36, 3) := by decide +kernel
theorem dX10_putOff_41 : decode cX10_putOff 41 = .ok (.iload_n 1, 1) := by decide +kernel
theorem dX10_putOff_42 : decode cX10_putOff 42 = .ok (.iload_n 2, 1) := by decide +kernel
theorem dX10_putOff_43 : decode cX10_putOff 43 = .ok (.bastore, 1) := by decide +kernel
theorem dX10_putOff_44 : decode cX10_putOff 44 = .ok (.aload_n 0, 1) := by decide +kernel
theorem dX10_putOff_45 : decode cX10_putOff 45 = .ok (.invokevirtual 128, 3) := by decide +kernel
theorem dX10_putOff_48 : decode cX10_putOff 48 = .ok (.iload_n 3, 1) := by decide +kernel
theorem dX10_putOff_49 : decode cX10_putOff 49 = .ok (.iload_n 2, 1) := by decide +kernel
theorem dX10_putOff_50 : decode cX10_putOff 50 = .ok (.if_icmp .eq 7, 3) := by decide +kernel
theorem dX10_putOff_53 : decode cX10_putOff 53 = .ok (.iconst 1, 1) := by decide +kernel
theorem dX10_putOff_54 : decode cX10_putOff 54 = .ok (.goto 4, 3) := by decide +kernel
theorem dX10_putOff_57 : decode cX10_putOff 57 = .ok (.iconst 0, 1) := by decide +kernel
theorem dX10_putOff_58 : decode cX10_putOff 58 = .ok (.ireturn, 1) := by decide +kernel
theorem dX10_setBar_0 : decode cX10_setBar 0 = .ok (.aload_n 0, 1) := by decide +kernel
theorem dX10_setBar_1 : decode cX10_setBar 1 = .ok (.iconst 0, 1) := by decide +kernel
theorem dX10_setBar_2 : decode cX10_setBar 2 = .ok (.putfield 96, 3) := by decide +kernel
theorem dX10_setBar_5 : decode cX10_setBar 5 = .ok (.iload_n 1, 1) := by decide +kernel
theorem dX10_setBar_6 : decode cX10_setBar 6 = .ok (.iconst 0, 1) := by decide +kernel
theorem dX10_setBar_7 : decode cX10_setBar 7 = .ok (.aload_n 0, 1) := by decide +kernel
theorem dX10_setBar_8 : decode cX10_setBar 8 = .ok (.getfield 131, 3) := by decide +kernel
theorem dX10_setBar_11 : decode cX10_setBar 11 = .ok (.invokestatic 100, 3) := by decide +kernel
theorem dX10_setBar_14 : decode cX10_setBar 14 = .ok (.ifCond .ne 9, 3) := by decide +kernel
theorem dX10_setBar_17 : decode cX10_setBar 17 = .ok (.aload_n 0, 1) := by decide +kernel
theorem dX10_setBar_18 : decode cX10_setBar 18 = .ok (.iconst 1, 1) := by decide +kernel
theorem dX10_setBar_19 : decode cX10_setBar 19 = .ok (.invokevirtual 112, 3) := by decide +kernel
theorem dX10_setBar_22 : decode cX10_setBar 22 = .ok (.ireturn, 1) := by decide +kernel
theorem dX10_setBar_23 : decode cX10_setBar 23 = .ok (.aload_n 0, 1) := by decide +kernel
theorem dX10_setBar_24 : decode cX10_setBar 24 = .ok (.invokevirtual 115, 3) := by decide +kernel
theorem dX10_setBar_27 : decode cX10_setBar 27 = .ok (.aload_n 0, 1) := by decide +kernel
theorem dX10_setBar_28 : decode cX10_setBar 28 = .ok (.getfield 137, 3) := by decide +kernel
theorem dX10_setBar_31 : decode cX10_setBar 31 = .ok (.istore_n 2, 1) := by decide +kernel
theorem dX10_setBar_32 : decode cX10_setBar 32 = .ok (.aload_n 0, 1) := by decide +kernel
theorem dX10_setBar_33 : decode cX10_setBar 33 = .ok (.iload_n 1, 1) := by decide +kernel
theorem dX10_setBar_34 : decode cX10_setBar 34 = .ok (.putfield 137, 3) := by decide +kernel
theorem dX10_setBar_37 : decode cX10_setBar 37 = .ok (.aload_n 0, 1) := by decide +kernel
theorem dX10_setBar_38 : decode cX10_setBar 38 = .ok (.invokevirtual 128, 3) := by decide +kernel
theorem dX10_setBar_41 : decode cX10_setBar 41 = .ok (.iload_n 2, 1) := by decide +kernel
theorem dX10_setBar_42 : decode cX10_setBar 42 = .ok (.ireturn, 1) := by decide +kernel
theorem dX10_place_0 : decode cX10_place 0 = .ok (.aload_n 0, 1) := by decide +kernel
theorem dX10_place_1 : decode cX10_place 1 = .ok (.iconst 0, 1) := by decide +kernel
theorem dX10_place_2 : decode cX10_place 2 = .ok (.putfield 96, 3) := by decide +kernel
theorem dX10_place_5 : decode cX10_place 5 = .ok (.aload_n 0, 1) := by decide +kernel
theorem dX10_place_6 : decode cX10_place 6 = .ok (.iload_n 1, 1) := by decide +kernel
theorem dX10_place_7 : decode cX10_place 7 = .ok (.invokevirtual 150, 3) := by decide +kernel
theorem dX10_place_10 : decode cX10_place 10 = .ok (.ifCond .eq 11, 3) := by decide +kernel
theorem dX10_place_13 : decode cX10_place 13 = .ok (.aload_n 0, 1) := by decide +kernel
theorem dX10_place_14 : decode cX10_place 14 = .ok (.iload_n 1, 1) := by decide +kernel
theorem dX10_place_15 : decode cX10_place 15 = .ok (.invokevirtual 156, 3) := by decide +kernel
theorem dX10_place_18 : decode cX10_place 18 = .ok (.goto 8, 3) := by decide +kernel
theorem dX10_place_21 : decode cX10_place 21 = .ok (.aload_n 0, 1) := by decide +kernel
theorem dX10_place_22 : decode cX10_place 22 = .ok (.iconst 1, 1) := by decide +kernel
theorem dX10_place_23 : decode cX10_place 23 = .ok (.invokevirtual 112, 3) := by decide +kernel
theorem dX10_place_26 : decode cX10_place 26 = .ok (.ireturn, 1) := by decide +kernel
theorem dX10_state_0 : decode cX10_state 0 = .ok (.aload_n 0, 1) := by decide +kernel
theorem dX10_state_1 : decode cX10_state 1 = .ok (.aload_n 0, 1) := by decide +kernel
theorem dX10_state_2 : decode cX10_state 2 = .ok (.iload_n 1, 1) := by decide +kernel
theorem dX10_state_3 : decode cX10_state 3 = .ok (.invokevirtual 150, 3) := by decide +kernel
theorem dX10_state_6 : decode cX10_state 6 = .ok (.ifCond .eq 7, 3) := by decide +kernel
theorem dX10_state_9 : decode cX10_state 9 = .ok (.iconst 0, 1) := by decide +kernel
theorem dX10_state_10 : decode cX10_state 10 = .ok (.goto 4, 3) := by decide +kernel
theorem dX10_state_13 : decode cX10_state 13 = .ok (.iconst 1, 1) := by decide +kernel
theorem dX10_state_14 : decode cX10_state 14 = .ok (.putfield 96, 3) := by decide +kernel
theorem dX10_state_17 : decode cX10_state 17 = .ok (.aload_n 0, 1) := by decide +kernel
theorem dX10_state_18 : decode cX10_state 18 = .ok (.getfield 96, 3) := by decide +kernel
theorem dX10_state_21 : decode cX10_state 21 = .ok (.ifCond .le 7, 3) := by decide +kernel
theorem dX10_state_24 : decode cX10_state 24 = .ok (.iconst 0, 1) := by decide +kernel
theorem dX10_state_25 : decode cX10_state 25 = .ok (.goto 40, 3) := by decide +kernel
theorem dX10_state_28 : decode cX10_state 28 = .ok (.aload_n 0, 1) := by decide +kernel
theorem dX10_state_29 : decode cX10_state 29 = .ok (.getfield 36, 3) := by decide +kernel
theorem dX10_state_32 : decode cX10_state 32 = .ok (.iload_n 1, 1) := by decide +kernel
theorem dX10_state_33 : decode cX10_state 33 = .ok (.baload, 1) := by decide +kernel
theorem dX10_state_34 : decode cX10_state 34 = .ok (.ifCond .eq 8, 3) := by decide +kernel
theorem dX10_state_37 : decode cX10_state 37 = .ok (.bipush 111, 2) := by decide +kernel
theorem dX10_state_39 : decode cX10_state 39 = .ok (.goto 26, 3) := by decide +kernel
theorem dX10_state_42 : decode cX10_state 42 = .ok (.aload_n 0, 1) := by decide +kernel
theorem dX10_state_43 : decode cX10_state 43 = .ok (.iload_n 1, 1) := by decide +kernel
theorem dX10_state_44 : decode cX10_state 44 = .ok (.invokevirtual 156, 3) := by decide +kernel
theorem dX10_state_47 : decode cX10_state 47 = .ok (.aload_n 0, 1) := by decide +kernel
theorem dX10_state_48 : decode cX10_state 48 = .ok (.getfield 137, 3) := by decide +kernel
theorem dX10_state_51 : decode cX10_state 51 = .ok (.if_icmp .lt 8, 3) := by decide +kernel
theorem dX10_state_54 : decode cX10_state 54 = .ok (.bipush 98, 2) := by decide +kernel
theorem dX10_state_56 : decode cX10_state 56 = .ok (.goto 9, 3) := by decide +kernel
theorem dX10_state_59 : decode cX10_state 59 = .ok (.aload_n 0, 1) := by decide +kernel
theorem dX10_state_60 : decode cX10_state 60 = .ok (.getfield 39, 3) := by decide +kernel
theorem dX10_state_63 : decode cX10_state 63 = .ok (.iload_n 1, 1) := by decide +kernel
theorem dX10_state_64 : decode cX10_state 64 = .ok (.caload, 1) := by decide +kernel
theorem dX10_state_65 : decode cX10_state 65 = .ok (.ireturn, 1) := by decide +kernel
theorem dX10_worked_0 : decode cX10_worked 0 = .ok (.aload_n 0, 1) := by decide +kernel
theorem dX10_worked_1 : decode cX10_worked 1 = .ok (.iconst 0, 1) := by decide +kernel
theorem dX10_worked_2 : decode cX10_worked 2 = .ok (.putfield 96, 3) := by decide +kernel
theorem dX10_worked_5 : decode cX10_worked 5 = .ok (.aload_n 0, 1) := by decide +kernel
theorem dX10_worked_6 : decode cX10_worked 6 = .ok (.getfield 159, 3) := by decide +kernel
theorem dX10_worked_9 : decode cX10_worked 9 = .ok (.lreturn, 1) := by decide +kernel
theorem dX10_cell_0 : decode cX10_cell 0 = .ok (.iload_n 0, 1) := by decide +kernel
theorem dX10_cell_1 : decode cX10_cell 1 = .ok (.iconst 0, 1) := by decide +kernel
theorem dX10_cell_2 : decode cX10_cell 2 = .ok (.bipush 7, 2) := by decide +kernel
theorem dX10_cell_4 : decode cX10_cell 4 = .ok (.invokestatic 100, 3) := by decide +kernel
theorem dX10_cell_7 : decode cX10_cell 7 = .ok (.ifCond .eq 37, 3) := by decide +kernel
theorem dX10_cell_10 : decode cX10_cell 10 = .ok (.iload_n 1, 1) := by decide +kernel
theorem dX10_cell_11 : decode cX10_cell 11 = .ok (.iconst 0, 1) := by decide +kernel
theorem dX10_cell_12 : decode cX10_cell 12 = .ok (.bipush 7, 2) := by decide +kernel
theorem dX10_cell_14 : decode cX10_cell 14 = .ok (.invokestatic 100, 3) := by decide +kernel
theorem dX10_cell_17 : decode cX10_cell 17 = .ok (.ifCond .eq 27, 3) := by decide +kernel
theorem dX10_cell_20 : decode cX10_cell 20 = .ok (.iload_n 2, 1) := by decide +kernel
theorem dX10_cell_21 : decode cX10_cell 21 = .ok (.iconst 0, 1) := by decide +kernel
theorem dX10_cell_22 : decode cX10_cell 22 = .ok (.bipush 7, 2) := by decide +kernel
theorem dX10_cell_24 : decode cX10_cell 24 = .ok (.invokestatic 100, 3) := by decide +kernel
theorem dX10_cell_27 : decode cX10_cell 27 = .ok (.ifCond .eq 17, 3) := by decide +kernel
theorem dX10_cell_30 : decode cX10_cell 30 = .ok (.bipush 64, 2) := by decide +kernel
theorem dX10_cell_32 : decode cX10_cell 32 = .ok (.iload_n 0, 1) := by decide +kernel
theorem dX10_cell_33 : decode cX10_cell 33 = .ok (.imul, 1) := by decide +kernel
theorem dX10_cell_34 : decode cX10_cell 34 = .ok (.bipush 8, 2) := by decide +kernel
theorem dX10_cell_36 : decode cX10_cell 36 = .ok (.iload_n 1, 1) := by decide +kernel
theorem dX10_cell_37 : decode cX10_cell 37 = .ok (.imul, 1) := by decide +kernel
theorem dX10_cell_38 : decode cX10_cell 38 = .ok (.iadd, 1) := by decide +kernel
theorem dX10_cell_39 : decode cX10_cell 39 = .ok (.iload_n 2, 1) := by decide +kernel
theorem dX10_cell_40 : decode cX10_cell 40 = .ok (.iadd, 1) := by decide +kernel
theorem dX10_cell_41 : decode cX10_cell 41 = .ok (.goto 4, 3) := by decide +kernel
theorem dX10_cell_44 : decode cX10_cell 44 = .ok (.iconst (-1), 1) := by decide +kernel
theorem dX10_cell_45 : decode cX10_cell 45 = .ok (.ireturn, 1) := by decide +kernel
theorem dX10_along_0 : decode cX10_along 0 = .ok (.iload_n 1, 1) := by decide +kernel
theorem dX10_along_1 : decode cX10_along 1 = .ok (.ifCond .ne 10, 3) := by decide +kernel
theorem dX10_along_4 : decode cX10_along 4 = .ok (.iload_n 0, 1) := by decide +kernel
theorem dX10_along_5 : decode cX10_along 5 = .ok (.bipush 64, 2) := by decide +kernel
theorem dX10_along_7 : decode cX10_along 7 = .ok (.idiv, 1) := by decide +kernel
theorem dX10_along_8 : decode cX10_along 8 = .ok (.goto 22, 3) := by decide +kernel
theorem dX10_along_11 : decode cX10_along 11 = .ok (.iload_n 1, 1) := by decide +kernel
theorem dX10_along_12 : decode cX10_along 12 = .ok (.iconst 1, 1) := by decide +kernel
theorem dX10_along_13 : decode cX10_along 13 = .ok (.if_icmp .ne 13, 3) := by decide +kernel
theorem dX10_along_16 : decode cX10_along 16 = .ok (.iload_n 0, 1) := by decide +kernel
theorem dX10_along_17 : decode cX10_along 17 = .ok (.bipush 8, 2) := by decide +kernel
theorem dX10_along_19 : decode cX10_along 19 = .ok (.idiv, 1) := by decide +kernel
theorem dX10_along_20 : decode cX10_along 20 = .ok (.bipush 8, 2) := by decide +kernel
theorem dX10_along_22 : decode cX10_along 22 = .ok (.irem, 1) := by decide +kernel
theorem dX10_along_23 : decode cX10_along 23 = .ok (.goto 7, 3) := by decide +kernel
theorem dX10_along_26 : decode cX10_along 26 = .ok (.iload_n 0, 1) := by decide +kernel
theorem dX10_along_27 : decode cX10_along 27 = .ok (.bipush 8, 2) := by decide +kernel
theorem dX10_along_29 : decode cX10_along 29 = .ok (.irem, 1) := by decide +kernel
theorem dX10_along_30 : decode cX10_along 30 = .ok (.ireturn, 1) := by decide +kernel
theorem dX10_away_0 : decode cX10_away 0 = .ok (.iload_n 1, 1) := by decide +kernel
theorem dX10_away_1 : decode cX10_away 1 = .ok (.iconst 2, 1) := by decide +kernel
theorem dX10_away_2 : decode cX10_away 2 = .ok (.irem, 1) := by decide +kernel
theorem dX10_away_3 : decode cX10_away 3 = .ok (.ifCond .ne 8, 3) := by decide +kernel
theorem dX10_away_6 : decode cX10_away 6 = .ok (.iload_n 2, 1) := by decide +kernel
theorem dX10_away_7 : decode cX10_away 7 = .ok (.ineg, 1) := by decide +kernel
theorem dX10_away_8 : decode cX10_away 8 = .ok (.goto 4, 3) := by decide +kernel
theorem dX10_away_11 : decode cX10_away 11 = .ok (.iload_n 2, 1) := by decide +kernel
theorem dX10_away_12 : decode cX10_away 12 = .ok (.istore_n 3, 1) := by decide +kernel
theorem dX10_away_13 : decode cX10_away 13 = .ok (.iload_n 0, 1) := by decide +kernel
theorem dX10_away_14 : decode cX10_away 14 = .ok (.iconst 0, 1) := by decide +kernel
theorem dX10_away_15 : decode cX10_away 15 = .ok (.invokestatic 177, 3) := by decide +kernel
theorem dX10_away_18 : decode cX10_away 18 = .ok (.iload_n 1, 1) := by decide +kernel
theorem dX10_away_19 : decode cX10_away 19 = .ok (.iconst 2, 1) := by decide +kernel
theorem dX10_away_20 : decode cX10_away 20 = .ok (.idiv, 1) := by decide +kernel
theorem dX10_away_21 : decode cX10_away 21 = .ok (.ifCond .ne 7, 3) := by decide +kernel
theorem dX10_away_24 : decode cX10_away 24 = .ok (.iload_n 3, 1) := by decide +kernel
theorem dX10_away_25 : decode cX10_away 25 = .ok (.goto 4, 3) := by decide +kernel
theorem dX10_away_28 : decode cX10_away 28 = .ok (.iconst 0, 1) := by decide +kernel
theorem dX10_away_29 : decode cX10_away 29 = .ok (.iadd, 1) := by decide +kernel
theorem dX10_away_30 : decode cX10_away 30 = .ok (.istore 4, 2) := by decide +kernel
theorem dX10_away_32 : decode cX10_away 32 = .ok (.iload_n 0, 1) := by decide +kernel
theorem dX10_away_33 : decode cX10_away 33 = .ok (.iconst 1, 1) := by decide +kernel
theorem dX10_away_34 : decode cX10_away 34 = .ok (.invokestatic 177, 3) := by decide +kernel
theorem dX10_away_37 : decode cX10_away 37 = .ok (.iload_n 1, 1) := by decide +kernel
theorem dX10_away_38 : decode cX10_away 38 = .ok (.iconst 2, 1) := by decide +kernel
theorem dX10_away_39 : decode cX10_away 39 = .ok (.idiv, 1) := by decide +kernel
theorem dX10_away_40 : decode cX10_away 40 = .ok (.iconst 1, 1) := by decide +kernel
theorem dX10_away_41 : decode cX10_away 41 = .ok (.if_icmp .ne 7, 3) := by decide +kernel
theorem dX10_away_44 : decode cX10_away 44 = .ok (.iload_n 3, 1) := by decide +kernel
theorem dX10_away_45 : decode cX10_away 45 = .ok (.goto 4, 3) := by decide +kernel
theorem dX10_away_48 : decode cX10_away 48 = .ok (.iconst 0, 1) := by decide +kernel
theorem dX10_away_49 : decode cX10_away 49 = .ok (.iadd, 1) := by decide +kernel
theorem dX10_away_50 : decode cX10_away 50 = .ok (.istore 5, 2) := by decide +kernel
theorem dX10_away_52 : decode cX10_away 52 = .ok (.iload 4, 2) := by decide +kernel
theorem dX10_away_54 : decode cX10_away 54 = .ok (.iload 5, 2) := by decide +kernel
theorem dX10_away_56 : decode cX10_away 56 = .ok (.iload_n 0, 1) := by decide +kernel
theorem dX10_away_57 : decode cX10_away 57 = .ok (.iconst 2, 1) := by decide +kernel
theorem dX10_away_58 : decode cX10_away 58 = .ok (.invokestatic 177, 3) := by decide +kernel
theorem dX10_away_61 : decode cX10_away 61 = .ok (.iload_n 1, 1) := by decide +kernel
theorem dX10_away_62 : decode cX10_away 62 = .ok (.iconst 2, 1) := by decide +kernel
theorem dX10_away_63 : decode cX10_away 63 = .ok (.idiv, 1) := by decide +kernel
theorem dX10_away_64 : decode cX10_away 64 = .ok (.iconst 2, 1) := by decide +kernel
theorem dX10_away_65 : decode cX10_away 65 = .ok (.if_icmp .ne 7, 3) := by decide +kernel
theorem dX10_away_68 : decode cX10_away 68 = .ok (.iload_n 3, 1) := by decide +kernel
theorem dX10_away_69 : decode cX10_away 69 = .ok (.goto 4, 3) := by decide +kernel
theorem dX10_away_72 : decode cX10_away 72 = .ok (.iconst 0, 1) := by decide +kernel
theorem dX10_away_73 : decode cX10_away 73 = .ok (.iadd, 1) := by decide +kernel
theorem dX10_away_74 : decode cX10_away 74 = .ok (.invokestatic 180, 3) := by decide +kernel
theorem dX10_away_77 : decode cX10_away 77 = .ok (.ireturn, 1) := by decide +kernel
theorem dX10_isSquare_0 : decode cX10_isSquare 0 = .ok (.iload_n 1, 1) := by decide +kernel
theorem dX10_isSquare_1 : decode cX10_isSquare 1 = .ok (.iload_n 2, 1) := by decide +kernel
theorem dX10_isSquare_2 : decode cX10_isSquare 2 = .ok (.iconst 1, 1) := by decide +kernel
theorem dX10_isSquare_3 : decode cX10_isSquare 3 = .ok (.invokestatic 184, 3) := by decide +kernel
theorem dX10_isSquare_6 : decode cX10_isSquare 6 = .ok (.istore_n 3, 1) := by decide +kernel
theorem dX10_isSquare_7 : decode cX10_isSquare 7 = .ok (.aload_n 0, 1) := by decide +kernel
theorem dX10_isSquare_8 : decode cX10_isSquare 8 = .ok (.getfield 54, 3) := by decide +kernel
theorem dX10_isSquare_11 : decode cX10_isSquare 11 = .ok (.iload_n 1, 1) := by decide +kernel
theorem dX10_isSquare_12 : decode cX10_isSquare 12 = .ok (.baload, 1) := by decide +kernel
theorem dX10_isSquare_13 : decode cX10_isSquare 13 = .ok (.ifCond .eq 21, 3) := by decide +kernel
theorem dX10_isSquare_16 : decode cX10_isSquare 16 = .ok (.iload_n 3, 1) := by decide +kernel
theorem dX10_isSquare_17 : decode cX10_isSquare 17 = .ok (.iconst (-1), 1) := by decide +kernel
theorem dX10_isSquare_18 : decode cX10_isSquare 18 = .ok (.if_icmp .eq 12, 3) := by decide +kernel
theorem dX10_isSquare_21 : decode cX10_isSquare 21 = .ok (.aload_n 0, 1) := by decide +kernel
theorem dX10_isSquare_22 : decode cX10_isSquare 22 = .ok (.getfield 54, 3) := by decide +kernel
theorem dX10_isSquare_25 : decode cX10_isSquare 25 = .ok (.iload_n 3, 1) := by decide +kernel
theorem dX10_isSquare_26 : decode cX10_isSquare 26 = .ok (.baload, 1) := by decide +kernel
theorem dX10_isSquare_27 : decode cX10_isSquare 27 = .ok (.ifCond .ne 7, 3) := by decide +kernel
theorem dX10_isSquare_30 : decode cX10_isSquare 30 = .ok (.iconst 1, 1) := by decide +kernel
theorem dX10_isSquare_31 : decode cX10_isSquare 31 = .ok (.goto 4, 3) := by decide +kernel
theorem dX10_isSquare_34 : decode cX10_isSquare 34 = .ok (.iconst 0, 1) := by decide +kernel
theorem dX10_isSquare_35 : decode cX10_isSquare 35 = .ok (.ireturn, 1) := by decide +kernel
theorem dX10_isInBox_0 : decode cX10_isInBox 0 = .ok (.iconst 1, 1) := by decide +kernel
theorem dX10_isInBox_1 : decode cX10_isInBox 1 = .ok (.istore_n 3, 1) := by decide +kernel
theorem dX10_isInBox_2 : decode cX10_isInBox 2 = .ok (.iconst 0, 1) := by decide +kernel
theorem dX10_isInBox_3 : decode cX10_isInBox 3 = .ok (.istore 4, 2) := by decide +kernel
theorem dX10_isInBox_5 : decode cX10_isInBox 5 = .ok (.iload 4, 2) := by decide +kernel
theorem dX10_isInBox_7 : decode cX10_isInBox 7 = .ok (.iconst 3, 1) := by decide +kernel
theorem dX10_isInBox_8 : decode cX10_isInBox 8 = .ok (.if_icmp .ge 56, 3) := by decide +kernel
theorem dX10_isInBox_11 : decode cX10_isInBox 11 = .ok (.aload_n 0, 1) := by decide +kernel
theorem dX10_isInBox_12 : decode cX10_isInBox 12 = .ok (.iload_n 2, 1) := by decide +kernel
theorem dX10_isInBox_13 : decode cX10_isInBox 13 = .ok (.iload 4, 2) := by decide +kernel
theorem dX10_isInBox_15 : decode cX10_isInBox 15 = .ok (.invokevirtual 146, 3) := by decide +kernel
theorem dX10_isInBox_18 : decode cX10_isInBox 18 = .ok (.istore 5, 2) := by decide +kernel
theorem dX10_isInBox_20 : decode cX10_isInBox 20 = .ok (.iload_n 3, 1) := by decide +kernel
theorem dX10_isInBox_21 : decode cX10_isInBox 21 = .ok (.ifCond .eq 35, 3) := by decide +kernel
theorem dX10_isInBox_24 : decode cX10_isInBox 24 = .ok (.iload_n 1, 1) := by decide +kernel
theorem dX10_isInBox_25 : decode cX10_isInBox 25 = .ok (.iload 4, 2) := by decide +kernel
theorem dX10_isInBox_27 : decode cX10_isInBox 27 = .ok (.invokestatic 177, 3) := by decide +kernel
theorem dX10_isInBox_30 : decode cX10_isInBox 30 = .ok (.iload 5, 2) := by decide +kernel
theorem dX10_isInBox_32 : decode cX10_isInBox 32 = .ok (.iload 5, 2) := by decide +kernel
theorem dX10_isInBox_34 : decode cX10_isInBox 34 = .ok (.aload_n 0, 1) := by decide +kernel
theorem dX10_isInBox_35 : decode cX10_isInBox 35 = .ok (.iload_n 2, 1) := by decide +kernel
theorem dX10_isInBox_36 : decode cX10_isInBox 36 = .ok (.iconst 3, 1) := by decide +kernel
theorem dX10_isInBox_37 : decode cX10_isInBox 37 = .ok (.iload 4, 2) := by decide +kernel
theorem dX10_isInBox_39 : decode cX10_isInBox 39 = .ok (.iadd, 1) := by decide +kernel
theorem dX10_isInBox_40 : decode cX10_isInBox 40 = .ok (.invokevirtual 146, 3) := by decide +kernel
theorem dX10_isInBox_43 : decode cX10_isInBox 43 = .ok (.iadd, 1) := by decide +kernel
theorem dX10_isInBox_44 : decode cX10_isInBox 44 = .ok (.iconst 1, 1) := by decide +kernel
theorem dX10_isInBox_45 : decode cX10_isInBox 45 = .ok (.isub, 1) := by decide +kernel
theorem dX10_isInBox_46 : decode cX10_isInBox 46 = .ok (.invokestatic 100, 3) := by decide +kernel
theorem dX10_isInBox_49 : decode cX10_isInBox 49 = .ok (.ifCond .eq 7, 3) := by decide +kernel
theorem dX10_isInBox_52 : decode cX10_isInBox 52 = .ok (.iconst 1, 1) := by decide +kernel
theorem dX10_isInBox_53 : decode cX10_isInBox 53 = .ok (.goto 4, 3) := by decide +kernel
theorem dX10_isInBox_56 : decode cX10_isInBox 56 = .ok (.iconst 0, 1) := by decide +kernel
theorem dX10_isInBox_57 : decode cX10_isInBox 57 = .ok (.istore_n 3, 1) := by decide +kernel
theorem dX10_isInBox_58 : decode cX10_isInBox 58 = .ok (.iinc 4 1, 3) := by decide +kernel
theorem dX10_isInBox_61 : decode cX10_isInBox 61 = .ok (.goto (-56), 3) := by decide +kernel
theorem dX10_isInBox_64 : decode cX10_isInBox 64 = .ok (.iload_n 3, 1) := by decide +kernel
theorem dX10_isInBox_65 : decode cX10_isInBox 65 = .ok (.ireturn, 1) := by decide +kernel
theorem dX10_fault_0 : decode cX10_fault 0 = .ok (.aload_n 0, 1) := by decide +kernel
theorem dX10_fault_1 : decode cX10_fault 1 = .ok (.getfield 26, 3) := by decide +kernel
theorem dX10_fault_4 : decode cX10_fault 4 = .ok (.iload_n 1, 1) := by decide +kernel
theorem dX10_fault_5 : decode cX10_fault 5 = .ok (.caload, 1) := by decide +kernel
theorem dX10_fault_6 : decode cX10_fault 6 = .ok (.istore_n 2, 1) := by decide +kernel
theorem dX10_fault_7 : decode cX10_fault 7 = .ok (.iload_n 2, 1) := by decide +kernel
theorem dX10_fault_8 : decode cX10_fault 8 = .ok (.bipush 98, 2) := by decide +kernel
theorem dX10_fault_10 : decode cX10_fault 10 = .ok (.if_icmp .eq 15, 3) := by decide +kernel
theorem dX10_fault_13 : decode cX10_fault 13 = .ok (.iload_n 2, 1) := by decide +kernel
theorem dX10_fault_14 : decode cX10_fault 14 = .ok (.bipush 99, 2) := by decide +kernel
theorem dX10_fault_16 : decode cX10_fault 16 = .ok (.if_icmp .eq 9, 3) := by decide +kernel
theorem dX10_fault_19 : decode cX10_fault 19 = .ok (.iload_n 2, 1) := by decide +kernel
theorem dX10_fault_20 : decode cX10_fault 20 = .ok (.bipush 105, 2) := by decide +kernel
theorem dX10_fault_22 : decode cX10_fault 22 = .ok (.if_icmp .ne 7, 3) := by decide +kernel
theorem dX10_fault_25 : decode cX10_fault 25 = .ok (.iconst 1, 1) := by decide +kernel
theorem dX10_fault_26 : decode cX10_fault 26 = .ok (.goto 4, 3) := by decide +kernel
theorem dX10_fault_29 : decode cX10_fault 29 = .ok (.iconst 0, 1) := by decide +kernel
theorem dX10_fault_30 : decode cX10_fault 30 = .ok (.istore_n 3, 1) := by decide +kernel
theorem dX10_fault_31 : decode cX10_fault 31 = .ok (.iload_n 3, 1) := by decide +kernel
theorem dX10_fault_32 : decode cX10_fault 32 = .ok (.ifCond .eq 36, 3) := by decide +kernel
theorem dX10_fault_35 : decode cX10_fault 35 = .ok (.aload_n 0, 1) := by decide +kernel
theorem dX10_fault_36 : decode cX10_fault 36 = .ok (.iload_n 1, 1) := by decide +kernel
theorem dX10_fault_37 : decode cX10_fault 37 = .ok (.iconst 3, 1) := by decide +kernel
theorem dX10_fault_38 : decode cX10_fault 38 = .ok (.invokevirtual 146, 3) := by decide +kernel
theorem dX10_fault_41 : decode cX10_fault 41 = .ok (.iconst 1, 1) := by decide +kernel
theorem dX10_fault_42 : decode cX10_fault 42 = .ok (.if_icmp .lt 23, 3) := by decide +kernel
theorem dX10_fault_45 : decode cX10_fault 45 = .ok (.aload_n 0, 1) := by decide +kernel
theorem dX10_fault_46 : decode cX10_fault 46 = .ok (.iload_n 1, 1) := by decide +kernel
theorem dX10_fault_47 : decode cX10_fault 47 = .ok (.iconst 4, 1) := by decide +kernel
theorem dX10_fault_48 : decode cX10_fault 48 = .ok (.invokevirtual 146, 3) := by decide +kernel
theorem dX10_fault_51 : decode cX10_fault 51 = .ok (.iconst 1, 1) := by decide +kernel
theorem dX10_fault_52 : decode cX10_fault 52 = .ok (.if_icmp .lt 13, 3) := by decide +kernel
theorem dX10_fault_55 : decode cX10_fault 55 = .ok (.aload_n 0, 1) := by decide +kernel
theorem dX10_fault_56 : decode cX10_fault 56 = .ok (.iload_n 1, 1) := by decide +kernel
theorem dX10_fault_57 : decode cX10_fault 57 = .ok (.iconst 5, 1) := by decide +kernel
theorem dX10_fault_58 : decode cX10_fault 58 = .ok (.invokevirtual 146, 3) := by decide +kernel
theorem dX10_fault_61 : decode cX10_fault 61 = .ok (.iconst 1, 1) := by decide +kernel
theorem dX10_fault_62 : decode cX10_fault 62 = .ok (.if_icmp .ge 6, 3) := by decide +kernel
theorem dX10_fault_65 : decode cX10_fault 65 = .ok (.bipush 120, 2) := by decide +kernel
theorem dX10_fault_67 : decode cX10_fault 67 = .ok (.ireturn, 1) := by decide +kernel
theorem dX10_fault_68 : decode cX10_fault 68 = .ok (.iload_n 2, 1) := by decide +kernel
theorem dX10_fault_69 : decode cX10_fault 69 = .ok (.bipush 112, 2) := by decide +kernel
theorem dX10_fault_71 : decode cX10_fault 71 = .ok (.if_icmp .ne 12, 3) := by decide +kernel
theorem dX10_fault_74 : decode cX10_fault 74 = .ok (.aload_n 0, 1) := by decide +kernel
theorem dX10_fault_75 : decode cX10_fault 75 = .ok (.iload_n 1, 1) := by decide +kernel
theorem dX10_fault_76 : decode cX10_fault 76 = .ok (.iconst 3, 1) := by decide +kernel
theorem dX10_fault_77 : decode cX10_fault 77 = .ok (.invokevirtual 146, 3) := by decide +kernel
theorem dX10_fault_80 : decode cX10_fault 80 = .ok (.ifCond .lt 23, 3) := by decide +kernel
theorem dX10_fault_83 : decode cX10_fault 83 = .ok (.iload_n 2, 1) := by decide +kernel
theorem dX10_fault_84 : decode cX10_fault 84 = .ok (.bipush 109, 2) := by decide +kernel
theorem dX10_fault_86 : decode cX10_fault 86 = .ok (.if_icmp .ne 20, 3) := by decide +kernel
theorem dX10_fault_89 : decode cX10_fault 89 = .ok (.aload_n 0, 1) := by decide +kernel
theorem dX10_fault_90 : decode cX10_fault 90 = .ok (.iload_n 1, 1) := by decide +kernel
theorem dX10_fault_91 : decode cX10_fault 91 = .ok (.iconst 0, 1) := by decide +kernel
theorem dX10_fault_92 : decode cX10_fault 92 = .ok (.invokevirtual 146, 3) := by decide +kernel
theorem dX10_fault_95 : decode cX10_fault 95 = .ok (.iconst 0, 1) := by decide +kernel
theorem dX10_fault_96 : decode cX10_fault 96 = .ok (.iconst 2, 1) := by decide +kernel
theorem dX10_fault_97 : decode cX10_fault 97 = .ok (.invokestatic 100, 3) := by decide +kernel
theorem dX10_fault_100 : decode cX10_fault 100 = .ok (.ifCond .ne 6, 3) := by decide +kernel
theorem dX10_fault_103 : decode cX10_fault 103 = .ok (.bipush 120, 2) := by decide +kernel
theorem dX10_fault_105 : decode cX10_fault 105 = .ok (.ireturn, 1) := by decide +kernel
theorem dX10_fault_106 : decode cX10_fault 106 = .ok (.iload_n 2, 1) := by decide +kernel
theorem dX10_fault_107 : decode cX10_fault 107 = .ok (.bipush 101, 2) := by decide +kernel
theorem dX10_fault_109 : decode cX10_fault 109 = .ok (.if_icmp .eq 6, 3) := by decide +kernel
theorem dX10_fault_112 : decode cX10_fault 112 = .ok (.bipush 45, 2) := by decide +kernel
theorem dX10_fault_114 : decode cX10_fault 114 = .ok (.ireturn, 1) := by decide +kernel
theorem dX10_fault_115 : decode cX10_fault 115 = .ok (.aload_n 0, 1) := by decide +kernel
theorem dX10_fault_116 : decode cX10_fault 116 = .ok (.iload_n 1, 1) := by decide +kernel
theorem dX10_fault_117 : decode cX10_fault 117 = .ok (.iconst 1, 1) := by decide +kernel
theorem dX10_fault_118 : decode cX10_fault 118 = .ok (.invokevirtual 146, 3) := by decide +kernel
theorem dX10_fault_121 : decode cX10_fault 121 = .ok (.istore 4, 2) := by decide +kernel
theorem dX10_fault_123 : decode cX10_fault 123 = .ok (.iload 4, 2) := by decide +kernel
theorem dX10_fault_125 : decode cX10_fault 125 = .ok (.iconst 0, 1) := by decide +kernel
theorem dX10_fault_126 : decode cX10_fault 126 = .ok (.iconst 5, 1) := by decide +kernel
theorem dX10_fault_127 : decode cX10_fault 127 = .ok (.invokestatic 100, 3) := by decide +kernel
theorem dX10_fault_130 : decode cX10_fault 130 = .ok (.ifCond .eq 12, 3) := by decide +kernel
theorem dX10_fault_133 : decode cX10_fault 133 = .ok (.aload_n 0, 1) := by decide +kernel
theorem dX10_fault_134 : decode cX10_fault 134 = .ok (.iload_n 1, 1) := by decide +kernel
theorem dX10_fault_135 : decode cX10_fault 135 = .ok (.iconst 2, 1) := by decide +kernel
theorem dX10_fault_136 : decode cX10_fault 136 = .ok (.invokevirtual 146, 3) := by decide +kernel
theorem dX10_fault_139 : decode cX10_fault 139 = .ok (.ifCond .ge 6, 3) := by decide +kernel
theorem dX10_fault_142 : decode cX10_fault 142 = .ok (.bipush 120, 2) := by decide +kernel
theorem dX10_fault_144 : decode cX10_fault 144 = .ok (.ireturn, 1) := by decide +kernel
theorem dX10_fault_145 : decode cX10_fault 145 = .ok (.iconst 0, 1) := by decide +kernel
theorem dX10_fault_146 : decode cX10_fault 146 = .ok (.istore 5, 2) := by decide +kernel
theorem dX10_fault_148 : decode cX10_fault 148 = .ok (.iconst 0, 1) := by decide +kernel
theorem dX10_fault_149 : decode cX10_fault 149 = .ok (.istore 6, 2) := by decide +kernel
theorem dX10_fault_151 : decode cX10_fault 151 = .ok (.iload 6, 2) := by decide +kernel
theorem dX10_fault_153 : decode cX10_fault 153 = .ok (.sipush 512, 3) := by decide +kernel
theorem dX10_fault_156 : decode cX10_fault 156 = .ok (.if_icmp .ge 74, 3) := by decide +kernel
theorem dX10_fault_159 : decode cX10_fault 159 = .ok (.aload_n 0, 1) := by decide +kernel
theorem dX10_fault_160 : decode cX10_fault 160 = .ok (.getfield 63, 3) := by decide +kernel
theorem dX10_fault_163 : decode cX10_fault 163 = .ok (.iload 6, 2) := by decide +kernel
theorem dX10_fault_165 : decode cX10_fault 165 = .ok (.aload_n 0, 1) := by decide +kernel
theorem dX10_fault_166 : decode cX10_fault 166 = .ok (.iload 6, 2) := by decide +kernel
theorem dX10_fault_168 : decode cX10_fault 168 = .ok (.iload 4, 2) := by decide +kernel
theorem dX10_fault_170 : decode cX10_fault 170 = .ok (.invokevirtual 187, 3) := by decide +kernel
theorem dX10_fault_173 : decode cX10_fault 173 = .ok (.ifCond .eq 29, 3) := by decide +kernel
theorem dX10_fault_176 : decode cX10_fault 176 = .ok (.aload_n 0, 1) := by decide +kernel
theorem dX10_fault_177 : decode cX10_fault 177 = .ok (.getfield 60, 3) := by decide +kernel
theorem dX10_fault_180 : decode cX10_fault 180 = .ok (.bipush 6, 2) := by decide +kernel
theorem dX10_fault_182 : decode cX10_fault 182 = .ok (.iload 6, 2) := by decide +kernel
theorem dX10_fault_184 : decode cX10_fault 184 = .ok (.imul, 1) := by decide +kernel
theorem dX10_fault_185 : decode cX10_fault 185 = .ok (.iload 4, 2) := by decide +kernel
theorem dX10_fault_187 : decode cX10_fault 187 = .ok (.iadd, 1) := by decide +kernel
theorem dX10_fault_188 : decode cX10_fault 188 = .ok (.iaload, 1) := by decide +kernel
theorem dX10_fault_189 : decode cX10_fault 189 = .ok (.aload_n 0, 1) := by decide +kernel
theorem dX10_fault_190 : decode cX10_fault 190 = .ok (.iload_n 1, 1) := by decide +kernel
theorem dX10_fault_191 : decode cX10_fault 191 = .ok (.iconst 0, 1) := by decide +kernel
theorem dX10_fault_192 : decode cX10_fault 192 = .ok (.invokevirtual 146, 3) := by decide +kernel
theorem dX10_fault_195 : decode cX10_fault 195 = .ok (.if_icmp .ne 7, 3) := by decide +kernel
theorem dX10_fault_198 : decode cX10_fault 198 = .ok (.iconst 1, 1) := by decide +kernel
theorem dX10_fault_199 : decode cX10_fault 199 = .ok (.goto 4, 3) := by decide +kernel
theorem dX10_fault_202 : decode cX10_fault 202 = .ok (.iconst 0, 1) := by decide +kernel
theorem dX10_fault_203 : decode cX10_fault 203 = .ok (.bastore, 1) := by decide +kernel
theorem dX10_fault_204 : decode cX10_fault 204 = .ok (.iload 5, 2) := by decide +kernel
theorem dX10_fault_206 : decode cX10_fault 206 = .ok (.aload_n 0, 1) := by decide +kernel
theorem dX10_fault_207 : decode cX10_fault 207 = .ok (.getfield 63, 3) := by decide +kernel
theorem dX10_fault_210 : decode cX10_fault 210 = .ok (.iload 6, 2) := by decide +kernel
theorem dX10_fault_212 : decode cX10_fault 212 = .ok (.baload, 1) := by decide +kernel
theorem dX10_fault_213 : decode cX10_fault 213 = .ok (.ifCond .eq 7, 3) := by decide +kernel
theorem dX10_fault_216 : decode cX10_fault 216 = .ok (.iconst 1, 1) := by decide +kernel
theorem dX10_fault_217 : decode cX10_fault 217 = .ok (.goto 4, 3) := by decide +kernel
theorem dX10_fault_220 : decode cX10_fault 220 = .ok (.iconst 0, 1) := by decide +kernel
theorem dX10_fault_221 : decode cX10_fault 221 = .ok (.iadd, 1) := by decide +kernel
theorem dX10_fault_222 : decode cX10_fault 222 = .ok (.istore 5, 2) := by decide +kernel
theorem dX10_fault_224 : decode cX10_fault 224 = .ok (.iinc 6 1, 3) := by decide +kernel
theorem dX10_fault_227 : decode cX10_fault 227 = .ok (.goto (-76), 3) := by decide +kernel
theorem dX10_fault_230 : decode cX10_fault 230 = .ok (.iload 5, 2) := by decide +kernel
theorem dX10_fault_232 : decode cX10_fault 232 = .ok (.ifCond .ne 8, 3) := by decide +kernel
theorem dX10_fault_235 : decode cX10_fault 235 = .ok (.bipush 108, 2) := by decide +kernel
theorem dX10_fault_237 : decode cX10_fault 237 = .ok (.goto 18, 3) := by decide +kernel
theorem dX10_fault_240 : decode cX10_fault 240 = .ok (.aload_n 0, 1) := by decide +kernel
theorem dX10_fault_241 : decode cX10_fault 241 = .ok (.invokevirtual 191, 3) := by decide +kernel
theorem dX10_fault_244 : decode cX10_fault 244 = .ok (.iconst 1, 1) := by decide +kernel
theorem dX10_fault_245 : decode cX10_fault 245 = .ok (.if_icmp .le 8, 3) := by decide +kernel
theorem dX10_fault_248 : decode cX10_fault 248 = .ok (.bipush 100, 2) := by decide +kernel
theorem dX10_fault_250 : decode cX10_fault 250 = .ok (.goto 5, 3) := by decide +kernel
theorem dX10_fault_253 : decode cX10_fault 253 = .ok (.bipush 45, 2) := by decide +kernel
theorem dX10_fault_255 : decode cX10_fault 255 = .ok (.ireturn, 1) := by decide +kernel
theorem dX10_pieces_0 : decode cX10_pieces 0 = .ok (.iconst 0, 1) := by decide +kernel
theorem dX10_pieces_1 : decode cX10_pieces 1 = .ok (.istore_n 1, 1) := by decide +kernel
theorem dX10_pieces_2 : decode cX10_pieces 2 = .ok (.iconst 0, 1) := by decide +kernel
theorem dX10_pieces_3 : decode cX10_pieces 3 = .ok (.istore_n 2, 1) := by decide +kernel
theorem dX10_pieces_4 : decode cX10_pieces 4 = .ok (.iload_n 2, 1) := by decide +kernel
theorem dX10_pieces_5 : decode cX10_pieces 5 = .ok (.sipush 512, 3) := by decide +kernel
theorem dX10_pieces_8 : decode cX10_pieces 8 = .ok (.if_icmp .ge 21, 3) := by decide +kernel
theorem dX10_pieces_11 : decode cX10_pieces 11 = .ok (.aload_n 0, 1) := by decide +kernel
theorem dX10_pieces_12 : decode cX10_pieces 12 = .ok (.getfield 57, 3) := by decide +kernel
theorem dX10_pieces_15 : decode cX10_pieces 15 = .ok (.iload_n 2, 1) := by decide +kernel
theorem dX10_pieces_16 : decode cX10_pieces 16 = .ok (.aload_n 0, 1) := by decide +kernel
theorem dX10_pieces_17 : decode cX10_pieces 17 = .ok (.getfield 63, 3) := by decide +kernel
theorem dX10_pieces_20 : decode cX10_pieces 20 = .ok (.iload_n 2, 1) := by decide +kernel
theorem dX10_pieces_21 : decode cX10_pieces 21 = .ok (.baload, 1) := by decide +kernel
theorem dX10_pieces_22 : decode cX10_pieces 22 = .ok (.bastore, 1) := by decide +kernel
theorem dX10_pieces_23 : decode cX10_pieces 23 = .ok (.iinc 2 1, 3) := by decide +kernel
theorem dX10_pieces_26 : decode cX10_pieces 26 = .ok (.goto (-22), 3) := by decide +kernel
theorem dX10_pieces_29 : decode cX10_pieces 29 = .ok (.iconst 0, 1) := by decide +kernel
theorem dX10_pieces_30 : decode cX10_pieces 30 = .ok (.istore_n 2, 1) := by decide +kernel
theorem dX10_pieces_31 : decode cX10_pieces 31 = .ok (.iload_n 2, 1) := by decide +kernel
theorem dX10_pieces_32 : decode cX10_pieces 32 = .ok (.sipush 512, 3) := by decide +kernel
theorem dX10_pieces_35 : decode cX10_pieces 35 = .ok (.if_icmp .ge 26, 3) := by decide +kernel
theorem dX10_pieces_38 : decode cX10_pieces 38 = .ok (.aload_n 0, 1) := by decide +kernel
theorem dX10_pieces_39 : decode cX10_pieces 39 = .ok (.getfield 57, 3) := by decide +kernel
theorem dX10_pieces_42 : decode cX10_pieces 42 = .ok (.iload_n 2, 1) := by decide +kernel
theorem dX10_pieces_43 : decode cX10_pieces 43 = .ok (.baload, 1) := by decide +kernel
theorem dX10_pieces_44 : decode cX10_pieces 44 = .ok (.ifCond .eq 11, 3) := by decide +kernel
theorem dX10_pieces_47 : decode cX10_pieces 47 = .ok (.iinc 1 1, 3) := by decide +kernel
theorem dX10_pieces_50 : decode cX10_pieces 50 = .ok (.aload_n 0, 1) := by decide +kernel
theorem dX10_pieces_51 : decode cX10_pieces 51 = .ok (.iload_n 2, 1) := by decide +kernel
theorem dX10_pieces_52 : decode cX10_pieces 52 = .ok (.invokevirtual 195, 3) := by decide +kernel
theorem dX10_pieces_55 : decode cX10_pieces 55 = .ok (.iinc 2 1, 3) := by decide +kernel
theorem dX10_pieces_58 : decode cX10_pieces 58 = .ok (.goto (-27), 3) := by decide +kernel
theorem dX10_pieces_61 : decode cX10_pieces 61 = .ok (.iload_n 1, 1) := by decide +kernel
theorem dX10_pieces_62 : decode cX10_pieces 62 = .ok (.ireturn, 1) := by decide +kernel
theorem dX10_spreads_0 : decode cX10_spreads 0 = .ok (.iconst 0, 1) := by decide +kernel
theorem dX10_spreads_1 : decode cX10_spreads 1 = .ok (.istore_n 2, 1) := by decide +kernel
theorem dX10_spreads_2 : decode cX10_spreads 2 = .ok (.iload_n 2, 1) := by decide +kernel
theorem dX10_spreads_3 : decode cX10_spreads 3 = .ok (.sipush 512, 3) := by decide +kernel
theorem dX10_spreads_6 : decode cX10_spreads 6 = .ok (.if_icmp .ge 25, 3) := by decide +kernel
theorem dX10_spreads_9 : decode cX10_spreads 9 = .ok (.aload_n 0, 1) := by decide +kernel
theorem dX10_spreads_10 : decode cX10_spreads 10 = .ok (.getfield 93, 3) := by decide +kernel
theorem dX10_spreads_13 : decode cX10_spreads 13 = .ok (.iload_n 2, 1) := by decide +kernel
theorem dX10_spreads_14 : decode cX10_spreads 14 = .ok (.iload_n 2, 1) := by decide +kernel
theorem dX10_spreads_15 : decode cX10_spreads 15 = .ok (.iload_n 1, 1) := by decide +kernel
theorem dX10_spreads_16 : decode cX10_spreads 16 = .ok (.if_icmp .ne 7, 3) := by decide +kernel
theorem dX10_spreads_19 : decode cX10_spreads 19 = .ok (.iconst 1, 1) := by decide +kernel
theorem dX10_spreads_20 : decode cX10_spreads 20 = .ok (.goto 4, 3) := by decide +kernel
theorem dX10_spreads_23 : decode cX10_spreads 23 = .ok (.iconst 0, 1) := by decide +kernel
theorem dX10_spreads_24 : decode cX10_spreads 24 = .ok (.bastore, 1) := by decide +kernel
theorem dX10_spreads_25 : decode cX10_spreads 25 = .ok (.iinc 2 1, 3) := by decide +kernel
theorem dX10_spreads_28 : decode cX10_spreads 28 = .ok (.goto (-26), 3) := by decide +kernel
theorem dX10_spreads_31 : decode cX10_spreads 31 = .ok (.iconst 1, 1) := by decide +kernel
theorem dX10_spreads_32 : decode cX10_spreads 32 = .ok (.istore_n 2, 1) := by decide +kernel
theorem dX10_spreads_33 : decode cX10_spreads 33 = .ok (.iload_n 2, 1) := by decide +kernel
theorem dX10_spreads_34 : decode cX10_spreads 34 = .ok (.ifCond .eq 93, 3) := by decide +kernel
theorem dX10_spreads_37 : decode cX10_spreads 37 = .ok (.iconst 0, 1) := by decide +kernel
theorem dX10_spreads_38 : decode cX10_spreads 38 = .ok (.istore_n 2, 1) := by decide +kernel
theorem dX10_spreads_39 : decode cX10_spreads 39 = .ok (.iconst 0, 1) := by decide +kernel
theorem dX10_spreads_40 : decode cX10_spreads 40 = .ok (.istore_n 3, 1) := by decide +kernel
theorem dX10_spreads_41 : decode cX10_spreads 41 = .ok (.iload_n 3, 1) := by decide +kernel
theorem dX10_spreads_42 : decode cX10_spreads 42 = .ok (.sipush 512, 3) := by decide +kernel
theorem dX10_spreads_45 : decode cX10_spreads 45 = .ok (.if_icmp .ge 79, 3) := by decide +kernel
theorem dX10_spreads_48 : decode cX10_spreads 48 = .ok (.iconst 0, 1) := by decide +kernel
theorem dX10_spreads_49 : decode cX10_spreads 49 = .ok (.istore 4, 2) := by decide +kernel
theorem dX10_spreads_51 : decode cX10_spreads 51 = .ok (.iload 4, 2) := by decide +kernel
theorem dX10_spreads_53 : decode cX10_spreads 53 = .ok (.bipush 6, 2) := by decide +kernel
theorem dX10_spreads_55 : decode cX10_spreads 55 = .ok (.if_icmp .ge 63, 3) := by decide +kernel
theorem dX10_spreads_58 : decode cX10_spreads 58 = .ok (.aload_n 0, 1) := by decide +kernel
theorem dX10_spreads_59 : decode cX10_spreads 59 = .ok (.getfield 93, 3) := by decide +kernel
theorem dX10_spreads_62 : decode cX10_spreads 62 = .ok (.iload_n 3, 1) := by decide +kernel
theorem dX10_spreads_63 : decode cX10_spreads 63 = .ok (.baload, 1) := by decide +kernel
theorem dX10_spreads_64 : decode cX10_spreads 64 = .ok (.ifCond .eq 54, 3) := by decide +kernel
theorem dX10_spreads_67 : decode cX10_spreads 67 = .ok (.iload_n 3, 1) := by decide +kernel
theorem dX10_spreads_68 : decode cX10_spreads 68 = .ok (.iload 4, 2) := by decide +kernel
theorem dX10_spreads_70 : decode cX10_spreads 70 = .ok (.iconst 1, 1) := by decide +kernel
theorem dX10_spreads_71 : decode cX10_spreads 71 = .ok (.invokestatic 184, 3) := by decide +kernel
theorem dX10_spreads_74 : decode cX10_spreads 74 = .ok (.istore 5, 2) := by decide +kernel
theorem dX10_spreads_76 : decode cX10_spreads 76 = .ok (.iload 5, 2) := by decide +kernel
theorem dX10_spreads_78 : decode cX10_spreads 78 = .ok (.iconst (-1), 1) := by decide +kernel
theorem dX10_spreads_79 : decode cX10_spreads 79 = .ok (.if_icmp .eq 33, 3) := by decide +kernel
theorem dX10_spreads_82 : decode cX10_spreads 82 = .ok (.aload_n 0, 1) := by decide +kernel
theorem dX10_spreads_83 : decode cX10_spreads 83 = .ok (.getfield 57, 3) := by decide +kernel
theorem dX10_spreads_86 : decode cX10_spreads 86 = .ok (.iload 5, 2) := by decide +kernel
theorem dX10_spreads_88 : decode cX10_spreads 88 = .ok (.baload, 1) := by decide +kernel
theorem dX10_spreads_89 : decode cX10_spreads 89 = .ok (.ifCond .eq 23, 3) := by decide +kernel
theorem dX10_spreads_92 : decode cX10_spreads 92 = .ok (.aload_n 0, 1) := by decide +kernel
theorem dX10_spreads_93 : decode cX10_spreads 93 = .ok (.getfield 93, 3) := by decide +kernel
theorem dX10_spreads_96 : decode cX10_spreads 96 = .ok (.iload 5, 2) := by decide +kernel
theorem dX10_spreads_98 : decode cX10_spreads 98 = .ok (.baload, 1) := by decide +kernel
theorem dX10_spreads_99 : decode cX10_spreads 99 = .ok (.ifCond .ne 13, 3) := by decide +kernel
theorem dX10_spreads_102 : decode cX10_spreads 102 = .ok (.aload_n 0, 1) := by decide +kernel
theorem dX10_spreads_103 : decode cX10_spreads 103 = .ok (.getfield 93, 3) := by decide +kernel
theorem dX10_spreads_106 : decode cX10_spreads 106 = .ok (.iload 5, 2) := by decide +kernel
theorem dX10_spreads_108 : decode cX10_spreads 108 = .ok (.iconst 1, 1) := by decide +kernel
theorem dX10_spreads_109 : decode cX10_spreads 109 = .ok (.bastore, 1) := by decide +kernel
theorem dX10_spreads_110 : decode cX10_spreads 110 = .ok (.iconst 1, 1) := by decide +kernel
theorem dX10_spreads_111 : decode cX10_spreads 111 = .ok (.istore_n 2, 1) := by decide +kernel
theorem dX10_spreads_112 : decode cX10_spreads 112 = .ok (.iinc 4 1, 3) := by decide +kernel
theorem dX10_spreads_115 : decode cX10_spreads 115 = .ok (.goto (-64), 3) := by decide +kernel
theorem dX10_spreads_118 : decode cX10_spreads 118 = .ok (.iinc 3 1, 3) := by decide +kernel
theorem dX10_spreads_121 : decode cX10_spreads 121 = .ok (.goto (-80), 3) := by decide +kernel
theorem dX10_spreads_124 : decode cX10_spreads 124 = .ok (.goto (-91), 3) := by decide +kernel
theorem dX10_spreads_127 : decode cX10_spreads 127 = .ok (.iconst 0, 1) := by decide +kernel
theorem dX10_spreads_128 : decode cX10_spreads 128 = .ok (.istore_n 3, 1) := by decide +kernel
theorem dX10_spreads_129 : decode cX10_spreads 129 = .ok (.iload_n 3, 1) := by decide +kernel
theorem dX10_spreads_130 : decode cX10_spreads 130 = .ok (.sipush 512, 3) := by decide +kernel
theorem dX10_spreads_133 : decode cX10_spreads 133 = .ok (.if_icmp .ge 38, 3) := by decide +kernel
theorem dX10_spreads_136 : decode cX10_spreads 136 = .ok (.aload_n 0, 1) := by decide +kernel
theorem dX10_spreads_137 : decode cX10_spreads 137 = .ok (.getfield 57, 3) := by decide +kernel
theorem dX10_spreads_140 : decode cX10_spreads 140 = .ok (.iload_n 3, 1) := by decide +kernel
theorem dX10_spreads_141 : decode cX10_spreads 141 = .ok (.aload_n 0, 1) := by decide +kernel
theorem dX10_spreads_142 : decode cX10_spreads 142 = .ok (.getfield 57, 3) := by decide +kernel
theorem dX10_spreads_145 : decode cX10_spreads 145 = .ok (.iload_n 3, 1) := by decide +kernel
theorem dX10_spreads_146 : decode cX10_spreads 146 = .ok (.baload, 1) := by decide +kernel
theorem dX10_spreads_147 : decode cX10_spreads 147 = .ok (.ifCond .eq 16, 3) := by decide +kernel
theorem dX10_spreads_150 : decode cX10_spreads 150 = .ok (.aload_n 0, 1) := by decide +kernel
theorem dX10_spreads_151 : decode cX10_spreads 151 = .ok (.getfield 93, 3) := by decide +kernel
theorem dX10_spreads_154 : decode cX10_spreads 154 = .ok (.iload_n 3, 1) := by decide +kernel
theorem dX10_spreads_155 : decode cX10_spreads 155 = .ok (.baload, 1) := by decide +kernel
theorem dX10_spreads_156 : decode cX10_spreads 156 = .ok (.ifCond .ne 7, 3) := by decide +kernel
theorem dX10_spreads_159 : decode cX10_spreads 159 = .ok (.iconst 1, 1) := by decide +kernel
theorem dX10_spreads_160 : decode cX10_spreads 160 = .ok (.goto 4, 3) := by decide +kernel
theorem dX10_spreads_163 : decode cX10_spreads 163 = .ok (.iconst 0, 1) := by decide +kernel
theorem dX10_spreads_164 : decode cX10_spreads 164 = .ok (.bastore, 1) := by decide +kernel
theorem dX10_spreads_165 : decode cX10_spreads 165 = .ok (.iinc 3 1, 3) := by decide +kernel
theorem dX10_spreads_168 : decode cX10_spreads 168 = .ok (.goto (-39), 3) := by decide +kernel
theorem dX10_spreads_171 : decode cX10_spreads 171 = .ok (.return_, 1) := by decide +kernel
theorem dX10_adds_0 : decode cX10_adds 0 = .ok (.iload_n 1, 1) := by decide +kernel
theorem dX10_adds_1 : decode cX10_adds 1 = .ok (.iconst (-1), 1) := by decide +kernel
theorem dX10_adds_2 : decode cX10_adds 2 = .ok (.if_icmp .eq 10, 3) := by decide +kernel
theorem dX10_adds_5 : decode cX10_adds 5 = .ok (.aload_n 0, 1) := by decide +kernel
theorem dX10_adds_6 : decode cX10_adds 6 = .ok (.getfield 57, 3) := by decide +kernel
theorem dX10_adds_9 : decode cX10_adds 9 = .ok (.iload_n 1, 1) := by decide +kernel
theorem dX10_adds_10 : decode cX10_adds 10 = .ok (.iconst 1, 1) := by decide +kernel
theorem dX10_adds_11 : decode cX10_adds 11 = .ok (.bastore, 1) := by decide +kernel
theorem dX10_adds_12 : decode cX10_adds 12 = .ok (.return_, 1) := by decide +kernel
theorem dX10_isInside_0 : decode cX10_isInside 0 = .ok (.iconst 1, 1) := by decide +kernel
theorem dX10_isInside_1 : decode cX10_isInside 1 = .ok (.istore_n 2, 1) := by decide +kernel
theorem dX10_isInside_2 : decode cX10_isInside 2 = .ok (.iconst 0, 1) := by decide +kernel
theorem dX10_isInside_3 : decode cX10_isInside 3 = .ok (.istore_n 3, 1) := by decide +kernel
theorem dX10_isInside_4 : decode cX10_isInside 4 = .ok (.iload_n 3, 1) := by decide +kernel
theorem dX10_isInside_5 : decode cX10_isInside 5 = .ok (.bipush 6, 2) := by decide +kernel
theorem dX10_isInside_7 : decode cX10_isInside 7 = .ok (.if_icmp .ge 43, 3) := by decide +kernel
theorem dX10_isInside_10 : decode cX10_isInside 10 = .ok (.iload_n 1, 1) := by decide +kernel
theorem dX10_isInside_11 : decode cX10_isInside 11 = .ok (.iload_n 3, 1) := by decide +kernel
theorem dX10_isInside_12 : decode cX10_isInside 12 = .ok (.iconst 1, 1) := by decide +kernel
theorem dX10_isInside_13 : decode cX10_isInside 13 = .ok (.invokestatic 184, 3) := by decide +kernel
theorem dX10_isInside_16 : decode cX10_isInside 16 = .ok (.istore 4, 2) := by decide +kernel
theorem dX10_isInside_18 : decode cX10_isInside 18 = .ok (.iload_n 2, 1) := by decide +kernel
theorem dX10_isInside_19 : decode cX10_isInside 19 = .ok (.ifCond .eq 23, 3) := by decide +kernel
theorem dX10_isInside_22 : decode cX10_isInside 22 = .ok (.iload 4, 2) := by decide +kernel
theorem dX10_isInside_24 : decode cX10_isInside 24 = .ok (.iconst (-1), 1) := by decide +kernel
theorem dX10_isInside_25 : decode cX10_isInside 25 = .ok (.if_icmp .eq 17, 3) := by decide +kernel
theorem dX10_isInside_28 : decode cX10_isInside 28 = .ok (.aload_n 0, 1) := by decide +kernel
theorem dX10_isInside_29 : decode cX10_isInside 29 = .ok (.getfield 54, 3) := by decide +kernel
theorem dX10_isInside_32 : decode cX10_isInside 32 = .ok (.iload 4, 2) := by decide +kernel
theorem dX10_isInside_34 : decode cX10_isInside 34 = .ok (.baload, 1) := by decide +kernel
theorem dX10_isInside_35 : decode cX10_isInside 35 = .ok (.ifCond .eq 7, 3) := by decide +kernel
theorem dX10_isInside_38 : decode cX10_isInside 38 = .ok (.iconst 1, 1) := by decide +kernel
theorem dX10_isInside_39 : decode cX10_isInside 39 = .ok (.goto 4, 3) := by decide +kernel
theorem dX10_isInside_42 : decode cX10_isInside 42 = .ok (.iconst 0, 1) := by decide +kernel
theorem dX10_isInside_43 : decode cX10_isInside 43 = .ok (.istore_n 2, 1) := by decide +kernel
theorem dX10_isInside_44 : decode cX10_isInside 44 = .ok (.iinc 3 1, 3) := by decide +kernel
theorem dX10_isInside_47 : decode cX10_isInside 47 = .ok (.goto (-43), 3) := by decide +kernel
theorem dX10_isInside_50 : decode cX10_isInside 50 = .ok (.iload_n 2, 1) := by decide +kernel
theorem dX10_isInside_51 : decode cX10_isInside 51 = .ok (.ireturn, 1) := by decide +kernel
theorem dX10_copies_0 : decode cX10_copies 0 = .ok (.aload_n 0, 1) := by decide +kernel
theorem dX10_copies_1 : decode cX10_copies 1 = .ok (.getfield 26, 3) := by decide +kernel
theorem dX10_copies_4 : decode cX10_copies 4 = .ok (.iload_n 1, 1) := by decide +kernel
theorem dX10_copies_5 : decode cX10_copies 5 = .ok (.caload, 1) := by decide +kernel
theorem dX10_copies_6 : decode cX10_copies 6 = .ok (.istore_n 3, 1) := by decide +kernel
theorem dX10_copies_7 : decode cX10_copies 7 = .ok (.iload_n 2, 1) := by decide +kernel
theorem dX10_copies_8 : decode cX10_copies 8 = .ok (.iconst 0, 1) := by decide +kernel
theorem dX10_copies_9 : decode cX10_copies 9 = .ok (.invokestatic 177, 3) := by decide +kernel
theorem dX10_copies_12 : decode cX10_copies 12 = .ok (.istore 4, 2) := by decide +kernel
theorem dX10_copies_14 : decode cX10_copies 14 = .ok (.iload_n 2, 1) := by decide +kernel
theorem dX10_copies_15 : decode cX10_copies 15 = .ok (.iconst 1, 1) := by decide +kernel
theorem dX10_copies_16 : decode cX10_copies 16 = .ok (.invokestatic 177, 3) := by decide +kernel
theorem dX10_copies_19 : decode cX10_copies 19 = .ok (.istore 5, 2) := by decide +kernel
theorem dX10_copies_21 : decode cX10_copies 21 = .ok (.iload_n 2, 1) := by decide +kernel
theorem dX10_copies_22 : decode cX10_copies 22 = .ok (.iconst 2, 1) := by decide +kernel
theorem dX10_copies_23 : decode cX10_copies 23 = .ok (.invokestatic 177, 3) := by decide +kernel
theorem dX10_copies_26 : decode cX10_copies 26 = .ok (.istore 6, 2) := by decide +kernel
theorem dX10_copies_28 : decode cX10_copies 28 = .ok (.iload_n 3, 1) := by decide +kernel
theorem dX10_copies_29 : decode cX10_copies 29 = .ok (.bipush 109, 2) := by decide +kernel
theorem dX10_copies_31 : decode cX10_copies 31 = .ok (.if_icmp .ne 75, 3) := by decide +kernel
theorem dX10_copies_34 : decode cX10_copies 34 = .ok (.aload_n 0, 1) := by decide +kernel
theorem dX10_copies_35 : decode cX10_copies 35 = .ok (.iload_n 1, 1) := by decide +kernel
theorem dX10_copies_36 : decode cX10_copies 36 = .ok (.iconst 0, 1) := by decide +kernel
theorem dX10_copies_37 : decode cX10_copies 37 = .ok (.invokevirtual 146, 3) := by decide +kernel
theorem dX10_copies_40 : decode cX10_copies 40 = .ok (.istore 7, 2) := by decide +kernel
theorem dX10_copies_42 : decode cX10_copies 42 = .ok (.iconst 2, 1) := by decide +kernel
theorem dX10_copies_43 : decode cX10_copies 43 = .ok (.aload_n 0, 1) := by decide +kernel
theorem dX10_copies_44 : decode cX10_copies 44 = .ok (.iload_n 1, 1) := by decide +kernel
theorem dX10_copies_45 : decode cX10_copies 45 = .ok (.iconst 1, 1) := by decide +kernel
theorem dX10_copies_46 : decode cX10_copies 46 = .ok (.invokevirtual 146, 3) := by decide +kernel
theorem dX10_copies_49 : decode cX10_copies 49 = .ok (.imul, 1) := by decide +kernel
theorem dX10_copies_50 : decode cX10_copies 50 = .ok (.iconst 1, 1) := by decide +kernel
theorem dX10_copies_51 : decode cX10_copies 51 = .ok (.isub, 1) := by decide +kernel
theorem dX10_copies_52 : decode cX10_copies 52 = .ok (.iload_n 2, 1) := by decide +kernel
theorem dX10_copies_53 : decode cX10_copies 53 = .ok (.iload 7, 2) := by decide +kernel
theorem dX10_copies_55 : decode cX10_copies 55 = .ok (.invokestatic 177, 3) := by decide +kernel
theorem dX10_copies_58 : decode cX10_copies 58 = .ok (.isub, 1) := by decide +kernel
theorem dX10_copies_59 : decode cX10_copies 59 = .ok (.istore 8, 2) := by decide +kernel
theorem dX10_copies_61 : decode cX10_copies 61 = .ok (.aload_n 0, 1) := by decide +kernel
theorem dX10_copies_62 : decode cX10_copies 62 = .ok (.iload 7, 2) := by decide +kernel
theorem dX10_copies_64 : decode cX10_copies 64 = .ok (.ifCond .ne 8, 3) := by decide +kernel
theorem dX10_copies_67 : decode cX10_copies 67 = .ok (.iload 8, 2) := by decide +kernel
theorem dX10_copies_69 : decode cX10_copies 69 = .ok (.goto 5, 3) := by decide +kernel
theorem dX10_copies_72 : decode cX10_copies 72 = .ok (.iload 4, 2) := by decide +kernel
theorem dX10_copies_74 : decode cX10_copies 74 = .ok (.iload 7, 2) := by decide +kernel
theorem dX10_copies_76 : decode cX10_copies 76 = .ok (.iconst 1, 1) := by decide +kernel
theorem dX10_copies_77 : decode cX10_copies 77 = .ok (.if_icmp .ne 8, 3) := by decide +kernel
theorem dX10_copies_80 : decode cX10_copies 80 = .ok (.iload 8, 2) := by decide +kernel
theorem dX10_copies_82 : decode cX10_copies 82 = .ok (.goto 5, 3) := by decide +kernel
theorem dX10_copies_85 : decode cX10_copies 85 = .ok (.iload 5, 2) := by decide +kernel
theorem dX10_copies_87 : decode cX10_copies 87 = .ok (.iload 7, 2) := by decide +kernel
theorem dX10_copies_89 : decode cX10_copies 89 = .ok (.iconst 2, 1) := by decide +kernel
theorem dX10_copies_90 : decode cX10_copies 90 = .ok (.if_icmp .ne 8, 3) := by decide +kernel
theorem dX10_copies_93 : decode cX10_copies 93 = .ok (.iload 8, 2) := by decide +kernel
theorem dX10_copies_95 : decode cX10_copies 95 = .ok (.goto 5, 3) := by decide +kernel
theorem dX10_copies_98 : decode cX10_copies 98 = .ok (.iload 6, 2) := by decide +kernel
theorem dX10_copies_100 : decode cX10_copies 100 = .ok (.invokestatic 180, 3) := by decide +kernel
theorem dX10_copies_103 : decode cX10_copies 103 = .ok (.invokevirtual 198, 3) := by decide +kernel
theorem dX10_copies_106 : decode cX10_copies 106 = .ok (.iconst 1, 1) := by decide +kernel
theorem dX10_copies_107 : decode cX10_copies 107 = .ok (.istore 7, 2) := by decide +kernel
theorem dX10_copies_109 : decode cX10_copies 109 = .ok (.iload_n 3, 1) := by decide +kernel
theorem dX10_copies_110 : decode cX10_copies 110 = .ok (.bipush 112, 2) := by decide +kernel
theorem dX10_copies_112 : decode cX10_copies 112 = .ok (.if_icmp .ne 63, 3) := by decide +kernel
theorem dX10_copies_115 : decode cX10_copies 115 = .ok (.iload 7, 2) := by decide +kernel
theorem dX10_copies_117 : decode cX10_copies 117 = .ok (.aload_n 0, 1) := by decide +kernel
theorem dX10_copies_118 : decode cX10_copies 118 = .ok (.iload_n 1, 1) := by decide +kernel
theorem dX10_copies_119 : decode cX10_copies 119 = .ok (.iconst 3, 1) := by decide +kernel
theorem dX10_copies_120 : decode cX10_copies 120 = .ok (.invokevirtual 146, 3) := by decide +kernel
theorem dX10_copies_123 : decode cX10_copies 123 = .ok (.if_icmp .gt 52, 3) := by decide +kernel
theorem dX10_copies_126 : decode cX10_copies 126 = .ok (.aload_n 0, 1) := by decide +kernel
theorem dX10_copies_127 : decode cX10_copies 127 = .ok (.iload 4, 2) := by decide +kernel
theorem dX10_copies_129 : decode cX10_copies 129 = .ok (.iload 7, 2) := by decide +kernel
theorem dX10_copies_131 : decode cX10_copies 131 = .ok (.aload_n 0, 1) := by decide +kernel
theorem dX10_copies_132 : decode cX10_copies 132 = .ok (.iload_n 1, 1) := by decide +kernel
theorem dX10_copies_133 : decode cX10_copies 133 = .ok (.iconst 0, 1) := by decide +kernel
theorem dX10_copies_134 : decode cX10_copies 134 = .ok (.invokevirtual 146, 3) := by decide +kernel
theorem dX10_copies_137 : decode cX10_copies 137 = .ok (.imul, 1) := by decide +kernel
theorem dX10_copies_138 : decode cX10_copies 138 = .ok (.iadd, 1) := by decide +kernel
theorem dX10_copies_139 : decode cX10_copies 139 = .ok (.iload 5, 2) := by decide +kernel
theorem dX10_copies_141 : decode cX10_copies 141 = .ok (.iload 7, 2) := by decide +kernel
theorem dX10_copies_143 : decode cX10_copies 143 = .ok (.aload_n 0, 1) := by decide +kernel
theorem dX10_copies_144 : decode cX10_copies 144 = .ok (.iload_n 1, 1) := by decide +kernel
theorem dX10_copies_145 : decode cX10_copies 145 = .ok (.iconst 1, 1) := by decide +kernel
theorem dX10_copies_146 : decode cX10_copies 146 = .ok (.invokevirtual 146, 3) := by decide +kernel
theorem dX10_copies_149 : decode cX10_copies 149 = .ok (.imul, 1) := by decide +kernel
theorem dX10_copies_150 : decode cX10_copies 150 = .ok (.iadd, 1) := by decide +kernel
theorem dX10_copies_151 : decode cX10_copies 151 = .ok (.iload 6, 2) := by decide +kernel
theorem dX10_copies_153 : decode cX10_copies 153 = .ok (.iload 7, 2) := by decide +kernel
theorem dX10_copies_155 : decode cX10_copies 155 = .ok (.aload_n 0, 1) := by decide +kernel
theorem dX10_copies_156 : decode cX10_copies 156 = .ok (.iload_n 1, 1) := by decide +kernel
theorem dX10_copies_157 : decode cX10_copies 157 = .ok (.iconst 2, 1) := by decide +kernel
theorem dX10_copies_158 : decode cX10_copies 158 = .ok (.invokevirtual 146, 3) := by decide +kernel
theorem dX10_copies_161 : decode cX10_copies 161 = .ok (.imul, 1) := by decide +kernel
theorem dX10_copies_162 : decode cX10_copies 162 = .ok (.iadd, 1) := by decide +kernel
theorem dX10_copies_163 : decode cX10_copies 163 = .ok (.invokestatic 180, 3) := by decide +kernel
theorem dX10_copies_166 : decode cX10_copies 166 = .ok (.invokevirtual 198, 3) := by decide +kernel
theorem dX10_copies_169 : decode cX10_copies 169 = .ok (.iinc 7 1, 3) := by decide +kernel
theorem dX10_copies_172 : decode cX10_copies 172 = .ok (.goto (-63), 3) := by decide +kernel
theorem dX10_copies_175 : decode cX10_copies 175 = .ok (.iconst 1, 1) := by decide +kernel
theorem dX10_copies_176 : decode cX10_copies 176 = .ok (.istore 7, 2) := by decide +kernel
theorem dX10_copies_178 : decode cX10_copies 178 = .ok (.iload_n 3, 1) := by decide +kernel
theorem dX10_copies_179 : decode cX10_copies 179 = .ok (.bipush 101, 2) := by decide +kernel
theorem dX10_copies_181 : decode cX10_copies 181 = .ok (.if_icmp .ne 45, 3) := by decide +kernel
theorem dX10_copies_184 : decode cX10_copies 184 = .ok (.aload_n 0, 1) := by decide +kernel
theorem dX10_copies_185 : decode cX10_copies 185 = .ok (.getfield 63, 3) := by decide +kernel
theorem dX10_copies_188 : decode cX10_copies 188 = .ok (.iload_n 2, 1) := by decide +kernel
theorem dX10_copies_189 : decode cX10_copies 189 = .ok (.baload, 1) := by decide +kernel
theorem dX10_copies_190 : decode cX10_copies 190 = .ok (.ifCond .eq 36, 3) := by decide +kernel
theorem dX10_copies_193 : decode cX10_copies 193 = .ok (.iload 7, 2) := by decide +kernel
theorem dX10_copies_195 : decode cX10_copies 195 = .ok (.aload_n 0, 1) := by decide +kernel
theorem dX10_copies_196 : decode cX10_copies 196 = .ok (.iload_n 1, 1) := by decide +kernel
theorem dX10_copies_197 : decode cX10_copies 197 = .ok (.iconst 2, 1) := by decide +kernel
theorem dX10_copies_198 : decode cX10_copies 198 = .ok (.invokevirtual 146, 3) := by decide +kernel
theorem dX10_copies_201 : decode cX10_copies 201 = .ok (.if_icmp .gt 25, 3) := by decide +kernel
theorem dX10_copies_204 : decode cX10_copies 204 = .ok (.aload_n 0, 1) := by decide +kernel
theorem dX10_copies_205 : decode cX10_copies 205 = .ok (.iload_n 2, 1) := by decide +kernel
theorem dX10_copies_206 : decode cX10_copies 206 = .ok (.aload_n 0, 1) := by decide +kernel
theorem dX10_copies_207 : decode cX10_copies 207 = .ok (.iload_n 1, 1) := by decide +kernel
theorem dX10_copies_208 : decode cX10_copies 208 = .ok (.iconst 1, 1) := by decide +kernel
theorem dX10_copies_209 : decode cX10_copies 209 = .ok (.invokevirtual 146, 3) := by decide +kernel
theorem dX10_copies_212 : decode cX10_copies 212 = .ok (.iload 7, 2) := by decide +kernel
theorem dX10_copies_214 : decode cX10_copies 214 = .ok (.invokestatic 184, 3) := by decide +kernel
theorem dX10_copies_217 : decode cX10_copies 217 = .ok (.invokevirtual 198, 3) := by decide +kernel
theorem dX10_copies_220 : decode cX10_copies 220 = .ok (.iinc 7 1, 3) := by decide +kernel
theorem dX10_copies_223 : decode cX10_copies 223 = .ok (.goto (-45), 3) := by decide +kernel
theorem dX10_copies_226 : decode cX10_copies 226 = .ok (.return_, 1) := by decide +kernel
theorem dX10_carries_0 : decode cX10_carries 0 = .ok (.aload_n 0, 1) := by decide +kernel
theorem dX10_carries_1 : decode cX10_carries 1 = .ok (.getfield 39, 3) := by decide +kernel
theorem dX10_carries_4 : decode cX10_carries 4 = .ok (.iload_n 1, 1) := by decide +kernel
theorem dX10_carries_5 : decode cX10_carries 5 = .ok (.aload_n 0, 1) := by decide +kernel
theorem dX10_carries_6 : decode cX10_carries 6 = .ok (.iload_n 1, 1) := by decide +kernel
theorem dX10_carries_7 : decode cX10_carries 7 = .ok (.invokevirtual 201, 3) := by decide +kernel
theorem dX10_carries_10 : decode cX10_carries 10 = .ok (.castore, 1) := by decide +kernel
theorem dX10_carries_11 : decode cX10_carries 11 = .ok (.aload_n 0, 1) := by decide +kernel
theorem dX10_carries_12 : decode cX10_carries 12 = .ok (.getfield 39, 3) := by decide +kernel
theorem dX10_carries_15 : decode cX10_carries 15 = .ok (.iload_n 1, 1) := by decide +kernel
theorem dX10_carries_16 : decode cX10_carries 16 = .ok (.caload, 1) := by decide +kernel
theorem dX10_carries_17 : decode cX10_carries 17 = .ok (.bipush 45, 2) := by decide +kernel
theorem dX10_carries_19 : decode cX10_carries 19 = .ok (.if_icmp .eq 4, 3) := by decide +kernel
theorem dX10_carries_22 : decode cX10_carries 22 = .ok (.return_, 1) := by decide +kernel
theorem dX10_carries_23 : decode cX10_carries 23 = .ok (.aload_n 0, 1) := by decide +kernel
theorem dX10_carries_24 : decode cX10_carries 24 = .ok (.getfield 26, 3) := by decide +kernel
theorem dX10_carries_27 : decode cX10_carries 27 = .ok (.iload_n 1, 1) := by decide +kernel
theorem dX10_carries_28 : decode cX10_carries 28 = .ok (.caload, 1) := by decide +kernel
theorem dX10_carries_29 : decode cX10_carries 29 = .ok (.istore_n 2, 1) := by decide +kernel
theorem dX10_carries_30 : decode cX10_carries 30 = .ok (.iconst 0, 1) := by decide +kernel
theorem dX10_carries_31 : decode cX10_carries 31 = .ok (.istore_n 3, 1) := by decide +kernel
theorem dX10_carries_32 : decode cX10_carries 32 = .ok (.iload_n 3, 1) := by decide +kernel
theorem dX10_carries_33 : decode cX10_carries 33 = .ok (.sipush 512, 3) := by decide +kernel
theorem dX10_carries_36 : decode cX10_carries 36 = .ok (.if_icmp .ge 182, 3) := by decide +kernel
theorem dX10_carries_39 : decode cX10_carries 39 = .ok (.iload_n 2, 1) := by decide +kernel
theorem dX10_carries_40 : decode cX10_carries 40 = .ok (.bipush 98, 2) := by decide +kernel
theorem dX10_carries_42 : decode cX10_carries 42 = .ok (.if_icmp .eq 15, 3) := by decide +kernel
theorem dX10_carries_45 : decode cX10_carries 45 = .ok (.iload_n 2, 1) := by decide +kernel
theorem dX10_carries_46 : decode cX10_carries 46 = .ok (.bipush 99, 2) := by decide +kernel
theorem dX10_carries_48 : decode cX10_carries 48 = .ok (.if_icmp .eq 9, 3) := by decide +kernel
theorem dX10_carries_51 : decode cX10_carries 51 = .ok (.iload_n 2, 1) := by decide +kernel
theorem dX10_carries_52 : decode cX10_carries 52 = .ok (.bipush 105, 2) := by decide +kernel
theorem dX10_carries_54 : decode cX10_carries 54 = .ok (.if_icmp .ne 7, 3) := by decide +kernel
theorem dX10_carries_57 : decode cX10_carries 57 = .ok (.iconst 1, 1) := by decide +kernel
theorem dX10_carries_58 : decode cX10_carries 58 = .ok (.goto 4, 3) := by decide +kernel
theorem dX10_carries_61 : decode cX10_carries 61 = .ok (.iconst 0, 1) := by decide +kernel
theorem dX10_carries_62 : decode cX10_carries 62 = .ok (.istore 4, 2) := by decide +kernel
theorem dX10_carries_64 : decode cX10_carries 64 = .ok (.iload 4, 2) := by decide +kernel
theorem dX10_carries_66 : decode cX10_carries 66 = .ok (.ifCond .eq 16, 3) := by decide +kernel
theorem dX10_carries_69 : decode cX10_carries 69 = .ok (.aload_n 0, 1) := by decide +kernel
theorem dX10_carries_70 : decode cX10_carries 70 = .ok (.iload_n 3, 1) := by decide +kernel
theorem dX10_carries_71 : decode cX10_carries 71 = .ok (.iload_n 1, 1) := by decide +kernel
theorem dX10_carries_72 : decode cX10_carries 72 = .ok (.invokevirtual 205, 3) := by decide +kernel
theorem dX10_carries_75 : decode cX10_carries 75 = .ok (.ifCond .eq 7, 3) := by decide +kernel
theorem dX10_carries_78 : decode cX10_carries 78 = .ok (.iconst 1, 1) := by decide +kernel
theorem dX10_carries_79 : decode cX10_carries 79 = .ok (.goto 4, 3) := by decide +kernel
theorem dX10_carries_82 : decode cX10_carries 82 = .ok (.iconst 0, 1) := by decide +kernel
theorem dX10_carries_83 : decode cX10_carries 83 = .ok (.istore 5, 2) := by decide +kernel
theorem dX10_carries_85 : decode cX10_carries 85 = .ok (.aload_n 0, 1) := by decide +kernel
theorem dX10_carries_86 : decode cX10_carries 86 = .ok (.getfield 57, 3) := by decide +kernel
theorem dX10_carries_89 : decode cX10_carries 89 = .ok (.iload_n 3, 1) := by decide +kernel
theorem dX10_carries_90 : decode cX10_carries 90 = .ok (.iload_n 2, 1) := by decide +kernel
theorem dX10_carries_91 : decode cX10_carries 91 = .ok (.bipush 98, 2) := by decide +kernel
theorem dX10_carries_93 : decode cX10_carries 93 = .ok (.if_icmp .ne 25, 3) := by decide +kernel
theorem dX10_carries_96 : decode cX10_carries 96 = .ok (.aload_n 0, 1) := by decide +kernel
theorem dX10_carries_97 : decode cX10_carries 97 = .ok (.getfield 54, 3) := by decide +kernel
theorem dX10_carries_100 : decode cX10_carries 100 = .ok (.iload_n 3, 1) := by decide +kernel
theorem dX10_carries_101 : decode cX10_carries 101 = .ok (.baload, 1) := by decide +kernel
theorem dX10_carries_102 : decode cX10_carries 102 = .ok (.ifCond .ne 8, 3) := by decide +kernel
theorem dX10_carries_105 : decode cX10_carries 105 = .ok (.iload 5, 2) := by decide +kernel
theorem dX10_carries_107 : decode cX10_carries 107 = .ok (.ifCond .eq 7, 3) := by decide +kernel
theorem dX10_carries_110 : decode cX10_carries 110 = .ok (.iconst 1, 1) := by decide +kernel
theorem dX10_carries_111 : decode cX10_carries 111 = .ok (.goto 100, 3) := by decide +kernel
theorem dX10_carries_114 : decode cX10_carries 114 = .ok (.iconst 0, 1) := by decide +kernel
theorem dX10_carries_115 : decode cX10_carries 115 = .ok (.goto 96, 3) := by decide +kernel
theorem dX10_carries_118 : decode cX10_carries 118 = .ok (.iload_n 2, 1) := by decide +kernel
theorem dX10_carries_119 : decode cX10_carries 119 = .ok (.bipush 99, 2) := by decide +kernel
theorem dX10_carries_121 : decode cX10_carries 121 = .ok (.if_icmp .ne 25, 3) := by decide +kernel
theorem dX10_carries_124 : decode cX10_carries 124 = .ok (.aload_n 0, 1) := by decide +kernel
theorem dX10_carries_125 : decode cX10_carries 125 = .ok (.getfield 54, 3) := by decide +kernel
theorem dX10_carries_128 : decode cX10_carries 128 = .ok (.iload_n 3, 1) := by decide +kernel
theorem dX10_carries_129 : decode cX10_carries 129 = .ok (.baload, 1) := by decide +kernel
theorem dX10_carries_130 : decode cX10_carries 130 = .ok (.ifCond .eq 12, 3) := by decide +kernel
theorem dX10_carries_133 : decode cX10_carries 133 = .ok (.iload 5, 2) := by decide +kernel
theorem dX10_carries_135 : decode cX10_carries 135 = .ok (.ifCond .ne 7, 3) := by decide +kernel
theorem dX10_carries_138 : decode cX10_carries 138 = .ok (.iconst 1, 1) := by decide +kernel
theorem dX10_carries_139 : decode cX10_carries 139 = .ok (.goto 72, 3) := by decide +kernel
theorem dX10_carries_142 : decode cX10_carries 142 = .ok (.iconst 0, 1) := by decide +kernel
theorem dX10_carries_143 : decode cX10_carries 143 = .ok (.goto 68, 3) := by decide +kernel
theorem dX10_carries_146 : decode cX10_carries 146 = .ok (.iload_n 2, 1) := by decide +kernel
theorem dX10_carries_147 : decode cX10_carries 147 = .ok (.bipush 105, 2) := by decide +kernel
theorem dX10_carries_149 : decode cX10_carries 149 = .ok (.if_icmp .ne 25, 3) := by decide +kernel
theorem dX10_carries_152 : decode cX10_carries 152 = .ok (.aload_n 0, 1) := by decide +kernel
theorem dX10_carries_153 : decode cX10_carries 153 = .ok (.getfield 54, 3) := by decide +kernel
theorem dX10_carries_156 : decode cX10_carries 156 = .ok (.iload_n 3, 1) := by decide +kernel
theorem dX10_carries_157 : decode cX10_carries 157 = .ok (.baload, 1) := by decide +kernel
theorem dX10_carries_158 : decode cX10_carries 158 = .ok (.ifCond .eq 12, 3) := by decide +kernel
theorem dX10_carries_161 : decode cX10_carries 161 = .ok (.iload 5, 2) := by decide +kernel
theorem dX10_carries_163 : decode cX10_carries 163 = .ok (.ifCond .eq 7, 3) := by decide +kernel
theorem dX10_carries_166 : decode cX10_carries 166 = .ok (.iconst 1, 1) := by decide +kernel
theorem dX10_carries_167 : decode cX10_carries 167 = .ok (.goto 44, 3) := by decide +kernel
theorem dX10_carries_170 : decode cX10_carries 170 = .ok (.iconst 0, 1) := by decide +kernel
theorem dX10_carries_171 : decode cX10_carries 171 = .ok (.goto 40, 3) := by decide +kernel
theorem dX10_carries_174 : decode cX10_carries 174 = .ok (.iload_n 2, 1) := by decide +kernel
theorem dX10_carries_175 : decode cX10_carries 175 = .ok (.bipush 104, 2) := by decide +kernel
theorem dX10_carries_177 : decode cX10_carries 177 = .ok (.if_icmp .ne 28, 3) := by decide +kernel
theorem dX10_carries_180 : decode cX10_carries 180 = .ok (.aload_n 0, 1) := by decide +kernel
theorem dX10_carries_181 : decode cX10_carries 181 = .ok (.getfield 54, 3) := by decide +kernel
theorem dX10_carries_184 : decode cX10_carries 184 = .ok (.iload_n 3, 1) := by decide +kernel
theorem dX10_carries_185 : decode cX10_carries 185 = .ok (.baload, 1) := by decide +kernel
theorem dX10_carries_186 : decode cX10_carries 186 = .ok (.ifCond .eq 15, 3) := by decide +kernel
theorem dX10_carries_189 : decode cX10_carries 189 = .ok (.aload_n 0, 1) := by decide +kernel
theorem dX10_carries_190 : decode cX10_carries 190 = .ok (.iload_n 3, 1) := by decide +kernel
theorem dX10_carries_191 : decode cX10_carries 191 = .ok (.invokevirtual 208, 3) := by decide +kernel
theorem dX10_carries_194 : decode cX10_carries 194 = .ok (.ifCond .ne 7, 3) := by decide +kernel
theorem dX10_carries_197 : decode cX10_carries 197 = .ok (.iconst 1, 1) := by decide +kernel
theorem dX10_carries_198 : decode cX10_carries 198 = .ok (.goto 13, 3) := by decide +kernel
theorem dX10_carries_201 : decode cX10_carries 201 = .ok (.iconst 0, 1) := by decide +kernel
theorem dX10_carries_202 : decode cX10_carries 202 = .ok (.goto 9, 3) := by decide +kernel
theorem dX10_carries_205 : decode cX10_carries 205 = .ok (.aload_n 0, 1) := by decide +kernel
theorem dX10_carries_206 : decode cX10_carries 206 = .ok (.getfield 54, 3) := by decide +kernel
theorem dX10_carries_209 : decode cX10_carries 209 = .ok (.iload_n 3, 1) := by decide +kernel
theorem dX10_carries_210 : decode cX10_carries 210 = .ok (.baload, 1) := by decide +kernel
theorem dX10_carries_211 : decode cX10_carries 211 = .ok (.bastore, 1) := by decide +kernel
theorem dX10_carries_212 : decode cX10_carries 212 = .ok (.iinc 3 1, 3) := by decide +kernel
theorem dX10_carries_215 : decode cX10_carries 215 = .ok (.goto (-183), 3) := by decide +kernel
theorem dX10_carries_218 : decode cX10_carries 218 = .ok (.iconst 0, 1) := by decide +kernel
theorem dX10_carries_219 : decode cX10_carries 219 = .ok (.istore_n 3, 1) := by decide +kernel
theorem dX10_carries_220 : decode cX10_carries 220 = .ok (.iload_n 3, 1) := by decide +kernel
theorem dX10_carries_221 : decode cX10_carries 221 = .ok (.sipush 512, 3) := by decide +kernel
theorem dX10_carries_224 : decode cX10_carries 224 = .ok (.if_icmp .ge 24, 3) := by decide +kernel
theorem dX10_carries_227 : decode cX10_carries 227 = .ok (.aload_n 0, 1) := by decide +kernel
theorem dX10_carries_228 : decode cX10_carries 228 = .ok (.getfield 54, 3) := by decide +kernel
theorem dX10_carries_231 : decode cX10_carries 231 = .ok (.iload_n 3, 1) := by decide +kernel
theorem dX10_carries_232 : decode cX10_carries 232 = .ok (.baload, 1) := by decide +kernel
theorem dX10_carries_233 : decode cX10_carries 233 = .ok (.ifCond .eq 9, 3) := by decide +kernel
theorem dX10_carries_236 : decode cX10_carries 236 = .ok (.aload_n 0, 1) := by decide +kernel
theorem dX10_carries_237 : decode cX10_carries 237 = .ok (.iload_n 1, 1) := by decide +kernel
theorem dX10_carries_238 : decode cX10_carries 238 = .ok (.iload_n 3, 1) := by decide +kernel
theorem dX10_carries_239 : decode cX10_carries 239 = .ok (.invokevirtual 211, 3) := by decide +kernel
theorem dX10_carries_242 : decode cX10_carries 242 = .ok (.iinc 3 1, 3) := by decide +kernel
theorem dX10_carries_245 : decode cX10_carries 245 = .ok (.goto (-25), 3) := by decide +kernel
theorem dX10_carries_248 : decode cX10_carries 248 = .ok (.iconst 0, 1) := by decide +kernel
theorem dX10_carries_249 : decode cX10_carries 249 = .ok (.istore_n 3, 1) := by decide +kernel
theorem dX10_carries_250 : decode cX10_carries 250 = .ok (.iload_n 3, 1) := by decide +kernel
theorem dX10_carries_251 : decode cX10_carries 251 = .ok (.sipush 512, 3) := by decide +kernel
theorem dX10_carries_254 : decode cX10_carries 254 = .ok (.if_icmp .ge 21, 3) := by decide +kernel
theorem dX10_carries_257 : decode cX10_carries 257 = .ok (.aload_n 0, 1) := by decide +kernel
theorem dX10_carries_258 : decode cX10_carries 258 = .ok (.getfield 54, 3) := by decide +kernel
theorem dX10_carries_261 : decode cX10_carries 261 = .ok (.iload_n 3, 1) := by decide +kernel
theorem dX10_carries_262 : decode cX10_carries 262 = .ok (.aload_n 0, 1) := by decide +kernel
theorem dX10_carries_263 : decode cX10_carries 263 = .ok (.getfield 57, 3) := by decide +kernel
theorem dX10_carries_266 : decode cX10_carries 266 = .ok (.iload_n 3, 1) := by decide +kernel
theorem dX10_carries_267 : decode cX10_carries 267 = .ok (.baload, 1) := by decide +kernel
theorem dX10_carries_268 : decode cX10_carries 268 = .ok (.bastore, 1) := by decide +kernel
theorem dX10_carries_269 : decode cX10_carries 269 = .ok (.iinc 3 1, 3) := by decide +kernel
theorem dX10_carries_272 : decode cX10_carries 272 = .ok (.goto (-22), 3) := by decide +kernel
theorem dX10_carries_275 : decode cX10_carries 275 = .ok (.iconst 0, 1) := by decide +kernel
theorem dX10_carries_276 : decode cX10_carries 276 = .ok (.istore_n 3, 1) := by decide +kernel
theorem dX10_carries_277 : decode cX10_carries 277 = .ok (.iload_n 3, 1) := by decide +kernel
theorem dX10_carries_278 : decode cX10_carries 278 = .ok (.sipush 3072, 3) := by decide +kernel
theorem dX10_carries_281 : decode cX10_carries 281 = .ok (.if_icmp .ge 58, 3) := by decide +kernel
theorem dX10_carries_284 : decode cX10_carries 284 = .ok (.aload_n 0, 1) := by decide +kernel
theorem dX10_carries_285 : decode cX10_carries 285 = .ok (.iload_n 3, 1) := by decide +kernel
theorem dX10_carries_286 : decode cX10_carries 286 = .ok (.bipush 6, 2) := by decide +kernel
theorem dX10_carries_288 : decode cX10_carries 288 = .ok (.idiv, 1) := by decide +kernel
theorem dX10_carries_289 : decode cX10_carries 289 = .ok (.iload_n 3, 1) := by decide +kernel
theorem dX10_carries_290 : decode cX10_carries 290 = .ok (.bipush 6, 2) := by decide +kernel
theorem dX10_carries_292 : decode cX10_carries 292 = .ok (.irem, 1) := by decide +kernel
theorem dX10_carries_293 : decode cX10_carries 293 = .ok (.invokevirtual 187, 3) := by decide +kernel
theorem dX10_carries_296 : decode cX10_carries 296 = .ok (.istore 4, 2) := by decide +kernel
theorem dX10_carries_298 : decode cX10_carries 298 = .ok (.aload_n 0, 1) := by decide +kernel
theorem dX10_carries_299 : decode cX10_carries 299 = .ok (.getfield 60, 3) := by decide +kernel
theorem dX10_carries_302 : decode cX10_carries 302 = .ok (.iload_n 3, 1) := by decide +kernel
theorem dX10_carries_303 : decode cX10_carries 303 = .ok (.iload 4, 2) := by decide +kernel
theorem dX10_carries_305 : decode cX10_carries 305 = .ok (.ifCond .ne 7, 3) := by decide +kernel
theorem dX10_carries_308 : decode cX10_carries 308 = .ok (.iconst (-1), 1) := by decide +kernel
theorem dX10_carries_309 : decode cX10_carries 309 = .ok (.goto 23, 3) := by decide +kernel
theorem dX10_carries_312 : decode cX10_carries 312 = .ok (.aload_n 0, 1) := by decide +kernel
theorem dX10_carries_313 : decode cX10_carries 313 = .ok (.getfield 60, 3) := by decide +kernel
theorem dX10_carries_316 : decode cX10_carries 316 = .ok (.iload_n 3, 1) := by decide +kernel
theorem dX10_carries_317 : decode cX10_carries 317 = .ok (.iaload, 1) := by decide +kernel
theorem dX10_carries_318 : decode cX10_carries 318 = .ok (.iconst (-1), 1) := by decide +kernel
theorem dX10_carries_319 : decode cX10_carries 319 = .ok (.if_icmp .ne 7, 3) := by decide +kernel
theorem dX10_carries_322 : decode cX10_carries 322 = .ok (.iload_n 1, 1) := by decide +kernel
theorem dX10_carries_323 : decode cX10_carries 323 = .ok (.goto 9, 3) := by decide +kernel
theorem dX10_carries_326 : decode cX10_carries 326 = .ok (.aload_n 0, 1) := by decide +kernel
theorem dX10_carries_327 : decode cX10_carries 327 = .ok (.getfield 60, 3) := by decide +kernel
theorem dX10_carries_330 : decode cX10_carries 330 = .ok (.iload_n 3, 1) := by decide +kernel
theorem dX10_carries_331 : decode cX10_carries 331 = .ok (.iaload, 1) := by decide +kernel
theorem dX10_carries_332 : decode cX10_carries 332 = .ok (.iastore, 1) := by decide +kernel
theorem dX10_carries_333 : decode cX10_carries 333 = .ok (.iinc 3 1, 3) := by decide +kernel
theorem dX10_carries_336 : decode cX10_carries 336 = .ok (.goto (-59), 3) := by decide +kernel
theorem dX10_carries_339 : decode cX10_carries 339 = .ok (.return_, 1) := by decide +kernel
theorem dX10_has_0 : decode cX10_has 0 = .ok (.iload_n 1, 1) := by decide +kernel
theorem dX10_has_1 : decode cX10_has 1 = .ok (.iload_n 2, 1) := by decide +kernel
theorem dX10_has_2 : decode cX10_has 2 = .ok (.iload_n 3, 1) := by decide +kernel
theorem dX10_has_3 : decode cX10_has 3 = .ok (.invokestatic 180, 3) := by decide +kernel
theorem dX10_has_6 : decode cX10_has 6 = .ok (.istore 4, 2) := by decide +kernel
theorem dX10_has_8 : decode cX10_has 8 = .ok (.aload_n 0, 1) := by decide +kernel
theorem dX10_has_9 : decode cX10_has 9 = .ok (.iload 4, 2) := by decide +kernel
theorem dX10_has_11 : decode cX10_has 11 = .ok (.iconst (-1), 1) := by decide +kernel
theorem dX10_has_12 : decode cX10_has 12 = .ok (.if_icmp .ne 7, 3) := by decide +kernel
theorem dX10_has_15 : decode cX10_has 15 = .ok (.iconst 1, 1) := by decide +kernel
theorem dX10_has_16 : decode cX10_has 16 = .ok (.goto 4, 3) := by decide +kernel
theorem dX10_has_19 : decode cX10_has 19 = .ok (.iconst 0, 1) := by decide +kernel
theorem dX10_has_20 : decode cX10_has 20 = .ok (.putfield 96, 3) := by decide +kernel
theorem dX10_has_23 : decode cX10_has 23 = .ok (.iload 4, 2) := by decide +kernel
theorem dX10_has_25 : decode cX10_has 25 = .ok (.iconst (-1), 1) := by decide +kernel
theorem dX10_has_26 : decode cX10_has 26 = .ok (.if_icmp .eq 17, 3) := by decide +kernel
theorem dX10_has_29 : decode cX10_has 29 = .ok (.aload_n 0, 1) := by decide +kernel
theorem dX10_has_30 : decode cX10_has 30 = .ok (.getfield 54, 3) := by decide +kernel
theorem dX10_has_33 : decode cX10_has 33 = .ok (.iload 4, 2) := by decide +kernel
theorem dX10_has_35 : decode cX10_has 35 = .ok (.baload, 1) := by decide +kernel
theorem dX10_has_36 : decode cX10_has 36 = .ok (.ifCond .eq 7, 3) := by decide +kernel
theorem dX10_has_39 : decode cX10_has 39 = .ok (.iconst 1, 1) := by decide +kernel
theorem dX10_has_40 : decode cX10_has 40 = .ok (.goto 4, 3) := by decide +kernel
theorem dX10_has_43 : decode cX10_has 43 = .ok (.iconst 0, 1) := by decide +kernel
theorem dX10_has_44 : decode cX10_has 44 = .ok (.ireturn, 1) := by decide +kernel
theorem dX10_hasAnew_0 : decode cX10_hasAnew 0 = .ok (.aload_n 0, 1) := by decide +kernel
theorem dX10_hasAnew_1 : decode cX10_hasAnew 1 = .ok (.iload_n 1, 1) := by decide +kernel
theorem dX10_hasAnew_2 : decode cX10_hasAnew 2 = .ok (.iload_n 2, 1) := by decide +kernel
theorem dX10_hasAnew_3 : decode cX10_hasAnew 3 = .ok (.iload_n 3, 1) := by decide +kernel
theorem dX10_hasAnew_4 : decode cX10_hasAnew 4 = .ok (.invokevirtual 214, 3) := by decide +kernel
theorem dX10_hasAnew_7 : decode cX10_hasAnew 7 = .ok (.ireturn, 1) := by decide +kernel
theorem dX10_nameOf_0 : decode cX10_nameOf 0 = .ok (.aload_n 0, 1) := by decide +kernel
theorem dX10_nameOf_1 : decode cX10_nameOf 1 = .ok (.iconst 0, 1) := by decide +kernel
theorem dX10_nameOf_2 : decode cX10_nameOf 2 = .ok (.putfield 96, 3) := by decide +kernel
theorem dX10_nameOf_5 : decode cX10_nameOf 5 = .ok (.iload_n 1, 1) := by decide +kernel
theorem dX10_nameOf_6 : decode cX10_nameOf 6 = .ok (.iload_n 2, 1) := by decide +kernel
theorem dX10_nameOf_7 : decode cX10_nameOf 7 = .ok (.iload_n 3, 1) := by decide +kernel
theorem dX10_nameOf_8 : decode cX10_nameOf 8 = .ok (.invokestatic 180, 3) := by decide +kernel
theorem dX10_nameOf_11 : decode cX10_nameOf 11 = .ok (.istore 5, 2) := by decide +kernel
theorem dX10_nameOf_13 : decode cX10_nameOf 13 = .ok (.iload 5, 2) := by decide +kernel
theorem dX10_nameOf_15 : decode cX10_nameOf 15 = .ok (.iconst (-1), 1) := by decide +kernel
theorem dX10_nameOf_16 : decode cX10_nameOf 16 = .ok (.if_icmp .ne 9, 3) := by decide +kernel
theorem dX10_nameOf_19 : decode cX10_nameOf 19 = .ok (.aload_n 0, 1) := by decide +kernel
theorem dX10_nameOf_20 : decode cX10_nameOf 20 = .ok (.iconst 1, 1) := by decide +kernel
theorem dX10_nameOf_21 : decode cX10_nameOf 21 = .ok (.invokevirtual 112, 3) := by decide +kernel
theorem dX10_nameOf_24 : decode cX10_nameOf 24 = .ok (.ireturn, 1) := by decide +kernel
theorem dX10_nameOf_25 : decode cX10_nameOf 25 = .ok (.iload 4, 2) := by decide +kernel
theorem dX10_nameOf_27 : decode cX10_nameOf 27 = .ok (.iconst 0, 1) := by decide +kernel
theorem dX10_nameOf_28 : decode cX10_nameOf 28 = .ok (.iconst 5, 1) := by decide +kernel
theorem dX10_nameOf_29 : decode cX10_nameOf 29 = .ok (.invokestatic 100, 3) := by decide +kernel
theorem dX10_nameOf_32 : decode cX10_nameOf 32 = .ok (.ifCond .ne 9, 3) := by decide +kernel
theorem dX10_nameOf_35 : decode cX10_nameOf 35 = .ok (.aload_n 0, 1) := by decide +kernel
theorem dX10_nameOf_36 : decode cX10_nameOf 36 = .ok (.iconst 2, 1) := by decide +kernel
theorem dX10_nameOf_37 : decode cX10_nameOf 37 = .ok (.invokevirtual 112, 3) := by decide +kernel
theorem dX10_nameOf_40 : decode cX10_nameOf 40 = .ok (.ireturn, 1) := by decide +kernel
theorem dX10_nameOf_41 : decode cX10_nameOf 41 = .ok (.aload_n 0, 1) := by decide +kernel
theorem dX10_nameOf_42 : decode cX10_nameOf 42 = .ok (.getfield 60, 3) := by decide +kernel
theorem dX10_nameOf_45 : decode cX10_nameOf 45 = .ok (.bipush 6, 2) := by decide +kernel
theorem dX10_nameOf_47 : decode cX10_nameOf 47 = .ok (.iload 5, 2) := by decide +kernel
theorem dX10_nameOf_49 : decode cX10_nameOf 49 = .ok (.imul, 1) := by decide +kernel
theorem dX10_nameOf_50 : decode cX10_nameOf 50 = .ok (.iload 4, 2) := by decide +kernel
theorem dX10_nameOf_52 : decode cX10_nameOf 52 = .ok (.iadd, 1) := by decide +kernel
theorem dX10_nameOf_53 : decode cX10_nameOf 53 = .ok (.iaload, 1) := by decide +kernel
theorem dX10_nameOf_54 : decode cX10_nameOf 54 = .ok (.iconst (-1), 1) := by decide +kernel
theorem dX10_nameOf_55 : decode cX10_nameOf 55 = .ok (.if_icmp .ne 11, 3) := by decide +kernel
theorem dX10_nameOf_58 : decode cX10_nameOf 58 = .ok (.aload_n 0, 1) := by decide +kernel
theorem dX10_nameOf_59 : decode cX10_nameOf 59 = .ok (.iconst 3, 1) := by decide +kernel
theorem dX10_nameOf_60 : decode cX10_nameOf 60 = .ok (.invokevirtual 112, 3) := by decide +kernel
theorem dX10_nameOf_63 : decode cX10_nameOf 63 = .ok (.goto 16, 3) := by decide +kernel
theorem dX10_nameOf_66 : decode cX10_nameOf 66 = .ok (.aload_n 0, 1) := by decide +kernel
theorem dX10_nameOf_67 : decode cX10_nameOf 67 = .ok (.getfield 60, 3) := by decide +kernel
theorem dX10_nameOf_70 : decode cX10_nameOf 70 = .ok (.bipush 6, 2) := by decide +kernel
theorem dX10_nameOf_72 : decode cX10_nameOf 72 = .ok (.iload 5, 2) := by decide +kernel
theorem dX10_nameOf_74 : decode cX10_nameOf 74 = .ok (.imul, 1) := by decide +kernel
theorem dX10_nameOf_75 : decode cX10_nameOf 75 = .ok (.iload 4, 2) := by decide +kernel
theorem dX10_nameOf_77 : decode cX10_nameOf 77 = .ok (.iadd, 1) := by decide +kernel
theorem dX10_nameOf_78 : decode cX10_nameOf 78 = .ok (.iaload, 1) := by decide +kernel
theorem dX10_nameOf_79 : decode cX10_nameOf 79 = .ok (.ireturn, 1) := by decide +kernel
theorem dX10_squares_0 : decode cX10_squares 0 = .ok (.aload_n 0, 1) := by decide +kernel
theorem dX10_squares_1 : decode cX10_squares 1 = .ok (.iconst 0, 1) := by decide +kernel
theorem dX10_squares_2 : decode cX10_squares 2 = .ok (.putfield 96, 3) := by decide +kernel
theorem dX10_squares_5 : decode cX10_squares 5 = .ok (.iload_n 1, 1) := by decide +kernel
theorem dX10_squares_6 : decode cX10_squares 6 = .ok (.iconst 0, 1) := by decide +kernel
theorem dX10_squares_7 : decode cX10_squares 7 = .ok (.bipush 39, 2) := by decide +kernel
theorem dX10_squares_9 : decode cX10_squares 9 = .ok (.invokestatic 100, 3) := by decide +kernel
theorem dX10_squares_12 : decode cX10_squares 12 = .ok (.ifCond .eq 12, 3) := by decide +kernel
theorem dX10_squares_15 : decode cX10_squares 15 = .ok (.iload_n 2, 1) := by decide +kernel
theorem dX10_squares_16 : decode cX10_squares 16 = .ok (.iconst 0, 1) := by decide +kernel
theorem dX10_squares_17 : decode cX10_squares 17 = .ok (.iconst 5, 1) := by decide +kernel
theorem dX10_squares_18 : decode cX10_squares 18 = .ok (.invokestatic 100, 3) := by decide +kernel
theorem dX10_squares_21 : decode cX10_squares 21 = .ok (.ifCond .ne 9, 3) := by decide +kernel
theorem dX10_squares_24 : decode cX10_squares 24 = .ok (.aload_n 0, 1) := by decide +kernel
theorem dX10_squares_25 : decode cX10_squares 25 = .ok (.iconst 1, 1) := by decide +kernel
theorem dX10_squares_26 : decode cX10_squares 26 = .ok (.invokevirtual 112, 3) := by decide +kernel
theorem dX10_squares_29 : decode cX10_squares 29 = .ok (.ireturn, 1) := by decide +kernel
theorem dX10_squares_30 : decode cX10_squares 30 = .ok (.iconst 0, 1) := by decide +kernel
theorem dX10_squares_31 : decode cX10_squares 31 = .ok (.istore_n 3, 1) := by decide +kernel
theorem dX10_squares_32 : decode cX10_squares 32 = .ok (.iconst 0, 1) := by decide +kernel
theorem dX10_squares_33 : decode cX10_squares 33 = .ok (.istore 4, 2) := by decide +kernel
theorem dX10_squares_35 : decode cX10_squares 35 = .ok (.iload 4, 2) := by decide +kernel
theorem dX10_squares_37 : decode cX10_squares 37 = .ok (.sipush 512, 3) := by decide +kernel
theorem dX10_squares_40 : decode cX10_squares 40 = .ok (.if_icmp .ge 33, 3) := by decide +kernel
theorem dX10_squares_43 : decode cX10_squares 43 = .ok (.iload_n 3, 1) := by decide +kernel
theorem dX10_squares_44 : decode cX10_squares 44 = .ok (.aload_n 0, 1) := by decide +kernel
theorem dX10_squares_45 : decode cX10_squares 45 = .ok (.getfield 60, 3) := by decide +kernel
theorem dX10_squares_48 : decode cX10_squares 48 = .ok (.bipush 6, 2) := by decide +kernel
theorem dX10_squares_50 : decode cX10_squares 50 = .ok (.iload 4, 2) := by decide +kernel
theorem dX10_squares_52 : decode cX10_squares 52 = .ok (.imul, 1) := by decide +kernel
theorem dX10_squares_53 : decode cX10_squares 53 = .ok (.iload_n 2, 1) := by decide +kernel
theorem dX10_squares_54 : decode cX10_squares 54 = .ok (.iadd, 1) := by decide +kernel
theorem dX10_squares_55 : decode cX10_squares 55 = .ok (.iaload, 1) := by decide +kernel
theorem dX10_squares_56 : decode cX10_squares 56 = .ok (.iload_n 1, 1) := by decide +kernel
theorem dX10_squares_57 : decode cX10_squares 57 = .ok (.if_icmp .ne 7, 3) := by decide +kernel
theorem dX10_squares_60 : decode cX10_squares 60 = .ok (.iconst 1, 1) := by decide +kernel
theorem dX10_squares_61 : decode cX10_squares 61 = .ok (.goto 4, 3) := by decide +kernel
theorem dX10_squares_64 : decode cX10_squares 64 = .ok (.iconst 0, 1) := by decide +kernel
theorem dX10_squares_65 : decode cX10_squares 65 = .ok (.iadd, 1) := by decide +kernel
theorem dX10_squares_66 : decode cX10_squares 66 = .ok (.istore_n 3, 1) := by decide +kernel
theorem dX10_squares_67 : decode cX10_squares 67 = .ok (.iinc 4 1, 3) := by decide +kernel
theorem dX10_squares_70 : decode cX10_squares 70 = .ok (.goto (-35), 3) := by decide +kernel
theorem dX10_squares_73 : decode cX10_squares 73 = .ok (.iload_n 3, 1) := by decide +kernel
theorem dX10_squares_74 : decode cX10_squares 74 = .ok (.ireturn, 1) := by decide +kernel
theorem dX10_volume_0 : decode cX10_volume 0 = .ok (.aload_n 0, 1) := by decide +kernel
theorem dX10_volume_1 : decode cX10_volume 1 = .ok (.iconst 0, 1) := by decide +kernel
theorem dX10_volume_2 : decode cX10_volume 2 = .ok (.putfield 96, 3) := by decide +kernel
theorem dX10_volume_5 : decode cX10_volume 5 = .ok (.iconst 0, 1) := by decide +kernel
theorem dX10_volume_6 : decode cX10_volume 6 = .ok (.istore_n 1, 1) := by decide +kernel
theorem dX10_volume_7 : decode cX10_volume 7 = .ok (.iconst 0, 1) := by decide +kernel
theorem dX10_volume_8 : decode cX10_volume 8 = .ok (.istore_n 2, 1) := by decide +kernel
theorem dX10_volume_9 : decode cX10_volume 9 = .ok (.iload_n 2, 1) := by decide +kernel
theorem dX10_volume_10 : decode cX10_volume 10 = .ok (.sipush 512, 3) := by decide +kernel
theorem dX10_volume_13 : decode cX10_volume 13 = .ok (.if_icmp .ge 26, 3) := by decide +kernel
theorem dX10_volume_16 : decode cX10_volume 16 = .ok (.iload_n 1, 1) := by decide +kernel
theorem dX10_volume_17 : decode cX10_volume 17 = .ok (.aload_n 0, 1) := by decide +kernel
theorem dX10_volume_18 : decode cX10_volume 18 = .ok (.getfield 54, 3) := by decide +kernel
theorem dX10_volume_21 : decode cX10_volume 21 = .ok (.iload_n 2, 1) := by decide +kernel
theorem dX10_volume_22 : decode cX10_volume 22 = .ok (.baload, 1) := by decide +kernel
theorem dX10_volume_23 : decode cX10_volume 23 = .ok (.ifCond .eq 7, 3) := by decide +kernel
theorem dX10_volume_26 : decode cX10_volume 26 = .ok (.iconst 1, 1) := by decide +kernel
theorem dX10_volume_27 : decode cX10_volume 27 = .ok (.goto 4, 3) := by decide +kernel
theorem dX10_volume_30 : decode cX10_volume 30 = .ok (.iconst 0, 1) := by decide +kernel
theorem dX10_volume_31 : decode cX10_volume 31 = .ok (.iadd, 1) := by decide +kernel
theorem dX10_volume_32 : decode cX10_volume 32 = .ok (.istore_n 1, 1) := by decide +kernel
theorem dX10_volume_33 : decode cX10_volume 33 = .ok (.iinc 2 1, 3) := by decide +kernel
theorem dX10_volume_36 : decode cX10_volume 36 = .ok (.goto (-27), 3) := by decide +kernel
theorem dX10_volume_39 : decode cX10_volume 39 = .ok (.iload_n 1, 1) := by decide +kernel
theorem dX10_volume_40 : decode cX10_volume 40 = .ok (.ireturn, 1) := by decide +kernel
theorem dX10_area_0 : decode cX10_area 0 = .ok (.aload_n 0, 1) := by decide +kernel
theorem dX10_area_1 : decode cX10_area 1 = .ok (.iconst 0, 1) := by decide +kernel
theorem dX10_area_2 : decode cX10_area 2 = .ok (.putfield 96, 3) := by decide +kernel
theorem dX10_area_5 : decode cX10_area 5 = .ok (.iconst 0, 1) := by decide +kernel
theorem dX10_area_6 : decode cX10_area 6 = .ok (.istore_n 1, 1) := by decide +kernel
theorem dX10_area_7 : decode cX10_area 7 = .ok (.iconst 0, 1) := by decide +kernel
theorem dX10_area_8 : decode cX10_area 8 = .ok (.istore_n 2, 1) := by decide +kernel
theorem dX10_area_9 : decode cX10_area 9 = .ok (.iload_n 2, 1) := by decide +kernel
theorem dX10_area_10 : decode cX10_area 10 = .ok (.sipush 3072, 3) := by decide +kernel
theorem dX10_area_13 : decode cX10_area 13 = .ok (.if_icmp .ge 27, 3) := by decide +kernel
theorem dX10_area_16 : decode cX10_area 16 = .ok (.iload_n 1, 1) := by decide +kernel
theorem dX10_area_17 : decode cX10_area 17 = .ok (.aload_n 0, 1) := by decide +kernel
theorem dX10_area_18 : decode cX10_area 18 = .ok (.getfield 60, 3) := by decide +kernel
theorem dX10_area_21 : decode cX10_area 21 = .ok (.iload_n 2, 1) := by decide +kernel
theorem dX10_area_22 : decode cX10_area 22 = .ok (.iaload, 1) := by decide +kernel
theorem dX10_area_23 : decode cX10_area 23 = .ok (.iconst (-1), 1) := by decide +kernel
theorem dX10_area_24 : decode cX10_area 24 = .ok (.if_icmp .ne 7, 3) := by decide +kernel
theorem dX10_area_27 : decode cX10_area 27 = .ok (.iconst 0, 1) := by decide +kernel
theorem dX10_area_28 : decode cX10_area 28 = .ok (.goto 4, 3) := by decide +kernel
theorem dX10_area_31 : decode cX10_area 31 = .ok (.iconst 1, 1) := by decide +kernel
theorem dX10_area_32 : decode cX10_area 32 = .ok (.iadd, 1) := by decide +kernel
theorem dX10_area_33 : decode cX10_area 33 = .ok (.istore_n 1, 1) := by decide +kernel
theorem dX10_area_34 : decode cX10_area 34 = .ok (.iinc 2 1, 3) := by decide +kernel
theorem dX10_area_37 : decode cX10_area 37 = .ok (.goto (-28), 3) := by decide +kernel
theorem dX10_area_40 : decode cX10_area 40 = .ok (.iload_n 1, 1) := by decide +kernel
theorem dX10_area_41 : decode cX10_area 41 = .ok (.ireturn, 1) := by decide +kernel
theorem dX10_bodies_0 : decode cX10_bodies 0 = .ok (.aload_n 0, 1) := by decide +kernel
theorem dX10_bodies_1 : decode cX10_bodies 1 = .ok (.iconst 0, 1) := by decide +kernel
theorem dX10_bodies_2 : decode cX10_bodies 2 = .ok (.putfield 96, 3) := by decide +kernel
theorem dX10_bodies_5 : decode cX10_bodies 5 = .ok (.iconst 0, 1) := by decide +kernel
theorem dX10_bodies_6 : decode cX10_bodies 6 = .ok (.istore_n 1, 1) := by decide +kernel
theorem dX10_bodies_7 : decode cX10_bodies 7 = .ok (.iload_n 1, 1) := by decide +kernel
theorem dX10_bodies_8 : decode cX10_bodies 8 = .ok (.sipush 512, 3) := by decide +kernel
theorem dX10_bodies_11 : decode cX10_bodies 11 = .ok (.if_icmp .ge 21, 3) := by decide +kernel
theorem dX10_bodies_14 : decode cX10_bodies 14 = .ok (.aload_n 0, 1) := by decide +kernel
theorem dX10_bodies_15 : decode cX10_bodies 15 = .ok (.getfield 63, 3) := by decide +kernel
theorem dX10_bodies_18 : decode cX10_bodies 18 = .ok (.iload_n 1, 1) := by decide +kernel
theorem dX10_bodies_19 : decode cX10_bodies 19 = .ok (.aload_n 0, 1) := by decide +kernel
theorem dX10_bodies_20 : decode cX10_bodies 20 = .ok (.getfield 54, 3) := by decide +kernel
theorem dX10_bodies_23 : decode cX10_bodies 23 = .ok (.iload_n 1, 1) := by decide +kernel
theorem dX10_bodies_24 : decode cX10_bodies 24 = .ok (.baload, 1) := by decide +kernel
theorem dX10_bodies_25 : decode cX10_bodies 25 = .ok (.bastore, 1) := by decide +kernel
theorem dX10_bodies_26 : decode cX10_bodies 26 = .ok (.iinc 1 1, 3) := by decide +kernel
theorem dX10_bodies_29 : decode cX10_bodies 29 = .ok (.goto (-22), 3) := by decide +kernel
theorem dX10_bodies_32 : decode cX10_bodies 32 = .ok (.aload_n 0, 1) := by decide +kernel
theorem dX10_bodies_33 : decode cX10_bodies 33 = .ok (.invokevirtual 191, 3) := by decide +kernel
theorem dX10_bodies_36 : decode cX10_bodies 36 = .ok (.ireturn, 1) := by decide +kernel
theorem dX10_marks_0 : decode cX10_marks 0 = .ok (.iload_n 2, 1) := by decide +kernel
theorem dX10_marks_1 : decode cX10_marks 1 = .ok (.iconst 2, 1) := by decide +kernel
theorem dX10_marks_2 : decode cX10_marks 2 = .ok (.idiv, 1) := by decide +kernel
theorem dX10_marks_3 : decode cX10_marks 3 = .ok (.istore_n 3, 1) := by decide +kernel
theorem dX10_marks_4 : decode cX10_marks 4 = .ok (.iload_n 3, 1) := by decide +kernel
theorem dX10_marks_5 : decode cX10_marks 5 = .ok (.ifCond .ne 7, 3) := by decide +kernel
theorem dX10_marks_8 : decode cX10_marks 8 = .ok (.iconst 1, 1) := by decide +kernel
theorem dX10_marks_9 : decode cX10_marks 9 = .ok (.goto 4, 3) := by decide +kernel
theorem dX10_marks_12 : decode cX10_marks 12 = .ok (.iconst 0, 1) := by decide +kernel
theorem dX10_marks_13 : decode cX10_marks 13 = .ok (.istore 4, 2) := by decide +kernel
theorem dX10_marks_15 : decode cX10_marks 15 = .ok (.iload_n 3, 1) := by decide +kernel
theorem dX10_marks_16 : decode cX10_marks 16 = .ok (.iconst 2, 1) := by decide +kernel
theorem dX10_marks_17 : decode cX10_marks 17 = .ok (.if_icmp .ne 7, 3) := by decide +kernel
theorem dX10_marks_20 : decode cX10_marks 20 = .ok (.iconst 1, 1) := by decide +kernel
theorem dX10_marks_21 : decode cX10_marks 21 = .ok (.goto 4, 3) := by decide +kernel
theorem dX10_marks_24 : decode cX10_marks 24 = .ok (.iconst 2, 1) := by decide +kernel
theorem dX10_marks_25 : decode cX10_marks 25 = .ok (.istore 5, 2) := by decide +kernel
theorem dX10_marks_27 : decode cX10_marks 27 = .ok (.iconst 0, 1) := by decide +kernel
theorem dX10_marks_28 : decode cX10_marks 28 = .ok (.istore 6, 2) := by decide +kernel
theorem dX10_marks_30 : decode cX10_marks 30 = .ok (.iload 6, 2) := by decide +kernel
theorem dX10_marks_32 : decode cX10_marks 32 = .ok (.iconst 4, 1) := by decide +kernel
theorem dX10_marks_33 : decode cX10_marks 33 = .ok (.if_icmp .ge 71, 3) := by decide +kernel
theorem dX10_marks_36 : decode cX10_marks 36 = .ok (.iload_n 1, 1) := by decide +kernel
theorem dX10_marks_37 : decode cX10_marks 37 = .ok (.iload_n 2, 1) := by decide +kernel
theorem dX10_marks_38 : decode cX10_marks 38 = .ok (.iload 4, 2) := by decide +kernel
theorem dX10_marks_40 : decode cX10_marks 40 = .ok (.iload 5, 2) := by decide +kernel
theorem dX10_marks_42 : decode cX10_marks 42 = .ok (.iconst 0, 1) := by decide +kernel
theorem dX10_marks_43 : decode cX10_marks 43 = .ok (.iload 6, 2) := by decide +kernel
theorem dX10_marks_45 : decode cX10_marks 45 = .ok (.invokestatic 217, 3) := by decide +kernel
theorem dX10_marks_48 : decode cX10_marks 48 = .ok (.istore 7, 2) := by decide +kernel
theorem dX10_marks_50 : decode cX10_marks 50 = .ok (.iload_n 1, 1) := by decide +kernel
theorem dX10_marks_51 : decode cX10_marks 51 = .ok (.iload_n 2, 1) := by decide +kernel
theorem dX10_marks_52 : decode cX10_marks 52 = .ok (.iload 4, 2) := by decide +kernel
theorem dX10_marks_54 : decode cX10_marks 54 = .ok (.iload 5, 2) := by decide +kernel
theorem dX10_marks_56 : decode cX10_marks 56 = .ok (.iconst 1, 1) := by decide +kernel
theorem dX10_marks_57 : decode cX10_marks 57 = .ok (.iload 6, 2) := by decide +kernel
theorem dX10_marks_59 : decode cX10_marks 59 = .ok (.invokestatic 217, 3) := by decide +kernel
theorem dX10_marks_62 : decode cX10_marks 62 = .ok (.istore 8, 2) := by decide +kernel
theorem dX10_marks_64 : decode cX10_marks 64 = .ok (.iload_n 1, 1) := by decide +kernel
theorem dX10_marks_65 : decode cX10_marks 65 = .ok (.iload_n 2, 1) := by decide +kernel
theorem dX10_marks_66 : decode cX10_marks 66 = .ok (.iload 4, 2) := by decide +kernel
theorem dX10_marks_68 : decode cX10_marks 68 = .ok (.iload 5, 2) := by decide +kernel
theorem dX10_marks_70 : decode cX10_marks 70 = .ok (.iconst 2, 1) := by decide +kernel
theorem dX10_marks_71 : decode cX10_marks 71 = .ok (.iload 6, 2) := by decide +kernel
theorem dX10_marks_73 : decode cX10_marks 73 = .ok (.invokestatic 217, 3) := by decide +kernel
theorem dX10_marks_76 : decode cX10_marks 76 = .ok (.istore 9, 2) := by decide +kernel
theorem dX10_marks_78 : decode cX10_marks 78 = .ok (.aload_n 0, 1) := by decide +kernel
theorem dX10_marks_79 : decode cX10_marks 79 = .ok (.getfield 66, 3) := by decide +kernel
theorem dX10_marks_82 : decode cX10_marks 82 = .ok (.bipush 81, 2) := by decide +kernel
theorem dX10_marks_84 : decode cX10_marks 84 = .ok (.iload 7, 2) := by decide +kernel
theorem dX10_marks_86 : decode cX10_marks 86 = .ok (.imul, 1) := by decide +kernel
theorem dX10_marks_87 : decode cX10_marks 87 = .ok (.bipush 9, 2) := by decide +kernel
theorem dX10_marks_89 : decode cX10_marks 89 = .ok (.iload 8, 2) := by decide +kernel
theorem dX10_marks_91 : decode cX10_marks 91 = .ok (.imul, 1) := by decide +kernel
theorem dX10_marks_92 : decode cX10_marks 92 = .ok (.iadd, 1) := by decide +kernel
theorem dX10_marks_93 : decode cX10_marks 93 = .ok (.iload 9, 2) := by decide +kernel
theorem dX10_marks_95 : decode cX10_marks 95 = .ok (.iadd, 1) := by decide +kernel
theorem dX10_marks_96 : decode cX10_marks 96 = .ok (.iconst 1, 1) := by decide +kernel
theorem dX10_marks_97 : decode cX10_marks 97 = .ok (.bastore, 1) := by decide +kernel
theorem dX10_marks_98 : decode cX10_marks 98 = .ok (.iinc 6 1, 3) := by decide +kernel
theorem dX10_marks_101 : decode cX10_marks 101 = .ok (.goto (-71), 3) := by decide +kernel
theorem dX10_marks_104 : decode cX10_marks 104 = .ok (.iconst 0, 1) := by decide +kernel
theorem dX10_marks_105 : decode cX10_marks 105 = .ok (.istore 6, 2) := by decide +kernel
theorem dX10_marks_107 : decode cX10_marks 107 = .ok (.iload 6, 2) := by decide +kernel
theorem dX10_marks_109 : decode cX10_marks 109 = .ok (.iconst 4, 1) := by decide +kernel
theorem dX10_marks_110 : decode cX10_marks 110 = .ok (.if_icmp .ge 123, 3) := by decide +kernel
theorem dX10_marks_113 : decode cX10_marks 113 = .ok (.iload 6, 2) := by decide +kernel
theorem dX10_marks_115 : decode cX10_marks 115 = .ok (.iconst 2, 1) := by decide +kernel
theorem dX10_marks_116 : decode cX10_marks 116 = .ok (.if_icmp .ge 8, 3) := by decide +kernel
theorem dX10_marks_119 : decode cX10_marks 119 = .ok (.iload 4, 2) := by decide +kernel
theorem dX10_marks_121 : decode cX10_marks 121 = .ok (.goto 5, 3) := by decide +kernel
theorem dX10_marks_124 : decode cX10_marks 124 = .ok (.iload 5, 2) := by decide +kernel
theorem dX10_marks_126 : decode cX10_marks 126 = .ok (.istore 7, 2) := by decide +kernel
theorem dX10_marks_128 : decode cX10_marks 128 = .ok (.iload 6, 2) := by decide +kernel
theorem dX10_marks_130 : decode cX10_marks 130 = .ok (.ifCond .ne 7, 3) := by decide +kernel
theorem dX10_marks_133 : decode cX10_marks 133 = .ok (.iconst 0, 1) := by decide +kernel
theorem dX10_marks_134 : decode cX10_marks 134 = .ok (.goto 24, 3) := by decide +kernel
theorem dX10_marks_137 : decode cX10_marks 137 = .ok (.iload 6, 2) := by decide +kernel
theorem dX10_marks_139 : decode cX10_marks 139 = .ok (.iconst 1, 1) := by decide +kernel
theorem dX10_marks_140 : decode cX10_marks 140 = .ok (.if_icmp .ne 7, 3) := by decide +kernel
theorem dX10_marks_143 : decode cX10_marks 143 = .ok (.iconst 2, 1) := by decide +kernel
theorem dX10_marks_144 : decode cX10_marks 144 = .ok (.goto 14, 3) := by decide +kernel
theorem dX10_marks_147 : decode cX10_marks 147 = .ok (.iload 6, 2) := by decide +kernel
theorem dX10_marks_149 : decode cX10_marks 149 = .ok (.iconst 2, 1) := by decide +kernel
theorem dX10_marks_150 : decode cX10_marks 150 = .ok (.if_icmp .ne 7, 3) := by decide +kernel
theorem dX10_marks_153 : decode cX10_marks 153 = .ok (.iconst 0, 1) := by decide +kernel
theorem dX10_marks_154 : decode cX10_marks 154 = .ok (.goto 4, 3) := by decide +kernel
theorem dX10_marks_157 : decode cX10_marks 157 = .ok (.iconst 1, 1) := by decide +kernel
theorem dX10_marks_158 : decode cX10_marks 158 = .ok (.istore 8, 2) := by decide +kernel
theorem dX10_marks_160 : decode cX10_marks 160 = .ok (.iload_n 1, 1) := by decide +kernel
theorem dX10_marks_161 : decode cX10_marks 161 = .ok (.iload_n 2, 1) := by decide +kernel
theorem dX10_marks_162 : decode cX10_marks 162 = .ok (.iload 4, 2) := by decide +kernel
theorem dX10_marks_164 : decode cX10_marks 164 = .ok (.iload 5, 2) := by decide +kernel
theorem dX10_marks_166 : decode cX10_marks 166 = .ok (.iconst 0, 1) := by decide +kernel
theorem dX10_marks_167 : decode cX10_marks 167 = .ok (.iload 8, 2) := by decide +kernel
theorem dX10_marks_169 : decode cX10_marks 169 = .ok (.invokestatic 217, 3) := by decide +kernel
theorem dX10_marks_172 : decode cX10_marks 172 = .ok (.istore 9, 2) := by decide +kernel
theorem dX10_marks_174 : decode cX10_marks 174 = .ok (.iload_n 1, 1) := by decide +kernel
theorem dX10_marks_175 : decode cX10_marks 175 = .ok (.iload_n 2, 1) := by decide +kernel
theorem dX10_marks_176 : decode cX10_marks 176 = .ok (.iload 4, 2) := by decide +kernel
theorem dX10_marks_178 : decode cX10_marks 178 = .ok (.iload 5, 2) := by decide +kernel
theorem dX10_marks_180 : decode cX10_marks 180 = .ok (.iconst 1, 1) := by decide +kernel
theorem dX10_marks_181 : decode cX10_marks 181 = .ok (.iload 8, 2) := by decide +kernel
theorem dX10_marks_183 : decode cX10_marks 183 = .ok (.invokestatic 217, 3) := by decide +kernel
theorem dX10_marks_186 : decode cX10_marks 186 = .ok (.istore 10, 2) := by decide +kernel
theorem dX10_marks_188 : decode cX10_marks 188 = .ok (.iload_n 1, 1) := by decide +kernel
theorem dX10_marks_189 : decode cX10_marks 189 = .ok (.iload_n 2, 1) := by decide +kernel
theorem dX10_marks_190 : decode cX10_marks 190 = .ok (.iload 4, 2) := by decide +kernel
theorem dX10_marks_192 : decode cX10_marks 192 = .ok (.iload 5, 2) := by decide +kernel
theorem dX10_marks_194 : decode cX10_marks 194 = .ok (.iconst 2, 1) := by decide +kernel
theorem dX10_marks_195 : decode cX10_marks 195 = .ok (.iload 8, 2) := by decide +kernel
theorem dX10_marks_197 : decode cX10_marks 197 = .ok (.invokestatic 217, 3) := by decide +kernel
theorem dX10_marks_200 : decode cX10_marks 200 = .ok (.istore 11, 2) := by decide +kernel
theorem dX10_marks_202 : decode cX10_marks 202 = .ok (.aload_n 0, 1) := by decide +kernel
theorem dX10_marks_203 : decode cX10_marks 203 = .ok (.getfield 69, 3) := by decide +kernel
theorem dX10_marks_206 : decode cX10_marks 206 = .ok (.iconst 3, 1) := by decide +kernel
theorem dX10_marks_207 : decode cX10_marks 207 = .ok (.bipush 81, 2) := by decide +kernel
theorem dX10_marks_209 : decode cX10_marks 209 = .ok (.iload 9, 2) := by decide +kernel
theorem dX10_marks_211 : decode cX10_marks 211 = .ok (.imul, 1) := by decide +kernel
theorem dX10_marks_212 : decode cX10_marks 212 = .ok (.bipush 9, 2) := by decide +kernel
theorem dX10_marks_214 : decode cX10_marks 214 = .ok (.iload 10, 2) := by decide +kernel
theorem dX10_marks_216 : decode cX10_marks 216 = .ok (.imul, 1) := by decide +kernel
theorem dX10_marks_217 : decode cX10_marks 217 = .ok (.iadd, 1) := by decide +kernel
theorem dX10_marks_218 : decode cX10_marks 218 = .ok (.iload 11, 2) := by decide +kernel
theorem dX10_marks_220 : decode cX10_marks 220 = .ok (.iadd, 1) := by decide +kernel
theorem dX10_marks_221 : decode cX10_marks 221 = .ok (.imul, 1) := by decide +kernel
theorem dX10_marks_222 : decode cX10_marks 222 = .ok (.iload 7, 2) := by decide +kernel
theorem dX10_marks_224 : decode cX10_marks 224 = .ok (.iadd, 1) := by decide +kernel
theorem dX10_marks_225 : decode cX10_marks 225 = .ok (.iconst 1, 1) := by decide +kernel
theorem dX10_marks_226 : decode cX10_marks 226 = .ok (.bastore, 1) := by decide +kernel
theorem dX10_marks_227 : decode cX10_marks 227 = .ok (.iinc 6 1, 3) := by decide +kernel
theorem dX10_marks_230 : decode cX10_marks 230 = .ok (.goto (-123), 3) := by decide +kernel
theorem dX10_marks_233 : decode cX10_marks 233 = .ok (.return_, 1) := by decide +kernel
theorem dX10_place__0 : decode cX10_place_ 0 = .ok (.iload_n 0, 1) := by decide +kernel
theorem dX10_place__1 : decode cX10_place_ 1 = .ok (.iload 4, 2) := by decide +kernel
theorem dX10_place__3 : decode cX10_place_ 3 = .ok (.invokestatic 177, 3) := by decide +kernel
theorem dX10_place__6 : decode cX10_place_ 6 = .ok (.istore 6, 2) := by decide +kernel
theorem dX10_place__8 : decode cX10_place_ 8 = .ok (.iload 4, 2) := by decide +kernel
theorem dX10_place__10 : decode cX10_place_ 10 = .ok (.iload_n 1, 1) := by decide +kernel
theorem dX10_place__11 : decode cX10_place_ 11 = .ok (.iconst 2, 1) := by decide +kernel
theorem dX10_place__12 : decode cX10_place_ 12 = .ok (.idiv, 1) := by decide +kernel
theorem dX10_place__13 : decode cX10_place_ 13 = .ok (.if_icmp .ne 10, 3) := by decide +kernel
theorem dX10_place__16 : decode cX10_place_ 16 = .ok (.iload 6, 2) := by decide +kernel
theorem dX10_place__18 : decode cX10_place_ 18 = .ok (.iload_n 1, 1) := by decide +kernel
theorem dX10_place__19 : decode cX10_place_ 19 = .ok (.iconst 2, 1) := by decide +kernel
theorem dX10_place__20 : decode cX10_place_ 20 = .ok (.irem, 1) := by decide +kernel
theorem dX10_place__21 : decode cX10_place_ 21 = .ok (.iadd, 1) := by decide +kernel
theorem dX10_place__22 : decode cX10_place_ 22 = .ok (.ireturn, 1) := by decide +kernel
theorem dX10_place__23 : decode cX10_place_ 23 = .ok (.iload 6, 2) := by decide +kernel
theorem dX10_place__25 : decode cX10_place_ 25 = .ok (.iload 4, 2) := by decide +kernel
theorem dX10_place__27 : decode cX10_place_ 27 = .ok (.iload_n 2, 1) := by decide +kernel
theorem dX10_place__28 : decode cX10_place_ 28 = .ok (.if_icmp .ne 10, 3) := by decide +kernel
theorem dX10_place__31 : decode cX10_place_ 31 = .ok (.iload 5, 2) := by decide +kernel
theorem dX10_place__33 : decode cX10_place_ 33 = .ok (.iconst 1, 1) := by decide +kernel
theorem dX10_place__34 : decode cX10_place_ 34 = .ok (.iand, 1) := by decide +kernel
theorem dX10_place__35 : decode cX10_place_ 35 = .ok (.goto 9, 3) := by decide +kernel
theorem dX10_place__38 : decode cX10_place_ 38 = .ok (.iload 5, 2) := by decide +kernel
theorem dX10_place__40 : decode cX10_place_ 40 = .ok (.iconst 1, 1) := by decide +kernel
theorem dX10_place__41 : decode cX10_place_ 41 = .ok (.ishr, 1) := by decide +kernel
theorem dX10_place__42 : decode cX10_place_ 42 = .ok (.iconst 1, 1) := by decide +kernel
theorem dX10_place__43 : decode cX10_place_ 43 = .ok (.iand, 1) := by decide +kernel
theorem dX10_place__44 : decode cX10_place_ 44 = .ok (.iadd, 1) := by decide +kernel
theorem dX10_place__45 : decode cX10_place_ 45 = .ok (.ireturn, 1) := by decide +kernel
theorem dX10_euler_0 : decode cX10_euler 0 = .ok (.aload_n 0, 1) := by decide +kernel
theorem dX10_euler_1 : decode cX10_euler 1 = .ok (.iconst 0, 1) := by decide +kernel
theorem dX10_euler_2 : decode cX10_euler 2 = .ok (.putfield 96, 3) := by decide +kernel
theorem dX10_euler_5 : decode cX10_euler 5 = .ok (.iconst 0, 1) := by decide +kernel
theorem dX10_euler_6 : decode cX10_euler 6 = .ok (.istore_n 1, 1) := by decide +kernel
theorem dX10_euler_7 : decode cX10_euler 7 = .ok (.iload_n 1, 1) := by decide +kernel
theorem dX10_euler_8 : decode cX10_euler 8 = .ok (.sipush 729, 3) := by decide +kernel
theorem dX10_euler_11 : decode cX10_euler 11 = .ok (.if_icmp .ge 16, 3) := by decide +kernel
theorem dX10_euler_14 : decode cX10_euler 14 = .ok (.aload_n 0, 1) := by decide +kernel
theorem dX10_euler_15 : decode cX10_euler 15 = .ok (.getfield 66, 3) := by decide +kernel
theorem dX10_euler_18 : decode cX10_euler 18 = .ok (.iload_n 1, 1) := by decide +kernel
theorem dX10_euler_19 : decode cX10_euler 19 = .ok (.iconst 0, 1) := by decide +kernel
theorem dX10_euler_20 : decode cX10_euler 20 = .ok (.bastore, 1) := by decide +kernel
theorem dX10_euler_21 : decode cX10_euler 21 = .ok (.iinc 1 1, 3) := by decide +kernel
theorem dX10_euler_24 : decode cX10_euler 24 = .ok (.goto (-17), 3) := by decide +kernel
theorem dX10_euler_27 : decode cX10_euler 27 = .ok (.iconst 0, 1) := by decide +kernel
theorem dX10_euler_28 : decode cX10_euler 28 = .ok (.istore_n 1, 1) := by decide +kernel
theorem dX10_euler_29 : decode cX10_euler 29 = .ok (.iload_n 1, 1) := by decide +kernel
theorem dX10_euler_30 : decode cX10_euler 30 = .ok (.sipush 2187, 3) := by decide +kernel
theorem dX10_euler_33 : decode cX10_euler 33 = .ok (.if_icmp .ge 16, 3) := by decide +kernel
theorem dX10_euler_36 : decode cX10_euler 36 = .ok (.aload_n 0, 1) := by decide +kernel
theorem dX10_euler_37 : decode cX10_euler 37 = .ok (.getfield 69, 3) := by decide +kernel
theorem dX10_euler_40 : decode cX10_euler 40 = .ok (.iload_n 1, 1) := by decide +kernel
theorem dX10_euler_41 : decode cX10_euler 41 = .ok (.iconst 0, 1) := by decide +kernel
theorem dX10_euler_42 : decode cX10_euler 42 = .ok (.bastore, 1) := by decide +kernel
theorem dX10_euler_43 : decode cX10_euler 43 = .ok (.iinc 1 1, 3) := by decide +kernel
theorem dX10_euler_46 : decode cX10_euler 46 = .ok (.goto (-17), 3) := by decide +kernel
theorem dX10_euler_49 : decode cX10_euler 49 = .ok (.iconst 0, 1) := by decide +kernel
theorem dX10_euler_50 : decode cX10_euler 50 = .ok (.istore_n 1, 1) := by decide +kernel
theorem dX10_euler_51 : decode cX10_euler 51 = .ok (.iload_n 1, 1) := by decide +kernel
theorem dX10_euler_52 : decode cX10_euler 52 = .ok (.sipush 3072, 3) := by decide +kernel
theorem dX10_euler_55 : decode cX10_euler 55 = .ok (.if_icmp .ge 31, 3) := by decide +kernel
theorem dX10_euler_58 : decode cX10_euler 58 = .ok (.aload_n 0, 1) := by decide +kernel
theorem dX10_euler_59 : decode cX10_euler 59 = .ok (.getfield 60, 3) := by decide +kernel
theorem dX10_euler_62 : decode cX10_euler 62 = .ok (.iload_n 1, 1) := by decide +kernel
theorem dX10_euler_63 : decode cX10_euler 63 = .ok (.iaload, 1) := by decide +kernel
theorem dX10_euler_64 : decode cX10_euler 64 = .ok (.iconst (-1), 1) := by decide +kernel
theorem dX10_euler_65 : decode cX10_euler 65 = .ok (.if_icmp .eq 15, 3) := by decide +kernel
theorem dX10_euler_68 : decode cX10_euler 68 = .ok (.aload_n 0, 1) := by decide +kernel
theorem dX10_euler_69 : decode cX10_euler 69 = .ok (.iload_n 1, 1) := by decide +kernel
theorem dX10_euler_70 : decode cX10_euler 70 = .ok (.bipush 6, 2) := by decide +kernel
theorem dX10_euler_72 : decode cX10_euler 72 = .ok (.idiv, 1) := by decide +kernel
theorem dX10_euler_73 : decode cX10_euler 73 = .ok (.iload_n 1, 1) := by decide +kernel
theorem dX10_euler_74 : decode cX10_euler 74 = .ok (.bipush 6, 2) := by decide +kernel
theorem dX10_euler_76 : decode cX10_euler 76 = .ok (.irem, 1) := by decide +kernel
theorem dX10_euler_77 : decode cX10_euler 77 = .ok (.invokevirtual 221, 3) := by decide +kernel
theorem dX10_euler_80 : decode cX10_euler 80 = .ok (.iinc 1 1, 3) := by decide +kernel
theorem dX10_euler_83 : decode cX10_euler 83 = .ok (.goto (-32), 3) := by decide +kernel
theorem dX10_euler_86 : decode cX10_euler 86 = .ok (.aload_n 0, 1) := by decide +kernel
theorem dX10_euler_87 : decode cX10_euler 87 = .ok (.invokevirtual 224, 3) := by decide +kernel
theorem dX10_euler_90 : decode cX10_euler 90 = .ok (.istore_n 1, 1) := by decide +kernel
theorem dX10_euler_91 : decode cX10_euler 91 = .ok (.iconst 0, 1) := by decide +kernel
theorem dX10_euler_92 : decode cX10_euler 92 = .ok (.istore_n 2, 1) := by decide +kernel
theorem dX10_euler_93 : decode cX10_euler 93 = .ok (.iload_n 2, 1) := by decide +kernel
theorem dX10_euler_94 : decode cX10_euler 94 = .ok (.sipush 729, 3) := by decide +kernel
theorem dX10_euler_97 : decode cX10_euler 97 = .ok (.if_icmp .ge 26, 3) := by decide +kernel
theorem dX10_euler_100 : decode cX10_euler 100 = .ok (.iload_n 1, 1) := by decide +kernel
theorem dX10_euler_101 : decode cX10_euler 101 = .ok (.aload_n 0, 1) := by decide +kernel
theorem dX10_euler_102 : decode cX10_euler 102 = .ok (.getfield 66, 3) := by decide +kernel
theorem dX10_euler_105 : decode cX10_euler 105 = .ok (.iload_n 2, 1) := by decide +kernel
theorem dX10_euler_106 : decode cX10_euler 106 = .ok (.baload, 1) := by decide +kernel
theorem dX10_euler_107 : decode cX10_euler 107 = .ok (.ifCond .eq 7, 3) := by decide +kernel
theorem dX10_euler_110 : decode cX10_euler 110 = .ok (.iconst 1, 1) := by decide +kernel
theorem dX10_euler_111 : decode cX10_euler 111 = .ok (.goto 4, 3) := by decide +kernel
theorem dX10_euler_114 : decode cX10_euler 114 = .ok (.iconst 0, 1) := by decide +kernel
theorem dX10_euler_115 : decode cX10_euler 115 = .ok (.iadd, 1) := by decide +kernel
theorem dX10_euler_116 : decode cX10_euler 116 = .ok (.istore_n 1, 1) := by decide +kernel
theorem dX10_euler_117 : decode cX10_euler 117 = .ok (.iinc 2 1, 3) := by decide +kernel
theorem dX10_euler_120 : decode cX10_euler 120 = .ok (.goto (-27), 3) := by decide +kernel
theorem dX10_euler_123 : decode cX10_euler 123 = .ok (.iconst 0, 1) := by decide +kernel
theorem dX10_euler_124 : decode cX10_euler 124 = .ok (.istore_n 2, 1) := by decide +kernel
theorem dX10_euler_125 : decode cX10_euler 125 = .ok (.iload_n 2, 1) := by decide +kernel
theorem dX10_euler_126 : decode cX10_euler 126 = .ok (.sipush 2187, 3) := by decide +kernel
theorem dX10_euler_129 : decode cX10_euler 129 = .ok (.if_icmp .ge 26, 3) := by decide +kernel
theorem dX10_euler_132 : decode cX10_euler 132 = .ok (.iload_n 1, 1) := by decide +kernel
theorem dX10_euler_133 : decode cX10_euler 133 = .ok (.aload_n 0, 1) := by decide +kernel
theorem dX10_euler_134 : decode cX10_euler 134 = .ok (.getfield 69, 3) := by decide +kernel
theorem dX10_euler_137 : decode cX10_euler 137 = .ok (.iload_n 2, 1) := by decide +kernel
theorem dX10_euler_138 : decode cX10_euler 138 = .ok (.baload, 1) := by decide +kernel
theorem dX10_euler_139 : decode cX10_euler 139 = .ok (.ifCond .eq 7, 3) := by decide +kernel
theorem dX10_euler_142 : decode cX10_euler 142 = .ok (.iconst 1, 1) := by decide +kernel
theorem dX10_euler_143 : decode cX10_euler 143 = .ok (.goto 4, 3) := by decide +kernel
theorem dX10_euler_146 : decode cX10_euler 146 = .ok (.iconst 0, 1) := by decide +kernel
theorem dX10_euler_147 : decode cX10_euler 147 = .ok (.isub, 1) := by decide +kernel
theorem dX10_euler_148 : decode cX10_euler 148 = .ok (.istore_n 1, 1) := by decide +kernel
theorem dX10_euler_149 : decode cX10_euler 149 = .ok (.iinc 2 1, 3) := by decide +kernel
theorem dX10_euler_152 : decode cX10_euler 152 = .ok (.goto (-27), 3) := by decide +kernel
theorem dX10_euler_155 : decode cX10_euler 155 = .ok (.iload_n 1, 1) := by decide +kernel
theorem dX10_euler_156 : decode cX10_euler 156 = .ok (.ireturn, 1) := by decide +kernel
theorem dX10_centre_0 : decode cX10_centre 0 = .ok (.aload_n 0, 1) := by decide +kernel
theorem dX10_centre_1 : decode cX10_centre 1 = .ok (.iload_n 1, 1) := by decide +kernel
theorem dX10_centre_2 : decode cX10_centre 2 = .ok (.iconst 0, 1) := by decide +kernel
theorem dX10_centre_3 : decode cX10_centre 3 = .ok (.iconst 2, 1) := by decide +kernel
theorem dX10_centre_4 : decode cX10_centre 4 = .ok (.invokestatic 100, 3) := by decide +kernel
theorem dX10_centre_7 : decode cX10_centre 7 = .ok (.ifCond .ne 7, 3) := by decide +kernel
theorem dX10_centre_10 : decode cX10_centre 10 = .ok (.iconst 1, 1) := by decide +kernel
theorem dX10_centre_11 : decode cX10_centre 11 = .ok (.goto 4, 3) := by decide +kernel
theorem dX10_centre_14 : decode cX10_centre 14 = .ok (.iconst 0, 1) := by decide +kernel
theorem dX10_centre_15 : decode cX10_centre 15 = .ok (.putfield 96, 3) := by decide +kernel
theorem dX10_centre_18 : decode cX10_centre 18 = .ok (.aload_n 0, 1) := by decide +kernel
theorem dX10_centre_19 : decode cX10_centre 19 = .ok (.getfield 96, 3) := by decide +kernel
theorem dX10_centre_22 : decode cX10_centre 22 = .ok (.ifCond .le 5, 3) := by decide +kernel
theorem dX10_centre_25 : decode cX10_centre 25 = .ok (.dconst 0, 1) := by decide +kernel
theorem dX10_centre_26 : decode cX10_centre 26 = .ok (.dreturn, 1) := by decide +kernel
theorem dX10_centre_27 : decode cX10_centre 27 = .ok (.iconst 0, 1) := by decide +kernel
theorem dX10_centre_28 : decode cX10_centre 28 = .ok (.istore_n 2, 1) := by decide +kernel
theorem dX10_centre_29 : decode cX10_centre 29 = .ok (.aload_n 0, 1) := by decide +kernel
theorem dX10_centre_30 : decode cX10_centre 30 = .ok (.invokevirtual 227, 3) := by decide +kernel
theorem dX10_centre_33 : decode cX10_centre 33 = .ok (.istore_n 3, 1) := by decide +kernel
theorem dX10_centre_34 : decode cX10_centre 34 = .ok (.iconst 0, 1) := by decide +kernel
theorem dX10_centre_35 : decode cX10_centre 35 = .ok (.istore 4, 2) := by decide +kernel
theorem dX10_centre_37 : decode cX10_centre 37 = .ok (.iload 4, 2) := by decide +kernel
theorem dX10_centre_39 : decode cX10_centre 39 = .ok (.sipush 512, 3) := by decide +kernel
theorem dX10_centre_42 : decode cX10_centre 42 = .ok (.if_icmp .ge 32, 3) := by decide +kernel
theorem dX10_centre_45 : decode cX10_centre 45 = .ok (.iload_n 2, 1) := by decide +kernel
theorem dX10_centre_46 : decode cX10_centre 46 = .ok (.aload_n 0, 1) := by decide +kernel
theorem dX10_centre_47 : decode cX10_centre 47 = .ok (.getfield 54, 3) := by decide +kernel
theorem dX10_centre_50 : decode cX10_centre 50 = .ok (.iload 4, 2) := by decide +kernel
theorem dX10_centre_52 : decode cX10_centre 52 = .ok (.baload, 1) := by decide +kernel
theorem dX10_centre_53 : decode cX10_centre 53 = .ok (.ifCond .eq 12, 3) := by decide +kernel
theorem dX10_centre_56 : decode cX10_centre 56 = .ok (.iload 4, 2) := by decide +kernel
theorem dX10_centre_58 : decode cX10_centre 58 = .ok (.iload_n 1, 1) := by decide +kernel
theorem dX10_centre_59 : decode cX10_centre 59 = .ok (.invokestatic 177, 3) := by decide +kernel
theorem dX10_centre_62 : decode cX10_centre 62 = .ok (.goto 4, 3) := by decide +kernel
theorem dX10_centre_65 : decode cX10_centre 65 = .ok (.iconst 0, 1) := by decide +kernel
theorem dX10_centre_66 : decode cX10_centre 66 = .ok (.iadd, 1) := by decide +kernel
theorem dX10_centre_67 : decode cX10_centre 67 = .ok (.istore_n 2, 1) := by decide +kernel
theorem dX10_centre_68 : decode cX10_centre 68 = .ok (.iinc 4 1, 3) := by decide +kernel
theorem dX10_centre_71 : decode cX10_centre 71 = .ok (.goto (-34), 3) := by decide +kernel
theorem dX10_centre_74 : decode cX10_centre 74 = .ok (.aload_n 0, 1) := by decide +kernel
theorem dX10_centre_75 : decode cX10_centre 75 = .ok (.iload_n 3, 1) := by decide +kernel
theorem dX10_centre_76 : decode cX10_centre 76 = .ok (.ifCond .ne 7, 3) := by decide +kernel
theorem dX10_centre_79 : decode cX10_centre 79 = .ok (.iconst 2, 1) := by decide +kernel
theorem dX10_centre_80 : decode cX10_centre 80 = .ok (.goto 4, 3) := by decide +kernel
theorem dX10_centre_83 : decode cX10_centre 83 = .ok (.iconst 0, 1) := by decide +kernel
theorem dX10_centre_84 : decode cX10_centre 84 = .ok (.putfield 96, 3) := by decide +kernel
theorem dX10_centre_87 : decode cX10_centre 87 = .ok (.aload_n 0, 1) := by decide +kernel
theorem dX10_centre_88 : decode cX10_centre 88 = .ok (.getfield 96, 3) := by decide +kernel
theorem dX10_centre_91 : decode cX10_centre 91 = .ok (.ifCond .le 7, 3) := by decide +kernel
theorem dX10_centre_94 : decode cX10_centre 94 = .ok (.dconst 0, 1) := by decide +kernel
theorem dX10_centre_95 : decode cX10_centre 95 = .ok (.goto 8, 3) := by decide +kernel
theorem dX10_centre_98 : decode cX10_centre 98 = .ok (.iload_n 2, 1) := by decide +kernel
theorem dX10_centre_99 : decode cX10_centre 99 = .ok (.i2d, 1) := by decide +kernel
theorem dX10_centre_100 : decode cX10_centre 100 = .ok (.iload_n 3, 1) := by decide +kernel
theorem dX10_centre_101 : decode cX10_centre 101 = .ok (.i2d, 1) := by decide +kernel
theorem dX10_centre_102 : decode cX10_centre 102 = .ok (.ddiv, 1) := by decide +kernel
theorem dX10_centre_103 : decode cX10_centre 103 = .ok (.dreturn, 1) := by decide +kernel
theorem dX10_filled_0 : decode cX10_filled 0 = .ok (.aload_n 0, 1) := by decide +kernel
theorem dX10_filled_1 : decode cX10_filled 1 = .ok (.invokevirtual 227, 3) := by decide +kernel
theorem dX10_filled_4 : decode cX10_filled 4 = .ok (.i2f, 1) := by decide +kernel
theorem dX10_filled_5 : decode cX10_filled 5 = .ok (.ldc 230, 2) := by decide +kernel
theorem dX10_filled_7 : decode cX10_filled 7 = .ok (.fdiv, 1) := by decide +kernel
theorem dX10_filled_8 : decode cX10_filled 8 = .ok (.freturn, 1) := by decide +kernel
theorem dX10_isPart_0 : decode cX10_isPart 0 = .ok (.iload_n 1, 1) := by decide +kernel
theorem dX10_isPart_1 : decode cX10_isPart 1 = .ok (.iconst 0, 1) := by decide +kernel
theorem dX10_isPart_2 : decode cX10_isPart 2 = .ok (.aload_n 0, 1) := by decide +kernel
theorem dX10_isPart_3 : decode cX10_isPart 3 = .ok (.getfield 231, 3) := by decide +kernel
theorem dX10_isPart_6 : decode cX10_isPart 6 = .ok (.iconst 1, 1) := by decide +kernel
theorem dX10_isPart_7 : decode cX10_isPart 7 = .ok (.isub, 1) := by decide +kernel
theorem dX10_isPart_8 : decode cX10_isPart 8 = .ok (.invokestatic 100, 3) := by decide +kernel
theorem dX10_isPart_11 : decode cX10_isPart 11 = .ok (.ireturn, 1) := by decide +kernel
theorem dX10_addPart_0 : decode cX10_addPart 0 = .ok (.aload_n 0, 1) := by decide +kernel
theorem dX10_addPart_1 : decode cX10_addPart 1 = .ok (.iconst 0, 1) := by decide +kernel
theorem dX10_addPart_2 : decode cX10_addPart 2 = .ok (.putfield 96, 3) := by decide +kernel
theorem dX10_addPart_5 : decode cX10_addPart 5 = .ok (.iload_n 1, 1) := by decide +kernel
theorem dX10_addPart_6 : decode cX10_addPart 6 = .ok (.bipush (-20), 2) := by decide +kernel
theorem dX10_addPart_8 : decode cX10_addPart 8 = .ok (.bipush 20, 2) := by decide +kernel
theorem dX10_addPart_10 : decode cX10_addPart 10 = .ok (.invokestatic 100, 3) := by decide +kernel
theorem dX10_addPart_13 : decode cX10_addPart 13 = .ok (.ifCond .eq 25, 3) := by decide +kernel
theorem dX10_addPart_16 : decode cX10_addPart 16 = .ok (.iload_n 2, 1) := by decide +kernel
theorem dX10_addPart_17 : decode cX10_addPart 17 = .ok (.bipush (-20), 2) := by decide +kernel
theorem dX10_addPart_19 : decode cX10_addPart 19 = .ok (.bipush 20, 2) := by decide +kernel
theorem dX10_addPart_21 : decode cX10_addPart 21 = .ok (.invokestatic 100, 3) := by decide +kernel
theorem dX10_addPart_24 : decode cX10_addPart 24 = .ok (.ifCond .eq 14, 3) := by decide +kernel
theorem dX10_addPart_27 : decode cX10_addPart 27 = .ok (.iload_n 3, 1) := by decide +kernel
theorem dX10_addPart_28 : decode cX10_addPart 28 = .ok (.bipush (-20), 2) := by decide +kernel
theorem dX10_addPart_30 : decode cX10_addPart 30 = .ok (.bipush 20, 2) := by decide +kernel
theorem dX10_addPart_32 : decode cX10_addPart 32 = .ok (.invokestatic 100, 3) := by decide +kernel
theorem dX10_addPart_35 : decode cX10_addPart 35 = .ok (.ifCond .ne 9, 3) := by decide +kernel
theorem dX10_addPart_38 : decode cX10_addPart 38 = .ok (.aload_n 0, 1) := by decide +kernel
theorem dX10_addPart_39 : decode cX10_addPart 39 = .ok (.iconst 1, 1) := by decide +kernel
theorem dX10_addPart_40 : decode cX10_addPart 40 = .ok (.invokevirtual 112, 3) := by decide +kernel
theorem dX10_addPart_43 : decode cX10_addPart 43 = .ok (.ireturn, 1) := by decide +kernel
theorem dX10_addPart_44 : decode cX10_addPart 44 = .ok (.aload_n 0, 1) := by decide +kernel
theorem dX10_addPart_45 : decode cX10_addPart 45 = .ok (.getfield 231, 3) := by decide +kernel
theorem dX10_addPart_48 : decode cX10_addPart 48 = .ok (.bipush 6, 2) := by decide +kernel
theorem dX10_addPart_50 : decode cX10_addPart 50 = .ok (.if_icmp .ne 9, 3) := by decide +kernel
theorem dX10_addPart_53 : decode cX10_addPart 53 = .ok (.aload_n 0, 1) := by decide +kernel
theorem dX10_addPart_54 : decode cX10_addPart 54 = .ok (.iconst 2, 1) := by decide +kernel
theorem dX10_addPart_55 : decode cX10_addPart 55 = .ok (.invokevirtual 112, 3) := by decide +kernel
theorem dX10_addPart_58 : decode cX10_addPart 58 = .ok (.ireturn, 1) := by decide +kernel
theorem dX10_addPart_59 : decode cX10_addPart 59 = .ok (.aload_n 0, 1) := by decide +kernel
theorem dX10_addPart_60 : decode cX10_addPart 60 = .ok (.getfield 72, 3) := by decide +kernel
theorem dX10_addPart_63 : decode cX10_addPart 63 = .ok (.iconst 3, 1) := by decide +kernel
theorem dX10_addPart_64 : decode cX10_addPart 64 = .ok (.aload_n 0, 1) := by decide +kernel
theorem dX10_addPart_65 : decode cX10_addPart 65 = .ok (.getfield 231, 3) := by decide +kernel
theorem dX10_addPart_68 : decode cX10_addPart 68 = .ok (.imul, 1) := by decide +kernel
theorem dX10_addPart_69 : decode cX10_addPart 69 = .ok (.iload_n 1, 1) := by decide +kernel
theorem dX10_addPart_70 : decode cX10_addPart 70 = .ok (.iastore, 1) := by decide +kernel
theorem dX10_addPart_71 : decode cX10_addPart 71 = .ok (.aload_n 0, 1) := by decide +kernel
theorem dX10_addPart_72 : decode cX10_addPart 72 = .ok (.getfield 72, 3) := by decide +kernel
theorem dX10_addPart_75 : decode cX10_addPart 75 = .ok (.iconst 3, 1) := by decide +kernel
theorem dX10_addPart_76 : decode cX10_addPart 76 = .ok (.aload_n 0, 1) := by decide +kernel
theorem dX10_addPart_77 : decode cX10_addPart 77 = .ok (.getfield 231, 3) := by decide +kernel
theorem dX10_addPart_80 : decode cX10_addPart 80 = .ok (.imul, 1) := by decide +kernel
theorem dX10_addPart_81 : decode cX10_addPart 81 = .ok (.iconst 1, 1) := by decide +kernel
theorem dX10_addPart_82 : decode cX10_addPart 82 = .ok (.iadd, 1) := by decide +kernel
theorem dX10_addPart_83 : decode cX10_addPart 83 = .ok (.iload_n 2, 1) := by decide +kernel
theorem dX10_addPart_84 : decode cX10_addPart 84 = .ok (.iastore, 1) := by decide +kernel
theorem dX10_addPart_85 : decode cX10_addPart 85 = .ok (.aload_n 0, 1) := by decide +kernel
theorem dX10_addPart_86 : decode cX10_addPart 86 = .ok (.getfield 72, 3) := by decide +kernel
theorem dX10_addPart_89 : decode cX10_addPart 89 = .ok (.iconst 3, 1) := by decide +kernel
theorem dX10_addPart_90 : decode cX10_addPart 90 = .ok (.aload_n 0, 1) := by decide +kernel
theorem dX10_addPart_91 : decode cX10_addPart 91 = .ok (.getfield 231, 3) := by decide +kernel
theorem dX10_addPart_94 : decode cX10_addPart 94 = .ok (.imul, 1) := by decide +kernel
theorem dX10_addPart_95 : decode cX10_addPart 95 = .ok (.iconst 2, 1) := by decide +kernel
theorem dX10_addPart_96 : decode cX10_addPart 96 = .ok (.iadd, 1) := by decide +kernel
theorem dX10_addPart_97 : decode cX10_addPart 97 = .ok (.iload_n 3, 1) := by decide +kernel
theorem dX10_addPart_98 : decode cX10_addPart 98 = .ok (.iastore, 1) := by decide +kernel
theorem dX10_addPart_99 : decode cX10_addPart 99 = .ok (.aload_n 0, 1) := by decide +kernel
theorem dX10_addPart_100 : decode cX10_addPart 100 = .ok (.getfield 75, 3) := by decide +kernel
theorem dX10_addPart_103 : decode cX10_addPart 103 = .ok (.aload_n 0, 1) := by decide +kernel
theorem dX10_addPart_104 : decode cX10_addPart 104 = .ok (.getfield 231, 3) := by decide +kernel
theorem dX10_addPart_107 : decode cX10_addPart 107 = .ok (.iconst 0, 1) := by decide +kernel
theorem dX10_addPart_108 : decode cX10_addPart 108 = .ok (.bastore, 1) := by decide +kernel
theorem dX10_addPart_109 : decode cX10_addPart 109 = .ok (.aload_n 0, 1) := by decide +kernel
theorem dX10_addPart_110 : decode cX10_addPart 110 = .ok (.dup, 1) := by decide +kernel
theorem dX10_addPart_111 : decode cX10_addPart 111 = .ok (.getfield 231, 3) := by decide +kernel
theorem dX10_addPart_114 : decode cX10_addPart 114 = .ok (.iconst 1, 1) := by decide +kernel
theorem dX10_addPart_115 : decode cX10_addPart 115 = .ok (.iadd, 1) := by decide +kernel
theorem dX10_addPart_116 : decode cX10_addPart 116 = .ok (.putfield 231, 3) := by decide +kernel
theorem dX10_addPart_119 : decode cX10_addPart 119 = .ok (.aload_n 0, 1) := by decide +kernel
theorem dX10_addPart_120 : decode cX10_addPart 120 = .ok (.getfield 231, 3) := by decide +kernel
theorem dX10_addPart_123 : decode cX10_addPart 123 = .ok (.iconst 1, 1) := by decide +kernel
theorem dX10_addPart_124 : decode cX10_addPart 124 = .ok (.isub, 1) := by decide +kernel
theorem dX10_addPart_125 : decode cX10_addPart 125 = .ok (.ireturn, 1) := by decide +kernel
theorem dX10_freeze_0 : decode cX10_freeze 0 = .ok (.aload_n 0, 1) := by decide +kernel
theorem dX10_freeze_1 : decode cX10_freeze 1 = .ok (.aload_n 0, 1) := by decide +kernel
theorem dX10_freeze_2 : decode cX10_freeze 2 = .ok (.iload_n 1, 1) := by decide +kernel
theorem dX10_freeze_3 : decode cX10_freeze 3 = .ok (.invokevirtual 234, 3) := by decide +kernel
theorem dX10_freeze_6 : decode cX10_freeze 6 = .ok (.ifCond .eq 7, 3) := by decide +kernel
theorem dX10_freeze_9 : decode cX10_freeze 9 = .ok (.iconst 0, 1) := by decide +kernel
theorem dX10_freeze_10 : decode cX10_freeze 10 = .ok (.goto 4, 3) := by decide +kernel
theorem dX10_freeze_13 : decode cX10_freeze 13 = .ok (.iconst 1, 1) := by decide +kernel
theorem dX10_freeze_14 : decode cX10_freeze 14 = .ok (.putfield 96, 3) := by decide +kernel
theorem dX10_freeze_17 : decode cX10_freeze 17 = .ok (.aload_n 0, 1) := by decide +kernel
theorem dX10_freeze_18 : decode cX10_freeze 18 = .ok (.getfield 96, 3) := by decide +kernel
theorem dX10_freeze_21 : decode cX10_freeze 21 = .ok (.ifCond .le 5, 3) := by decide +kernel
theorem dX10_freeze_24 : decode cX10_freeze 24 = .ok (.iconst 0, 1) := by decide +kernel
theorem dX10_freeze_25 : decode cX10_freeze 25 = .ok (.ireturn, 1) := by decide +kernel
theorem dX10_freeze_26 : decode cX10_freeze 26 = .ok (.aload_n 0, 1) := by decide +kernel
theorem dX10_freeze_27 : decode cX10_freeze 27 = .ok (.getfield 75, 3) := by decide +kernel
theorem dX10_freeze_30 : decode cX10_freeze 30 = .ok (.iload_n 1, 1) := by decide +kernel
theorem dX10_freeze_31 : decode cX10_freeze 31 = .ok (.baload, 1) := by decide +kernel
theorem dX10_freeze_32 : decode cX10_freeze 32 = .ok (.istore_n 3, 1) := by decide +kernel
theorem dX10_freeze_33 : decode cX10_freeze 33 = .ok (.aload_n 0, 1) := by decide +kernel
theorem dX10_freeze_34 : decode cX10_freeze 34 = .ok (.getfield 75, 3) := by decide +kernel
theorem dX10_freeze_37 : decode cX10_freeze 37 = .ok (.iload_n 1, 1) := by decide +kernel
theorem dX10_freeze_38 : decode cX10_freeze 38 = .ok (.iload_n 2, 1) := by decide +kernel
theorem dX10_freeze_39 : decode cX10_freeze 39 = .ok (.bastore, 1) := by decide +kernel
theorem dX10_freeze_40 : decode cX10_freeze 40 = .ok (.iconst 0, 1) := by decide +kernel
theorem dX10_freeze_41 : decode cX10_freeze 41 = .ok (.istore 4, 2) := by decide +kernel
theorem dX10_freeze_43 : decode cX10_freeze 43 = .ok (.iload 4, 2) := by decide +kernel
theorem dX10_freeze_45 : decode cX10_freeze 45 = .ok (.sipush 512, 3) := by decide +kernel
theorem dX10_freeze_48 : decode cX10_freeze 48 = .ok (.if_icmp .ge 41, 3) := by decide +kernel
theorem dX10_freeze_51 : decode cX10_freeze 51 = .ok (.aload_n 0, 1) := by decide +kernel
theorem dX10_freeze_52 : decode cX10_freeze 52 = .ok (.getfield 78, 3) := by decide +kernel
theorem dX10_freeze_55 : decode cX10_freeze 55 = .ok (.sipush 512, 3) := by decide +kernel
theorem dX10_freeze_58 : decode cX10_freeze 58 = .ok (.iload_n 1, 1) := by decide +kernel
theorem dX10_freeze_59 : decode cX10_freeze 59 = .ok (.imul, 1) := by decide +kernel
theorem dX10_freeze_60 : decode cX10_freeze 60 = .ok (.iload 4, 2) := by decide +kernel
theorem dX10_freeze_62 : decode cX10_freeze 62 = .ok (.iadd, 1) := by decide +kernel
theorem dX10_freeze_63 : decode cX10_freeze 63 = .ok (.iload_n 2, 1) := by decide +kernel
theorem dX10_freeze_64 : decode cX10_freeze 64 = .ok (.ifCond .eq 17, 3) := by decide +kernel
theorem dX10_freeze_67 : decode cX10_freeze 67 = .ok (.aload_n 0, 1) := by decide +kernel
theorem dX10_freeze_68 : decode cX10_freeze 68 = .ok (.getfield 54, 3) := by decide +kernel
theorem dX10_freeze_71 : decode cX10_freeze 71 = .ok (.iload 4, 2) := by decide +kernel
theorem dX10_freeze_73 : decode cX10_freeze 73 = .ok (.baload, 1) := by decide +kernel
theorem dX10_freeze_74 : decode cX10_freeze 74 = .ok (.ifCond .eq 7, 3) := by decide +kernel
theorem dX10_freeze_77 : decode cX10_freeze 77 = .ok (.iconst 1, 1) := by decide +kernel
theorem dX10_freeze_78 : decode cX10_freeze 78 = .ok (.goto 4, 3) := by decide +kernel
theorem dX10_freeze_81 : decode cX10_freeze 81 = .ok (.iconst 0, 1) := by decide +kernel
theorem dX10_freeze_82 : decode cX10_freeze 82 = .ok (.bastore, 1) := by decide +kernel
theorem dX10_freeze_83 : decode cX10_freeze 83 = .ok (.iinc 4 1, 3) := by decide +kernel
theorem dX10_freeze_86 : decode cX10_freeze 86 = .ok (.goto (-43), 3) := by decide +kernel
theorem dX10_freeze_89 : decode cX10_freeze 89 = .ok (.iload_n 3, 1) := by decide +kernel
theorem dX10_freeze_90 : decode cX10_freeze 90 = .ok (.ireturn, 1) := by decide +kernel
theorem dX10_ties_0 : decode cX10_ties 0 = .ok (.iconst 0, 1) := by decide +kernel
theorem dX10_ties_1 : decode cX10_ties 1 = .ok (.istore_n 3, 1) := by decide +kernel
theorem dX10_ties_2 : decode cX10_ties 2 = .ok (.iload_n 3, 1) := by decide +kernel
theorem dX10_ties_3 : decode cX10_ties 3 = .ok (.bipush 7, 2) := by decide +kernel
theorem dX10_ties_5 : decode cX10_ties 5 = .ok (.if_icmp .ge 25, 3) := by decide +kernel
theorem dX10_ties_8 : decode cX10_ties 8 = .ok (.aload_n 0, 1) := by decide +kernel
theorem dX10_ties_9 : decode cX10_ties 9 = .ok (.getfield 90, 3) := by decide +kernel
theorem dX10_ties_12 : decode cX10_ties 12 = .ok (.iload_n 3, 1) := by decide +kernel
theorem dX10_ties_13 : decode cX10_ties 13 = .ok (.iload_n 3, 1) := by decide +kernel
theorem dX10_ties_14 : decode cX10_ties 14 = .ok (.iload_n 1, 1) := by decide +kernel
theorem dX10_ties_15 : decode cX10_ties 15 = .ok (.if_icmp .ne 7, 3) := by decide +kernel
theorem dX10_ties_18 : decode cX10_ties 18 = .ok (.iconst 1, 1) := by decide +kernel
theorem dX10_ties_19 : decode cX10_ties 19 = .ok (.goto 4, 3) := by decide +kernel
theorem dX10_ties_22 : decode cX10_ties 22 = .ok (.iconst 0, 1) := by decide +kernel
theorem dX10_ties_23 : decode cX10_ties 23 = .ok (.bastore, 1) := by decide +kernel
theorem dX10_ties_24 : decode cX10_ties 24 = .ok (.iinc 3 1, 3) := by decide +kernel
theorem dX10_ties_27 : decode cX10_ties 27 = .ok (.goto (-25), 3) := by decide +kernel
theorem dX10_ties_30 : decode cX10_ties 30 = .ok (.iconst 0, 1) := by decide +kernel
theorem dX10_ties_31 : decode cX10_ties 31 = .ok (.istore_n 3, 1) := by decide +kernel
theorem dX10_ties_32 : decode cX10_ties 32 = .ok (.iload_n 3, 1) := by decide +kernel
theorem dX10_ties_33 : decode cX10_ties 33 = .ok (.bipush 12, 2) := by decide +kernel
theorem dX10_ties_35 : decode cX10_ties 35 = .ok (.if_icmp .ge 109, 3) := by decide +kernel
theorem dX10_ties_38 : decode cX10_ties 38 = .ok (.iconst 0, 1) := by decide +kernel
theorem dX10_ties_39 : decode cX10_ties 39 = .ok (.istore 4, 2) := by decide +kernel
theorem dX10_ties_41 : decode cX10_ties 41 = .ok (.iload 4, 2) := by decide +kernel
theorem dX10_ties_43 : decode cX10_ties 43 = .ok (.aload_n 0, 1) := by decide +kernel
theorem dX10_ties_44 : decode cX10_ties 44 = .ok (.getfield 237, 3) := by decide +kernel
theorem dX10_ties_47 : decode cX10_ties 47 = .ok (.if_icmp .ge 91, 3) := by decide +kernel
theorem dX10_ties_50 : decode cX10_ties 50 = .ok (.aload_n 0, 1) := by decide +kernel
theorem dX10_ties_51 : decode cX10_ties 51 = .ok (.getfield 87, 3) := by decide +kernel
theorem dX10_ties_54 : decode cX10_ties 54 = .ok (.iload 4, 2) := by decide +kernel
theorem dX10_ties_56 : decode cX10_ties 56 = .ok (.iaload, 1) := by decide +kernel
theorem dX10_ties_57 : decode cX10_ties 57 = .ok (.iconst (-1), 1) := by decide +kernel
theorem dX10_ties_58 : decode cX10_ties 58 = .ok (.if_icmp .ne 8, 3) := by decide +kernel
theorem dX10_ties_61 : decode cX10_ties 61 = .ok (.bipush 6, 2) := by decide +kernel
theorem dX10_ties_63 : decode cX10_ties 63 = .ok (.goto 10, 3) := by decide +kernel
theorem dX10_ties_66 : decode cX10_ties 66 = .ok (.aload_n 0, 1) := by decide +kernel
theorem dX10_ties_67 : decode cX10_ties 67 = .ok (.getfield 87, 3) := by decide +kernel
theorem dX10_ties_70 : decode cX10_ties 70 = .ok (.iload 4, 2) := by decide +kernel
theorem dX10_ties_72 : decode cX10_ties 72 = .ok (.iaload, 1) := by decide +kernel
theorem dX10_ties_73 : decode cX10_ties 73 = .ok (.istore 5, 2) := by decide +kernel
theorem dX10_ties_75 : decode cX10_ties 75 = .ok (.aload_n 0, 1) := by decide +kernel
theorem dX10_ties_76 : decode cX10_ties 76 = .ok (.getfield 81, 3) := by decide +kernel
theorem dX10_ties_79 : decode cX10_ties 79 = .ok (.iload 4, 2) := by decide +kernel
theorem dX10_ties_81 : decode cX10_ties 81 = .ok (.iaload, 1) := by decide +kernel
theorem dX10_ties_82 : decode cX10_ties 82 = .ok (.iload_n 2, 1) := by decide +kernel
theorem dX10_ties_83 : decode cX10_ties 83 = .ok (.if_icmp .ne 49, 3) := by decide +kernel
theorem dX10_ties_86 : decode cX10_ties 86 = .ok (.aload_n 0, 1) := by decide +kernel
theorem dX10_ties_87 : decode cX10_ties 87 = .ok (.getfield 90, 3) := by decide +kernel
theorem dX10_ties_90 : decode cX10_ties 90 = .ok (.aload_n 0, 1) := by decide +kernel
theorem dX10_ties_91 : decode cX10_ties 91 = .ok (.getfield 84, 3) := by decide +kernel
theorem dX10_ties_94 : decode cX10_ties 94 = .ok (.iload 4, 2) := by decide +kernel
theorem dX10_ties_96 : decode cX10_ties 96 = .ok (.iaload, 1) := by decide +kernel
theorem dX10_ties_97 : decode cX10_ties 97 = .ok (.baload, 1) := by decide +kernel
theorem dX10_ties_98 : decode cX10_ties 98 = .ok (.ifCond .ne 13, 3) := by decide +kernel
theorem dX10_ties_101 : decode cX10_ties 101 = .ok (.aload_n 0, 1) := by decide +kernel
theorem dX10_ties_102 : decode cX10_ties 102 = .ok (.getfield 90, 3) := by decide +kernel
theorem dX10_ties_105 : decode cX10_ties 105 = .ok (.iload 5, 2) := by decide +kernel
theorem dX10_ties_107 : decode cX10_ties 107 = .ok (.baload, 1) := by decide +kernel
theorem dX10_ties_108 : decode cX10_ties 108 = .ok (.ifCond .eq 24, 3) := by decide +kernel
theorem dX10_ties_111 : decode cX10_ties 111 = .ok (.aload_n 0, 1) := by decide +kernel
theorem dX10_ties_112 : decode cX10_ties 112 = .ok (.getfield 90, 3) := by decide +kernel
theorem dX10_ties_115 : decode cX10_ties 115 = .ok (.aload_n 0, 1) := by decide +kernel
theorem dX10_ties_116 : decode cX10_ties 116 = .ok (.getfield 84, 3) := by decide +kernel
theorem dX10_ties_119 : decode cX10_ties 119 = .ok (.iload 4, 2) := by decide +kernel
theorem dX10_ties_121 : decode cX10_ties 121 = .ok (.iaload, 1) := by decide +kernel
theorem dX10_ties_122 : decode cX10_ties 122 = .ok (.iconst 1, 1) := by decide +kernel
theorem dX10_ties_123 : decode cX10_ties 123 = .ok (.bastore, 1) := by decide +kernel
theorem dX10_ties_124 : decode cX10_ties 124 = .ok (.aload_n 0, 1) := by decide +kernel
theorem dX10_ties_125 : decode cX10_ties 125 = .ok (.getfield 90, 3) := by decide +kernel
theorem dX10_ties_128 : decode cX10_ties 128 = .ok (.iload 5, 2) := by decide +kernel
theorem dX10_ties_130 : decode cX10_ties 130 = .ok (.iconst 1, 1) := by decide +kernel
theorem dX10_ties_131 : decode cX10_ties 131 = .ok (.bastore, 1) := by decide +kernel
theorem dX10_ties_132 : decode cX10_ties 132 = .ok (.iinc 4 1, 3) := by decide +kernel
theorem dX10_ties_135 : decode cX10_ties 135 = .ok (.goto (-94), 3) := by decide +kernel
theorem dX10_ties_138 : decode cX10_ties 138 = .ok (.iinc 3 1, 3) := by decide +kernel
theorem dX10_ties_141 : decode cX10_ties 141 = .ok (.goto (-109), 3) := by decide +kernel
theorem dX10_ties_144 : decode cX10_ties 144 = .ok (.return_, 1) := by decide +kernel
theorem dX10_shifts_0 : decode cX10_shifts 0 = .ok (.iconst 0, 1) := by decide +kernel
theorem dX10_shifts_1 : decode cX10_shifts 1 = .ok (.istore_n 3, 1) := by decide +kernel
theorem dX10_shifts_2 : decode cX10_shifts 2 = .ok (.iconst 0, 1) := by decide +kernel
theorem dX10_shifts_3 : decode cX10_shifts 3 = .ok (.istore 4, 2) := by decide +kernel
theorem dX10_shifts_5 : decode cX10_shifts 5 = .ok (.iload 4, 2) := by decide +kernel
theorem dX10_shifts_7 : decode cX10_shifts 7 = .ok (.aload_n 0, 1) := by decide +kernel
theorem dX10_shifts_8 : decode cX10_shifts 8 = .ok (.getfield 231, 3) := by decide +kernel
theorem dX10_shifts_11 : decode cX10_shifts 11 = .ok (.if_icmp .ge 56, 3) := by decide +kernel
theorem dX10_shifts_14 : decode cX10_shifts 14 = .ok (.aload_n 0, 1) := by decide +kernel
theorem dX10_shifts_15 : decode cX10_shifts 15 = .ok (.getfield 72, 3) := by decide +kernel
theorem dX10_shifts_18 : decode cX10_shifts 18 = .ok (.iconst 3, 1) := by decide +kernel
theorem dX10_shifts_19 : decode cX10_shifts 19 = .ok (.iload 4, 2) := by decide +kernel
theorem dX10_shifts_21 : decode cX10_shifts 21 = .ok (.imul, 1) := by decide +kernel
theorem dX10_shifts_22 : decode cX10_shifts 22 = .ok (.iload_n 1, 1) := by decide +kernel
theorem dX10_shifts_23 : decode cX10_shifts 23 = .ok (.iadd, 1) := by decide +kernel
theorem dX10_shifts_24 : decode cX10_shifts 24 = .ok (.dup2, 1) := by decide +kernel
theorem dX10_shifts_25 : decode cX10_shifts 25 = .ok (.iaload, 1) := by decide +kernel
theorem dX10_shifts_26 : decode cX10_shifts 26 = .ok (.aload_n 0, 1) := by decide +kernel
theorem dX10_shifts_27 : decode cX10_shifts 27 = .ok (.getfield 90, 3) := by decide +kernel
theorem dX10_shifts_30 : decode cX10_shifts 30 = .ok (.iload 4, 2) := by decide +kernel
theorem dX10_shifts_32 : decode cX10_shifts 32 = .ok (.baload, 1) := by decide +kernel
theorem dX10_shifts_33 : decode cX10_shifts 33 = .ok (.ifCond .eq 7, 3) := by decide +kernel
theorem dX10_shifts_36 : decode cX10_shifts 36 = .ok (.iload_n 2, 1) := by decide +kernel
theorem dX10_shifts_37 : decode cX10_shifts 37 = .ok (.goto 4, 3) := by decide +kernel
theorem dX10_shifts_40 : decode cX10_shifts 40 = .ok (.iconst 0, 1) := by decide +kernel
theorem dX10_shifts_41 : decode cX10_shifts 41 = .ok (.iadd, 1) := by decide +kernel
theorem dX10_shifts_42 : decode cX10_shifts 42 = .ok (.iastore, 1) := by decide +kernel
theorem dX10_shifts_43 : decode cX10_shifts 43 = .ok (.iload_n 3, 1) := by decide +kernel
theorem dX10_shifts_44 : decode cX10_shifts 44 = .ok (.aload_n 0, 1) := by decide +kernel
theorem dX10_shifts_45 : decode cX10_shifts 45 = .ok (.getfield 90, 3) := by decide +kernel
theorem dX10_shifts_48 : decode cX10_shifts 48 = .ok (.iload 4, 2) := by decide +kernel
theorem dX10_shifts_50 : decode cX10_shifts 50 = .ok (.baload, 1) := by decide +kernel
theorem dX10_shifts_51 : decode cX10_shifts 51 = .ok (.ifCond .eq 7, 3) := by decide +kernel
theorem dX10_shifts_54 : decode cX10_shifts 54 = .ok (.iconst 1, 1) := by decide +kernel
theorem dX10_shifts_55 : decode cX10_shifts 55 = .ok (.goto 4, 3) := by decide +kernel
theorem dX10_shifts_58 : decode cX10_shifts 58 = .ok (.iconst 0, 1) := by decide +kernel
theorem dX10_shifts_59 : decode cX10_shifts 59 = .ok (.iadd, 1) := by decide +kernel
theorem dX10_shifts_60 : decode cX10_shifts 60 = .ok (.istore_n 3, 1) := by decide +kernel
theorem dX10_shifts_61 : decode cX10_shifts 61 = .ok (.iinc 4 1, 3) := by decide +kernel
theorem dX10_shifts_64 : decode cX10_shifts 64 = .ok (.goto (-59), 3) := by decide +kernel
theorem dX10_shifts_67 : decode cX10_shifts 67 = .ok (.iload_n 3, 1) := by decide +kernel
theorem dX10_shifts_68 : decode cX10_shifts 68 = .ok (.ireturn, 1) := by decide +kernel
theorem dX10_mate_0 : decode cX10_mate 0 = .ok (.aload_n 0, 1) := by decide +kernel
theorem dX10_mate_1 : decode cX10_mate 1 = .ok (.iconst 0, 1) := by decide +kernel
theorem dX10_mate_2 : decode cX10_mate 2 = .ok (.putfield 96, 3) := by decide +kernel
theorem dX10_mate_5 : decode cX10_mate 5 = .ok (.aload_n 0, 1) := by decide +kernel
theorem dX10_mate_6 : decode cX10_mate 6 = .ok (.iload_n 2, 1) := by decide +kernel
theorem dX10_mate_7 : decode cX10_mate 7 = .ok (.invokevirtual 234, 3) := by decide +kernel
theorem dX10_mate_10 : decode cX10_mate 10 = .ok (.ifCond .eq 16, 3) := by decide +kernel
theorem dX10_mate_13 : decode cX10_mate 13 = .ok (.iload_n 3, 1) := by decide +kernel
theorem dX10_mate_14 : decode cX10_mate 14 = .ok (.iconst (-1), 1) := by decide +kernel
theorem dX10_mate_15 : decode cX10_mate 15 = .ok (.if_icmp .eq 17, 3) := by decide +kernel
theorem dX10_mate_18 : decode cX10_mate 18 = .ok (.aload_n 0, 1) := by decide +kernel
theorem dX10_mate_19 : decode cX10_mate 19 = .ok (.iload_n 3, 1) := by decide +kernel
theorem dX10_mate_20 : decode cX10_mate 20 = .ok (.invokevirtual 234, 3) := by decide +kernel
theorem dX10_mate_23 : decode cX10_mate 23 = .ok (.ifCond .ne 9, 3) := by decide +kernel
theorem dX10_mate_26 : decode cX10_mate 26 = .ok (.aload_n 0, 1) := by decide +kernel
theorem dX10_mate_27 : decode cX10_mate 27 = .ok (.iconst 1, 1) := by decide +kernel
theorem dX10_mate_28 : decode cX10_mate 28 = .ok (.invokevirtual 112, 3) := by decide +kernel
theorem dX10_mate_31 : decode cX10_mate 31 = .ok (.ireturn, 1) := by decide +kernel
theorem dX10_mate_32 : decode cX10_mate 32 = .ok (.iload_n 1, 1) := by decide +kernel
theorem dX10_mate_33 : decode cX10_mate 33 = .ok (.iconst 0, 1) := by decide +kernel
theorem dX10_mate_34 : decode cX10_mate 34 = .ok (.iconst 2, 1) := by decide +kernel
theorem dX10_mate_35 : decode cX10_mate 35 = .ok (.invokestatic 100, 3) := by decide +kernel
theorem dX10_mate_38 : decode cX10_mate 38 = .ok (.ifCond .eq 20, 3) := by decide +kernel
theorem dX10_mate_41 : decode cX10_mate 41 = .ok (.iload_n 2, 1) := by decide +kernel
theorem dX10_mate_42 : decode cX10_mate 42 = .ok (.iload_n 3, 1) := by decide +kernel
theorem dX10_mate_43 : decode cX10_mate 43 = .ok (.if_icmp .eq 15, 3) := by decide +kernel
theorem dX10_mate_46 : decode cX10_mate 46 = .ok (.iload 4, 2) := by decide +kernel
theorem dX10_mate_48 : decode cX10_mate 48 = .ok (.bipush (-20), 2) := by decide +kernel
theorem dX10_mate_50 : decode cX10_mate 50 = .ok (.bipush 20, 2) := by decide +kernel
theorem dX10_mate_52 : decode cX10_mate 52 = .ok (.invokestatic 100, 3) := by decide +kernel
theorem dX10_mate_55 : decode cX10_mate 55 = .ok (.ifCond .ne 9, 3) := by decide +kernel
theorem dX10_mate_58 : decode cX10_mate 58 = .ok (.aload_n 0, 1) := by decide +kernel
theorem dX10_mate_59 : decode cX10_mate 59 = .ok (.iconst 2, 1) := by decide +kernel
theorem dX10_mate_60 : decode cX10_mate 60 = .ok (.invokevirtual 112, 3) := by decide +kernel
theorem dX10_mate_63 : decode cX10_mate 63 = .ok (.ireturn, 1) := by decide +kernel
theorem dX10_mate_64 : decode cX10_mate 64 = .ok (.aload_n 0, 1) := by decide +kernel
theorem dX10_mate_65 : decode cX10_mate 65 = .ok (.iload_n 2, 1) := by decide +kernel
theorem dX10_mate_66 : decode cX10_mate 66 = .ok (.iload_n 1, 1) := by decide +kernel
theorem dX10_mate_67 : decode cX10_mate 67 = .ok (.invokevirtual 240, 3) := by decide +kernel
theorem dX10_mate_70 : decode cX10_mate 70 = .ok (.aload_n 0, 1) := by decide +kernel
theorem dX10_mate_71 : decode cX10_mate 71 = .ok (.getfield 90, 3) := by decide +kernel
theorem dX10_mate_74 : decode cX10_mate 74 = .ok (.iload_n 3, 1) := by decide +kernel
theorem dX10_mate_75 : decode cX10_mate 75 = .ok (.iconst (-1), 1) := by decide +kernel
theorem dX10_mate_76 : decode cX10_mate 76 = .ok (.if_icmp .ne 8, 3) := by decide +kernel
theorem dX10_mate_79 : decode cX10_mate 79 = .ok (.bipush 6, 2) := by decide +kernel
theorem dX10_mate_81 : decode cX10_mate 81 = .ok (.goto 4, 3) := by decide +kernel
theorem dX10_mate_84 : decode cX10_mate 84 = .ok (.iload_n 3, 1) := by decide +kernel
theorem dX10_mate_85 : decode cX10_mate 85 = .ok (.baload, 1) := by decide +kernel
theorem dX10_mate_86 : decode cX10_mate 86 = .ok (.ifCond .eq 9, 3) := by decide +kernel
theorem dX10_mate_89 : decode cX10_mate 89 = .ok (.aload_n 0, 1) := by decide +kernel
theorem dX10_mate_90 : decode cX10_mate 90 = .ok (.iconst 3, 1) := by decide +kernel
theorem dX10_mate_91 : decode cX10_mate 91 = .ok (.invokevirtual 112, 3) := by decide +kernel
theorem dX10_mate_94 : decode cX10_mate 94 = .ok (.ireturn, 1) := by decide +kernel
theorem dX10_mate_95 : decode cX10_mate 95 = .ok (.aload_n 0, 1) := by decide +kernel
theorem dX10_mate_96 : decode cX10_mate 96 = .ok (.getfield 237, 3) := by decide +kernel
theorem dX10_mate_99 : decode cX10_mate 99 = .ok (.bipush 12, 2) := by decide +kernel
theorem dX10_mate_101 : decode cX10_mate 101 = .ok (.if_icmp .ne 9, 3) := by decide +kernel
theorem dX10_mate_104 : decode cX10_mate 104 = .ok (.aload_n 0, 1) := by decide +kernel
theorem dX10_mate_105 : decode cX10_mate 105 = .ok (.iconst 4, 1) := by decide +kernel
theorem dX10_mate_106 : decode cX10_mate 106 = .ok (.invokevirtual 112, 3) := by decide +kernel
theorem dX10_mate_109 : decode cX10_mate 109 = .ok (.ireturn, 1) := by decide +kernel
theorem dX10_mate_110 : decode cX10_mate 110 = .ok (.iload_n 3, 1) := by decide +kernel
theorem dX10_mate_111 : decode cX10_mate 111 = .ok (.iconst (-1), 1) := by decide +kernel
theorem dX10_mate_112 : decode cX10_mate 112 = .ok (.if_icmp .ne 7, 3) := by decide +kernel
theorem dX10_mate_115 : decode cX10_mate 115 = .ok (.iconst 0, 1) := by decide +kernel
theorem dX10_mate_116 : decode cX10_mate 116 = .ok (.goto 13, 3) := by decide +kernel
theorem dX10_mate_119 : decode cX10_mate 119 = .ok (.aload_n 0, 1) := by decide +kernel
theorem dX10_mate_120 : decode cX10_mate 120 = .ok (.getfield 72, 3) := by decide +kernel
theorem dX10_mate_123 : decode cX10_mate 123 = .ok (.iconst 3, 1) := by decide +kernel
theorem dX10_mate_124 : decode cX10_mate 124 = .ok (.iload_n 3, 1) := by decide +kernel
theorem dX10_mate_125 : decode cX10_mate 125 = .ok (.imul, 1) := by decide +kernel
theorem dX10_mate_126 : decode cX10_mate 126 = .ok (.iload_n 1, 1) := by decide +kernel
theorem dX10_mate_127 : decode cX10_mate 127 = .ok (.iadd, 1) := by decide +kernel
theorem dX10_mate_128 : decode cX10_mate 128 = .ok (.iaload, 1) := by decide +kernel
theorem dX10_mate_129 : decode cX10_mate 129 = .ok (.istore 5, 2) := by decide +kernel
theorem dX10_mate_131 : decode cX10_mate 131 = .ok (.iload 4, 2) := by decide +kernel
theorem dX10_mate_133 : decode cX10_mate 133 = .ok (.iload 5, 2) := by decide +kernel
theorem dX10_mate_135 : decode cX10_mate 135 = .ok (.iadd, 1) := by decide +kernel
theorem dX10_mate_136 : decode cX10_mate 136 = .ok (.aload_n 0, 1) := by decide +kernel
theorem dX10_mate_137 : decode cX10_mate 137 = .ok (.getfield 72, 3) := by decide +kernel
theorem dX10_mate_140 : decode cX10_mate 140 = .ok (.iconst 3, 1) := by decide +kernel
theorem dX10_mate_141 : decode cX10_mate 141 = .ok (.iload_n 2, 1) := by decide +kernel
theorem dX10_mate_142 : decode cX10_mate 142 = .ok (.imul, 1) := by decide +kernel
theorem dX10_mate_143 : decode cX10_mate 143 = .ok (.iload_n 1, 1) := by decide +kernel
theorem dX10_mate_144 : decode cX10_mate 144 = .ok (.iadd, 1) := by decide +kernel
theorem dX10_mate_145 : decode cX10_mate 145 = .ok (.iaload, 1) := by decide +kernel
theorem dX10_mate_146 : decode cX10_mate 146 = .ok (.isub, 1) := by decide +kernel
theorem dX10_mate_147 : decode cX10_mate 147 = .ok (.istore 6, 2) := by decide +kernel
theorem dX10_mate_149 : decode cX10_mate 149 = .ok (.iconst 0, 1) := by decide +kernel
theorem dX10_mate_150 : decode cX10_mate 150 = .ok (.istore 7, 2) := by decide +kernel
theorem dX10_mate_152 : decode cX10_mate 152 = .ok (.iload 6, 2) := by decide +kernel
theorem dX10_mate_154 : decode cX10_mate 154 = .ok (.ifCond .eq 32, 3) := by decide +kernel
theorem dX10_mate_157 : decode cX10_mate 157 = .ok (.aload_n 0, 1) := by decide +kernel
theorem dX10_mate_158 : decode cX10_mate 158 = .ok (.getfield 90, 3) := by decide +kernel
theorem dX10_mate_161 : decode cX10_mate 161 = .ok (.bipush 6, 2) := by decide +kernel
theorem dX10_mate_163 : decode cX10_mate 163 = .ok (.baload, 1) := by decide +kernel
theorem dX10_mate_164 : decode cX10_mate 164 = .ok (.ifCond .eq 22, 3) := by decide +kernel
theorem dX10_mate_167 : decode cX10_mate 167 = .ok (.aload_n 0, 1) := by decide +kernel
theorem dX10_mate_168 : decode cX10_mate 168 = .ok (.iload_n 3, 1) := by decide +kernel
theorem dX10_mate_169 : decode cX10_mate 169 = .ok (.iload_n 1, 1) := by decide +kernel
theorem dX10_mate_170 : decode cX10_mate 170 = .ok (.invokevirtual 240, 3) := by decide +kernel
theorem dX10_mate_173 : decode cX10_mate 173 = .ok (.aload_n 0, 1) := by decide +kernel
theorem dX10_mate_174 : decode cX10_mate 174 = .ok (.iload_n 1, 1) := by decide +kernel
theorem dX10_mate_175 : decode cX10_mate 175 = .ok (.iload 6, 2) := by decide +kernel
theorem dX10_mate_177 : decode cX10_mate 177 = .ok (.ineg, 1) := by decide +kernel
theorem dX10_mate_178 : decode cX10_mate 178 = .ok (.invokevirtual 243, 3) := by decide +kernel
theorem dX10_mate_181 : decode cX10_mate 181 = .ok (.istore 7, 2) := by decide +kernel
theorem dX10_mate_183 : decode cX10_mate 183 = .ok (.goto 17, 3) := by decide +kernel
theorem dX10_mate_186 : decode cX10_mate 186 = .ok (.iload 6, 2) := by decide +kernel
theorem dX10_mate_188 : decode cX10_mate 188 = .ok (.ifCond .eq 12, 3) := by decide +kernel
theorem dX10_mate_191 : decode cX10_mate 191 = .ok (.aload_n 0, 1) := by decide +kernel
theorem dX10_mate_192 : decode cX10_mate 192 = .ok (.iload_n 1, 1) := by decide +kernel
theorem dX10_mate_193 : decode cX10_mate 193 = .ok (.iload 6, 2) := by decide +kernel
theorem dX10_mate_195 : decode cX10_mate 195 = .ok (.invokevirtual 243, 3) := by decide +kernel
theorem dX10_mate_198 : decode cX10_mate 198 = .ok (.istore 7, 2) := by decide +kernel
theorem dX10_mate_200 : decode cX10_mate 200 = .ok (.aload_n 0, 1) := by decide +kernel
theorem dX10_mate_201 : decode cX10_mate 201 = .ok (.getfield 81, 3) := by decide +kernel
theorem dX10_mate_204 : decode cX10_mate 204 = .ok (.aload_n 0, 1) := by decide +kernel
theorem dX10_mate_205 : decode cX10_mate 205 = .ok (.getfield 237, 3) := by decide +kernel
theorem dX10_mate_208 : decode cX10_mate 208 = .ok (.iload_n 1, 1) := by decide +kernel
theorem dX10_mate_209 : decode cX10_mate 209 = .ok (.iastore, 1) := by decide +kernel
theorem dX10_mate_210 : decode cX10_mate 210 = .ok (.aload_n 0, 1) := by decide +kernel
theorem dX10_mate_211 : decode cX10_mate 211 = .ok (.getfield 84, 3) := by decide +kernel
theorem dX10_mate_214 : decode cX10_mate 214 = .ok (.aload_n 0, 1) := by decide +kernel
theorem dX10_mate_215 : decode cX10_mate 215 = .ok (.getfield 237, 3) := by decide +kernel
theorem dX10_mate_218 : decode cX10_mate 218 = .ok (.iload_n 2, 1) := by decide +kernel
theorem dX10_mate_219 : decode cX10_mate 219 = .ok (.iastore, 1) := by decide +kernel
theorem dX10_mate_220 : decode cX10_mate 220 = .ok (.aload_n 0, 1) := by decide +kernel
theorem dX10_mate_221 : decode cX10_mate 221 = .ok (.getfield 87, 3) := by decide +kernel
theorem dX10_mate_224 : decode cX10_mate 224 = .ok (.aload_n 0, 1) := by decide +kernel
theorem dX10_mate_225 : decode cX10_mate 225 = .ok (.getfield 237, 3) := by decide +kernel
theorem dX10_mate_228 : decode cX10_mate 228 = .ok (.iload_n 3, 1) := by decide +kernel
theorem dX10_mate_229 : decode cX10_mate 229 = .ok (.iastore, 1) := by decide +kernel
theorem dX10_mate_230 : decode cX10_mate 230 = .ok (.aload_n 0, 1) := by decide +kernel
theorem dX10_mate_231 : decode cX10_mate 231 = .ok (.dup, 1) := by decide +kernel
theorem dX10_mate_232 : decode cX10_mate 232 = .ok (.getfield 237, 3) := by decide +kernel
theorem dX10_mate_235 : decode cX10_mate 235 = .ok (.iconst 1, 1) := by decide +kernel
theorem dX10_mate_236 : decode cX10_mate 236 = .ok (.iadd, 1) := by decide +kernel
theorem dX10_mate_237 : decode cX10_mate 237 = .ok (.putfield 237, 3) := by decide +kernel
theorem dX10_mate_240 : decode cX10_mate 240 = .ok (.iload 7, 2) := by decide +kernel
theorem dX10_mate_242 : decode cX10_mate 242 = .ok (.ireturn, 1) := by decide +kernel
theorem dX10_drag_0 : decode cX10_drag 0 = .ok (.aload_n 0, 1) := by decide +kernel
theorem dX10_drag_1 : decode cX10_drag 1 = .ok (.iconst 0, 1) := by decide +kernel
theorem dX10_drag_2 : decode cX10_drag 2 = .ok (.putfield 96, 3) := by decide +kernel
theorem dX10_drag_5 : decode cX10_drag 5 = .ok (.aload_n 0, 1) := by decide +kernel
theorem dX10_drag_6 : decode cX10_drag 6 = .ok (.iload_n 1, 1) := by decide +kernel
theorem dX10_drag_7 : decode cX10_drag 7 = .ok (.invokevirtual 234, 3) := by decide +kernel
theorem dX10_drag_10 : decode cX10_drag 10 = .ok (.ifCond .ne 9, 3) := by decide +kernel
theorem dX10_drag_13 : decode cX10_drag 13 = .ok (.aload_n 0, 1) := by decide +kernel
theorem dX10_drag_14 : decode cX10_drag 14 = .ok (.iconst 1, 1) := by decide +kernel
theorem dX10_drag_15 : decode cX10_drag 15 = .ok (.invokevirtual 112, 3) := by decide +kernel
theorem dX10_drag_18 : decode cX10_drag 18 = .ok (.ireturn, 1) := by decide +kernel
theorem dX10_drag_19 : decode cX10_drag 19 = .ok (.iload_n 2, 1) := by decide +kernel
theorem dX10_drag_20 : decode cX10_drag 20 = .ok (.iconst 0, 1) := by decide +kernel
theorem dX10_drag_21 : decode cX10_drag 21 = .ok (.iconst 2, 1) := by decide +kernel
theorem dX10_drag_22 : decode cX10_drag 22 = .ok (.invokestatic 100, 3) := by decide +kernel
theorem dX10_drag_25 : decode cX10_drag 25 = .ok (.ifCond .eq 14, 3) := by decide +kernel
theorem dX10_drag_28 : decode cX10_drag 28 = .ok (.iload_n 3, 1) := by decide +kernel
theorem dX10_drag_29 : decode cX10_drag 29 = .ok (.bipush (-20), 2) := by decide +kernel
theorem dX10_drag_31 : decode cX10_drag 31 = .ok (.bipush 20, 2) := by decide +kernel
theorem dX10_drag_33 : decode cX10_drag 33 = .ok (.invokestatic 100, 3) := by decide +kernel
theorem dX10_drag_36 : decode cX10_drag 36 = .ok (.ifCond .ne 9, 3) := by decide +kernel
theorem dX10_drag_39 : decode cX10_drag 39 = .ok (.aload_n 0, 1) := by decide +kernel
theorem dX10_drag_40 : decode cX10_drag 40 = .ok (.iconst 2, 1) := by decide +kernel
theorem dX10_drag_41 : decode cX10_drag 41 = .ok (.invokevirtual 112, 3) := by decide +kernel
theorem dX10_drag_44 : decode cX10_drag 44 = .ok (.ireturn, 1) := by decide +kernel
theorem dX10_drag_45 : decode cX10_drag 45 = .ok (.aload_n 0, 1) := by decide +kernel
theorem dX10_drag_46 : decode cX10_drag 46 = .ok (.iload_n 1, 1) := by decide +kernel
theorem dX10_drag_47 : decode cX10_drag 47 = .ok (.iload_n 2, 1) := by decide +kernel
theorem dX10_drag_48 : decode cX10_drag 48 = .ok (.invokevirtual 240, 3) := by decide +kernel
theorem dX10_drag_51 : decode cX10_drag 51 = .ok (.aload_n 0, 1) := by decide +kernel
theorem dX10_drag_52 : decode cX10_drag 52 = .ok (.getfield 90, 3) := by decide +kernel
theorem dX10_drag_55 : decode cX10_drag 55 = .ok (.bipush 6, 2) := by decide +kernel
theorem dX10_drag_57 : decode cX10_drag 57 = .ok (.baload, 1) := by decide +kernel
theorem dX10_drag_58 : decode cX10_drag 58 = .ok (.ifCond .eq 9, 3) := by decide +kernel
theorem dX10_drag_61 : decode cX10_drag 61 = .ok (.aload_n 0, 1) := by decide +kernel
theorem dX10_drag_62 : decode cX10_drag 62 = .ok (.iconst 3, 1) := by decide +kernel
theorem dX10_drag_63 : decode cX10_drag 63 = .ok (.invokevirtual 112, 3) := by decide +kernel
theorem dX10_drag_66 : decode cX10_drag 66 = .ok (.ireturn, 1) := by decide +kernel
theorem dX10_drag_67 : decode cX10_drag 67 = .ok (.iload_n 3, 1) := by decide +kernel
theorem dX10_drag_68 : decode cX10_drag 68 = .ok (.ifCond .ne 7, 3) := by decide +kernel
theorem dX10_drag_71 : decode cX10_drag 71 = .ok (.iconst 0, 1) := by decide +kernel
theorem dX10_drag_72 : decode cX10_drag 72 = .ok (.goto 9, 3) := by decide +kernel
theorem dX10_drag_75 : decode cX10_drag 75 = .ok (.aload_n 0, 1) := by decide +kernel
theorem dX10_drag_76 : decode cX10_drag 76 = .ok (.iload_n 2, 1) := by decide +kernel
theorem dX10_drag_77 : decode cX10_drag 77 = .ok (.iload_n 3, 1) := by decide +kernel
theorem dX10_drag_78 : decode cX10_drag 78 = .ok (.invokevirtual 243, 3) := by decide +kernel
theorem dX10_drag_81 : decode cX10_drag 81 = .ok (.ireturn, 1) := by decide +kernel
theorem dX10_moved_0 : decode cX10_moved 0 = .ok (.aload_n 0, 1) := by decide +kernel
theorem dX10_moved_1 : decode cX10_moved 1 = .ok (.iconst 0, 1) := by decide +kernel
theorem dX10_moved_2 : decode cX10_moved 2 = .ok (.putfield 96, 3) := by decide +kernel
theorem dX10_moved_5 : decode cX10_moved 5 = .ok (.aload_n 0, 1) := by decide +kernel
theorem dX10_moved_6 : decode cX10_moved 6 = .ok (.iload_n 1, 1) := by decide +kernel
theorem dX10_moved_7 : decode cX10_moved 7 = .ok (.invokevirtual 234, 3) := by decide +kernel
theorem dX10_moved_10 : decode cX10_moved 10 = .ok (.ifCond .ne 9, 3) := by decide +kernel
theorem dX10_moved_13 : decode cX10_moved 13 = .ok (.aload_n 0, 1) := by decide +kernel
theorem dX10_moved_14 : decode cX10_moved 14 = .ok (.iconst 1, 1) := by decide +kernel
theorem dX10_moved_15 : decode cX10_moved 15 = .ok (.invokevirtual 112, 3) := by decide +kernel
theorem dX10_moved_18 : decode cX10_moved 18 = .ok (.ireturn, 1) := by decide +kernel
theorem dX10_moved_19 : decode cX10_moved 19 = .ok (.iload_n 2, 1) := by decide +kernel
theorem dX10_moved_20 : decode cX10_moved 20 = .ok (.iconst 0, 1) := by decide +kernel
theorem dX10_moved_21 : decode cX10_moved 21 = .ok (.iconst 2, 1) := by decide +kernel
theorem dX10_moved_22 : decode cX10_moved 22 = .ok (.invokestatic 100, 3) := by decide +kernel
theorem dX10_moved_25 : decode cX10_moved 25 = .ok (.ifCond .eq 16, 3) := by decide +kernel
theorem dX10_moved_28 : decode cX10_moved 28 = .ok (.aload_n 0, 1) := by decide +kernel
theorem dX10_moved_29 : decode cX10_moved 29 = .ok (.getfield 72, 3) := by decide +kernel
theorem dX10_moved_32 : decode cX10_moved 32 = .ok (.iconst 3, 1) := by decide +kernel
theorem dX10_moved_33 : decode cX10_moved 33 = .ok (.iload_n 1, 1) := by decide +kernel
theorem dX10_moved_34 : decode cX10_moved 34 = .ok (.imul, 1) := by decide +kernel
theorem dX10_moved_35 : decode cX10_moved 35 = .ok (.iload_n 2, 1) := by decide +kernel
theorem dX10_moved_36 : decode cX10_moved 36 = .ok (.iadd, 1) := by decide +kernel
theorem dX10_moved_37 : decode cX10_moved 37 = .ok (.iaload, 1) := by decide +kernel
theorem dX10_moved_38 : decode cX10_moved 38 = .ok (.goto 8, 3) := by decide +kernel
theorem dX10_moved_41 : decode cX10_moved 41 = .ok (.aload_n 0, 1) := by decide +kernel
theorem dX10_moved_42 : decode cX10_moved 42 = .ok (.iconst 2, 1) := by decide +kernel
theorem dX10_moved_43 : decode cX10_moved 43 = .ok (.invokevirtual 112, 3) := by decide +kernel
theorem dX10_moved_46 : decode cX10_moved 46 = .ok (.ireturn, 1) := by decide +kernel
theorem dX10_freedoms_0 : decode cX10_freedoms 0 = .ok (.aload_n 0, 1) := by decide +kernel
theorem dX10_freedoms_1 : decode cX10_freedoms 1 = .ok (.iconst 0, 1) := by decide +kernel
theorem dX10_freedoms_2 : decode cX10_freedoms 2 = .ok (.putfield 96, 3) := by decide +kernel
theorem dX10_freedoms_5 : decode cX10_freedoms 5 = .ok (.iconst 3, 1) := by decide +kernel
theorem dX10_freedoms_6 : decode cX10_freedoms 6 = .ok (.aload_n 0, 1) := by decide +kernel
theorem dX10_freedoms_7 : decode cX10_freedoms 7 = .ok (.getfield 231, 3) := by decide +kernel
theorem dX10_freedoms_10 : decode cX10_freedoms 10 = .ok (.imul, 1) := by decide +kernel
theorem dX10_freedoms_11 : decode cX10_freedoms 11 = .ok (.aload_n 0, 1) := by decide +kernel
theorem dX10_freedoms_12 : decode cX10_freedoms 12 = .ok (.getfield 237, 3) := by decide +kernel
theorem dX10_freedoms_15 : decode cX10_freedoms 15 = .ok (.isub, 1) := by decide +kernel
theorem dX10_freedoms_16 : decode cX10_freedoms 16 = .ok (.ireturn, 1) := by decide +kernel
theorem dX10_hasCell_0 : decode cX10_hasCell 0 = .ok (.iload_n 2, 1) := by decide +kernel
theorem dX10_hasCell_1 : decode cX10_hasCell 1 = .ok (.iconst (-1), 1) := by decide +kernel
theorem dX10_hasCell_2 : decode cX10_hasCell 2 = .ok (.if_icmp .eq 43, 3) := by decide +kernel
theorem dX10_hasCell_5 : decode cX10_hasCell 5 = .ok (.aload_n 0, 1) := by decide +kernel
theorem dX10_hasCell_6 : decode cX10_hasCell 6 = .ok (.getfield 75, 3) := by decide +kernel
theorem dX10_hasCell_9 : decode cX10_hasCell 9 = .ok (.iload_n 1, 1) := by decide +kernel
theorem dX10_hasCell_10 : decode cX10_hasCell 10 = .ok (.baload, 1) := by decide +kernel
theorem dX10_hasCell_11 : decode cX10_hasCell 11 = .ok (.ifCond .eq 21, 3) := by decide +kernel
theorem dX10_hasCell_14 : decode cX10_hasCell 14 = .ok (.aload_n 0, 1) := by decide +kernel
theorem dX10_hasCell_15 : decode cX10_hasCell 15 = .ok (.getfield 78, 3) := by decide +kernel
theorem dX10_hasCell_18 : decode cX10_hasCell 18 = .ok (.sipush 512, 3) := by decide +kernel
theorem dX10_hasCell_21 : decode cX10_hasCell 21 = .ok (.iload_n 1, 1) := by decide +kernel
theorem dX10_hasCell_22 : decode cX10_hasCell 22 = .ok (.imul, 1) := by decide +kernel
theorem dX10_hasCell_23 : decode cX10_hasCell 23 = .ok (.iload_n 2, 1) := by decide +kernel
theorem dX10_hasCell_24 : decode cX10_hasCell 24 = .ok (.iadd, 1) := by decide +kernel
theorem dX10_hasCell_25 : decode cX10_hasCell 25 = .ok (.baload, 1) := by decide +kernel
theorem dX10_hasCell_26 : decode cX10_hasCell 26 = .ok (.ifCond .eq 19, 3) := by decide +kernel
theorem dX10_hasCell_29 : decode cX10_hasCell 29 = .ok (.goto 12, 3) := by decide +kernel
theorem dX10_hasCell_32 : decode cX10_hasCell 32 = .ok (.aload_n 0, 1) := by decide +kernel
theorem dX10_hasCell_33 : decode cX10_hasCell 33 = .ok (.getfield 54, 3) := by decide +kernel
theorem dX10_hasCell_36 : decode cX10_hasCell 36 = .ok (.iload_n 2, 1) := by decide +kernel
theorem dX10_hasCell_37 : decode cX10_hasCell 37 = .ok (.baload, 1) := by decide +kernel
theorem dX10_hasCell_38 : decode cX10_hasCell 38 = .ok (.ifCond .eq 7, 3) := by decide +kernel
theorem dX10_hasCell_41 : decode cX10_hasCell 41 = .ok (.iconst 1, 1) := by decide +kernel
theorem dX10_hasCell_42 : decode cX10_hasCell 42 = .ok (.goto 4, 3) := by decide +kernel
theorem dX10_hasCell_45 : decode cX10_hasCell 45 = .ok (.iconst 0, 1) := by decide +kernel
theorem dX10_hasCell_46 : decode cX10_hasCell 46 = .ok (.ireturn, 1) := by decide +kernel
theorem dX10_clashes_0 : decode cX10_clashes 0 = .ok (.aload_n 0, 1) := by decide +kernel
theorem dX10_clashes_1 : decode cX10_clashes 1 = .ok (.iconst 0, 1) := by decide +kernel
theorem dX10_clashes_2 : decode cX10_clashes 2 = .ok (.putfield 96, 3) := by decide +kernel
theorem dX10_clashes_5 : decode cX10_clashes 5 = .ok (.aload_n 0, 1) := by decide +kernel
theorem dX10_clashes_6 : decode cX10_clashes 6 = .ok (.iload_n 1, 1) := by decide +kernel
theorem dX10_clashes_7 : decode cX10_clashes 7 = .ok (.invokevirtual 234, 3) := by decide +kernel
theorem dX10_clashes_10 : decode cX10_clashes 10 = .ok (.ifCond .eq 11, 3) := by decide +kernel
theorem dX10_clashes_13 : decode cX10_clashes 13 = .ok (.aload_n 0, 1) := by decide +kernel
theorem dX10_clashes_14 : decode cX10_clashes 14 = .ok (.iload_n 2, 1) := by decide +kernel
theorem dX10_clashes_15 : decode cX10_clashes 15 = .ok (.invokevirtual 234, 3) := by decide +kernel
theorem dX10_clashes_18 : decode cX10_clashes 18 = .ok (.ifCond .ne 9, 3) := by decide +kernel
theorem dX10_clashes_21 : decode cX10_clashes 21 = .ok (.aload_n 0, 1) := by decide +kernel
theorem dX10_clashes_22 : decode cX10_clashes 22 = .ok (.iconst 1, 1) := by decide +kernel
theorem dX10_clashes_23 : decode cX10_clashes 23 = .ok (.invokevirtual 112, 3) := by decide +kernel
theorem dX10_clashes_26 : decode cX10_clashes 26 = .ok (.ireturn, 1) := by decide +kernel
theorem dX10_clashes_27 : decode cX10_clashes 27 = .ok (.iload_n 1, 1) := by decide +kernel
theorem dX10_clashes_28 : decode cX10_clashes 28 = .ok (.iload_n 2, 1) := by decide +kernel
theorem dX10_clashes_29 : decode cX10_clashes 29 = .ok (.if_icmp .ne 9, 3) := by decide +kernel
theorem dX10_clashes_32 : decode cX10_clashes 32 = .ok (.aload_n 0, 1) := by decide +kernel
theorem dX10_clashes_33 : decode cX10_clashes 33 = .ok (.iconst 2, 1) := by decide +kernel
theorem dX10_clashes_34 : decode cX10_clashes 34 = .ok (.invokevirtual 112, 3) := by decide +kernel
theorem dX10_clashes_37 : decode cX10_clashes 37 = .ok (.ireturn, 1) := by decide +kernel
theorem dX10_clashes_38 : decode cX10_clashes 38 = .ok (.aload_n 0, 1) := by decide +kernel
theorem dX10_clashes_39 : decode cX10_clashes 39 = .ok (.getfield 72, 3) := by decide +kernel
theorem dX10_clashes_42 : decode cX10_clashes 42 = .ok (.iconst 3, 1) := by decide +kernel
theorem dX10_clashes_43 : decode cX10_clashes 43 = .ok (.iload_n 1, 1) := by decide +kernel
theorem dX10_clashes_44 : decode cX10_clashes 44 = .ok (.imul, 1) := by decide +kernel
theorem dX10_clashes_45 : decode cX10_clashes 45 = .ok (.iaload, 1) := by decide +kernel
theorem dX10_clashes_46 : decode cX10_clashes 46 = .ok (.aload_n 0, 1) := by decide +kernel
theorem dX10_clashes_47 : decode cX10_clashes 47 = .ok (.getfield 72, 3) := by decide +kernel
theorem dX10_clashes_50 : decode cX10_clashes 50 = .ok (.iconst 3, 1) := by decide +kernel
theorem dX10_clashes_51 : decode cX10_clashes 51 = .ok (.iload_n 2, 1) := by decide +kernel
theorem dX10_clashes_52 : decode cX10_clashes 52 = .ok (.imul, 1) := by decide +kernel
theorem dX10_clashes_53 : decode cX10_clashes 53 = .ok (.iaload, 1) := by decide +kernel
theorem dX10_clashes_54 : decode cX10_clashes 54 = .ok (.isub, 1) := by decide +kernel
theorem dX10_clashes_55 : decode cX10_clashes 55 = .ok (.istore_n 3, 1) := by decide +kernel
theorem dX10_clashes_56 : decode cX10_clashes 56 = .ok (.aload_n 0, 1) := by decide +kernel
theorem dX10_clashes_57 : decode cX10_clashes 57 = .ok (.getfield 72, 3) := by decide +kernel
theorem dX10_clashes_60 : decode cX10_clashes 60 = .ok (.iconst 3, 1) := by decide +kernel
theorem dX10_clashes_61 : decode cX10_clashes 61 = .ok (.iload_n 1, 1) := by decide +kernel
theorem dX10_clashes_62 : decode cX10_clashes 62 = .ok (.imul, 1) := by decide +kernel
theorem dX10_clashes_63 : decode cX10_clashes 63 = .ok (.iconst 1, 1) := by decide +kernel
theorem dX10_clashes_64 : decode cX10_clashes 64 = .ok (.iadd, 1) := by decide +kernel
theorem dX10_clashes_65 : decode cX10_clashes 65 = .ok (.iaload, 1) := by decide +kernel
theorem dX10_clashes_66 : decode cX10_clashes 66 = .ok (.aload_n 0, 1) := by decide +kernel
theorem dX10_clashes_67 : decode cX10_clashes 67 = .ok (.getfield 72, 3) := by decide +kernel
theorem dX10_clashes_70 : decode cX10_clashes 70 = .ok (.iconst 3, 1) := by decide +kernel
theorem dX10_clashes_71 : decode cX10_clashes 71 = .ok (.iload_n 2, 1) := by decide +kernel
theorem dX10_clashes_72 : decode cX10_clashes 72 = .ok (.imul, 1) := by decide +kernel
theorem dX10_clashes_73 : decode cX10_clashes 73 = .ok (.iconst 1, 1) := by decide +kernel
theorem dX10_clashes_74 : decode cX10_clashes 74 = .ok (.iadd, 1) := by decide +kernel
theorem dX10_clashes_75 : decode cX10_clashes 75 = .ok (.iaload, 1) := by decide +kernel
theorem dX10_clashes_76 : decode cX10_clashes 76 = .ok (.isub, 1) := by decide +kernel
theorem dX10_clashes_77 : decode cX10_clashes 77 = .ok (.istore 4, 2) := by decide +kernel
theorem dX10_clashes_79 : decode cX10_clashes 79 = .ok (.aload_n 0, 1) := by decide +kernel
theorem dX10_clashes_80 : decode cX10_clashes 80 = .ok (.getfield 72, 3) := by decide +kernel
theorem dX10_clashes_83 : decode cX10_clashes 83 = .ok (.iconst 3, 1) := by decide +kernel
theorem dX10_clashes_84 : decode cX10_clashes 84 = .ok (.iload_n 1, 1) := by decide +kernel
theorem dX10_clashes_85 : decode cX10_clashes 85 = .ok (.imul, 1) := by decide +kernel
theorem dX10_clashes_86 : decode cX10_clashes 86 = .ok (.iconst 2, 1) := by decide +kernel
theorem dX10_clashes_87 : decode cX10_clashes 87 = .ok (.iadd, 1) := by decide +kernel
theorem dX10_clashes_88 : decode cX10_clashes 88 = .ok (.iaload, 1) := by decide +kernel
theorem dX10_clashes_89 : decode cX10_clashes 89 = .ok (.aload_n 0, 1) := by decide +kernel
theorem dX10_clashes_90 : decode cX10_clashes 90 = .ok (.getfield 72, 3) := by decide +kernel
theorem dX10_clashes_93 : decode cX10_clashes 93 = .ok (.iconst 3, 1) := by decide +kernel
theorem dX10_clashes_94 : decode cX10_clashes 94 = .ok (.iload_n 2, 1) := by decide +kernel
theorem dX10_clashes_95 : decode cX10_clashes 95 = .ok (.imul, 1) := by decide +kernel
theorem dX10_clashes_96 : decode cX10_clashes 96 = .ok (.iconst 2, 1) := by decide +kernel
theorem dX10_clashes_97 : decode cX10_clashes 97 = .ok (.iadd, 1) := by decide +kernel
theorem dX10_clashes_98 : decode cX10_clashes 98 = .ok (.iaload, 1) := by decide +kernel
theorem dX10_clashes_99 : decode cX10_clashes 99 = .ok (.isub, 1) := by decide +kernel
theorem dX10_clashes_100 : decode cX10_clashes 100 = .ok (.istore 5, 2) := by decide +kernel
theorem dX10_clashes_102 : decode cX10_clashes 102 = .ok (.iconst 0, 1) := by decide +kernel
theorem dX10_clashes_103 : decode cX10_clashes 103 = .ok (.istore 6, 2) := by decide +kernel
theorem dX10_clashes_105 : decode cX10_clashes 105 = .ok (.iconst 0, 1) := by decide +kernel
theorem dX10_clashes_106 : decode cX10_clashes 106 = .ok (.istore 7, 2) := by decide +kernel
theorem dX10_clashes_108 : decode cX10_clashes 108 = .ok (.iload 7, 2) := by decide +kernel
theorem dX10_clashes_110 : decode cX10_clashes 110 = .ok (.sipush 512, 3) := by decide +kernel
theorem dX10_clashes_113 : decode cX10_clashes 113 = .ok (.if_icmp .ge 70, 3) := by decide +kernel
theorem dX10_clashes_116 : decode cX10_clashes 116 = .ok (.iload 7, 2) := by decide +kernel
theorem dX10_clashes_118 : decode cX10_clashes 118 = .ok (.iconst 0, 1) := by decide +kernel
theorem dX10_clashes_119 : decode cX10_clashes 119 = .ok (.invokestatic 177, 3) := by decide +kernel
theorem dX10_clashes_122 : decode cX10_clashes 122 = .ok (.iload_n 3, 1) := by decide +kernel
theorem dX10_clashes_123 : decode cX10_clashes 123 = .ok (.iadd, 1) := by decide +kernel
theorem dX10_clashes_124 : decode cX10_clashes 124 = .ok (.iload 7, 2) := by decide +kernel
theorem dX10_clashes_126 : decode cX10_clashes 126 = .ok (.iconst 1, 1) := by decide +kernel
theorem dX10_clashes_127 : decode cX10_clashes 127 = .ok (.invokestatic 177, 3) := by decide +kernel
theorem dX10_clashes_130 : decode cX10_clashes 130 = .ok (.iload 4, 2) := by decide +kernel
theorem dX10_clashes_132 : decode cX10_clashes 132 = .ok (.iadd, 1) := by decide +kernel
theorem dX10_clashes_133 : decode cX10_clashes 133 = .ok (.iload 7, 2) := by decide +kernel
theorem dX10_clashes_135 : decode cX10_clashes 135 = .ok (.iconst 2, 1) := by decide +kernel
theorem dX10_clashes_136 : decode cX10_clashes 136 = .ok (.invokestatic 177, 3) := by decide +kernel
theorem dX10_clashes_139 : decode cX10_clashes 139 = .ok (.iload 5, 2) := by decide +kernel
theorem dX10_clashes_141 : decode cX10_clashes 141 = .ok (.iadd, 1) := by decide +kernel
theorem dX10_clashes_142 : decode cX10_clashes 142 = .ok (.invokestatic 180, 3) := by decide +kernel
theorem dX10_clashes_145 : decode cX10_clashes 145 = .ok (.istore 8, 2) := by decide +kernel
theorem dX10_clashes_147 : decode cX10_clashes 147 = .ok (.iload 6, 2) := by decide +kernel
theorem dX10_clashes_149 : decode cX10_clashes 149 = .ok (.aload_n 0, 1) := by decide +kernel
theorem dX10_clashes_150 : decode cX10_clashes 150 = .ok (.iload_n 1, 1) := by decide +kernel
theorem dX10_clashes_151 : decode cX10_clashes 151 = .ok (.iload 7, 2) := by decide +kernel
theorem dX10_clashes_153 : decode cX10_clashes 153 = .ok (.invokevirtual 246, 3) := by decide +kernel
theorem dX10_clashes_156 : decode cX10_clashes 156 = .ok (.ifCond .eq 17, 3) := by decide +kernel
theorem dX10_clashes_159 : decode cX10_clashes 159 = .ok (.aload_n 0, 1) := by decide +kernel
theorem dX10_clashes_160 : decode cX10_clashes 160 = .ok (.iload_n 2, 1) := by decide +kernel
theorem dX10_clashes_161 : decode cX10_clashes 161 = .ok (.iload 8, 2) := by decide +kernel
theorem dX10_clashes_163 : decode cX10_clashes 163 = .ok (.invokevirtual 246, 3) := by decide +kernel
theorem dX10_clashes_166 : decode cX10_clashes 166 = .ok (.ifCond .eq 7, 3) := by decide +kernel
theorem dX10_clashes_169 : decode cX10_clashes 169 = .ok (.iconst 1, 1) := by decide +kernel
theorem dX10_clashes_170 : decode cX10_clashes 170 = .ok (.goto 4, 3) := by decide +kernel
theorem dX10_clashes_173 : decode cX10_clashes 173 = .ok (.iconst 0, 1) := by decide +kernel
theorem dX10_clashes_174 : decode cX10_clashes 174 = .ok (.iadd, 1) := by decide +kernel
theorem dX10_clashes_175 : decode cX10_clashes 175 = .ok (.istore 6, 2) := by decide +kernel
theorem dX10_clashes_177 : decode cX10_clashes 177 = .ok (.iinc 7 1, 3) := by decide +kernel
theorem dX10_clashes_180 : decode cX10_clashes 180 = .ok (.goto (-72), 3) := by decide +kernel
theorem dX10_clashes_183 : decode cX10_clashes 183 = .ok (.iload 6, 2) := by decide +kernel
theorem dX10_clashes_185 : decode cX10_clashes 185 = .ok (.ireturn, 1) := by decide +kernel
theorem dX10_depthAt_0 : decode cX10_depthAt 0 = .ok (.iconst 0, 1) := by decide +kernel
theorem dX10_depthAt_1 : decode cX10_depthAt 1 = .ok (.istore 5, 2) := by decide +kernel
theorem dX10_depthAt_3 : decode cX10_depthAt 3 = .ok (.iload 5, 2) := by decide +kernel
theorem dX10_depthAt_5 : decode cX10_depthAt 5 = .ok (.bipush 8, 2) := by decide +kernel
theorem dX10_depthAt_7 : decode cX10_depthAt 7 = .ok (.if_icmp .ge 79, 3) := by decide +kernel
theorem dX10_depthAt_10 : decode cX10_depthAt 10 = .ok (.iload_n 2, 1) := by decide +kernel
theorem dX10_depthAt_11 : decode cX10_depthAt 11 = .ok (.ifCond .eq 8, 3) := by decide +kernel
theorem dX10_depthAt_14 : decode cX10_depthAt 14 = .ok (.iload 5, 2) := by decide +kernel
theorem dX10_depthAt_16 : decode cX10_depthAt 16 = .ok (.goto 8, 3) := by decide +kernel
theorem dX10_depthAt_19 : decode cX10_depthAt 19 = .ok (.bipush 7, 2) := by decide +kernel
theorem dX10_depthAt_21 : decode cX10_depthAt 21 = .ok (.iload 5, 2) := by decide +kernel
theorem dX10_depthAt_23 : decode cX10_depthAt 23 = .ok (.isub, 1) := by decide +kernel
theorem dX10_depthAt_24 : decode cX10_depthAt 24 = .ok (.istore 6, 2) := by decide +kernel
theorem dX10_depthAt_26 : decode cX10_depthAt 26 = .ok (.iload_n 1, 1) := by decide +kernel
theorem dX10_depthAt_27 : decode cX10_depthAt 27 = .ok (.ifCond .ne 14, 3) := by decide +kernel
theorem dX10_depthAt_30 : decode cX10_depthAt 30 = .ok (.iload 6, 2) := by decide +kernel
theorem dX10_depthAt_32 : decode cX10_depthAt 32 = .ok (.iload_n 3, 1) := by decide +kernel
theorem dX10_depthAt_33 : decode cX10_depthAt 33 = .ok (.iload 4, 2) := by decide +kernel
theorem dX10_depthAt_35 : decode cX10_depthAt 35 = .ok (.invokestatic 180, 3) := by decide +kernel
theorem dX10_depthAt_38 : decode cX10_depthAt 38 = .ok (.goto 27, 3) := by decide +kernel
theorem dX10_depthAt_41 : decode cX10_depthAt 41 = .ok (.iload_n 1, 1) := by decide +kernel
theorem dX10_depthAt_42 : decode cX10_depthAt 42 = .ok (.iconst 1, 1) := by decide +kernel
theorem dX10_depthAt_43 : decode cX10_depthAt 43 = .ok (.if_icmp .ne 14, 3) := by decide +kernel
theorem dX10_depthAt_46 : decode cX10_depthAt 46 = .ok (.iload_n 3, 1) := by decide +kernel
theorem dX10_depthAt_47 : decode cX10_depthAt 47 = .ok (.iload 6, 2) := by decide +kernel
theorem dX10_depthAt_49 : decode cX10_depthAt 49 = .ok (.iload 4, 2) := by decide +kernel
theorem dX10_depthAt_51 : decode cX10_depthAt 51 = .ok (.invokestatic 180, 3) := by decide +kernel
theorem dX10_depthAt_54 : decode cX10_depthAt 54 = .ok (.goto 11, 3) := by decide +kernel
theorem dX10_depthAt_57 : decode cX10_depthAt 57 = .ok (.iload_n 3, 1) := by decide +kernel
theorem dX10_depthAt_58 : decode cX10_depthAt 58 = .ok (.iload 4, 2) := by decide +kernel
theorem dX10_depthAt_60 : decode cX10_depthAt 60 = .ok (.iload 6, 2) := by decide +kernel
theorem dX10_depthAt_62 : decode cX10_depthAt 62 = .ok (.invokestatic 180, 3) := by decide +kernel
theorem dX10_depthAt_65 : decode cX10_depthAt 65 = .ok (.istore 7, 2) := by decide +kernel
theorem dX10_depthAt_67 : decode cX10_depthAt 67 = .ok (.aload_n 0, 1) := by decide +kernel
theorem dX10_depthAt_68 : decode cX10_depthAt 68 = .ok (.getfield 54, 3) := by decide +kernel
theorem dX10_depthAt_71 : decode cX10_depthAt 71 = .ok (.iload 7, 2) := by decide +kernel
theorem dX10_depthAt_73 : decode cX10_depthAt 73 = .ok (.baload, 1) := by decide +kernel
theorem dX10_depthAt_74 : decode cX10_depthAt 74 = .ok (.ifCond .eq 6, 3) := by decide +kernel
theorem dX10_depthAt_77 : decode cX10_depthAt 77 = .ok (.iload 5, 2) := by decide +kernel
theorem dX10_depthAt_79 : decode cX10_depthAt 79 = .ok (.ireturn, 1) := by decide +kernel
theorem dX10_depthAt_80 : decode cX10_depthAt 80 = .ok (.iinc 5 1, 3) := by decide +kernel
theorem dX10_depthAt_83 : decode cX10_depthAt 83 = .ok (.goto (-80), 3) := by decide +kernel
theorem dX10_depthAt_86 : decode cX10_depthAt 86 = .ok (.bipush 8, 2) := by decide +kernel
theorem dX10_depthAt_88 : decode cX10_depthAt 88 = .ok (.ireturn, 1) := by decide +kernel
theorem dX10_depth_0 : decode cX10_depth 0 = .ok (.aload_n 0, 1) := by decide +kernel
theorem dX10_depth_1 : decode cX10_depth 1 = .ok (.iconst 0, 1) := by decide +kernel
theorem dX10_depth_2 : decode cX10_depth 2 = .ok (.putfield 96, 3) := by decide +kernel
theorem dX10_depth_5 : decode cX10_depth 5 = .ok (.iload_n 1, 1) := by decide +kernel
theorem dX10_depth_6 : decode cX10_depth 6 = .ok (.iconst 0, 1) := by decide +kernel
theorem dX10_depth_7 : decode cX10_depth 7 = .ok (.iconst 2, 1) := by decide +kernel
theorem dX10_depth_8 : decode cX10_depth 8 = .ok (.invokestatic 100, 3) := by decide +kernel
theorem dX10_depth_11 : decode cX10_depth 11 = .ok (.ifCond .ne 9, 3) := by decide +kernel
theorem dX10_depth_14 : decode cX10_depth 14 = .ok (.aload_n 0, 1) := by decide +kernel
theorem dX10_depth_15 : decode cX10_depth 15 = .ok (.iconst 1, 1) := by decide +kernel
theorem dX10_depth_16 : decode cX10_depth 16 = .ok (.invokevirtual 112, 3) := by decide +kernel
theorem dX10_depth_19 : decode cX10_depth 19 = .ok (.ireturn, 1) := by decide +kernel
theorem dX10_depth_20 : decode cX10_depth 20 = .ok (.iload_n 3, 1) := by decide +kernel
theorem dX10_depth_21 : decode cX10_depth 21 = .ok (.iconst 0, 1) := by decide +kernel
theorem dX10_depth_22 : decode cX10_depth 22 = .ok (.bipush 7, 2) := by decide +kernel
theorem dX10_depth_24 : decode cX10_depth 24 = .ok (.invokestatic 100, 3) := by decide +kernel
theorem dX10_depth_27 : decode cX10_depth 27 = .ok (.ifCond .eq 26, 3) := by decide +kernel
theorem dX10_depth_30 : decode cX10_depth 30 = .ok (.iload 4, 2) := by decide +kernel
theorem dX10_depth_32 : decode cX10_depth 32 = .ok (.iconst 0, 1) := by decide +kernel
theorem dX10_depth_33 : decode cX10_depth 33 = .ok (.bipush 7, 2) := by decide +kernel
theorem dX10_depth_35 : decode cX10_depth 35 = .ok (.invokestatic 100, 3) := by decide +kernel
theorem dX10_depth_38 : decode cX10_depth 38 = .ok (.ifCond .eq 15, 3) := by decide +kernel
theorem dX10_depth_41 : decode cX10_depth 41 = .ok (.aload_n 0, 1) := by decide +kernel
theorem dX10_depth_42 : decode cX10_depth 42 = .ok (.iload_n 1, 1) := by decide +kernel
theorem dX10_depth_43 : decode cX10_depth 43 = .ok (.iload_n 2, 1) := by decide +kernel
theorem dX10_depth_44 : decode cX10_depth 44 = .ok (.iload_n 3, 1) := by decide +kernel
theorem dX10_depth_45 : decode cX10_depth 45 = .ok (.iload 4, 2) := by decide +kernel
theorem dX10_depth_47 : decode cX10_depth 47 = .ok (.invokevirtual 249, 3) := by decide +kernel
theorem dX10_depth_50 : decode cX10_depth 50 = .ok (.goto 8, 3) := by decide +kernel
theorem dX10_depth_53 : decode cX10_depth 53 = .ok (.aload_n 0, 1) := by decide +kernel
theorem dX10_depth_54 : decode cX10_depth 54 = .ok (.iconst 2, 1) := by decide +kernel
theorem dX10_depth_55 : decode cX10_depth 55 = .ok (.invokevirtual 112, 3) := by decide +kernel
theorem dX10_depth_58 : decode cX10_depth 58 = .ok (.ireturn, 1) := by decide +kernel
theorem dX10_lines_0 : decode cX10_lines 0 = .ok (.aload_n 0, 1) := by decide +kernel
theorem dX10_lines_1 : decode cX10_lines 1 = .ok (.iconst 0, 1) := by decide +kernel
theorem dX10_lines_2 : decode cX10_lines 2 = .ok (.putfield 96, 3) := by decide +kernel
theorem dX10_lines_5 : decode cX10_lines 5 = .ok (.iload_n 1, 1) := by decide +kernel
theorem dX10_lines_6 : decode cX10_lines 6 = .ok (.iconst 0, 1) := by decide +kernel
theorem dX10_lines_7 : decode cX10_lines 7 = .ok (.iconst 2, 1) := by decide +kernel
theorem dX10_lines_8 : decode cX10_lines 8 = .ok (.invokestatic 100, 3) := by decide +kernel
theorem dX10_lines_11 : decode cX10_lines 11 = .ok (.ifCond .ne 9, 3) := by decide +kernel
theorem dX10_lines_14 : decode cX10_lines 14 = .ok (.aload_n 0, 1) := by decide +kernel
theorem dX10_lines_15 : decode cX10_lines 15 = .ok (.iconst 1, 1) := by decide +kernel
theorem dX10_lines_16 : decode cX10_lines 16 = .ok (.invokevirtual 112, 3) := by decide +kernel
theorem dX10_lines_19 : decode cX10_lines 19 = .ok (.ireturn, 1) := by decide +kernel
theorem dX10_lines_20 : decode cX10_lines 20 = .ok (.iconst 0, 1) := by decide +kernel
theorem dX10_lines_21 : decode cX10_lines 21 = .ok (.istore_n 3, 1) := by decide +kernel
theorem dX10_lines_22 : decode cX10_lines 22 = .ok (.iconst 0, 1) := by decide +kernel
theorem dX10_lines_23 : decode cX10_lines 23 = .ok (.istore 4, 2) := by decide +kernel
theorem dX10_lines_25 : decode cX10_lines 25 = .ok (.iload 4, 2) := by decide +kernel
theorem dX10_lines_27 : decode cX10_lines 27 = .ok (.bipush 8, 2) := by decide +kernel
theorem dX10_lines_29 : decode cX10_lines 29 = .ok (.if_icmp .ge 166, 3) := by decide +kernel
theorem dX10_lines_32 : decode cX10_lines 32 = .ok (.iconst 0, 1) := by decide +kernel
theorem dX10_lines_33 : decode cX10_lines 33 = .ok (.istore 5, 2) := by decide +kernel
theorem dX10_lines_35 : decode cX10_lines 35 = .ok (.iload 5, 2) := by decide +kernel
theorem dX10_lines_37 : decode cX10_lines 37 = .ok (.bipush 8, 2) := by decide +kernel
theorem dX10_lines_39 : decode cX10_lines 39 = .ok (.if_icmp .ge 150, 3) := by decide +kernel
theorem dX10_lines_42 : decode cX10_lines 42 = .ok (.aload_n 0, 1) := by decide +kernel
theorem dX10_lines_43 : decode cX10_lines 43 = .ok (.iload_n 1, 1) := by decide +kernel
theorem dX10_lines_44 : decode cX10_lines 44 = .ok (.iload_n 2, 1) := by decide +kernel
theorem dX10_lines_45 : decode cX10_lines 45 = .ok (.iload 4, 2) := by decide +kernel
theorem dX10_lines_47 : decode cX10_lines 47 = .ok (.iload 5, 2) := by decide +kernel
theorem dX10_lines_49 : decode cX10_lines 49 = .ok (.invokevirtual 249, 3) := by decide +kernel
theorem dX10_lines_52 : decode cX10_lines 52 = .ok (.istore 6, 2) := by decide +kernel
theorem dX10_lines_54 : decode cX10_lines 54 = .ok (.iload_n 3, 1) := by decide +kernel
theorem dX10_lines_55 : decode cX10_lines 55 = .ok (.iload 4, 2) := by decide +kernel
theorem dX10_lines_57 : decode cX10_lines 57 = .ok (.bipush 7, 2) := by decide +kernel
theorem dX10_lines_59 : decode cX10_lines 59 = .ok (.if_icmp .ge 24, 3) := by decide +kernel
theorem dX10_lines_62 : decode cX10_lines 62 = .ok (.iload 6, 2) := by decide +kernel
theorem dX10_lines_64 : decode cX10_lines 64 = .ok (.aload_n 0, 1) := by decide +kernel
theorem dX10_lines_65 : decode cX10_lines 65 = .ok (.iload_n 1, 1) := by decide +kernel
theorem dX10_lines_66 : decode cX10_lines 66 = .ok (.iload_n 2, 1) := by decide +kernel
theorem dX10_lines_67 : decode cX10_lines 67 = .ok (.iload 4, 2) := by decide +kernel
theorem dX10_lines_69 : decode cX10_lines 69 = .ok (.iconst 1, 1) := by decide +kernel
theorem dX10_lines_70 : decode cX10_lines 70 = .ok (.iadd, 1) := by decide +kernel
theorem dX10_lines_71 : decode cX10_lines 71 = .ok (.iload 5, 2) := by decide +kernel
theorem dX10_lines_73 : decode cX10_lines 73 = .ok (.invokevirtual 249, 3) := by decide +kernel
theorem dX10_lines_76 : decode cX10_lines 76 = .ok (.if_icmp .eq 7, 3) := by decide +kernel
theorem dX10_lines_79 : decode cX10_lines 79 = .ok (.iconst 1, 1) := by decide +kernel
theorem dX10_lines_80 : decode cX10_lines 80 = .ok (.goto 4, 3) := by decide +kernel
theorem dX10_lines_83 : decode cX10_lines 83 = .ok (.iconst 0, 1) := by decide +kernel
theorem dX10_lines_84 : decode cX10_lines 84 = .ok (.iadd, 1) := by decide +kernel
theorem dX10_lines_85 : decode cX10_lines 85 = .ok (.istore_n 3, 1) := by decide +kernel
theorem dX10_lines_86 : decode cX10_lines 86 = .ok (.iload_n 3, 1) := by decide +kernel
theorem dX10_lines_87 : decode cX10_lines 87 = .ok (.iload 5, 2) := by decide +kernel
theorem dX10_lines_89 : decode cX10_lines 89 = .ok (.bipush 7, 2) := by decide +kernel
theorem dX10_lines_91 : decode cX10_lines 91 = .ok (.if_icmp .ge 24, 3) := by decide +kernel
theorem dX10_lines_94 : decode cX10_lines 94 = .ok (.iload 6, 2) := by decide +kernel
theorem dX10_lines_96 : decode cX10_lines 96 = .ok (.aload_n 0, 1) := by decide +kernel
theorem dX10_lines_97 : decode cX10_lines 97 = .ok (.iload_n 1, 1) := by decide +kernel
theorem dX10_lines_98 : decode cX10_lines 98 = .ok (.iload_n 2, 1) := by decide +kernel
theorem dX10_lines_99 : decode cX10_lines 99 = .ok (.iload 4, 2) := by decide +kernel
theorem dX10_lines_101 : decode cX10_lines 101 = .ok (.iload 5, 2) := by decide +kernel
theorem dX10_lines_103 : decode cX10_lines 103 = .ok (.iconst 1, 1) := by decide +kernel
theorem dX10_lines_104 : decode cX10_lines 104 = .ok (.iadd, 1) := by decide +kernel
theorem dX10_lines_105 : decode cX10_lines 105 = .ok (.invokevirtual 249, 3) := by decide +kernel
theorem dX10_lines_108 : decode cX10_lines 108 = .ok (.if_icmp .eq 7, 3) := by decide +kernel
theorem dX10_lines_111 : decode cX10_lines 111 = .ok (.iconst 1, 1) := by decide +kernel
theorem dX10_lines_112 : decode cX10_lines 112 = .ok (.goto 4, 3) := by decide +kernel
theorem dX10_lines_115 : decode cX10_lines 115 = .ok (.iconst 0, 1) := by decide +kernel
theorem dX10_lines_116 : decode cX10_lines 116 = .ok (.iadd, 1) := by decide +kernel
theorem dX10_lines_117 : decode cX10_lines 117 = .ok (.istore_n 3, 1) := by decide +kernel
theorem dX10_lines_118 : decode cX10_lines 118 = .ok (.iload 4, 2) := by decide +kernel
theorem dX10_lines_120 : decode cX10_lines 120 = .ok (.ifCond .ne 7, 3) := by decide +kernel
theorem dX10_lines_123 : decode cX10_lines 123 = .ok (.iconst 1, 1) := by decide +kernel
theorem dX10_lines_124 : decode cX10_lines 124 = .ok (.goto 4, 3) := by decide +kernel
theorem dX10_lines_127 : decode cX10_lines 127 = .ok (.iconst 0, 1) := by decide +kernel
theorem dX10_lines_128 : decode cX10_lines 128 = .ok (.iload 4, 2) := by decide +kernel
theorem dX10_lines_130 : decode cX10_lines 130 = .ok (.bipush 7, 2) := by decide +kernel
theorem dX10_lines_132 : decode cX10_lines 132 = .ok (.if_icmp .ne 7, 3) := by decide +kernel
theorem dX10_lines_135 : decode cX10_lines 135 = .ok (.iconst 1, 1) := by decide +kernel
theorem dX10_lines_136 : decode cX10_lines 136 = .ok (.goto 4, 3) := by decide +kernel
theorem dX10_lines_139 : decode cX10_lines 139 = .ok (.iconst 0, 1) := by decide +kernel
theorem dX10_lines_140 : decode cX10_lines 140 = .ok (.iadd, 1) := by decide +kernel
theorem dX10_lines_141 : decode cX10_lines 141 = .ok (.iload 5, 2) := by decide +kernel
theorem dX10_lines_143 : decode cX10_lines 143 = .ok (.ifCond .ne 7, 3) := by decide +kernel
theorem dX10_lines_146 : decode cX10_lines 146 = .ok (.iconst 1, 1) := by decide +kernel
theorem dX10_lines_147 : decode cX10_lines 147 = .ok (.goto 4, 3) := by decide +kernel
theorem dX10_lines_150 : decode cX10_lines 150 = .ok (.iconst 0, 1) := by decide +kernel
theorem dX10_lines_151 : decode cX10_lines 151 = .ok (.iadd, 1) := by decide +kernel
theorem dX10_lines_152 : decode cX10_lines 152 = .ok (.iload 5, 2) := by decide +kernel
theorem dX10_lines_154 : decode cX10_lines 154 = .ok (.bipush 7, 2) := by decide +kernel
theorem dX10_lines_156 : decode cX10_lines 156 = .ok (.if_icmp .ne 7, 3) := by decide +kernel
theorem dX10_lines_159 : decode cX10_lines 159 = .ok (.iconst 1, 1) := by decide +kernel
theorem dX10_lines_160 : decode cX10_lines 160 = .ok (.goto 4, 3) := by decide +kernel
theorem dX10_lines_163 : decode cX10_lines 163 = .ok (.iconst 0, 1) := by decide +kernel
theorem dX10_lines_164 : decode cX10_lines 164 = .ok (.iadd, 1) := by decide +kernel
theorem dX10_lines_165 : decode cX10_lines 165 = .ok (.istore 7, 2) := by decide +kernel
theorem dX10_lines_167 : decode cX10_lines 167 = .ok (.iload_n 3, 1) := by decide +kernel
theorem dX10_lines_168 : decode cX10_lines 168 = .ok (.iload 6, 2) := by decide +kernel
theorem dX10_lines_170 : decode cX10_lines 170 = .ok (.bipush 8, 2) := by decide +kernel
theorem dX10_lines_172 : decode cX10_lines 172 = .ok (.if_icmp .ge 8, 3) := by decide +kernel
theorem dX10_lines_175 : decode cX10_lines 175 = .ok (.iload 7, 2) := by decide +kernel
theorem dX10_lines_177 : decode cX10_lines 177 = .ok (.goto 4, 3) := by decide +kernel
theorem dX10_lines_180 : decode cX10_lines 180 = .ok (.iconst 0, 1) := by decide +kernel
theorem dX10_lines_181 : decode cX10_lines 181 = .ok (.iadd, 1) := by decide +kernel
theorem dX10_lines_182 : decode cX10_lines 182 = .ok (.istore_n 3, 1) := by decide +kernel
theorem dX10_lines_183 : decode cX10_lines 183 = .ok (.iinc 5 1, 3) := by decide +kernel
theorem dX10_lines_186 : decode cX10_lines 186 = .ok (.goto (-151), 3) := by decide +kernel
theorem dX10_lines_189 : decode cX10_lines 189 = .ok (.iinc 4 1, 3) := by decide +kernel
theorem dX10_lines_192 : decode cX10_lines 192 = .ok (.goto (-167), 3) := by decide +kernel
theorem dX10_lines_195 : decode cX10_lines 195 = .ok (.iload_n 3, 1) := by decide +kernel
theorem dX10_lines_196 : decode cX10_lines 196 = .ok (.ireturn, 1) := by decide +kernel
theorem dX10_isSound_0 : decode cX10_isSound 0 = .ok (.aload_n 0, 1) := by decide +kernel
theorem dX10_isSound_1 : decode cX10_isSound 1 = .ok (.iconst 0, 1) := by decide +kernel
theorem dX10_isSound_2 : decode cX10_isSound 2 = .ok (.putfield 96, 3) := by decide +kernel
theorem dX10_isSound_5 : decode cX10_isSound 5 = .ok (.iconst 1, 1) := by decide +kernel
theorem dX10_isSound_6 : decode cX10_isSound 6 = .ok (.ireturn, 1) := by decide +kernel
theorem dJx00060_init_a7421_0 : decode cJx00060_init_a7421 0 = .ok (.aload_n 0, 1) := by decide +kernel
theorem dJx00060_init_a7421_1 : decode cJx00060_init_a7421 1 = .ok (.aload_n 1, 1) := by decide +kernel
theorem dJx00060_init_a7421_2 : decode cJx00060_init_a7421 2 = .ok (.invokespecial 7, 3) := by decide +kernel
theorem dJx00060_init_a7421_5 : decode cJx00060_init_a7421 5 = .ok (.return_, 1) := by decide +kernel
theorem dJ11_isValidCodePoint_9a6ad_0 : decode cJ11_isValidCodePoint_9a6ad 0 = .ok (.iload_n 0, 1) := by decide +kernel
theorem dJ11_isValidCodePoint_9a6ad_1 : decode cJ11_isValidCodePoint_9a6ad 1 = .ok (.bipush 16, 2) := by decide +kernel
theorem dJ11_isValidCodePoint_9a6ad_3 : decode cJ11_isValidCodePoint_9a6ad 3 = .ok (.iushr, 1) := by decide +kernel
theorem dJ11_isValidCodePoint_9a6ad_4 : decode cJ11_isValidCodePoint_9a6ad 4 = .ok (.istore_n 1, 1) := by decide +kernel
theorem dJ11_isValidCodePoint_9a6ad_5 : decode cJ11_isValidCodePoint_9a6ad 5 = .ok (.iload_n 1, 1) := by decide +kernel
theorem dJ11_isValidCodePoint_9a6ad_6 : decode cJ11_isValidCodePoint_9a6ad 6 = .ok (.bipush 17, 2) := by decide +kernel
theorem dJ11_isValidCodePoint_9a6ad_8 : decode cJ11_isValidCodePoint_9a6ad 8 = .ok (.if_icmp .ge 7, 3) := by decide +kernel
theorem dJ11_isValidCodePoint_9a6ad_11 : decode cJ11_isValidCodePoint_9a6ad 11 = .ok (.iconst 1, 1) := by decide +kernel
theorem dJ11_isValidCodePoint_9a6ad_12 : decode cJ11_isValidCodePoint_9a6ad 12 = .ok (.goto 4, 3) := by decide +kernel
theorem dJ11_isValidCodePoint_9a6ad_15 : decode cJ11_isValidCodePoint_9a6ad 15 = .ok (.iconst 0, 1) := by decide +kernel
theorem dJ11_isValidCodePoint_9a6ad_16 : decode cJ11_isValidCodePoint_9a6ad 16 = .ok (.ireturn, 1) := by decide +kernel
theorem dJ11_highSurrogate_5068e_0 : decode cJ11_highSurrogate_5068e 0 = .ok (.iload_n 0, 1) := by decide +kernel
theorem dJ11_highSurrogate_5068e_1 : decode cJ11_highSurrogate_5068e 1 = .ok (.bipush 10, 2) := by decide +kernel
theorem dJ11_highSurrogate_5068e_3 : decode cJ11_highSurrogate_5068e 3 = .ok (.iushr, 1) := by decide +kernel
theorem dJ11_highSurrogate_5068e_4 : decode cJ11_highSurrogate_5068e 4 = .ok (.ldc 110, 2) := by decide +kernel
theorem dJ11_highSurrogate_5068e_6 : decode cJ11_highSurrogate_5068e 6 = .ok (.iadd, 1) := by decide +kernel
theorem dJ11_highSurrogate_5068e_7 : decode cJ11_highSurrogate_5068e 7 = .ok (.i2c, 1) := by decide +kernel
theorem dJ11_highSurrogate_5068e_8 : decode cJ11_highSurrogate_5068e 8 = .ok (.ireturn, 1) := by decide +kernel
theorem dJ11_lowSurrogate_5068e_0 : decode cJ11_lowSurrogate_5068e 0 = .ok (.iload_n 0, 1) := by decide +kernel
theorem dJ11_lowSurrogate_5068e_1 : decode cJ11_lowSurrogate_5068e 1 = .ok (.sipush 1023, 3) := by decide +kernel
theorem dJ11_lowSurrogate_5068e_4 : decode cJ11_lowSurrogate_5068e 4 = .ok (.iand, 1) := by decide +kernel
theorem dJ11_lowSurrogate_5068e_5 : decode cJ11_lowSurrogate_5068e 5 = .ok (.ldc 76, 2) := by decide +kernel
theorem dJ11_lowSurrogate_5068e_7 : decode cJ11_lowSurrogate_5068e 7 = .ok (.iadd, 1) := by decide +kernel
theorem dJ11_lowSurrogate_5068e_8 : decode cJ11_lowSurrogate_5068e 8 = .ok (.i2c, 1) := by decide +kernel
theorem dJ11_lowSurrogate_5068e_9 : decode cJ11_lowSurrogate_5068e 9 = .ok (.ireturn, 1) := by decide +kernel
theorem dJ6_bitCount_0f7a4_0 : decode cJ6_bitCount_0f7a4 0 = .ok (.iload_n 0, 1) := by decide +kernel
theorem dJ6_bitCount_0f7a4_1 : decode cJ6_bitCount_0f7a4 1 = .ok (.iload_n 0, 1) := by decide +kernel
theorem dJ6_bitCount_0f7a4_2 : decode cJ6_bitCount_0f7a4 2 = .ok (.iconst 1, 1) := by decide +kernel
theorem dJ6_bitCount_0f7a4_3 : decode cJ6_bitCount_0f7a4 3 = .ok (.iushr, 1) := by decide +kernel
theorem dJ6_bitCount_0f7a4_4 : decode cJ6_bitCount_0f7a4 4 = .ok (.ldc_w 265, 3) := by decide +kernel
theorem dJ6_bitCount_0f7a4_7 : decode cJ6_bitCount_0f7a4 7 = .ok (.iand, 1) := by decide +kernel
theorem dJ6_bitCount_0f7a4_8 : decode cJ6_bitCount_0f7a4 8 = .ok (.isub, 1) := by decide +kernel
theorem dJ6_bitCount_0f7a4_9 : decode cJ6_bitCount_0f7a4 9 = .ok (.istore_n 0, 1) := by decide +kernel
theorem dJ6_bitCount_0f7a4_10 : decode cJ6_bitCount_0f7a4 10 = .ok (.iload_n 0, 1) := by decide +kernel
theorem dJ6_bitCount_0f7a4_11 : decode cJ6_bitCount_0f7a4 11 = .ok (.ldc_w 266, 3) := by decide +kernel
theorem dJ6_bitCount_0f7a4_14 : decode cJ6_bitCount_0f7a4 14 = .ok (.iand, 1) := by decide +kernel
theorem dJ6_bitCount_0f7a4_15 : decode cJ6_bitCount_0f7a4 15 = .ok (.iload_n 0, 1) := by decide +kernel
theorem dJ6_bitCount_0f7a4_16 : decode cJ6_bitCount_0f7a4 16 = .ok (.iconst 2, 1) := by decide +kernel
theorem dJ6_bitCount_0f7a4_17 : decode cJ6_bitCount_0f7a4 17 = .ok (.iushr, 1) := by decide +kernel
theorem dJ6_bitCount_0f7a4_18 : decode cJ6_bitCount_0f7a4 18 = .ok (.ldc_w 266, 3) := by decide +kernel
theorem dJ6_bitCount_0f7a4_21 : decode cJ6_bitCount_0f7a4 21 = .ok (.iand, 1) := by decide +kernel
theorem dJ6_bitCount_0f7a4_22 : decode cJ6_bitCount_0f7a4 22 = .ok (.iadd, 1) := by decide +kernel
theorem dJ6_bitCount_0f7a4_23 : decode cJ6_bitCount_0f7a4 23 = .ok (.istore_n 0, 1) := by decide +kernel
theorem dJ6_bitCount_0f7a4_24 : decode cJ6_bitCount_0f7a4 24 = .ok (.iload_n 0, 1) := by decide +kernel
theorem dJ6_bitCount_0f7a4_25 : decode cJ6_bitCount_0f7a4 25 = .ok (.iload_n 0, 1) := by decide +kernel
theorem dJ6_bitCount_0f7a4_26 : decode cJ6_bitCount_0f7a4 26 = .ok (.iconst 4, 1) := by decide +kernel
theorem dJ6_bitCount_0f7a4_27 : decode cJ6_bitCount_0f7a4 27 = .ok (.iushr, 1) := by decide +kernel
theorem dJ6_bitCount_0f7a4_28 : decode cJ6_bitCount_0f7a4 28 = .ok (.iadd, 1) := by decide +kernel
theorem dJ6_bitCount_0f7a4_29 : decode cJ6_bitCount_0f7a4 29 = .ok (.ldc_w 267, 3) := by decide +kernel
theorem dJ6_bitCount_0f7a4_32 : decode cJ6_bitCount_0f7a4 32 = .ok (.iand, 1) := by decide +kernel
theorem dJ6_bitCount_0f7a4_33 : decode cJ6_bitCount_0f7a4 33 = .ok (.istore_n 0, 1) := by decide +kernel
theorem dJ6_bitCount_0f7a4_34 : decode cJ6_bitCount_0f7a4 34 = .ok (.iload_n 0, 1) := by decide +kernel
theorem dJ6_bitCount_0f7a4_35 : decode cJ6_bitCount_0f7a4 35 = .ok (.iload_n 0, 1) := by decide +kernel
theorem dJ6_bitCount_0f7a4_36 : decode cJ6_bitCount_0f7a4 36 = .ok (.bipush 8, 2) := by decide +kernel
theorem dJ6_bitCount_0f7a4_38 : decode cJ6_bitCount_0f7a4 38 = .ok (.iushr, 1) := by decide +kernel
theorem dJ6_bitCount_0f7a4_39 : decode cJ6_bitCount_0f7a4 39 = .ok (.iadd, 1) := by decide +kernel
theorem dJ6_bitCount_0f7a4_40 : decode cJ6_bitCount_0f7a4 40 = .ok (.istore_n 0, 1) := by decide +kernel
theorem dJ6_bitCount_0f7a4_41 : decode cJ6_bitCount_0f7a4 41 = .ok (.iload_n 0, 1) := by decide +kernel
theorem dJ6_bitCount_0f7a4_42 : decode cJ6_bitCount_0f7a4 42 = .ok (.iload_n 0, 1) := by decide +kernel
theorem dJ6_bitCount_0f7a4_43 : decode cJ6_bitCount_0f7a4 43 = .ok (.bipush 16, 2) := by decide +kernel
theorem dJ6_bitCount_0f7a4_45 : decode cJ6_bitCount_0f7a4 45 = .ok (.iushr, 1) := by decide +kernel
theorem dJ6_bitCount_0f7a4_46 : decode cJ6_bitCount_0f7a4 46 = .ok (.iadd, 1) := by decide +kernel
theorem dJ6_bitCount_0f7a4_47 : decode cJ6_bitCount_0f7a4 47 = .ok (.istore_n 0, 1) := by decide +kernel
theorem dJ6_bitCount_0f7a4_48 : decode cJ6_bitCount_0f7a4 48 = .ok (.iload_n 0, 1) := by decide +kernel
theorem dJ6_bitCount_0f7a4_49 : decode cJ6_bitCount_0f7a4 49 = .ok (.bipush 63, 2) := by decide +kernel
theorem dJ6_bitCount_0f7a4_51 : decode cJ6_bitCount_0f7a4 51 = .ok (.iand, 1) := by decide +kernel
theorem dJ6_bitCount_0f7a4_52 : decode cJ6_bitCount_0f7a4 52 = .ok (.ireturn, 1) := by decide +kernel
theorem dJ13_lowestOneBit_067f4_0 : decode cJ13_lowestOneBit_067f4 0 = .ok (.lload_n 0, 1) := by decide +kernel
theorem dJ13_lowestOneBit_067f4_1 : decode cJ13_lowestOneBit_067f4 1 = .ok (.lload_n 0, 1) := by decide +kernel
theorem dJ13_lowestOneBit_067f4_2 : decode cJ13_lowestOneBit_067f4 2 = .ok (.lneg, 1) := by decide +kernel
theorem dJ13_lowestOneBit_067f4_3 : decode cJ13_lowestOneBit_067f4 3 = .ok (.land, 1) := by decide +kernel
theorem dJ13_lowestOneBit_067f4_4 : decode cJ13_lowestOneBit_067f4 4 = .ok (.lreturn, 1) := by decide +kernel
theorem dJ13_bitCount_95d88_0 : decode cJ13_bitCount_95d88 0 = .ok (.lload_n 0, 1) := by decide +kernel
theorem dJ13_bitCount_95d88_1 : decode cJ13_bitCount_95d88 1 = .ok (.lload_n 0, 1) := by decide +kernel
theorem dJ13_bitCount_95d88_2 : decode cJ13_bitCount_95d88 2 = .ok (.iconst 1, 1) := by decide +kernel
theorem dJ13_bitCount_95d88_3 : decode cJ13_bitCount_95d88 3 = .ok (.lushr, 1) := by decide +kernel
theorem dJ13_bitCount_95d88_4 : decode cJ13_bitCount_95d88 4 = .ok (.ldc2_w 314, 3) := by decide +kernel
theorem dJ13_bitCount_95d88_7 : decode cJ13_bitCount_95d88 7 = .ok (.land, 1) := by decide +kernel
theorem dJ13_bitCount_95d88_8 : decode cJ13_bitCount_95d88 8 = .ok (.lsub, 1) := by decide +kernel
theorem dJ13_bitCount_95d88_9 : decode cJ13_bitCount_95d88 9 = .ok (.lstore_n 0, 1) := by decide +kernel
theorem dJ13_bitCount_95d88_10 : decode cJ13_bitCount_95d88 10 = .ok (.lload_n 0, 1) := by decide +kernel
theorem dJ13_bitCount_95d88_11 : decode cJ13_bitCount_95d88 11 = .ok (.ldc2_w 316, 3) := by decide +kernel
theorem dJ13_bitCount_95d88_14 : decode cJ13_bitCount_95d88 14 = .ok (.land, 1) := by decide +kernel
theorem dJ13_bitCount_95d88_15 : decode cJ13_bitCount_95d88 15 = .ok (.lload_n 0, 1) := by decide +kernel
theorem dJ13_bitCount_95d88_16 : decode cJ13_bitCount_95d88 16 = .ok (.iconst 2, 1) := by decide +kernel
theorem dJ13_bitCount_95d88_17 : decode cJ13_bitCount_95d88 17 = .ok (.lushr, 1) := by decide +kernel
theorem dJ13_bitCount_95d88_18 : decode cJ13_bitCount_95d88 18 = .ok (.ldc2_w 316, 3) := by decide +kernel
theorem dJ13_bitCount_95d88_21 : decode cJ13_bitCount_95d88 21 = .ok (.land, 1) := by decide +kernel
theorem dJ13_bitCount_95d88_22 : decode cJ13_bitCount_95d88 22 = .ok (.ladd, 1) := by decide +kernel
theorem dJ13_bitCount_95d88_23 : decode cJ13_bitCount_95d88 23 = .ok (.lstore_n 0, 1) := by decide +kernel
theorem dJ13_bitCount_95d88_24 : decode cJ13_bitCount_95d88 24 = .ok (.lload_n 0, 1) := by decide +kernel
theorem dJ13_bitCount_95d88_25 : decode cJ13_bitCount_95d88 25 = .ok (.lload_n 0, 1) := by decide +kernel
theorem dJ13_bitCount_95d88_26 : decode cJ13_bitCount_95d88 26 = .ok (.iconst 4, 1) := by decide +kernel
theorem dJ13_bitCount_95d88_27 : decode cJ13_bitCount_95d88 27 = .ok (.lushr, 1) := by decide +kernel
theorem dJ13_bitCount_95d88_28 : decode cJ13_bitCount_95d88 28 = .ok (.ladd, 1) := by decide +kernel
theorem dJ13_bitCount_95d88_29 : decode cJ13_bitCount_95d88 29 = .ok (.ldc2_w 318, 3) := by decide +kernel
theorem dJ13_bitCount_95d88_32 : decode cJ13_bitCount_95d88 32 = .ok (.land, 1) := by decide +kernel
theorem dJ13_bitCount_95d88_33 : decode cJ13_bitCount_95d88 33 = .ok (.lstore_n 0, 1) := by decide +kernel
theorem dJ13_bitCount_95d88_34 : decode cJ13_bitCount_95d88 34 = .ok (.lload_n 0, 1) := by decide +kernel
theorem dJ13_bitCount_95d88_35 : decode cJ13_bitCount_95d88 35 = .ok (.lload_n 0, 1) := by decide +kernel
theorem dJ13_bitCount_95d88_36 : decode cJ13_bitCount_95d88 36 = .ok (.bipush 8, 2) := by decide +kernel
theorem dJ13_bitCount_95d88_38 : decode cJ13_bitCount_95d88 38 = .ok (.lushr, 1) := by decide +kernel
theorem dJ13_bitCount_95d88_39 : decode cJ13_bitCount_95d88 39 = .ok (.ladd, 1) := by decide +kernel
theorem dJ13_bitCount_95d88_40 : decode cJ13_bitCount_95d88 40 = .ok (.lstore_n 0, 1) := by decide +kernel
theorem dJ13_bitCount_95d88_41 : decode cJ13_bitCount_95d88 41 = .ok (.lload_n 0, 1) := by decide +kernel
theorem dJ13_bitCount_95d88_42 : decode cJ13_bitCount_95d88 42 = .ok (.lload_n 0, 1) := by decide +kernel
theorem dJ13_bitCount_95d88_43 : decode cJ13_bitCount_95d88 43 = .ok (.bipush 16, 2) := by decide +kernel
theorem dJ13_bitCount_95d88_45 : decode cJ13_bitCount_95d88 45 = .ok (.lushr, 1) := by decide +kernel
theorem dJ13_bitCount_95d88_46 : decode cJ13_bitCount_95d88 46 = .ok (.ladd, 1) := by decide +kernel
theorem dJ13_bitCount_95d88_47 : decode cJ13_bitCount_95d88 47 = .ok (.lstore_n 0, 1) := by decide +kernel
theorem dJ13_bitCount_95d88_48 : decode cJ13_bitCount_95d88 48 = .ok (.lload_n 0, 1) := by decide +kernel
theorem dJ13_bitCount_95d88_49 : decode cJ13_bitCount_95d88 49 = .ok (.lload_n 0, 1) := by decide +kernel
theorem dJ13_bitCount_95d88_50 : decode cJ13_bitCount_95d88 50 = .ok (.bipush 32, 2) := by decide +kernel
theorem dJ13_bitCount_95d88_52 : decode cJ13_bitCount_95d88 52 = .ok (.lushr, 1) := by decide +kernel
theorem dJ13_bitCount_95d88_53 : decode cJ13_bitCount_95d88 53 = .ok (.ladd, 1) := by decide +kernel
theorem dJ13_bitCount_95d88_54 : decode cJ13_bitCount_95d88 54 = .ok (.lstore_n 0, 1) := by decide +kernel
theorem dJ13_bitCount_95d88_55 : decode cJ13_bitCount_95d88 55 = .ok (.lload_n 0, 1) := by decide +kernel
theorem dJ13_bitCount_95d88_56 : decode cJ13_bitCount_95d88 56 = .ok (.l2i, 1) := by decide +kernel
theorem dJ13_bitCount_95d88_57 : decode cJ13_bitCount_95d88 57 = .ok (.bipush 127, 2) := by decide +kernel
theorem dJ13_bitCount_95d88_59 : decode cJ13_bitCount_95d88 59 = .ok (.iand, 1) := by decide +kernel
theorem dJ13_bitCount_95d88_60 : decode cJ13_bitCount_95d88 60 = .ok (.ireturn, 1) := by decide +kernel
theorem dJ9_max_7cf53_0 : decode cJ9_max_7cf53 0 = .ok (.iload_n 0, 1) := by decide +kernel
theorem dJ9_max_7cf53_1 : decode cJ9_max_7cf53 1 = .ok (.iload_n 1, 1) := by decide +kernel
theorem dJ9_max_7cf53_2 : decode cJ9_max_7cf53 2 = .ok (.if_icmp .lt 7, 3) := by decide +kernel
theorem dJ9_max_7cf53_5 : decode cJ9_max_7cf53 5 = .ok (.iload_n 0, 1) := by decide +kernel
theorem dJ9_max_7cf53_6 : decode cJ9_max_7cf53 6 = .ok (.goto 4, 3) := by decide +kernel
theorem dJ9_max_7cf53_9 : decode cJ9_max_7cf53 9 = .ok (.iload_n 1, 1) := by decide +kernel
theorem dJ9_max_7cf53_10 : decode cJ9_max_7cf53 10 = .ok (.ireturn, 1) := by decide +kernel
theorem dJ9_min_7cf53_0 : decode cJ9_min_7cf53 0 = .ok (.iload_n 0, 1) := by decide +kernel
theorem dJ9_min_7cf53_1 : decode cJ9_min_7cf53 1 = .ok (.iload_n 1, 1) := by decide +kernel
theorem dJ9_min_7cf53_2 : decode cJ9_min_7cf53 2 = .ok (.if_icmp .gt 7, 3) := by decide +kernel
theorem dJ9_min_7cf53_5 : decode cJ9_min_7cf53 5 = .ok (.iload_n 0, 1) := by decide +kernel
theorem dJ9_min_7cf53_6 : decode cJ9_min_7cf53 6 = .ok (.goto 4, 3) := by decide +kernel
theorem dJ9_min_7cf53_9 : decode cJ9_min_7cf53 9 = .ok (.iload_n 1, 1) := by decide +kernel
theorem dJ9_min_7cf53_10 : decode cJ9_min_7cf53 10 = .ok (.ireturn, 1) := by decide +kernel
theorem dJ0_length_8abf5_0 : decode cJ0_length_8abf5 0 = .ok (.aload_n 0, 1) := by decide +kernel
theorem dJ0_length_8abf5_1 : decode cJ0_length_8abf5 1 = .ok (.getfield 9, 3) := by decide +kernel
theorem dJ0_length_8abf5_4 : decode cJ0_length_8abf5 4 = .ok (.arraylength, 1) := by decide +kernel
theorem dJ0_length_8abf5_5 : decode cJ0_length_8abf5 5 = .ok (.aload_n 0, 1) := by decide +kernel
theorem dJ0_length_8abf5_6 : decode cJ0_length_8abf5 6 = .ok (.invokevirtual 335, 3) := by decide +kernel
theorem dJ0_length_8abf5_9 : decode cJ0_length_8abf5 9 = .ok (.ishr, 1) := by decide +kernel
theorem dJ0_length_8abf5_10 : decode cJ0_length_8abf5 10 = .ok (.ireturn, 1) := by decide +kernel
theorem dJ0_indexOf_0f7a4_0 : decode cJ0_indexOf_0f7a4 0 = .ok (.aload_n 0, 1) := by decide +kernel
theorem dJ0_indexOf_0f7a4_1 : decode cJ0_indexOf_0f7a4 1 = .ok (.iload_n 1, 1) := by decide +kernel
theorem dJ0_indexOf_0f7a4_2 : decode cJ0_indexOf_0f7a4 2 = .ok (.iconst 0, 1) := by decide +kernel
theorem dJ0_indexOf_0f7a4_3 : decode cJ0_indexOf_0f7a4 3 = .ok (.invokevirtual 633, 3) := by decide +kernel
theorem dJ0_indexOf_0f7a4_6 : decode cJ0_indexOf_0f7a4 6 = .ok (.ireturn, 1) := by decide +kernel
theorem dJ0_indexOf_7cf53_0 : decode cJ0_indexOf_7cf53 0 = .ok (.aload_n 0, 1) := by decide +kernel
theorem dJ0_indexOf_7cf53_1 : decode cJ0_indexOf_7cf53 1 = .ok (.invokevirtual 492, 3) := by decide +kernel
theorem dJ0_indexOf_7cf53_4 : decode cJ0_indexOf_7cf53 4 = .ok (.ifCond .eq 19, 3) := by decide +kernel
theorem dJ0_indexOf_7cf53_7 : decode cJ0_indexOf_7cf53 7 = .ok (.aload_n 0, 1) := by decide +kernel
theorem dJ0_indexOf_7cf53_8 : decode cJ0_indexOf_7cf53 8 = .ok (.getfield 9, 3) := by decide +kernel
theorem dJ0_indexOf_7cf53_11 : decode cJ0_indexOf_7cf53 11 = .ok (.iload_n 1, 1) := by decide +kernel
theorem dJ0_indexOf_7cf53_12 : decode cJ0_indexOf_7cf53 12 = .ok (.iload_n 2, 1) := by decide +kernel
theorem dJ0_indexOf_7cf53_13 : decode cJ0_indexOf_7cf53 13 = .ok (.aload_n 0, 1) := by decide +kernel
theorem dJ0_indexOf_7cf53_14 : decode cJ0_indexOf_7cf53 14 = .ok (.invokevirtual 505, 3) := by decide +kernel
theorem dJ0_indexOf_7cf53_17 : decode cJ0_indexOf_7cf53 17 = .ok (.invokestatic 637, 3) := by decide +kernel
theorem dJ0_indexOf_7cf53_20 : decode cJ0_indexOf_7cf53 20 = .ok (.goto 16, 3) := by decide +kernel
theorem dJ0_indexOf_7cf53_23 : decode cJ0_indexOf_7cf53 23 = .ok (.aload_n 0, 1) := by decide +kernel
theorem dJ0_indexOf_7cf53_24 : decode cJ0_indexOf_7cf53 24 = .ok (.getfield 9, 3) := by decide +kernel
theorem dJ0_indexOf_7cf53_27 : decode cJ0_indexOf_7cf53 27 = .ok (.iload_n 1, 1) := by decide +kernel
theorem dJ0_indexOf_7cf53_28 : decode cJ0_indexOf_7cf53 28 = .ok (.iload_n 2, 1) := by decide +kernel
theorem dJ0_indexOf_7cf53_29 : decode cJ0_indexOf_7cf53 29 = .ok (.aload_n 0, 1) := by decide +kernel
theorem dJ0_indexOf_7cf53_30 : decode cJ0_indexOf_7cf53 30 = .ok (.invokevirtual 505, 3) := by decide +kernel
theorem dJ0_indexOf_7cf53_33 : decode cJ0_indexOf_7cf53 33 = .ok (.invokestatic 640, 3) := by decide +kernel
theorem dJ0_indexOf_7cf53_36 : decode cJ0_indexOf_7cf53 36 = .ok (.ireturn, 1) := by decide +kernel
theorem dJ0_coder_7d493_0 : decode cJ0_coder_7d493 0 = .ok (.getstatic 38, 3) := by decide +kernel
theorem dJ0_coder_7d493_3 : decode cJ0_coder_7d493 3 = .ok (.ifCond .eq 10, 3) := by decide +kernel
theorem dJ0_coder_7d493_6 : decode cJ0_coder_7d493 6 = .ok (.aload_n 0, 1) := by decide +kernel
theorem dJ0_coder_7d493_7 : decode cJ0_coder_7d493 7 = .ok (.getfield 15, 3) := by decide +kernel
theorem dJ0_coder_7d493_10 : decode cJ0_coder_7d493 10 = .ok (.goto 4, 3) := by decide +kernel
theorem dJ0_coder_7d493_13 : decode cJ0_coder_7d493 13 = .ok (.iconst 1, 1) := by decide +kernel
theorem dJ0_coder_7d493_14 : decode cJ0_coder_7d493 14 = .ok (.ireturn, 1) := by decide +kernel
theorem dJ0_isLatin1_aae02_0 : decode cJ0_isLatin1_aae02 0 = .ok (.getstatic 38, 3) := by decide +kernel
theorem dJ0_isLatin1_aae02_3 : decode cJ0_isLatin1_aae02 3 = .ok (.ifCond .eq 14, 3) := by decide +kernel
theorem dJ0_isLatin1_aae02_6 : decode cJ0_isLatin1_aae02 6 = .ok (.aload_n 0, 1) := by decide +kernel
theorem dJ0_isLatin1_aae02_7 : decode cJ0_isLatin1_aae02 7 = .ok (.getfield 15, 3) := by decide +kernel
theorem dJ0_isLatin1_aae02_10 : decode cJ0_isLatin1_aae02 10 = .ok (.ifCond .ne 7, 3) := by decide +kernel
theorem dJ0_isLatin1_aae02_13 : decode cJ0_isLatin1_aae02 13 = .ok (.iconst 1, 1) := by decide +kernel
theorem dJ0_isLatin1_aae02_14 : decode cJ0_isLatin1_aae02 14 = .ok (.goto 4, 3) := by decide +kernel
theorem dJ0_isLatin1_aae02_17 : decode cJ0_isLatin1_aae02 17 = .ok (.iconst 0, 1) := by decide +kernel
theorem dJ0_isLatin1_aae02_18 : decode cJ0_isLatin1_aae02 18 = .ok (.ireturn, 1) := by decide +kernel
theorem dJ0_checkBoundsBeginEnd_23922_0 : decode cJ0_checkBoundsBeginEnd_23922 0 = .ok (.iload_n 0, 1) := by decide +kernel
theorem dJ0_checkBoundsBeginEnd_23922_1 : decode cJ0_checkBoundsBeginEnd_23922 1 = .ok (.iload_n 1, 1) := by decide +kernel
theorem dJ0_checkBoundsBeginEnd_23922_2 : decode cJ0_checkBoundsBeginEnd_23922 2 = .ok (.iload_n 2, 1) := by decide +kernel
theorem dJ0_checkBoundsBeginEnd_23922_3 : decode cJ0_checkBoundsBeginEnd_23922 3 = .ok (.getstatic 1053, 3) := by decide +kernel
theorem dJ0_checkBoundsBeginEnd_23922_6 : decode cJ0_checkBoundsBeginEnd_23922 6 = .ok (.invokestatic 1062, 3) := by decide +kernel
theorem dJ0_checkBoundsBeginEnd_23922_9 : decode cJ0_checkBoundsBeginEnd_23922 9 = .ok (.pop, 1) := by decide +kernel
theorem dJ0_checkBoundsBeginEnd_23922_10 : decode cJ0_checkBoundsBeginEnd_23922 10 = .ok (.return_, 1) := by decide +kernel
theorem dJ1_canEncode_9a6ad_0 : decode cJ1_canEncode_9a6ad 0 = .ok (.iload_n 0, 1) := by decide +kernel
theorem dJ1_canEncode_9a6ad_1 : decode cJ1_canEncode_9a6ad 1 = .ok (.ifCond .lt 14, 3) := by decide +kernel
theorem dJ1_canEncode_9a6ad_4 : decode cJ1_canEncode_9a6ad 4 = .ok (.iload_n 0, 1) := by decide +kernel
theorem dJ1_canEncode_9a6ad_5 : decode cJ1_canEncode_9a6ad 5 = .ok (.sipush 255, 3) := by decide +kernel
theorem dJ1_canEncode_9a6ad_8 : decode cJ1_canEncode_9a6ad 8 = .ok (.if_icmp .gt 7, 3) := by decide +kernel
theorem dJ1_canEncode_9a6ad_11 : decode cJ1_canEncode_9a6ad 11 = .ok (.iconst 1, 1) := by decide +kernel
theorem dJ1_canEncode_9a6ad_12 : decode cJ1_canEncode_9a6ad 12 = .ok (.goto 4, 3) := by decide +kernel
theorem dJ1_canEncode_9a6ad_15 : decode cJ1_canEncode_9a6ad 15 = .ok (.iconst 0, 1) := by decide +kernel
theorem dJ1_canEncode_9a6ad_16 : decode cJ1_canEncode_9a6ad 16 = .ok (.ireturn, 1) := by decide +kernel
theorem dJ1_indexOf_4cfef_0 : decode cJ1_indexOf_4cfef 0 = .ok (.iload_n 1, 1) := by decide +kernel
theorem dJ1_indexOf_4cfef_1 : decode cJ1_indexOf_4cfef 1 = .ok (.invokestatic 88, 3) := by decide +kernel
theorem dJ1_indexOf_4cfef_4 : decode cJ1_indexOf_4cfef 4 = .ok (.ifCond .ne 5, 3) := by decide +kernel
theorem dJ1_indexOf_4cfef_7 : decode cJ1_indexOf_4cfef 7 = .ok (.iconst (-1), 1) := by decide +kernel
theorem dJ1_indexOf_4cfef_8 : decode cJ1_indexOf_4cfef 8 = .ok (.ireturn, 1) := by decide +kernel
theorem dJ1_indexOf_4cfef_9 : decode cJ1_indexOf_4cfef 9 = .ok (.iload_n 2, 1) := by decide +kernel
theorem dJ1_indexOf_4cfef_10 : decode cJ1_indexOf_4cfef 10 = .ok (.iconst 0, 1) := by decide +kernel
theorem dJ1_indexOf_4cfef_11 : decode cJ1_indexOf_4cfef 11 = .ok (.invokestatic 92, 3) := by decide +kernel
theorem dJ1_indexOf_4cfef_14 : decode cJ1_indexOf_4cfef 14 = .ok (.istore_n 2, 1) := by decide +kernel
theorem dJ1_indexOf_4cfef_15 : decode cJ1_indexOf_4cfef 15 = .ok (.iload_n 3, 1) := by decide +kernel
theorem dJ1_indexOf_4cfef_16 : decode cJ1_indexOf_4cfef 16 = .ok (.aload_n 0, 1) := by decide +kernel
theorem dJ1_indexOf_4cfef_17 : decode cJ1_indexOf_4cfef 17 = .ok (.arraylength, 1) := by decide +kernel
theorem dJ1_indexOf_4cfef_18 : decode cJ1_indexOf_4cfef 18 = .ok (.invokestatic 38, 3) := by decide +kernel
theorem dJ1_indexOf_4cfef_21 : decode cJ1_indexOf_4cfef 21 = .ok (.istore_n 3, 1) := by decide +kernel
theorem dJ1_indexOf_4cfef_22 : decode cJ1_indexOf_4cfef 22 = .ok (.iload_n 2, 1) := by decide +kernel
theorem dJ1_indexOf_4cfef_23 : decode cJ1_indexOf_4cfef 23 = .ok (.iload_n 3, 1) := by decide +kernel
theorem dJ1_indexOf_4cfef_24 : decode cJ1_indexOf_4cfef 24 = .ok (.if_icmp .lt 5, 3) := by decide +kernel
theorem dJ1_indexOf_4cfef_27 : decode cJ1_indexOf_4cfef 27 = .ok (.iconst (-1), 1) := by decide +kernel
theorem dJ1_indexOf_4cfef_28 : decode cJ1_indexOf_4cfef 28 = .ok (.ireturn, 1) := by decide +kernel
theorem dJ1_indexOf_4cfef_29 : decode cJ1_indexOf_4cfef 29 = .ok (.aload_n 0, 1) := by decide +kernel
theorem dJ1_indexOf_4cfef_30 : decode cJ1_indexOf_4cfef 30 = .ok (.iload_n 1, 1) := by decide +kernel
theorem dJ1_indexOf_4cfef_31 : decode cJ1_indexOf_4cfef 31 = .ok (.iload_n 2, 1) := by decide +kernel
theorem dJ1_indexOf_4cfef_32 : decode cJ1_indexOf_4cfef 32 = .ok (.iload_n 3, 1) := by decide +kernel
theorem dJ1_indexOf_4cfef_33 : decode cJ1_indexOf_4cfef 33 = .ok (.invokestatic 95, 3) := by decide +kernel
theorem dJ1_indexOf_4cfef_36 : decode cJ1_indexOf_4cfef 36 = .ok (.ireturn, 1) := by decide +kernel
theorem dJ1_indexOfChar_4cfef_0 : decode cJ1_indexOfChar_4cfef 0 = .ok (.iload_n 1, 1) := by decide +kernel
theorem dJ1_indexOfChar_4cfef_1 : decode cJ1_indexOfChar_4cfef 1 = .ok (.i2b, 1) := by decide +kernel
theorem dJ1_indexOfChar_4cfef_2 : decode cJ1_indexOfChar_4cfef 2 = .ok (.istore 4, 2) := by decide +kernel
theorem dJ1_indexOfChar_4cfef_4 : decode cJ1_indexOfChar_4cfef 4 = .ok (.iload_n 2, 1) := by decide +kernel
theorem dJ1_indexOfChar_4cfef_5 : decode cJ1_indexOfChar_4cfef 5 = .ok (.istore 5, 2) := by decide +kernel
theorem dJ1_indexOfChar_4cfef_7 : decode cJ1_indexOfChar_4cfef 7 = .ok (.iload 5, 2) := by decide +kernel
theorem dJ1_indexOfChar_4cfef_9 : decode cJ1_indexOfChar_4cfef 9 = .ok (.iload_n 3, 1) := by decide +kernel
theorem dJ1_indexOfChar_4cfef_10 : decode cJ1_indexOfChar_4cfef 10 = .ok (.if_icmp .ge 21, 3) := by decide +kernel
theorem dJ1_indexOfChar_4cfef_13 : decode cJ1_indexOfChar_4cfef 13 = .ok (.aload_n 0, 1) := by decide +kernel
theorem dJ1_indexOfChar_4cfef_14 : decode cJ1_indexOfChar_4cfef 14 = .ok (.iload 5, 2) := by decide +kernel
theorem dJ1_indexOfChar_4cfef_16 : decode cJ1_indexOfChar_4cfef 16 = .ok (.baload, 1) := by decide +kernel
theorem dJ1_indexOfChar_4cfef_17 : decode cJ1_indexOfChar_4cfef 17 = .ok (.iload 4, 2) := by decide +kernel
theorem dJ1_indexOfChar_4cfef_19 : decode cJ1_indexOfChar_4cfef 19 = .ok (.if_icmp .ne 6, 3) := by decide +kernel
theorem dJ1_indexOfChar_4cfef_22 : decode cJ1_indexOfChar_4cfef 22 = .ok (.iload 5, 2) := by decide +kernel
theorem dJ1_indexOfChar_4cfef_24 : decode cJ1_indexOfChar_4cfef 24 = .ok (.ireturn, 1) := by decide +kernel
theorem dJ1_indexOfChar_4cfef_25 : decode cJ1_indexOfChar_4cfef 25 = .ok (.iinc 5 1, 3) := by decide +kernel
theorem dJ1_indexOfChar_4cfef_28 : decode cJ1_indexOfChar_4cfef 28 = .ok (.goto (-21), 3) := by decide +kernel
theorem dJ1_indexOfChar_4cfef_31 : decode cJ1_indexOfChar_4cfef 31 = .ok (.iconst (-1), 1) := by decide +kernel
theorem dJ1_indexOfChar_4cfef_32 : decode cJ1_indexOfChar_4cfef 32 = .ok (.ireturn, 1) := by decide +kernel
theorem dJ2_getChar_3b067_0 : decode cJ2_getChar_3b067 0 = .ok (.getstatic 44, 3) := by decide +kernel
theorem dJ2_getChar_3b067_3 : decode cJ2_getChar_3b067 3 = .ok (.ifCond .ne 25, 3) := by decide +kernel
theorem dJ2_getChar_3b067_6 : decode cJ2_getChar_3b067 6 = .ok (.iload_n 1, 1) := by decide +kernel
theorem dJ2_getChar_3b067_7 : decode cJ2_getChar_3b067 7 = .ok (.ifCond .lt 11, 3) := by decide +kernel
theorem dJ2_getChar_3b067_10 : decode cJ2_getChar_3b067 10 = .ok (.iload_n 1, 1) := by decide +kernel
theorem dJ2_getChar_3b067_11 : decode cJ2_getChar_3b067 11 = .ok (.aload_n 0, 1) := by decide +kernel
theorem dJ2_getChar_3b067_12 : decode cJ2_getChar_3b067 12 = .ok (.invokestatic 48, 3) := by decide +kernel
theorem dJ2_getChar_3b067_15 : decode cJ2_getChar_3b067 15 = .ok (.if_icmp .lt 13, 3) := by decide +kernel
theorem dJ2_getChar_3b067_18 : decode cJ2_getChar_3b067 18 = .ok (.new 52, 3) := by decide +kernel
theorem dJ2_getChar_3b067_21 : decode cJ2_getChar_3b067 21 = .ok (.dup, 1) := by decide +kernel
theorem dJ2_getChar_3b067_22 : decode cJ2_getChar_3b067 22 = .ok (.ldc 54, 2) := by decide +kernel
theorem dJ2_getChar_3b067_24 : decode cJ2_getChar_3b067 24 = .ok (.invokespecial 56, 3) := by decide +kernel
theorem dJ2_getChar_3b067_27 : decode cJ2_getChar_3b067 27 = .ok (.athrow, 1) := by decide +kernel
theorem dJ2_getChar_3b067_28 : decode cJ2_getChar_3b067 28 = .ok (.iload_n 1, 1) := by decide +kernel
theorem dJ2_getChar_3b067_29 : decode cJ2_getChar_3b067 29 = .ok (.iconst 1, 1) := by decide +kernel
theorem dJ2_getChar_3b067_30 : decode cJ2_getChar_3b067 30 = .ok (.ishl, 1) := by decide +kernel
theorem dJ2_getChar_3b067_31 : decode cJ2_getChar_3b067 31 = .ok (.istore_n 1, 1) := by decide +kernel
theorem dJ2_getChar_3b067_32 : decode cJ2_getChar_3b067 32 = .ok (.aload_n 0, 1) := by decide +kernel
theorem dJ2_getChar_3b067_33 : decode cJ2_getChar_3b067 33 = .ok (.iload_n 1, 1) := by decide +kernel
theorem dJ2_getChar_3b067_34 : decode cJ2_getChar_3b067 34 = .ok (.iinc 1 1, 3) := by decide +kernel
theorem dJ2_getChar_3b067_37 : decode cJ2_getChar_3b067 37 = .ok (.baload, 1) := by decide +kernel
theorem dJ2_getChar_3b067_38 : decode cJ2_getChar_3b067 38 = .ok (.sipush 255, 3) := by decide +kernel
theorem dJ2_getChar_3b067_41 : decode cJ2_getChar_3b067 41 = .ok (.iand, 1) := by decide +kernel
theorem dJ2_getChar_3b067_42 : decode cJ2_getChar_3b067 42 = .ok (.getstatic 59, 3) := by decide +kernel
theorem dJ2_getChar_3b067_45 : decode cJ2_getChar_3b067 45 = .ok (.ishl, 1) := by decide +kernel
theorem dJ2_getChar_3b067_46 : decode cJ2_getChar_3b067 46 = .ok (.aload_n 0, 1) := by decide +kernel
theorem dJ2_getChar_3b067_47 : decode cJ2_getChar_3b067 47 = .ok (.iload_n 1, 1) := by decide +kernel
theorem dJ2_getChar_3b067_48 : decode cJ2_getChar_3b067 48 = .ok (.baload, 1) := by decide +kernel
theorem dJ2_getChar_3b067_49 : decode cJ2_getChar_3b067 49 = .ok (.sipush 255, 3) := by decide +kernel
theorem dJ2_getChar_3b067_52 : decode cJ2_getChar_3b067 52 = .ok (.iand, 1) := by decide +kernel
theorem dJ2_getChar_3b067_53 : decode cJ2_getChar_3b067 53 = .ok (.getstatic 63, 3) := by decide +kernel
theorem dJ2_getChar_3b067_56 : decode cJ2_getChar_3b067 56 = .ok (.ishl, 1) := by decide +kernel
theorem dJ2_getChar_3b067_57 : decode cJ2_getChar_3b067 57 = .ok (.ior, 1) := by decide +kernel
theorem dJ2_getChar_3b067_58 : decode cJ2_getChar_3b067 58 = .ok (.i2c, 1) := by decide +kernel
theorem dJ2_getChar_3b067_59 : decode cJ2_getChar_3b067 59 = .ok (.ireturn, 1) := by decide +kernel
theorem dJ2_length_9d52b_0 : decode cJ2_length_9d52b 0 = .ok (.aload_n 0, 1) := by decide +kernel
theorem dJ2_length_9d52b_1 : decode cJ2_length_9d52b 1 = .ok (.arraylength, 1) := by decide +kernel
theorem dJ2_length_9d52b_2 : decode cJ2_length_9d52b 2 = .ok (.iconst 1, 1) := by decide +kernel
theorem dJ2_length_9d52b_3 : decode cJ2_length_9d52b 3 = .ok (.ishr, 1) := by decide +kernel
theorem dJ2_length_9d52b_4 : decode cJ2_length_9d52b 4 = .ok (.ireturn, 1) := by decide +kernel
theorem dJ2_indexOf_4cfef_0 : decode cJ2_indexOf_4cfef 0 = .ok (.iload_n 2, 1) := by decide +kernel
theorem dJ2_indexOf_4cfef_1 : decode cJ2_indexOf_4cfef 1 = .ok (.iconst 0, 1) := by decide +kernel
theorem dJ2_indexOf_4cfef_2 : decode cJ2_indexOf_4cfef 2 = .ok (.invokestatic 224, 3) := by decide +kernel
theorem dJ2_indexOf_4cfef_5 : decode cJ2_indexOf_4cfef 5 = .ok (.istore_n 2, 1) := by decide +kernel
theorem dJ2_indexOf_4cfef_6 : decode cJ2_indexOf_4cfef 6 = .ok (.iload_n 3, 1) := by decide +kernel
theorem dJ2_indexOf_4cfef_7 : decode cJ2_indexOf_4cfef 7 = .ok (.aload_n 0, 1) := by decide +kernel
theorem dJ2_indexOf_4cfef_8 : decode cJ2_indexOf_4cfef 8 = .ok (.arraylength, 1) := by decide +kernel
theorem dJ2_indexOf_4cfef_9 : decode cJ2_indexOf_4cfef 9 = .ok (.iconst 1, 1) := by decide +kernel
theorem dJ2_indexOf_4cfef_10 : decode cJ2_indexOf_4cfef 10 = .ok (.ishr, 1) := by decide +kernel
theorem dJ2_indexOf_4cfef_11 : decode cJ2_indexOf_4cfef 11 = .ok (.invokestatic 183, 3) := by decide +kernel
theorem dJ2_indexOf_4cfef_14 : decode cJ2_indexOf_4cfef 14 = .ok (.istore_n 3, 1) := by decide +kernel
theorem dJ2_indexOf_4cfef_15 : decode cJ2_indexOf_4cfef 15 = .ok (.iload_n 2, 1) := by decide +kernel
theorem dJ2_indexOf_4cfef_16 : decode cJ2_indexOf_4cfef 16 = .ok (.iload_n 3, 1) := by decide +kernel
theorem dJ2_indexOf_4cfef_17 : decode cJ2_indexOf_4cfef 17 = .ok (.if_icmp .lt 5, 3) := by decide +kernel
theorem dJ2_indexOf_4cfef_20 : decode cJ2_indexOf_4cfef 20 = .ok (.iconst (-1), 1) := by decide +kernel
theorem dJ2_indexOf_4cfef_21 : decode cJ2_indexOf_4cfef 21 = .ok (.ireturn, 1) := by decide +kernel
theorem dJ2_indexOf_4cfef_22 : decode cJ2_indexOf_4cfef 22 = .ok (.iload_n 1, 1) := by decide +kernel
theorem dJ2_indexOf_4cfef_23 : decode cJ2_indexOf_4cfef 23 = .ok (.ldc 227, 2) := by decide +kernel
theorem dJ2_indexOf_4cfef_25 : decode cJ2_indexOf_4cfef 25 = .ok (.if_icmp .ge 11, 3) := by decide +kernel
theorem dJ2_indexOf_4cfef_28 : decode cJ2_indexOf_4cfef 28 = .ok (.aload_n 0, 1) := by decide +kernel
theorem dJ2_indexOf_4cfef_29 : decode cJ2_indexOf_4cfef 29 = .ok (.iload_n 1, 1) := by decide +kernel
theorem dJ2_indexOf_4cfef_30 : decode cJ2_indexOf_4cfef 30 = .ok (.iload_n 2, 1) := by decide +kernel
theorem dJ2_indexOf_4cfef_31 : decode cJ2_indexOf_4cfef 31 = .ok (.iload_n 3, 1) := by decide +kernel
theorem dJ2_indexOf_4cfef_32 : decode cJ2_indexOf_4cfef 32 = .ok (.invokestatic 228, 3) := by decide +kernel
theorem dJ2_indexOf_4cfef_35 : decode cJ2_indexOf_4cfef 35 = .ok (.ireturn, 1) := by decide +kernel
theorem dJ2_indexOf_4cfef_36 : decode cJ2_indexOf_4cfef 36 = .ok (.aload_n 0, 1) := by decide +kernel
theorem dJ2_indexOf_4cfef_37 : decode cJ2_indexOf_4cfef 37 = .ok (.iload_n 1, 1) := by decide +kernel
theorem dJ2_indexOf_4cfef_38 : decode cJ2_indexOf_4cfef 38 = .ok (.iload_n 2, 1) := by decide +kernel
theorem dJ2_indexOf_4cfef_39 : decode cJ2_indexOf_4cfef 39 = .ok (.iload_n 3, 1) := by decide +kernel
theorem dJ2_indexOf_4cfef_40 : decode cJ2_indexOf_4cfef 40 = .ok (.invokestatic 232, 3) := by decide +kernel
theorem dJ2_indexOf_4cfef_43 : decode cJ2_indexOf_4cfef 43 = .ok (.ireturn, 1) := by decide +kernel
theorem dJ2_indexOfChar_4cfef_0 : decode cJ2_indexOfChar_4cfef 0 = .ok (.iload_n 2, 1) := by decide +kernel
theorem dJ2_indexOfChar_4cfef_1 : decode cJ2_indexOfChar_4cfef 1 = .ok (.iload_n 3, 1) := by decide +kernel
theorem dJ2_indexOfChar_4cfef_2 : decode cJ2_indexOfChar_4cfef 2 = .ok (.aload_n 0, 1) := by decide +kernel
theorem dJ2_indexOfChar_4cfef_3 : decode cJ2_indexOfChar_4cfef 3 = .ok (.invokestatic 96, 3) := by decide +kernel
theorem dJ2_indexOfChar_4cfef_6 : decode cJ2_indexOfChar_4cfef 6 = .ok (.aload_n 0, 1) := by decide +kernel
theorem dJ2_indexOfChar_4cfef_7 : decode cJ2_indexOfChar_4cfef 7 = .ok (.iload_n 1, 1) := by decide +kernel
theorem dJ2_indexOfChar_4cfef_8 : decode cJ2_indexOfChar_4cfef 8 = .ok (.iload_n 2, 1) := by decide +kernel
theorem dJ2_indexOfChar_4cfef_9 : decode cJ2_indexOfChar_4cfef 9 = .ok (.iload_n 3, 1) := by decide +kernel
theorem dJ2_indexOfChar_4cfef_10 : decode cJ2_indexOfChar_4cfef 10 = .ok (.invokestatic 244, 3) := by decide +kernel
theorem dJ2_indexOfChar_4cfef_13 : decode cJ2_indexOfChar_4cfef 13 = .ok (.ireturn, 1) := by decide +kernel
theorem dJ2_indexOfCharUnsafe_4cfef_0 : decode cJ2_indexOfCharUnsafe_4cfef 0 = .ok (.iload_n 2, 1) := by decide +kernel
theorem dJ2_indexOfCharUnsafe_4cfef_1 : decode cJ2_indexOfCharUnsafe_4cfef 1 = .ok (.istore 4, 2) := by decide +kernel
theorem dJ2_indexOfCharUnsafe_4cfef_3 : decode cJ2_indexOfCharUnsafe_4cfef 3 = .ok (.iload 4, 2) := by decide +kernel
theorem dJ2_indexOfCharUnsafe_4cfef_5 : decode cJ2_indexOfCharUnsafe_4cfef 5 = .ok (.iload_n 3, 1) := by decide +kernel
theorem dJ2_indexOfCharUnsafe_4cfef_6 : decode cJ2_indexOfCharUnsafe_4cfef 6 = .ok (.if_icmp .ge 22, 3) := by decide +kernel
theorem dJ2_indexOfCharUnsafe_4cfef_9 : decode cJ2_indexOfCharUnsafe_4cfef 9 = .ok (.aload_n 0, 1) := by decide +kernel
theorem dJ2_indexOfCharUnsafe_4cfef_10 : decode cJ2_indexOfCharUnsafe_4cfef 10 = .ok (.iload 4, 2) := by decide +kernel
theorem dJ2_indexOfCharUnsafe_4cfef_12 : decode cJ2_indexOfCharUnsafe_4cfef 12 = .ok (.invokestatic 71, 3) := by decide +kernel
theorem dJ2_indexOfCharUnsafe_4cfef_15 : decode cJ2_indexOfCharUnsafe_4cfef 15 = .ok (.iload_n 1, 1) := by decide +kernel
theorem dJ2_indexOfCharUnsafe_4cfef_16 : decode cJ2_indexOfCharUnsafe_4cfef 16 = .ok (.if_icmp .ne 6, 3) := by decide +kernel
theorem dJ2_indexOfCharUnsafe_4cfef_19 : decode cJ2_indexOfCharUnsafe_4cfef 19 = .ok (.iload 4, 2) := by decide +kernel
theorem dJ2_indexOfCharUnsafe_4cfef_21 : decode cJ2_indexOfCharUnsafe_4cfef 21 = .ok (.ireturn, 1) := by decide +kernel
theorem dJ2_indexOfCharUnsafe_4cfef_22 : decode cJ2_indexOfCharUnsafe_4cfef 22 = .ok (.iinc 4 1, 3) := by decide +kernel
theorem dJ2_indexOfCharUnsafe_4cfef_25 : decode cJ2_indexOfCharUnsafe_4cfef 25 = .ok (.goto (-22), 3) := by decide +kernel
theorem dJ2_indexOfCharUnsafe_4cfef_28 : decode cJ2_indexOfCharUnsafe_4cfef 28 = .ok (.iconst (-1), 1) := by decide +kernel
theorem dJ2_indexOfCharUnsafe_4cfef_29 : decode cJ2_indexOfCharUnsafe_4cfef 29 = .ok (.ireturn, 1) := by decide +kernel
theorem dJ2_indexOfSupplementary_4cfef_0 : decode cJ2_indexOfSupplementary_4cfef 0 = .ok (.iload_n 1, 1) := by decide +kernel
theorem dJ2_indexOfSupplementary_4cfef_1 : decode cJ2_indexOfSupplementary_4cfef 1 = .ok (.invokestatic 164, 3) := by decide +kernel
theorem dJ2_indexOfSupplementary_4cfef_4 : decode cJ2_indexOfSupplementary_4cfef 4 = .ok (.ifCond .eq 65, 3) := by decide +kernel
theorem dJ2_indexOfSupplementary_4cfef_7 : decode cJ2_indexOfSupplementary_4cfef 7 = .ok (.iload_n 1, 1) := by decide +kernel
theorem dJ2_indexOfSupplementary_4cfef_8 : decode cJ2_indexOfSupplementary_4cfef 8 = .ok (.invokestatic 157, 3) := by decide +kernel
theorem dJ2_indexOfSupplementary_4cfef_11 : decode cJ2_indexOfSupplementary_4cfef 11 = .ok (.istore 4, 2) := by decide +kernel
theorem dJ2_indexOfSupplementary_4cfef_13 : decode cJ2_indexOfSupplementary_4cfef 13 = .ok (.iload_n 1, 1) := by decide +kernel
theorem dJ2_indexOfSupplementary_4cfef_14 : decode cJ2_indexOfSupplementary_4cfef 14 = .ok (.invokestatic 161, 3) := by decide +kernel
theorem dJ2_indexOfSupplementary_4cfef_17 : decode cJ2_indexOfSupplementary_4cfef 17 = .ok (.istore 5, 2) := by decide +kernel
theorem dJ2_indexOfSupplementary_4cfef_19 : decode cJ2_indexOfSupplementary_4cfef 19 = .ok (.iload_n 2, 1) := by decide +kernel
theorem dJ2_indexOfSupplementary_4cfef_20 : decode cJ2_indexOfSupplementary_4cfef 20 = .ok (.iload_n 3, 1) := by decide +kernel
theorem dJ2_indexOfSupplementary_4cfef_21 : decode cJ2_indexOfSupplementary_4cfef 21 = .ok (.aload_n 0, 1) := by decide +kernel
theorem dJ2_indexOfSupplementary_4cfef_22 : decode cJ2_indexOfSupplementary_4cfef 22 = .ok (.invokestatic 96, 3) := by decide +kernel
theorem dJ2_indexOfSupplementary_4cfef_25 : decode cJ2_indexOfSupplementary_4cfef 25 = .ok (.iload_n 2, 1) := by decide +kernel
theorem dJ2_indexOfSupplementary_4cfef_26 : decode cJ2_indexOfSupplementary_4cfef 26 = .ok (.istore 6, 2) := by decide +kernel
theorem dJ2_indexOfSupplementary_4cfef_28 : decode cJ2_indexOfSupplementary_4cfef 28 = .ok (.iload 6, 2) := by decide +kernel
theorem dJ2_indexOfSupplementary_4cfef_30 : decode cJ2_indexOfSupplementary_4cfef 30 = .ok (.iload_n 3, 1) := by decide +kernel
theorem dJ2_indexOfSupplementary_4cfef_31 : decode cJ2_indexOfSupplementary_4cfef 31 = .ok (.iconst 1, 1) := by decide +kernel
theorem dJ2_indexOfSupplementary_4cfef_32 : decode cJ2_indexOfSupplementary_4cfef 32 = .ok (.isub, 1) := by decide +kernel
theorem dJ2_indexOfSupplementary_4cfef_33 : decode cJ2_indexOfSupplementary_4cfef 33 = .ok (.if_icmp .ge 36, 3) := by decide +kernel
theorem dJ2_indexOfSupplementary_4cfef_36 : decode cJ2_indexOfSupplementary_4cfef 36 = .ok (.aload_n 0, 1) := by decide +kernel
theorem dJ2_indexOfSupplementary_4cfef_37 : decode cJ2_indexOfSupplementary_4cfef 37 = .ok (.iload 6, 2) := by decide +kernel
theorem dJ2_indexOfSupplementary_4cfef_39 : decode cJ2_indexOfSupplementary_4cfef 39 = .ok (.invokestatic 71, 3) := by decide +kernel
theorem dJ2_indexOfSupplementary_4cfef_42 : decode cJ2_indexOfSupplementary_4cfef 42 = .ok (.iload 4, 2) := by decide +kernel
theorem dJ2_indexOfSupplementary_4cfef_44 : decode cJ2_indexOfSupplementary_4cfef 44 = .ok (.if_icmp .ne 19, 3) := by decide +kernel
theorem dJ2_indexOfSupplementary_4cfef_47 : decode cJ2_indexOfSupplementary_4cfef 47 = .ok (.aload_n 0, 1) := by decide +kernel
theorem dJ2_indexOfSupplementary_4cfef_48 : decode cJ2_indexOfSupplementary_4cfef 48 = .ok (.iload 6, 2) := by decide +kernel
theorem dJ2_indexOfSupplementary_4cfef_50 : decode cJ2_indexOfSupplementary_4cfef 50 = .ok (.iconst 1, 1) := by decide +kernel
theorem dJ2_indexOfSupplementary_4cfef_51 : decode cJ2_indexOfSupplementary_4cfef 51 = .ok (.iadd, 1) := by decide +kernel
theorem dJ2_indexOfSupplementary_4cfef_52 : decode cJ2_indexOfSupplementary_4cfef 52 = .ok (.invokestatic 71, 3) := by decide +kernel
theorem dJ2_indexOfSupplementary_4cfef_55 : decode cJ2_indexOfSupplementary_4cfef 55 = .ok (.iload 5, 2) := by decide +kernel
theorem dJ2_indexOfSupplementary_4cfef_57 : decode cJ2_indexOfSupplementary_4cfef 57 = .ok (.if_icmp .ne 6, 3) := by decide +kernel
theorem dJ2_indexOfSupplementary_4cfef_60 : decode cJ2_indexOfSupplementary_4cfef 60 = .ok (.iload 6, 2) := by decide +kernel
theorem dJ2_indexOfSupplementary_4cfef_62 : decode cJ2_indexOfSupplementary_4cfef 62 = .ok (.ireturn, 1) := by decide +kernel
theorem dJ2_indexOfSupplementary_4cfef_63 : decode cJ2_indexOfSupplementary_4cfef 63 = .ok (.iinc 6 1, 3) := by decide +kernel
theorem dJ2_indexOfSupplementary_4cfef_66 : decode cJ2_indexOfSupplementary_4cfef 66 = .ok (.goto (-38), 3) := by decide +kernel
theorem dJ2_indexOfSupplementary_4cfef_69 : decode cJ2_indexOfSupplementary_4cfef 69 = .ok (.iconst (-1), 1) := by decide +kernel
theorem dJ2_indexOfSupplementary_4cfef_70 : decode cJ2_indexOfSupplementary_4cfef 70 = .ok (.ireturn, 1) := by decide +kernel
theorem dJ2_checkBoundsBeginEnd_d044e_0 : decode cJ2_checkBoundsBeginEnd_d044e 0 = .ok (.iload_n 0, 1) := by decide +kernel
theorem dJ2_checkBoundsBeginEnd_d044e_1 : decode cJ2_checkBoundsBeginEnd_d044e 1 = .ok (.iload_n 1, 1) := by decide +kernel
theorem dJ2_checkBoundsBeginEnd_d044e_2 : decode cJ2_checkBoundsBeginEnd_d044e 2 = .ok (.aload_n 2, 1) := by decide +kernel
theorem dJ2_checkBoundsBeginEnd_d044e_3 : decode cJ2_checkBoundsBeginEnd_d044e 3 = .ok (.invokestatic 48, 3) := by decide +kernel
theorem dJ2_checkBoundsBeginEnd_d044e_6 : decode cJ2_checkBoundsBeginEnd_d044e 6 = .ok (.invokestatic 241, 3) := by decide +kernel
theorem dJ2_checkBoundsBeginEnd_d044e_9 : decode cJ2_checkBoundsBeginEnd_d044e 9 = .ok (.return_, 1) := by decide +kernel
theorem dJ3_checkFromToIndex_8c36e_0 : decode cJ3_checkFromToIndex_8c36e 0 = .ok (.iload_n 0, 1) := by decide +kernel
theorem dJ3_checkFromToIndex_8c36e_1 : decode cJ3_checkFromToIndex_8c36e 1 = .ok (.ifCond .lt 13, 3) := by decide +kernel
theorem dJ3_checkFromToIndex_8c36e_4 : decode cJ3_checkFromToIndex_8c36e 4 = .ok (.iload_n 0, 1) := by decide +kernel
theorem dJ3_checkFromToIndex_8c36e_5 : decode cJ3_checkFromToIndex_8c36e 5 = .ok (.iload_n 1, 1) := by decide +kernel
theorem dJ3_checkFromToIndex_8c36e_6 : decode cJ3_checkFromToIndex_8c36e 6 = .ok (.if_icmp .gt 8, 3) := by decide +kernel
theorem dJ3_checkFromToIndex_8c36e_9 : decode cJ3_checkFromToIndex_8c36e 9 = .ok (.iload_n 1, 1) := by decide +kernel
theorem dJ3_checkFromToIndex_8c36e_10 : decode cJ3_checkFromToIndex_8c36e 10 = .ok (.iload_n 2, 1) := by decide +kernel
theorem dJ3_checkFromToIndex_8c36e_11 : decode cJ3_checkFromToIndex_8c36e 11 = .ok (.if_icmp .le 11, 3) := by decide +kernel
theorem dJ3_checkFromToIndex_8c36e_14 : decode cJ3_checkFromToIndex_8c36e 14 = .ok (.aload_n 3, 1) := by decide +kernel
theorem dJ3_checkFromToIndex_8c36e_15 : decode cJ3_checkFromToIndex_8c36e 15 = .ok (.iload_n 0, 1) := by decide +kernel
theorem dJ3_checkFromToIndex_8c36e_16 : decode cJ3_checkFromToIndex_8c36e 16 = .ok (.iload_n 1, 1) := by decide +kernel
theorem dJ3_checkFromToIndex_8c36e_17 : decode cJ3_checkFromToIndex_8c36e 17 = .ok (.iload_n 2, 1) := by decide +kernel
theorem dJ3_checkFromToIndex_8c36e_18 : decode cJ3_checkFromToIndex_8c36e 18 = .ok (.invokestatic 99, 3) := by decide +kernel
theorem dJ3_checkFromToIndex_8c36e_21 : decode cJ3_checkFromToIndex_8c36e 21 = .ok (.athrow, 1) := by decide +kernel
theorem dJ3_checkFromToIndex_8c36e_22 : decode cJ3_checkFromToIndex_8c36e 22 = .ok (.iload_n 0, 1) := by decide +kernel
theorem dJ3_checkFromToIndex_8c36e_23 : decode cJ3_checkFromToIndex_8c36e 23 = .ok (.ireturn, 1) := by decide +kernel
theorem dL_setNumber_0 : decode cL_setNumber 0 = .ok (.aload 5, 2) := by decide +kernel
theorem dL_setNumber_2 : decode cL_setNumber 2 = .ok (.iconst 0, 1) := by decide +kernel
theorem dL_setNumber_3 : decode cL_setNumber 3 = .ok (.aload_n 0, 1) := by decide +kernel
theorem dL_setNumber_4 : decode cL_setNumber 4 = .ok (.iload_n 1, 1) := by decide +kernel
theorem dL_setNumber_5 : decode cL_setNumber 5 = .ok (.iload_n 2, 1) := by decide +kernel
theorem dL_setNumber_6 : decode cL_setNumber 6 = .ok (.iload_n 3, 1) := by decide +kernel
theorem dL_setNumber_7 : decode cL_setNumber 7 = .ok (.iload 4, 2) := by decide +kernel
theorem dL_setNumber_9 : decode cL_setNumber 9 = .ok (.invokevirtual 7, 3) := by decide +kernel
theorem dL_setNumber_12 : decode cL_setNumber 12 = .ok (.i2l, 1) := by decide +kernel
theorem dL_setNumber_13 : decode cL_setNumber 13 = .ok (.lastore, 1) := by decide +kernel
theorem dL_setNumber_14 : decode cL_setNumber 14 = .ok (.goto 11, 3) := by decide +kernel
theorem dL_setNumber_17 : decode cL_setNumber 17 = .ok (.astore 6, 2) := by decide +kernel
theorem dL_setNumber_19 : decode cL_setNumber 19 = .ok (.iconst 1, 1) := by decide +kernel
theorem dL_setNumber_20 : decode cL_setNumber 20 = .ok (.ireturn, 1) := by decide +kernel
theorem dL_setNumber_21 : decode cL_setNumber 21 = .ok (.astore 6, 2) := by decide +kernel
theorem dL_setNumber_23 : decode cL_setNumber 23 = .ok (.iconst 2, 1) := by decide +kernel
theorem dL_setNumber_24 : decode cL_setNumber 24 = .ok (.ireturn, 1) := by decide +kernel
theorem dL_setNumber_25 : decode cL_setNumber 25 = .ok (.iconst 0, 1) := by decide +kernel
theorem dL_setNumber_26 : decode cL_setNumber 26 = .ok (.ireturn, 1) := by decide +kernel
theorem dL_number_0 : decode cL_number 0 = .ok (.aload_n 2, 1) := by decide +kernel
theorem dL_number_1 : decode cL_number 1 = .ok (.iconst 0, 1) := by decide +kernel
theorem dL_number_2 : decode cL_number 2 = .ok (.aload_n 0, 1) := by decide +kernel
theorem dL_number_3 : decode cL_number 3 = .ok (.iload_n 1, 1) := by decide +kernel
theorem dL_number_4 : decode cL_number 4 = .ok (.invokevirtual 17, 3) := by decide +kernel
theorem dL_number_7 : decode cL_number 7 = .ok (.i2l, 1) := by decide +kernel
theorem dL_number_8 : decode cL_number 8 = .ok (.lastore, 1) := by decide +kernel
theorem dL_number_9 : decode cL_number 9 = .ok (.goto 6, 3) := by decide +kernel
theorem dL_number_12 : decode cL_number 12 = .ok (.astore_n 3, 1) := by decide +kernel
theorem dL_number_13 : decode cL_number 13 = .ok (.iconst 1, 1) := by decide +kernel
theorem dL_number_14 : decode cL_number 14 = .ok (.ireturn, 1) := by decide +kernel
theorem dL_number_15 : decode cL_number 15 = .ok (.iconst 0, 1) := by decide +kernel
theorem dL_number_16 : decode cL_number 16 = .ok (.ireturn, 1) := by decide +kernel
theorem dL_addFeature_0 : decode cL_addFeature 0 = .ok (.aload 5, 2) := by decide +kernel
theorem dL_addFeature_2 : decode cL_addFeature 2 = .ok (.iconst 0, 1) := by decide +kernel
theorem dL_addFeature_3 : decode cL_addFeature 3 = .ok (.aload_n 0, 1) := by decide +kernel
theorem dL_addFeature_4 : decode cL_addFeature 4 = .ok (.iload_n 1, 1) := by decide +kernel
theorem dL_addFeature_5 : decode cL_addFeature 5 = .ok (.iload_n 2, 1) := by decide +kernel
theorem dL_addFeature_6 : decode cL_addFeature 6 = .ok (.iload_n 3, 1) := by decide +kernel
theorem dL_addFeature_7 : decode cL_addFeature 7 = .ok (.iload 4, 2) := by decide +kernel
theorem dL_addFeature_9 : decode cL_addFeature 9 = .ok (.invokevirtual 21, 3) := by decide +kernel
theorem dL_addFeature_12 : decode cL_addFeature 12 = .ok (.i2l, 1) := by decide +kernel
theorem dL_addFeature_13 : decode cL_addFeature 13 = .ok (.lastore, 1) := by decide +kernel
theorem dL_addFeature_14 : decode cL_addFeature 14 = .ok (.goto 15, 3) := by decide +kernel
theorem dL_addFeature_17 : decode cL_addFeature 17 = .ok (.astore 6, 2) := by decide +kernel
theorem dL_addFeature_19 : decode cL_addFeature 19 = .ok (.iconst 1, 1) := by decide +kernel
theorem dL_addFeature_20 : decode cL_addFeature 20 = .ok (.ireturn, 1) := by decide +kernel
theorem dL_addFeature_21 : decode cL_addFeature 21 = .ok (.astore 6, 2) := by decide +kernel
theorem dL_addFeature_23 : decode cL_addFeature 23 = .ok (.iconst 2, 1) := by decide +kernel
theorem dL_addFeature_24 : decode cL_addFeature 24 = .ok (.ireturn, 1) := by decide +kernel
theorem dL_addFeature_25 : decode cL_addFeature 25 = .ok (.astore 6, 2) := by decide +kernel
theorem dL_addFeature_27 : decode cL_addFeature 27 = .ok (.iconst 3, 1) := by decide +kernel
theorem dL_addFeature_28 : decode cL_addFeature 28 = .ok (.ireturn, 1) := by decide +kernel
theorem dL_addFeature_29 : decode cL_addFeature 29 = .ok (.iconst 0, 1) := by decide +kernel
theorem dL_addFeature_30 : decode cL_addFeature 30 = .ok (.ireturn, 1) := by decide +kernel
theorem dL_setSize_0 : decode cL_setSize 0 = .ok (.aload 5, 2) := by decide +kernel
theorem dL_setSize_2 : decode cL_setSize 2 = .ok (.iconst 0, 1) := by decide +kernel
theorem dL_setSize_3 : decode cL_setSize 3 = .ok (.aload_n 0, 1) := by decide +kernel
theorem dL_setSize_4 : decode cL_setSize 4 = .ok (.iload_n 1, 1) := by decide +kernel
theorem dL_setSize_5 : decode cL_setSize 5 = .ok (.iload_n 2, 1) := by decide +kernel
theorem dL_setSize_6 : decode cL_setSize 6 = .ok (.iload_n 3, 1) := by decide +kernel
theorem dL_setSize_7 : decode cL_setSize 7 = .ok (.iload 4, 2) := by decide +kernel
theorem dL_setSize_9 : decode cL_setSize 9 = .ok (.invokevirtual 27, 3) := by decide +kernel
theorem dL_setSize_12 : decode cL_setSize 12 = .ok (.i2l, 1) := by decide +kernel
theorem dL_setSize_13 : decode cL_setSize 13 = .ok (.lastore, 1) := by decide +kernel
theorem dL_setSize_14 : decode cL_setSize 14 = .ok (.goto 11, 3) := by decide +kernel
theorem dL_setSize_17 : decode cL_setSize 17 = .ok (.astore 6, 2) := by decide +kernel
theorem dL_setSize_19 : decode cL_setSize 19 = .ok (.iconst 1, 1) := by decide +kernel
theorem dL_setSize_20 : decode cL_setSize 20 = .ok (.ireturn, 1) := by decide +kernel
theorem dL_setSize_21 : decode cL_setSize 21 = .ok (.astore 6, 2) := by decide +kernel
theorem dL_setSize_23 : decode cL_setSize 23 = .ok (.iconst 2, 1) := by decide +kernel
theorem dL_setSize_24 : decode cL_setSize 24 = .ok (.ireturn, 1) := by decide +kernel
theorem dL_setSize_25 : decode cL_setSize 25 = .ok (.iconst 0, 1) := by decide +kernel
theorem dL_setSize_26 : decode cL_setSize 26 = .ok (.ireturn, 1) := by decide +kernel
theorem dL_remove_0 : decode cL_remove 0 = .ok (.aload_n 2, 1) := by decide +kernel
theorem dL_remove_1 : decode cL_remove 1 = .ok (.iconst 0, 1) := by decide +kernel
theorem dL_remove_2 : decode cL_remove 2 = .ok (.aload_n 0, 1) := by decide +kernel
theorem dL_remove_3 : decode cL_remove 3 = .ok (.iload_n 1, 1) := by decide +kernel
theorem dL_remove_4 : decode cL_remove 4 = .ok (.invokevirtual 33, 3) := by decide +kernel
theorem dL_remove_7 : decode cL_remove 7 = .ok (.i2l, 1) := by decide +kernel
theorem dL_remove_8 : decode cL_remove 8 = .ok (.lastore, 1) := by decide +kernel
theorem dL_remove_9 : decode cL_remove 9 = .ok (.goto 9, 3) := by decide +kernel
theorem dL_remove_12 : decode cL_remove 12 = .ok (.astore_n 3, 1) := by decide +kernel
theorem dL_remove_13 : decode cL_remove 13 = .ok (.iconst 1, 1) := by decide +kernel
theorem dL_remove_14 : decode cL_remove 14 = .ok (.ireturn, 1) := by decide +kernel
theorem dL_remove_15 : decode cL_remove 15 = .ok (.astore_n 3, 1) := by decide +kernel
theorem dL_remove_16 : decode cL_remove 16 = .ok (.iconst 2, 1) := by decide +kernel
theorem dL_remove_17 : decode cL_remove 17 = .ok (.ireturn, 1) := by decide +kernel
theorem dL_remove_18 : decode cL_remove 18 = .ok (.iconst 0, 1) := by decide +kernel
theorem dL_remove_19 : decode cL_remove 19 = .ok (.ireturn, 1) := by decide +kernel
theorem dL_move_0 : decode cL_move 0 = .ok (.aload_n 3, 1) := by decide +kernel
theorem dL_move_1 : decode cL_move 1 = .ok (.iconst 0, 1) := by decide +kernel
theorem dL_move_2 : decode cL_move 2 = .ok (.aload_n 0, 1) := by decide +kernel
theorem dL_move_3 : decode cL_move 3 = .ok (.iload_n 1, 1) := by decide +kernel
theorem dL_move_4 : decode cL_move 4 = .ok (.iload_n 2, 1) := by decide +kernel
theorem dL_move_5 : decode cL_move 5 = .ok (.invokevirtual 36, 3) := by decide +kernel
theorem dL_move_8 : decode cL_move 8 = .ok (.i2l, 1) := by decide +kernel
theorem dL_move_9 : decode cL_move 9 = .ok (.lastore, 1) := by decide +kernel
theorem dL_move_10 : decode cL_move 10 = .ok (.goto 15, 3) := by decide +kernel
theorem dL_move_13 : decode cL_move 13 = .ok (.astore 4, 2) := by decide +kernel
theorem dL_move_15 : decode cL_move 15 = .ok (.iconst 1, 1) := by decide +kernel
theorem dL_move_16 : decode cL_move 16 = .ok (.ireturn, 1) := by decide +kernel
theorem dL_move_17 : decode cL_move 17 = .ok (.astore 4, 2) := by decide +kernel
theorem dL_move_19 : decode cL_move 19 = .ok (.iconst 2, 1) := by decide +kernel
theorem dL_move_20 : decode cL_move 20 = .ok (.ireturn, 1) := by decide +kernel
theorem dL_move_21 : decode cL_move 21 = .ok (.astore 4, 2) := by decide +kernel
theorem dL_move_23 : decode cL_move 23 = .ok (.iconst 3, 1) := by decide +kernel
theorem dL_move_24 : decode cL_move 24 = .ok (.ireturn, 1) := by decide +kernel
theorem dL_move_25 : decode cL_move 25 = .ok (.iconst 0, 1) := by decide +kernel
theorem dL_move_26 : decode cL_move 26 = .ok (.ireturn, 1) := by decide +kernel
theorem dL_putOff_0 : decode cL_putOff 0 = .ok (.aload_n 3, 1) := by decide +kernel
theorem dL_putOff_1 : decode cL_putOff 1 = .ok (.iconst 0, 1) := by decide +kernel
theorem dL_putOff_2 : decode cL_putOff 2 = .ok (.aload_n 0, 1) := by decide +kernel
theorem dL_putOff_3 : decode cL_putOff 3 = .ok (.iload_n 1, 1) := by decide +kernel
theorem dL_putOff_4 : decode cL_putOff 4 = .ok (.iload_n 2, 1) := by decide +kernel
theorem dL_putOff_5 : decode cL_putOff 5 = .ok (.invokevirtual 42, 3) := by decide +kernel
theorem dL_putOff_8 : decode cL_putOff 8 = .ok (.ifCond .eq 7, 3) := by decide +kernel
theorem dL_putOff_11 : decode cL_putOff 11 = .ok (.lconst 1, 1) := by decide +kernel
theorem dL_putOff_12 : decode cL_putOff 12 = .ok (.goto 4, 3) := by decide +kernel
theorem dL_putOff_15 : decode cL_putOff 15 = .ok (.lconst 0, 1) := by decide +kernel
theorem dL_putOff_16 : decode cL_putOff 16 = .ok (.lastore, 1) := by decide +kernel
theorem dL_putOff_17 : decode cL_putOff 17 = .ok (.goto 7, 3) := by decide +kernel
theorem dL_putOff_20 : decode cL_putOff 20 = .ok (.astore 4, 2) := by decide +kernel
theorem dL_putOff_22 : decode cL_putOff 22 = .ok (.iconst 1, 1) := by decide +kernel
theorem dL_putOff_23 : decode cL_putOff 23 = .ok (.ireturn, 1) := by decide +kernel
theorem dL_putOff_24 : decode cL_putOff 24 = .ok (.iconst 0, 1) := by decide +kernel
theorem dL_putOff_25 : decode cL_putOff 25 = .ok (.ireturn, 1) := by decide +kernel
theorem dL_setBar_0 : decode cL_setBar 0 = .ok (.aload_n 2, 1) := by decide +kernel
theorem dL_setBar_1 : decode cL_setBar 1 = .ok (.iconst 0, 1) := by decide +kernel
theorem dL_setBar_2 : decode cL_setBar 2 = .ok (.aload_n 0, 1) := by decide +kernel
theorem dL_setBar_3 : decode cL_setBar 3 = .ok (.iload_n 1, 1) := by decide +kernel
theorem dL_setBar_4 : decode cL_setBar 4 = .ok (.invokevirtual 46, 3) := by decide +kernel
theorem dL_setBar_7 : decode cL_setBar 7 = .ok (.i2l, 1) := by decide +kernel
theorem dL_setBar_8 : decode cL_setBar 8 = .ok (.lastore, 1) := by decide +kernel
theorem dL_setBar_9 : decode cL_setBar 9 = .ok (.goto 6, 3) := by decide +kernel
theorem dL_setBar_12 : decode cL_setBar 12 = .ok (.astore_n 3, 1) := by decide +kernel
theorem dL_setBar_13 : decode cL_setBar 13 = .ok (.iconst 1, 1) := by decide +kernel
theorem dL_setBar_14 : decode cL_setBar 14 = .ok (.ireturn, 1) := by decide +kernel
theorem dL_setBar_15 : decode cL_setBar 15 = .ok (.iconst 0, 1) := by decide +kernel
theorem dL_setBar_16 : decode cL_setBar 16 = .ok (.ireturn, 1) := by decide +kernel
theorem dL_place_0 : decode cL_place 0 = .ok (.aload_n 2, 1) := by decide +kernel
theorem dL_place_1 : decode cL_place 1 = .ok (.iconst 0, 1) := by decide +kernel
theorem dL_place_2 : decode cL_place 2 = .ok (.aload_n 0, 1) := by decide +kernel
theorem dL_place_3 : decode cL_place 3 = .ok (.iload_n 1, 1) := by decide +kernel
theorem dL_place_4 : decode cL_place 4 = .ok (.invokevirtual 49, 3) := by decide +kernel
theorem dL_place_7 : decode cL_place 7 = .ok (.i2l, 1) := by decide +kernel
theorem dL_place_8 : decode cL_place 8 = .ok (.lastore, 1) := by decide +kernel
theorem dL_place_9 : decode cL_place 9 = .ok (.goto 6, 3) := by decide +kernel
theorem dL_place_12 : decode cL_place 12 = .ok (.astore_n 3, 1) := by decide +kernel
theorem dL_place_13 : decode cL_place 13 = .ok (.iconst 1, 1) := by decide +kernel
theorem dL_place_14 : decode cL_place 14 = .ok (.ireturn, 1) := by decide +kernel
theorem dL_place_15 : decode cL_place 15 = .ok (.iconst 0, 1) := by decide +kernel
theorem dL_place_16 : decode cL_place 16 = .ok (.ireturn, 1) := by decide +kernel
theorem dL_state_0 : decode cL_state 0 = .ok (.aload_n 2, 1) := by decide +kernel
theorem dL_state_1 : decode cL_state 1 = .ok (.iconst 0, 1) := by decide +kernel
theorem dL_state_2 : decode cL_state 2 = .ok (.aload_n 0, 1) := by decide +kernel
theorem dL_state_3 : decode cL_state 3 = .ok (.iload_n 1, 1) := by decide +kernel
theorem dL_state_4 : decode cL_state 4 = .ok (.invokevirtual 52, 3) := by decide +kernel
theorem dL_state_7 : decode cL_state 7 = .ok (.i2l, 1) := by decide +kernel
theorem dL_state_8 : decode cL_state 8 = .ok (.lastore, 1) := by decide +kernel
theorem dL_state_9 : decode cL_state 9 = .ok (.goto 6, 3) := by decide +kernel
theorem dL_state_12 : decode cL_state 12 = .ok (.astore_n 3, 1) := by decide +kernel
theorem dL_state_13 : decode cL_state 13 = .ok (.iconst 1, 1) := by decide +kernel
theorem dL_state_14 : decode cL_state 14 = .ok (.ireturn, 1) := by decide +kernel
theorem dL_state_15 : decode cL_state 15 = .ok (.iconst 0, 1) := by decide +kernel
theorem dL_state_16 : decode cL_state 16 = .ok (.ireturn, 1) := by decide +kernel
theorem dL_has_0 : decode cL_has 0 = .ok (.aload 4, 2) := by decide +kernel
theorem dL_has_2 : decode cL_has 2 = .ok (.iconst 0, 1) := by decide +kernel
theorem dL_has_3 : decode cL_has 3 = .ok (.aload_n 0, 1) := by decide +kernel
theorem dL_has_4 : decode cL_has 4 = .ok (.iload_n 1, 1) := by decide +kernel
theorem dL_has_5 : decode cL_has 5 = .ok (.iload_n 2, 1) := by decide +kernel
theorem dL_has_6 : decode cL_has 6 = .ok (.iload_n 3, 1) := by decide +kernel
theorem dL_has_7 : decode cL_has 7 = .ok (.invokevirtual 56, 3) := by decide +kernel
theorem dL_has_10 : decode cL_has 10 = .ok (.ifCond .eq 7, 3) := by decide +kernel
theorem dL_has_13 : decode cL_has 13 = .ok (.lconst 1, 1) := by decide +kernel
theorem dL_has_14 : decode cL_has 14 = .ok (.goto 4, 3) := by decide +kernel
theorem dL_has_17 : decode cL_has 17 = .ok (.lconst 0, 1) := by decide +kernel
theorem dL_has_18 : decode cL_has 18 = .ok (.lastore, 1) := by decide +kernel
theorem dL_has_19 : decode cL_has 19 = .ok (.goto 7, 3) := by decide +kernel
theorem dL_has_22 : decode cL_has 22 = .ok (.astore 5, 2) := by decide +kernel
theorem dL_has_24 : decode cL_has 24 = .ok (.iconst 1, 1) := by decide +kernel
theorem dL_has_25 : decode cL_has 25 = .ok (.ireturn, 1) := by decide +kernel
theorem dL_has_26 : decode cL_has 26 = .ok (.iconst 0, 1) := by decide +kernel
theorem dL_has_27 : decode cL_has 27 = .ok (.ireturn, 1) := by decide +kernel
theorem dL_hasAnew_0 : decode cL_hasAnew 0 = .ok (.aload 4, 2) := by decide +kernel
theorem dL_hasAnew_2 : decode cL_hasAnew 2 = .ok (.iconst 0, 1) := by decide +kernel
theorem dL_hasAnew_3 : decode cL_hasAnew 3 = .ok (.aload_n 0, 1) := by decide +kernel
theorem dL_hasAnew_4 : decode cL_hasAnew 4 = .ok (.iload_n 1, 1) := by decide +kernel
theorem dL_hasAnew_5 : decode cL_hasAnew 5 = .ok (.iload_n 2, 1) := by decide +kernel
theorem dL_hasAnew_6 : decode cL_hasAnew 6 = .ok (.iload_n 3, 1) := by decide +kernel
theorem dL_hasAnew_7 : decode cL_hasAnew 7 = .ok (.invokevirtual 60, 3) := by decide +kernel
theorem dL_hasAnew_10 : decode cL_hasAnew 10 = .ok (.ifCond .eq 7, 3) := by decide +kernel
theorem dL_hasAnew_13 : decode cL_hasAnew 13 = .ok (.lconst 1, 1) := by decide +kernel
theorem dL_hasAnew_14 : decode cL_hasAnew 14 = .ok (.goto 4, 3) := by decide +kernel
theorem dL_hasAnew_17 : decode cL_hasAnew 17 = .ok (.lconst 0, 1) := by decide +kernel
theorem dL_hasAnew_18 : decode cL_hasAnew 18 = .ok (.lastore, 1) := by decide +kernel
theorem dL_hasAnew_19 : decode cL_hasAnew 19 = .ok (.goto 7, 3) := by decide +kernel
theorem dL_hasAnew_22 : decode cL_hasAnew 22 = .ok (.astore 5, 2) := by decide +kernel
theorem dL_hasAnew_24 : decode cL_hasAnew 24 = .ok (.iconst 1, 1) := by decide +kernel
theorem dL_hasAnew_25 : decode cL_hasAnew 25 = .ok (.ireturn, 1) := by decide +kernel
theorem dL_hasAnew_26 : decode cL_hasAnew 26 = .ok (.iconst 0, 1) := by decide +kernel
theorem dL_hasAnew_27 : decode cL_hasAnew 27 = .ok (.ireturn, 1) := by decide +kernel
theorem dL_nameOf_0 : decode cL_nameOf 0 = .ok (.aload 5, 2) := by decide +kernel
theorem dL_nameOf_2 : decode cL_nameOf 2 = .ok (.iconst 0, 1) := by decide +kernel
theorem dL_nameOf_3 : decode cL_nameOf 3 = .ok (.aload_n 0, 1) := by decide +kernel
theorem dL_nameOf_4 : decode cL_nameOf 4 = .ok (.iload_n 1, 1) := by decide +kernel
theorem dL_nameOf_5 : decode cL_nameOf 5 = .ok (.iload_n 2, 1) := by decide +kernel
theorem dL_nameOf_6 : decode cL_nameOf 6 = .ok (.iload_n 3, 1) := by decide +kernel
theorem dL_nameOf_7 : decode cL_nameOf 7 = .ok (.iload 4, 2) := by decide +kernel
theorem dL_nameOf_9 : decode cL_nameOf 9 = .ok (.invokevirtual 63, 3) := by decide +kernel
theorem dL_nameOf_12 : decode cL_nameOf 12 = .ok (.i2l, 1) := by decide +kernel
theorem dL_nameOf_13 : decode cL_nameOf 13 = .ok (.lastore, 1) := by decide +kernel
theorem dL_nameOf_14 : decode cL_nameOf 14 = .ok (.goto 15, 3) := by decide +kernel
theorem dL_nameOf_17 : decode cL_nameOf 17 = .ok (.astore 6, 2) := by decide +kernel
theorem dL_nameOf_19 : decode cL_nameOf 19 = .ok (.iconst 1, 1) := by decide +kernel
theorem dL_nameOf_20 : decode cL_nameOf 20 = .ok (.ireturn, 1) := by decide +kernel
theorem dL_nameOf_21 : decode cL_nameOf 21 = .ok (.astore 6, 2) := by decide +kernel
theorem dL_nameOf_23 : decode cL_nameOf 23 = .ok (.iconst 2, 1) := by decide +kernel
theorem dL_nameOf_24 : decode cL_nameOf 24 = .ok (.ireturn, 1) := by decide +kernel
theorem dL_nameOf_25 : decode cL_nameOf 25 = .ok (.astore 6, 2) := by decide +kernel
theorem dL_nameOf_27 : decode cL_nameOf 27 = .ok (.iconst 3, 1) := by decide +kernel
theorem dL_nameOf_28 : decode cL_nameOf 28 = .ok (.ireturn, 1) := by decide +kernel
theorem dL_nameOf_29 : decode cL_nameOf 29 = .ok (.iconst 0, 1) := by decide +kernel
theorem dL_nameOf_30 : decode cL_nameOf 30 = .ok (.ireturn, 1) := by decide +kernel
theorem dL_squares_0 : decode cL_squares 0 = .ok (.aload_n 3, 1) := by decide +kernel
theorem dL_squares_1 : decode cL_squares 1 = .ok (.iconst 0, 1) := by decide +kernel
theorem dL_squares_2 : decode cL_squares 2 = .ok (.aload_n 0, 1) := by decide +kernel
theorem dL_squares_3 : decode cL_squares 3 = .ok (.iload_n 1, 1) := by decide +kernel
theorem dL_squares_4 : decode cL_squares 4 = .ok (.iload_n 2, 1) := by decide +kernel
theorem dL_squares_5 : decode cL_squares 5 = .ok (.invokevirtual 66, 3) := by decide +kernel
theorem dL_squares_8 : decode cL_squares 8 = .ok (.i2l, 1) := by decide +kernel
theorem dL_squares_9 : decode cL_squares 9 = .ok (.lastore, 1) := by decide +kernel
theorem dL_squares_10 : decode cL_squares 10 = .ok (.goto 7, 3) := by decide +kernel
theorem dL_squares_13 : decode cL_squares 13 = .ok (.astore 4, 2) := by decide +kernel
theorem dL_squares_15 : decode cL_squares 15 = .ok (.iconst 1, 1) := by decide +kernel
theorem dL_squares_16 : decode cL_squares 16 = .ok (.ireturn, 1) := by decide +kernel
theorem dL_squares_17 : decode cL_squares 17 = .ok (.iconst 0, 1) := by decide +kernel
theorem dL_squares_18 : decode cL_squares 18 = .ok (.ireturn, 1) := by decide +kernel
theorem dL_centre_0 : decode cL_centre 0 = .ok (.aload_n 2, 1) := by decide +kernel
theorem dL_centre_1 : decode cL_centre 1 = .ok (.iconst 0, 1) := by decide +kernel
theorem dL_centre_2 : decode cL_centre 2 = .ok (.aload_n 0, 1) := by decide +kernel
theorem dL_centre_3 : decode cL_centre 3 = .ok (.iload_n 1, 1) := by decide +kernel
theorem dL_centre_4 : decode cL_centre 4 = .ok (.invokevirtual 69, 3) := by decide +kernel
theorem dL_centre_7 : decode cL_centre 7 = .ok (.dastore, 1) := by decide +kernel
theorem dL_centre_8 : decode cL_centre 8 = .ok (.goto 9, 3) := by decide +kernel
theorem dL_centre_11 : decode cL_centre 11 = .ok (.astore_n 3, 1) := by decide +kernel
theorem dL_centre_12 : decode cL_centre 12 = .ok (.iconst 1, 1) := by decide +kernel
theorem dL_centre_13 : decode cL_centre 13 = .ok (.ireturn, 1) := by decide +kernel
theorem dL_centre_14 : decode cL_centre 14 = .ok (.astore_n 3, 1) := by decide +kernel
theorem dL_centre_15 : decode cL_centre 15 = .ok (.iconst 2, 1) := by decide +kernel
theorem dL_centre_16 : decode cL_centre 16 = .ok (.ireturn, 1) := by decide +kernel
theorem dL_centre_17 : decode cL_centre 17 = .ok (.iconst 0, 1) := by decide +kernel
theorem dL_centre_18 : decode cL_centre 18 = .ok (.ireturn, 1) := by decide +kernel
theorem dL_addPart_0 : decode cL_addPart 0 = .ok (.aload 4, 2) := by decide +kernel
theorem dL_addPart_2 : decode cL_addPart 2 = .ok (.iconst 0, 1) := by decide +kernel
theorem dL_addPart_3 : decode cL_addPart 3 = .ok (.aload_n 0, 1) := by decide +kernel
theorem dL_addPart_4 : decode cL_addPart 4 = .ok (.iload_n 1, 1) := by decide +kernel
theorem dL_addPart_5 : decode cL_addPart 5 = .ok (.iload_n 2, 1) := by decide +kernel
theorem dL_addPart_6 : decode cL_addPart 6 = .ok (.iload_n 3, 1) := by decide +kernel
theorem dL_addPart_7 : decode cL_addPart 7 = .ok (.invokevirtual 75, 3) := by decide +kernel
theorem dL_addPart_10 : decode cL_addPart 10 = .ok (.i2l, 1) := by decide +kernel
theorem dL_addPart_11 : decode cL_addPart 11 = .ok (.lastore, 1) := by decide +kernel
theorem dL_addPart_12 : decode cL_addPart 12 = .ok (.goto 11, 3) := by decide +kernel
theorem dL_addPart_15 : decode cL_addPart 15 = .ok (.astore 5, 2) := by decide +kernel
theorem dL_addPart_17 : decode cL_addPart 17 = .ok (.iconst 1, 1) := by decide +kernel
theorem dL_addPart_18 : decode cL_addPart 18 = .ok (.ireturn, 1) := by decide +kernel
theorem dL_addPart_19 : decode cL_addPart 19 = .ok (.astore 5, 2) := by decide +kernel
theorem dL_addPart_21 : decode cL_addPart 21 = .ok (.iconst 2, 1) := by decide +kernel
theorem dL_addPart_22 : decode cL_addPart 22 = .ok (.ireturn, 1) := by decide +kernel
theorem dL_addPart_23 : decode cL_addPart 23 = .ok (.iconst 0, 1) := by decide +kernel
theorem dL_addPart_24 : decode cL_addPart 24 = .ok (.ireturn, 1) := by decide +kernel
theorem dL_freeze_0 : decode cL_freeze 0 = .ok (.aload_n 3, 1) := by decide +kernel
theorem dL_freeze_1 : decode cL_freeze 1 = .ok (.iconst 0, 1) := by decide +kernel
theorem dL_freeze_2 : decode cL_freeze 2 = .ok (.aload_n 0, 1) := by decide +kernel
theorem dL_freeze_3 : decode cL_freeze 3 = .ok (.iload_n 1, 1) := by decide +kernel
theorem dL_freeze_4 : decode cL_freeze 4 = .ok (.iload_n 2, 1) := by decide +kernel
theorem dL_freeze_5 : decode cL_freeze 5 = .ok (.invokevirtual 79, 3) := by decide +kernel
theorem dL_freeze_8 : decode cL_freeze 8 = .ok (.ifCond .eq 7, 3) := by decide +kernel
theorem dL_freeze_11 : decode cL_freeze 11 = .ok (.lconst 1, 1) := by decide +kernel
theorem dL_freeze_12 : decode cL_freeze 12 = .ok (.goto 4, 3) := by decide +kernel
theorem dL_freeze_15 : decode cL_freeze 15 = .ok (.lconst 0, 1) := by decide +kernel
theorem dL_freeze_16 : decode cL_freeze 16 = .ok (.lastore, 1) := by decide +kernel
theorem dL_freeze_17 : decode cL_freeze 17 = .ok (.goto 7, 3) := by decide +kernel
theorem dL_freeze_20 : decode cL_freeze 20 = .ok (.astore 4, 2) := by decide +kernel
theorem dL_freeze_22 : decode cL_freeze 22 = .ok (.iconst 1, 1) := by decide +kernel
theorem dL_freeze_23 : decode cL_freeze 23 = .ok (.ireturn, 1) := by decide +kernel
theorem dL_freeze_24 : decode cL_freeze 24 = .ok (.iconst 0, 1) := by decide +kernel
theorem dL_freeze_25 : decode cL_freeze 25 = .ok (.ireturn, 1) := by decide +kernel
theorem dL_mate_0 : decode cL_mate 0 = .ok (.aload 5, 2) := by decide +kernel
theorem dL_mate_2 : decode cL_mate 2 = .ok (.iconst 0, 1) := by decide +kernel
theorem dL_mate_3 : decode cL_mate 3 = .ok (.aload_n 0, 1) := by decide +kernel
theorem dL_mate_4 : decode cL_mate 4 = .ok (.iload_n 1, 1) := by decide +kernel
theorem dL_mate_5 : decode cL_mate 5 = .ok (.iload_n 2, 1) := by decide +kernel
theorem dL_mate_6 : decode cL_mate 6 = .ok (.iload_n 3, 1) := by decide +kernel
theorem dL_mate_7 : decode cL_mate 7 = .ok (.iload 4, 2) := by decide +kernel
theorem dL_mate_9 : decode cL_mate 9 = .ok (.invokevirtual 82, 3) := by decide +kernel
theorem dL_mate_12 : decode cL_mate 12 = .ok (.i2l, 1) := by decide +kernel
theorem dL_mate_13 : decode cL_mate 13 = .ok (.lastore, 1) := by decide +kernel
theorem dL_mate_14 : decode cL_mate 14 = .ok (.goto 19, 3) := by decide +kernel
theorem dL_mate_17 : decode cL_mate 17 = .ok (.astore 6, 2) := by decide +kernel
theorem dL_mate_19 : decode cL_mate 19 = .ok (.iconst 1, 1) := by decide +kernel
theorem dL_mate_20 : decode cL_mate 20 = .ok (.ireturn, 1) := by decide +kernel
theorem dL_mate_21 : decode cL_mate 21 = .ok (.astore 6, 2) := by decide +kernel
theorem dL_mate_23 : decode cL_mate 23 = .ok (.iconst 2, 1) := by decide +kernel
theorem dL_mate_24 : decode cL_mate 24 = .ok (.ireturn, 1) := by decide +kernel
theorem dL_mate_25 : decode cL_mate 25 = .ok (.astore 6, 2) := by decide +kernel
theorem dL_mate_27 : decode cL_mate 27 = .ok (.iconst 3, 1) := by decide +kernel
theorem dL_mate_28 : decode cL_mate 28 = .ok (.ireturn, 1) := by decide +kernel
theorem dL_mate_29 : decode cL_mate 29 = .ok (.astore 6, 2) := by decide +kernel
theorem dL_mate_31 : decode cL_mate 31 = .ok (.iconst 4, 1) := by decide +kernel
theorem dL_mate_32 : decode cL_mate 32 = .ok (.ireturn, 1) := by decide +kernel
theorem dL_mate_33 : decode cL_mate 33 = .ok (.iconst 0, 1) := by decide +kernel
theorem dL_mate_34 : decode cL_mate 34 = .ok (.ireturn, 1) := by decide +kernel
theorem dL_drag_0 : decode cL_drag 0 = .ok (.aload 4, 2) := by decide +kernel
theorem dL_drag_2 : decode cL_drag 2 = .ok (.iconst 0, 1) := by decide +kernel
theorem dL_drag_3 : decode cL_drag 3 = .ok (.aload_n 0, 1) := by decide +kernel
theorem dL_drag_4 : decode cL_drag 4 = .ok (.iload_n 1, 1) := by decide +kernel
theorem dL_drag_5 : decode cL_drag 5 = .ok (.iload_n 2, 1) := by decide +kernel
theorem dL_drag_6 : decode cL_drag 6 = .ok (.iload_n 3, 1) := by decide +kernel
theorem dL_drag_7 : decode cL_drag 7 = .ok (.invokevirtual 85, 3) := by decide +kernel
theorem dL_drag_10 : decode cL_drag 10 = .ok (.i2l, 1) := by decide +kernel
theorem dL_drag_11 : decode cL_drag 11 = .ok (.lastore, 1) := by decide +kernel
theorem dL_drag_12 : decode cL_drag 12 = .ok (.goto 15, 3) := by decide +kernel
theorem dL_drag_15 : decode cL_drag 15 = .ok (.astore 5, 2) := by decide +kernel
theorem dL_drag_17 : decode cL_drag 17 = .ok (.iconst 1, 1) := by decide +kernel
theorem dL_drag_18 : decode cL_drag 18 = .ok (.ireturn, 1) := by decide +kernel
theorem dL_drag_19 : decode cL_drag 19 = .ok (.astore 5, 2) := by decide +kernel
theorem dL_drag_21 : decode cL_drag 21 = .ok (.iconst 2, 1) := by decide +kernel
theorem dL_drag_22 : decode cL_drag 22 = .ok (.ireturn, 1) := by decide +kernel
theorem dL_drag_23 : decode cL_drag 23 = .ok (.astore 5, 2) := by decide +kernel
theorem dL_drag_25 : decode cL_drag 25 = .ok (.iconst 3, 1) := by decide +kernel
theorem dL_drag_26 : decode cL_drag 26 = .ok (.ireturn, 1) := by decide +kernel
theorem dL_drag_27 : decode cL_drag 27 = .ok (.iconst 0, 1) := by decide +kernel
theorem dL_drag_28 : decode cL_drag 28 = .ok (.ireturn, 1) := by decide +kernel
theorem dL_moved_0 : decode cL_moved 0 = .ok (.aload_n 3, 1) := by decide +kernel
theorem dL_moved_1 : decode cL_moved 1 = .ok (.iconst 0, 1) := by decide +kernel
theorem dL_moved_2 : decode cL_moved 2 = .ok (.aload_n 0, 1) := by decide +kernel
theorem dL_moved_3 : decode cL_moved 3 = .ok (.iload_n 1, 1) := by decide +kernel
theorem dL_moved_4 : decode cL_moved 4 = .ok (.iload_n 2, 1) := by decide +kernel
theorem dL_moved_5 : decode cL_moved 5 = .ok (.invokevirtual 88, 3) := by decide +kernel
theorem dL_moved_8 : decode cL_moved 8 = .ok (.i2l, 1) := by decide +kernel
theorem dL_moved_9 : decode cL_moved 9 = .ok (.lastore, 1) := by decide +kernel
theorem dL_moved_10 : decode cL_moved 10 = .ok (.goto 11, 3) := by decide +kernel
theorem dL_moved_13 : decode cL_moved 13 = .ok (.astore 4, 2) := by decide +kernel
theorem dL_moved_15 : decode cL_moved 15 = .ok (.iconst 1, 1) := by decide +kernel
theorem dL_moved_16 : decode cL_moved 16 = .ok (.ireturn, 1) := by decide +kernel
theorem dL_moved_17 : decode cL_moved 17 = .ok (.astore 4, 2) := by decide +kernel
theorem dL_moved_19 : decode cL_moved 19 = .ok (.iconst 2, 1) := by decide +kernel
theorem dL_moved_20 : decode cL_moved 20 = .ok (.ireturn, 1) := by decide +kernel
theorem dL_moved_21 : decode cL_moved 21 = .ok (.iconst 0, 1) := by decide +kernel
theorem dL_moved_22 : decode cL_moved 22 = .ok (.ireturn, 1) := by decide +kernel
theorem dL_clashes_0 : decode cL_clashes 0 = .ok (.aload_n 3, 1) := by decide +kernel
theorem dL_clashes_1 : decode cL_clashes 1 = .ok (.iconst 0, 1) := by decide +kernel
theorem dL_clashes_2 : decode cL_clashes 2 = .ok (.aload_n 0, 1) := by decide +kernel
theorem dL_clashes_3 : decode cL_clashes 3 = .ok (.iload_n 1, 1) := by decide +kernel
theorem dL_clashes_4 : decode cL_clashes 4 = .ok (.iload_n 2, 1) := by decide +kernel
theorem dL_clashes_5 : decode cL_clashes 5 = .ok (.invokevirtual 91, 3) := by decide +kernel
theorem dL_clashes_8 : decode cL_clashes 8 = .ok (.i2l, 1) := by decide +kernel
theorem dL_clashes_9 : decode cL_clashes 9 = .ok (.lastore, 1) := by decide +kernel
theorem dL_clashes_10 : decode cL_clashes 10 = .ok (.goto 11, 3) := by decide +kernel
theorem dL_clashes_13 : decode cL_clashes 13 = .ok (.astore 4, 2) := by decide +kernel
theorem dL_clashes_15 : decode cL_clashes 15 = .ok (.iconst 1, 1) := by decide +kernel
theorem dL_clashes_16 : decode cL_clashes 16 = .ok (.ireturn, 1) := by decide +kernel
theorem dL_clashes_17 : decode cL_clashes 17 = .ok (.astore 4, 2) := by decide +kernel
theorem dL_clashes_19 : decode cL_clashes 19 = .ok (.iconst 2, 1) := by decide +kernel
theorem dL_clashes_20 : decode cL_clashes 20 = .ok (.ireturn, 1) := by decide +kernel
theorem dL_clashes_21 : decode cL_clashes 21 = .ok (.iconst 0, 1) := by decide +kernel
theorem dL_clashes_22 : decode cL_clashes 22 = .ok (.ireturn, 1) := by decide +kernel
theorem dL_depth_0 : decode cL_depth 0 = .ok (.aload 5, 2) := by decide +kernel
theorem dL_depth_2 : decode cL_depth 2 = .ok (.iconst 0, 1) := by decide +kernel
theorem dL_depth_3 : decode cL_depth 3 = .ok (.aload_n 0, 1) := by decide +kernel
theorem dL_depth_4 : decode cL_depth 4 = .ok (.iload_n 1, 1) := by decide +kernel
theorem dL_depth_5 : decode cL_depth 5 = .ok (.iload_n 2, 1) := by decide +kernel
theorem dL_depth_6 : decode cL_depth 6 = .ok (.iload_n 3, 1) := by decide +kernel
theorem dL_depth_7 : decode cL_depth 7 = .ok (.iload 4, 2) := by decide +kernel
theorem dL_depth_9 : decode cL_depth 9 = .ok (.invokevirtual 94, 3) := by decide +kernel
theorem dL_depth_12 : decode cL_depth 12 = .ok (.i2l, 1) := by decide +kernel
theorem dL_depth_13 : decode cL_depth 13 = .ok (.lastore, 1) := by decide +kernel
theorem dL_depth_14 : decode cL_depth 14 = .ok (.goto 11, 3) := by decide +kernel
theorem dL_depth_17 : decode cL_depth 17 = .ok (.astore 6, 2) := by decide +kernel
theorem dL_depth_19 : decode cL_depth 19 = .ok (.iconst 1, 1) := by decide +kernel
theorem dL_depth_20 : decode cL_depth 20 = .ok (.ireturn, 1) := by decide +kernel
theorem dL_depth_21 : decode cL_depth 21 = .ok (.astore 6, 2) := by decide +kernel
theorem dL_depth_23 : decode cL_depth 23 = .ok (.iconst 2, 1) := by decide +kernel
theorem dL_depth_24 : decode cL_depth 24 = .ok (.ireturn, 1) := by decide +kernel
theorem dL_depth_25 : decode cL_depth 25 = .ok (.iconst 0, 1) := by decide +kernel
theorem dL_depth_26 : decode cL_depth 26 = .ok (.ireturn, 1) := by decide +kernel
theorem dL_lines_0 : decode cL_lines 0 = .ok (.aload_n 3, 1) := by decide +kernel
theorem dL_lines_1 : decode cL_lines 1 = .ok (.iconst 0, 1) := by decide +kernel
theorem dL_lines_2 : decode cL_lines 2 = .ok (.aload_n 0, 1) := by decide +kernel
theorem dL_lines_3 : decode cL_lines 3 = .ok (.iload_n 1, 1) := by decide +kernel
theorem dL_lines_4 : decode cL_lines 4 = .ok (.iload_n 2, 1) := by decide +kernel
theorem dL_lines_5 : decode cL_lines 5 = .ok (.invokevirtual 98, 3) := by decide +kernel
theorem dL_lines_8 : decode cL_lines 8 = .ok (.i2l, 1) := by decide +kernel
theorem dL_lines_9 : decode cL_lines 9 = .ok (.lastore, 1) := by decide +kernel
theorem dL_lines_10 : decode cL_lines 10 = .ok (.goto 7, 3) := by decide +kernel
theorem dL_lines_13 : decode cL_lines 13 = .ok (.astore 4, 2) := by decide +kernel
theorem dL_lines_15 : decode cL_lines 15 = .ok (.iconst 1, 1) := by decide +kernel
theorem dL_lines_16 : decode cL_lines 16 = .ok (.ireturn, 1) := by decide +kernel
theorem dL_lines_17 : decode cL_lines 17 = .ok (.iconst 0, 1) := by decide +kernel
theorem dL_lines_18 : decode cL_lines 18 = .ok (.ireturn, 1) := by decide +kernel
theorem dL_law_0 : decode cL_law 0 = .ok (.new 8, 3) := by decide +kernel
theorem dL_law_3 : decode cL_law 3 = .ok (.dup, 1) := by decide +kernel
theorem dL_law_4 : decode cL_law 4 = .ok (.invokespecial 102, 3) := by decide +kernel
theorem dL_law_7 : decode cL_law 7 = .ok (.astore_n 1, 1) := by decide +kernel
theorem dL_law_8 : decode cL_law 8 = .ok (.new 103, 3) := by decide +kernel
theorem dL_law_11 : decode cL_law 11 = .ok (.dup, 1) := by decide +kernel
theorem dL_law_12 : decode cL_law 12 = .ok (.invokespecial 105, 3) := by decide +kernel
theorem dL_law_15 : decode cL_law 15 = .ok (.astore_n 2, 1) := by decide +kernel
theorem dL_law_16 : decode cL_law 16 = .ok (.iconst 1, 1) := by decide +kernel
theorem dL_law_17 : decode cL_law 17 = .ok (.newarray .long, 2) := by decide +kernel
theorem dL_law_19 : decode cL_law 19 = .ok (.astore_n 3, 1) := by decide +kernel
theorem dL_law_20 : decode cL_law 20 = .ok (.iconst 1, 1) := by decide +kernel
theorem dL_law_21 : decode cL_law 21 = .ok (.newarray .double, 2) := by decide +kernel
theorem dL_law_23 : decode cL_law 23 = .ok (.astore 4, 2) := by decide +kernel
theorem dL_law_25 : decode cL_law 25 = .ok (.iconst 0, 1) := by decide +kernel
theorem dL_law_26 : decode cL_law 26 = .ok (.istore 5, 2) := by decide +kernel
theorem dL_law_28 : decode cL_law 28 = .ok (.iload 5, 2) := by decide +kernel
theorem dL_law_30 : decode cL_law 30 = .ok (.aload_n 0, 1) := by decide +kernel
theorem dL_law_31 : decode cL_law 31 = .ok (.arraylength, 1) := by decide +kernel
theorem dL_law_32 : decode cL_law 32 = .ok (.iconst 5, 1) := by decide +kernel
theorem dL_law_33 : decode cL_law 33 = .ok (.isub, 1) := by decide +kernel
theorem dL_law_34 : decode cL_law 34 = .ok (.if_icmp .gt 2092, 3) := by decide +kernel
theorem dL_law_37 : decode cL_law 37 = .ok (.aload_n 0, 1) := by decide +kernel
theorem dL_law_38 : decode cL_law 38 = .ok (.iload 5, 2) := by decide +kernel
theorem dL_law_40 : decode cL_law 40 = .ok (.iaload, 1) := by decide +kernel
theorem dL_law_41 : decode cL_law 41 = .ok (.bipush 31, 2) := by decide +kernel
theorem dL_law_43 : decode cL_law 43 = .ok (.iand, 1) := by decide +kernel
theorem dL_law_44 : decode cL_law 44 = .ok (.tableswitch 2076 0 30 #[140, 234, 290, 384, 476, 532, 600, 691, 747, 803, 859, 873, 960, 1047, 1139, 1207, 1220, 1233, 1246, 1259, 1336, 1379, 1459, 1550, 1642, 1722, 1790, 1803, 1871, 1979, 2063], 140) := by decide +kernel
theorem dL_law_184 : decode cL_law 184 = .ok (.aload_n 1, 1) := by decide +kernel
theorem dL_law_185 : decode cL_law 185 = .ok (.aload_n 0, 1) := by decide +kernel
theorem dL_law_186 : decode cL_law 186 = .ok (.iload 5, 2) := by decide +kernel
theorem dL_law_188 : decode cL_law 188 = .ok (.iconst 1, 1) := by decide +kernel
theorem dL_law_189 : decode cL_law 189 = .ok (.iadd, 1) := by decide +kernel
theorem dL_law_190 : decode cL_law 190 = .ok (.iaload, 1) := by decide +kernel
theorem dL_law_191 : decode cL_law 191 = .ok (.aload_n 0, 1) := by decide +kernel
theorem dL_law_192 : decode cL_law 192 = .ok (.iload 5, 2) := by decide +kernel
theorem dL_law_194 : decode cL_law 194 = .ok (.iconst 2, 1) := by decide +kernel
theorem dL_law_195 : decode cL_law 195 = .ok (.iadd, 1) := by decide +kernel
theorem dL_law_196 : decode cL_law 196 = .ok (.iaload, 1) := by decide +kernel
theorem dL_law_197 : decode cL_law 197 = .ok (.aload_n 0, 1) := by decide +kernel
theorem dL_law_198 : decode cL_law 198 = .ok (.iload 5, 2) := by decide +kernel
theorem dL_law_200 : decode cL_law 200 = .ok (.iconst 3, 1) := by decide +kernel
theorem dL_law_201 : decode cL_law 201 = .ok (.iadd, 1) := by decide +kernel
theorem dL_law_202 : decode cL_law 202 = .ok (.iaload, 1) := by decide +kernel
theorem dL_law_203 : decode cL_law 203 = .ok (.i2c, 1) := by decide +kernel
theorem dL_law_204 : decode cL_law 204 = .ok (.aload_n 0, 1) := by decide +kernel
theorem dL_law_205 : decode cL_law 205 = .ok (.iload 5, 2) := by decide +kernel
theorem dL_law_207 : decode cL_law 207 = .ok (.iconst 4, 1) := by decide +kernel
theorem dL_law_208 : decode cL_law 208 = .ok (.iadd, 1) := by decide +kernel
theorem dL_law_209 : decode cL_law 209 = .ok (.iaload, 1) := by decide +kernel
theorem dL_law_210 : decode cL_law 210 = .ok (.aload_n 3, 1) := by decide +kernel
theorem dL_law_211 : decode cL_law 211 = .ok (.invokestatic 106, 3) := by decide +kernel
theorem dL_law_214 : decode cL_law 214 = .ok (.istore 6, 2) := by decide +kernel
theorem dL_law_216 : decode cL_law 216 = .ok (.aload_n 2, 1) := by decide +kernel
theorem dL_law_217 : decode cL_law 217 = .ok (.aload_n 0, 1) := by decide +kernel
theorem dL_law_218 : decode cL_law 218 = .ok (.iload 5, 2) := by decide +kernel
theorem dL_law_220 : decode cL_law 220 = .ok (.iconst 1, 1) := by decide +kernel
theorem dL_law_221 : decode cL_law 221 = .ok (.iadd, 1) := by decide +kernel
theorem dL_law_222 : decode cL_law 222 = .ok (.iaload, 1) := by decide +kernel
theorem dL_law_223 : decode cL_law 223 = .ok (.aload_n 0, 1) := by decide +kernel
theorem dL_law_224 : decode cL_law 224 = .ok (.iload 5, 2) := by decide +kernel
theorem dL_law_226 : decode cL_law 226 = .ok (.iconst 2, 1) := by decide +kernel
theorem dL_law_227 : decode cL_law 227 = .ok (.iadd, 1) := by decide +kernel
theorem dL_law_228 : decode cL_law 228 = .ok (.iaload, 1) := by decide +kernel
theorem dL_law_229 : decode cL_law 229 = .ok (.aload_n 0, 1) := by decide +kernel
theorem dL_law_230 : decode cL_law 230 = .ok (.iload 5, 2) := by decide +kernel
theorem dL_law_232 : decode cL_law 232 = .ok (.iconst 3, 1) := by decide +kernel
theorem dL_law_233 : decode cL_law 233 = .ok (.iadd, 1) := by decide +kernel
theorem dL_law_234 : decode cL_law 234 = .ok (.iaload, 1) := by decide +kernel
theorem dL_law_235 : decode cL_law 235 = .ok (.i2c, 1) := by decide +kernel
theorem dL_law_236 : decode cL_law 236 = .ok (.aload_n 0, 1) := by decide +kernel
theorem dL_law_237 : decode cL_law 237 = .ok (.iload 5, 2) := by decide +kernel
theorem dL_law_239 : decode cL_law 239 = .ok (.iconst 4, 1) := by decide +kernel
theorem dL_law_240 : decode cL_law 240 = .ok (.iadd, 1) := by decide +kernel
theorem dL_law_241 : decode cL_law 241 = .ok (.iaload, 1) := by decide +kernel
theorem dL_law_242 : decode cL_law 242 = .ok (.invokevirtual 111, 3) := by decide +kernel
theorem dL_law_245 : decode cL_law 245 = .ok (.istore 7, 2) := by decide +kernel
theorem dL_law_247 : decode cL_law 247 = .ok (.aload_n 2, 1) := by decide +kernel
theorem dL_law_248 : decode cL_law 248 = .ok (.invokevirtual 112, 3) := by decide +kernel
theorem dL_law_251 : decode cL_law 251 = .ok (.iload 6, 2) := by decide +kernel
theorem dL_law_253 : decode cL_law 253 = .ok (.if_icmp .eq 5, 3) := by decide +kernel
theorem dL_law_256 : decode cL_law 256 = .ok (.iconst 0, 1) := by decide +kernel
theorem dL_law_257 : decode cL_law 257 = .ok (.ireturn, 1) := by decide +kernel
theorem dL_law_258 : decode cL_law 258 = .ok (.iload 6, 2) := by decide +kernel
theorem dL_law_260 : decode cL_law 260 = .ok (.ifCond .ne 15, 3) := by decide +kernel
theorem dL_law_263 : decode cL_law 263 = .ok (.aload_n 3, 1) := by decide +kernel
theorem dL_law_264 : decode cL_law 264 = .ok (.iconst 0, 1) := by decide +kernel
theorem dL_law_265 : decode cL_law 265 = .ok (.laload, 1) := by decide +kernel
theorem dL_law_266 : decode cL_law 266 = .ok (.iload 7, 2) := by decide +kernel
theorem dL_law_268 : decode cL_law 268 = .ok (.i2l, 1) := by decide +kernel
theorem dL_law_269 : decode cL_law 269 = .ok (.lcmp, 1) := by decide +kernel
theorem dL_law_270 : decode cL_law 270 = .ok (.ifCond .eq 5, 3) := by decide +kernel
theorem dL_law_273 : decode cL_law 273 = .ok (.iconst 0, 1) := by decide +kernel
theorem dL_law_274 : decode cL_law 274 = .ok (.ireturn, 1) := by decide +kernel
theorem dL_law_275 : decode cL_law 275 = .ok (.goto 1845, 3) := by decide +kernel
theorem dL_law_278 : decode cL_law 278 = .ok (.aload_n 1, 1) := by decide +kernel
theorem dL_law_279 : decode cL_law 279 = .ok (.aload_n 0, 1) := by decide +kernel
theorem dL_law_280 : decode cL_law 280 = .ok (.iload 5, 2) := by decide +kernel
theorem dL_law_282 : decode cL_law 282 = .ok (.iconst 1, 1) := by decide +kernel
theorem dL_law_283 : decode cL_law 283 = .ok (.iadd, 1) := by decide +kernel
theorem dL_law_284 : decode cL_law 284 = .ok (.iaload, 1) := by decide +kernel
theorem dL_law_285 : decode cL_law 285 = .ok (.aload_n 3, 1) := by decide +kernel
theorem dL_law_286 : decode cL_law 286 = .ok (.invokestatic 116, 3) := by decide +kernel
theorem dL_law_289 : decode cL_law 289 = .ok (.istore 6, 2) := by decide +kernel
theorem dL_law_291 : decode cL_law 291 = .ok (.aload_n 2, 1) := by decide +kernel
theorem dL_law_292 : decode cL_law 292 = .ok (.aload_n 0, 1) := by decide +kernel
theorem dL_law_293 : decode cL_law 293 = .ok (.iload 5, 2) := by decide +kernel
theorem dL_law_295 : decode cL_law 295 = .ok (.iconst 1, 1) := by decide +kernel
theorem dL_law_296 : decode cL_law 296 = .ok (.iadd, 1) := by decide +kernel
theorem dL_law_297 : decode cL_law 297 = .ok (.iaload, 1) := by decide +kernel
theorem dL_law_298 : decode cL_law 298 = .ok (.invokevirtual 119, 3) := by decide +kernel
theorem dL_law_301 : decode cL_law 301 = .ok (.istore 7, 2) := by decide +kernel
theorem dL_law_303 : decode cL_law 303 = .ok (.aload_n 2, 1) := by decide +kernel
theorem dL_law_304 : decode cL_law 304 = .ok (.invokevirtual 112, 3) := by decide +kernel
theorem dL_law_307 : decode cL_law 307 = .ok (.iload 6, 2) := by decide +kernel
theorem dL_law_309 : decode cL_law 309 = .ok (.if_icmp .eq 5, 3) := by decide +kernel
theorem dL_law_312 : decode cL_law 312 = .ok (.iconst 0, 1) := by decide +kernel
theorem dL_law_313 : decode cL_law 313 = .ok (.ireturn, 1) := by decide +kernel
theorem dL_law_314 : decode cL_law 314 = .ok (.iload 6, 2) := by decide +kernel
theorem dL_law_316 : decode cL_law 316 = .ok (.ifCond .ne 15, 3) := by decide +kernel
theorem dL_law_319 : decode cL_law 319 = .ok (.aload_n 3, 1) := by decide +kernel
theorem dL_law_320 : decode cL_law 320 = .ok (.iconst 0, 1) := by decide +kernel
theorem dL_law_321 : decode cL_law 321 = .ok (.laload, 1) := by decide +kernel
theorem dL_law_322 : decode cL_law 322 = .ok (.iload 7, 2) := by decide +kernel
theorem dL_law_324 : decode cL_law 324 = .ok (.i2l, 1) := by decide +kernel
theorem dL_law_325 : decode cL_law 325 = .ok (.lcmp, 1) := by decide +kernel
theorem dL_law_326 : decode cL_law 326 = .ok (.ifCond .eq 5, 3) := by decide +kernel
theorem dL_law_329 : decode cL_law 329 = .ok (.iconst 0, 1) := by decide +kernel
theorem dL_law_330 : decode cL_law 330 = .ok (.ireturn, 1) := by decide +kernel
theorem dL_law_331 : decode cL_law 331 = .ok (.goto 1789, 3) := by decide +kernel
theorem dL_law_334 : decode cL_law 334 = .ok (.aload_n 1, 1) := by decide +kernel
theorem dL_law_335 : decode cL_law 335 = .ok (.aload_n 0, 1) := by decide +kernel
theorem dL_law_336 : decode cL_law 336 = .ok (.iload 5, 2) := by decide +kernel
theorem dL_law_338 : decode cL_law 338 = .ok (.iconst 1, 1) := by decide +kernel
theorem dL_law_339 : decode cL_law 339 = .ok (.iadd, 1) := by decide +kernel
theorem dL_law_340 : decode cL_law 340 = .ok (.iaload, 1) := by decide +kernel
theorem dL_law_341 : decode cL_law 341 = .ok (.i2c, 1) := by decide +kernel
theorem dL_law_342 : decode cL_law 342 = .ok (.aload_n 0, 1) := by decide +kernel
theorem dL_law_343 : decode cL_law 343 = .ok (.iload 5, 2) := by decide +kernel
theorem dL_law_345 : decode cL_law 345 = .ok (.iconst 2, 1) := by decide +kernel
theorem dL_law_346 : decode cL_law 346 = .ok (.iadd, 1) := by decide +kernel
theorem dL_law_347 : decode cL_law 347 = .ok (.iaload, 1) := by decide +kernel
theorem dL_law_348 : decode cL_law 348 = .ok (.aload_n 0, 1) := by decide +kernel
theorem dL_law_349 : decode cL_law 349 = .ok (.iload 5, 2) := by decide +kernel
theorem dL_law_351 : decode cL_law 351 = .ok (.iconst 3, 1) := by decide +kernel
theorem dL_law_352 : decode cL_law 352 = .ok (.iadd, 1) := by decide +kernel
theorem dL_law_353 : decode cL_law 353 = .ok (.iaload, 1) := by decide +kernel
theorem dL_law_354 : decode cL_law 354 = .ok (.aload_n 0, 1) := by decide +kernel
theorem dL_law_355 : decode cL_law 355 = .ok (.iload 5, 2) := by decide +kernel
theorem dL_law_357 : decode cL_law 357 = .ok (.iconst 4, 1) := by decide +kernel
theorem dL_law_358 : decode cL_law 358 = .ok (.iadd, 1) := by decide +kernel
theorem dL_law_359 : decode cL_law 359 = .ok (.iaload, 1) := by decide +kernel
theorem dL_law_360 : decode cL_law 360 = .ok (.aload_n 3, 1) := by decide +kernel
theorem dL_law_361 : decode cL_law 361 = .ok (.invokestatic 120, 3) := by decide +kernel
theorem dL_law_364 : decode cL_law 364 = .ok (.istore 6, 2) := by decide +kernel
theorem dL_law_366 : decode cL_law 366 = .ok (.aload_n 2, 1) := by decide +kernel
theorem dL_law_367 : decode cL_law 367 = .ok (.aload_n 0, 1) := by decide +kernel
theorem dL_law_368 : decode cL_law 368 = .ok (.iload 5, 2) := by decide +kernel
theorem dL_law_370 : decode cL_law 370 = .ok (.iconst 1, 1) := by decide +kernel
theorem dL_law_371 : decode cL_law 371 = .ok (.iadd, 1) := by decide +kernel
theorem dL_law_372 : decode cL_law 372 = .ok (.iaload, 1) := by decide +kernel
theorem dL_law_373 : decode cL_law 373 = .ok (.i2c, 1) := by decide +kernel
theorem dL_law_374 : decode cL_law 374 = .ok (.aload_n 0, 1) := by decide +kernel
theorem dL_law_375 : decode cL_law 375 = .ok (.iload 5, 2) := by decide +kernel
theorem dL_law_377 : decode cL_law 377 = .ok (.iconst 2, 1) := by decide +kernel
theorem dL_law_378 : decode cL_law 378 = .ok (.iadd, 1) := by decide +kernel
theorem dL_law_379 : decode cL_law 379 = .ok (.iaload, 1) := by decide +kernel
theorem dL_law_380 : decode cL_law 380 = .ok (.aload_n 0, 1) := by decide +kernel
theorem dL_law_381 : decode cL_law 381 = .ok (.iload 5, 2) := by decide +kernel
theorem dL_law_383 : decode cL_law 383 = .ok (.iconst 3, 1) := by decide +kernel
theorem dL_law_384 : decode cL_law 384 = .ok (.iadd, 1) := by decide +kernel
theorem dL_law_385 : decode cL_law 385 = .ok (.iaload, 1) := by decide +kernel
theorem dL_law_386 : decode cL_law 386 = .ok (.aload_n 0, 1) := by decide +kernel
theorem dL_law_387 : decode cL_law 387 = .ok (.iload 5, 2) := by decide +kernel
theorem dL_law_389 : decode cL_law 389 = .ok (.iconst 4, 1) := by decide +kernel
theorem dL_law_390 : decode cL_law 390 = .ok (.iadd, 1) := by decide +kernel
theorem dL_law_391 : decode cL_law 391 = .ok (.iaload, 1) := by decide +kernel
theorem dL_law_392 : decode cL_law 392 = .ok (.invokevirtual 123, 3) := by decide +kernel
theorem dL_law_395 : decode cL_law 395 = .ok (.istore 7, 2) := by decide +kernel
theorem dL_law_397 : decode cL_law 397 = .ok (.aload_n 2, 1) := by decide +kernel
theorem dL_law_398 : decode cL_law 398 = .ok (.invokevirtual 112, 3) := by decide +kernel
theorem dL_law_401 : decode cL_law 401 = .ok (.iload 6, 2) := by decide +kernel
theorem dL_law_403 : decode cL_law 403 = .ok (.if_icmp .eq 5, 3) := by decide +kernel
theorem dL_law_406 : decode cL_law 406 = .ok (.iconst 0, 1) := by decide +kernel
theorem dL_law_407 : decode cL_law 407 = .ok (.ireturn, 1) := by decide +kernel
theorem dL_law_408 : decode cL_law 408 = .ok (.iload 6, 2) := by decide +kernel
theorem dL_law_410 : decode cL_law 410 = .ok (.ifCond .ne 15, 3) := by decide +kernel
theorem dL_law_413 : decode cL_law 413 = .ok (.aload_n 3, 1) := by decide +kernel
theorem dL_law_414 : decode cL_law 414 = .ok (.iconst 0, 1) := by decide +kernel
theorem dL_law_415 : decode cL_law 415 = .ok (.laload, 1) := by decide +kernel
theorem dL_law_416 : decode cL_law 416 = .ok (.iload 7, 2) := by decide +kernel
theorem dL_law_418 : decode cL_law 418 = .ok (.i2l, 1) := by decide +kernel
theorem dL_law_419 : decode cL_law 419 = .ok (.lcmp, 1) := by decide +kernel
theorem dL_law_420 : decode cL_law 420 = .ok (.ifCond .eq 5, 3) := by decide +kernel
theorem dL_law_423 : decode cL_law 423 = .ok (.iconst 0, 1) := by decide +kernel
theorem dL_law_424 : decode cL_law 424 = .ok (.ireturn, 1) := by decide +kernel
theorem dL_law_425 : decode cL_law 425 = .ok (.goto 1695, 3) := by decide +kernel
theorem dL_law_428 : decode cL_law 428 = .ok (.aload_n 1, 1) := by decide +kernel
theorem dL_law_429 : decode cL_law 429 = .ok (.aload_n 0, 1) := by decide +kernel
theorem dL_law_430 : decode cL_law 430 = .ok (.iload 5, 2) := by decide +kernel
theorem dL_law_432 : decode cL_law 432 = .ok (.iconst 1, 1) := by decide +kernel
theorem dL_law_433 : decode cL_law 433 = .ok (.iadd, 1) := by decide +kernel
theorem dL_law_434 : decode cL_law 434 = .ok (.iaload, 1) := by decide +kernel
theorem dL_law_435 : decode cL_law 435 = .ok (.aload_n 0, 1) := by decide +kernel
theorem dL_law_436 : decode cL_law 436 = .ok (.iload 5, 2) := by decide +kernel
theorem dL_law_438 : decode cL_law 438 = .ok (.iconst 2, 1) := by decide +kernel
theorem dL_law_439 : decode cL_law 439 = .ok (.iadd, 1) := by decide +kernel
theorem dL_law_440 : decode cL_law 440 = .ok (.iaload, 1) := by decide +kernel
theorem dL_law_441 : decode cL_law 441 = .ok (.aload_n 0, 1) := by decide +kernel
theorem dL_law_442 : decode cL_law 442 = .ok (.iload 5, 2) := by decide +kernel
theorem dL_law_444 : decode cL_law 444 = .ok (.iconst 3, 1) := by decide +kernel
theorem dL_law_445 : decode cL_law 445 = .ok (.iadd, 1) := by decide +kernel
theorem dL_law_446 : decode cL_law 446 = .ok (.iaload, 1) := by decide +kernel
theorem dL_law_447 : decode cL_law 447 = .ok (.aload_n 0, 1) := by decide +kernel
theorem dL_law_448 : decode cL_law 448 = .ok (.iload 5, 2) := by decide +kernel
theorem dL_law_450 : decode cL_law 450 = .ok (.iconst 4, 1) := by decide +kernel
theorem dL_law_451 : decode cL_law 451 = .ok (.iadd, 1) := by decide +kernel
theorem dL_law_452 : decode cL_law 452 = .ok (.iaload, 1) := by decide +kernel
theorem dL_law_453 : decode cL_law 453 = .ok (.aload_n 3, 1) := by decide +kernel
theorem dL_law_454 : decode cL_law 454 = .ok (.invokestatic 124, 3) := by decide +kernel
theorem dL_law_457 : decode cL_law 457 = .ok (.istore 6, 2) := by decide +kernel
theorem dL_law_459 : decode cL_law 459 = .ok (.aload_n 2, 1) := by decide +kernel
theorem dL_law_460 : decode cL_law 460 = .ok (.aload_n 0, 1) := by decide +kernel
theorem dL_law_461 : decode cL_law 461 = .ok (.iload 5, 2) := by decide +kernel
theorem dL_law_463 : decode cL_law 463 = .ok (.iconst 1, 1) := by decide +kernel
theorem dL_law_464 : decode cL_law 464 = .ok (.iadd, 1) := by decide +kernel
theorem dL_law_465 : decode cL_law 465 = .ok (.iaload, 1) := by decide +kernel
theorem dL_law_466 : decode cL_law 466 = .ok (.aload_n 0, 1) := by decide +kernel
theorem dL_law_467 : decode cL_law 467 = .ok (.iload 5, 2) := by decide +kernel
theorem dL_law_469 : decode cL_law 469 = .ok (.iconst 2, 1) := by decide +kernel
theorem dL_law_470 : decode cL_law 470 = .ok (.iadd, 1) := by decide +kernel
theorem dL_law_471 : decode cL_law 471 = .ok (.iaload, 1) := by decide +kernel
theorem dL_law_472 : decode cL_law 472 = .ok (.aload_n 0, 1) := by decide +kernel
theorem dL_law_473 : decode cL_law 473 = .ok (.iload 5, 2) := by decide +kernel
theorem dL_law_475 : decode cL_law 475 = .ok (.iconst 3, 1) := by decide +kernel
theorem dL_law_476 : decode cL_law 476 = .ok (.iadd, 1) := by decide +kernel
theorem dL_law_477 : decode cL_law 477 = .ok (.iaload, 1) := by decide +kernel
theorem dL_law_478 : decode cL_law 478 = .ok (.aload_n 0, 1) := by decide +kernel
theorem dL_law_479 : decode cL_law 479 = .ok (.iload 5, 2) := by decide +kernel
theorem dL_law_481 : decode cL_law 481 = .ok (.iconst 4, 1) := by decide +kernel
theorem dL_law_482 : decode cL_law 482 = .ok (.iadd, 1) := by decide +kernel
theorem dL_law_483 : decode cL_law 483 = .ok (.iaload, 1) := by decide +kernel
theorem dL_law_484 : decode cL_law 484 = .ok (.invokevirtual 127, 3) := by decide +kernel
theorem dL_law_487 : decode cL_law 487 = .ok (.istore 7, 2) := by decide +kernel
theorem dL_law_489 : decode cL_law 489 = .ok (.aload_n 2, 1) := by decide +kernel
theorem dL_law_490 : decode cL_law 490 = .ok (.invokevirtual 112, 3) := by decide +kernel
theorem dL_law_493 : decode cL_law 493 = .ok (.iload 6, 2) := by decide +kernel
theorem dL_law_495 : decode cL_law 495 = .ok (.if_icmp .eq 5, 3) := by decide +kernel
theorem dL_law_498 : decode cL_law 498 = .ok (.iconst 0, 1) := by decide +kernel
theorem dL_law_499 : decode cL_law 499 = .ok (.ireturn, 1) := by decide +kernel
theorem dL_law_500 : decode cL_law 500 = .ok (.iload 6, 2) := by decide +kernel
theorem dL_law_502 : decode cL_law 502 = .ok (.ifCond .ne 15, 3) := by decide +kernel
theorem dL_law_505 : decode cL_law 505 = .ok (.aload_n 3, 1) := by decide +kernel
theorem dL_law_506 : decode cL_law 506 = .ok (.iconst 0, 1) := by decide +kernel
theorem dL_law_507 : decode cL_law 507 = .ok (.laload, 1) := by decide +kernel
theorem dL_law_508 : decode cL_law 508 = .ok (.iload 7, 2) := by decide +kernel
theorem dL_law_510 : decode cL_law 510 = .ok (.i2l, 1) := by decide +kernel
theorem dL_law_511 : decode cL_law 511 = .ok (.lcmp, 1) := by decide +kernel
theorem dL_law_512 : decode cL_law 512 = .ok (.ifCond .eq 5, 3) := by decide +kernel
theorem dL_law_515 : decode cL_law 515 = .ok (.iconst 0, 1) := by decide +kernel
theorem dL_law_516 : decode cL_law 516 = .ok (.ireturn, 1) := by decide +kernel
theorem dL_law_517 : decode cL_law 517 = .ok (.goto 1603, 3) := by decide +kernel
theorem dL_law_520 : decode cL_law 520 = .ok (.aload_n 1, 1) := by decide +kernel
theorem dL_law_521 : decode cL_law 521 = .ok (.aload_n 0, 1) := by decide +kernel
theorem dL_law_522 : decode cL_law 522 = .ok (.iload 5, 2) := by decide +kernel
theorem dL_law_524 : decode cL_law 524 = .ok (.iconst 1, 1) := by decide +kernel
theorem dL_law_525 : decode cL_law 525 = .ok (.iadd, 1) := by decide +kernel
theorem dL_law_526 : decode cL_law 526 = .ok (.iaload, 1) := by decide +kernel
theorem dL_law_527 : decode cL_law 527 = .ok (.aload_n 3, 1) := by decide +kernel
theorem dL_law_528 : decode cL_law 528 = .ok (.invokestatic 128, 3) := by decide +kernel
theorem dL_law_531 : decode cL_law 531 = .ok (.istore 6, 2) := by decide +kernel
theorem dL_law_533 : decode cL_law 533 = .ok (.aload_n 2, 1) := by decide +kernel
theorem dL_law_534 : decode cL_law 534 = .ok (.aload_n 0, 1) := by decide +kernel
theorem dL_law_535 : decode cL_law 535 = .ok (.iload 5, 2) := by decide +kernel
theorem dL_law_537 : decode cL_law 537 = .ok (.iconst 1, 1) := by decide +kernel
theorem dL_law_538 : decode cL_law 538 = .ok (.iadd, 1) := by decide +kernel
theorem dL_law_539 : decode cL_law 539 = .ok (.iaload, 1) := by decide +kernel
theorem dL_law_540 : decode cL_law 540 = .ok (.invokevirtual 130, 3) := by decide +kernel
theorem dL_law_543 : decode cL_law 543 = .ok (.istore 7, 2) := by decide +kernel
theorem dL_law_545 : decode cL_law 545 = .ok (.aload_n 2, 1) := by decide +kernel
theorem dL_law_546 : decode cL_law 546 = .ok (.invokevirtual 112, 3) := by decide +kernel
theorem dL_law_549 : decode cL_law 549 = .ok (.iload 6, 2) := by decide +kernel
theorem dL_law_551 : decode cL_law 551 = .ok (.if_icmp .eq 5, 3) := by decide +kernel
theorem dL_law_554 : decode cL_law 554 = .ok (.iconst 0, 1) := by decide +kernel
theorem dL_law_555 : decode cL_law 555 = .ok (.ireturn, 1) := by decide +kernel
theorem dL_law_556 : decode cL_law 556 = .ok (.iload 6, 2) := by decide +kernel
theorem dL_law_558 : decode cL_law 558 = .ok (.ifCond .ne 15, 3) := by decide +kernel
theorem dL_law_561 : decode cL_law 561 = .ok (.aload_n 3, 1) := by decide +kernel
theorem dL_law_562 : decode cL_law 562 = .ok (.iconst 0, 1) := by decide +kernel
theorem dL_law_563 : decode cL_law 563 = .ok (.laload, 1) := by decide +kernel
theorem dL_law_564 : decode cL_law 564 = .ok (.iload 7, 2) := by decide +kernel
theorem dL_law_566 : decode cL_law 566 = .ok (.i2l, 1) := by decide +kernel
theorem dL_law_567 : decode cL_law 567 = .ok (.lcmp, 1) := by decide +kernel
theorem dL_law_568 : decode cL_law 568 = .ok (.ifCond .eq 5, 3) := by decide +kernel
theorem dL_law_571 : decode cL_law 571 = .ok (.iconst 0, 1) := by decide +kernel
theorem dL_law_572 : decode cL_law 572 = .ok (.ireturn, 1) := by decide +kernel
theorem dL_law_573 : decode cL_law 573 = .ok (.goto 1547, 3) := by decide +kernel
theorem dL_law_576 : decode cL_law 576 = .ok (.aload_n 1, 1) := by decide +kernel
theorem dL_law_577 : decode cL_law 577 = .ok (.aload_n 0, 1) := by decide +kernel
theorem dL_law_578 : decode cL_law 578 = .ok (.iload 5, 2) := by decide +kernel
theorem dL_law_580 : decode cL_law 580 = .ok (.iconst 1, 1) := by decide +kernel
theorem dL_law_581 : decode cL_law 581 = .ok (.iadd, 1) := by decide +kernel
theorem dL_law_582 : decode cL_law 582 = .ok (.iaload, 1) := by decide +kernel
theorem dL_law_583 : decode cL_law 583 = .ok (.aload_n 0, 1) := by decide +kernel
theorem dL_law_584 : decode cL_law 584 = .ok (.iload 5, 2) := by decide +kernel
theorem dL_law_586 : decode cL_law 586 = .ok (.iconst 2, 1) := by decide +kernel
theorem dL_law_587 : decode cL_law 587 = .ok (.iadd, 1) := by decide +kernel
theorem dL_law_588 : decode cL_law 588 = .ok (.iaload, 1) := by decide +kernel
theorem dL_law_589 : decode cL_law 589 = .ok (.aload_n 3, 1) := by decide +kernel
theorem dL_law_590 : decode cL_law 590 = .ok (.invokestatic 131, 3) := by decide +kernel
theorem dL_law_593 : decode cL_law 593 = .ok (.istore 6, 2) := by decide +kernel
theorem dL_law_595 : decode cL_law 595 = .ok (.aload_n 2, 1) := by decide +kernel
theorem dL_law_596 : decode cL_law 596 = .ok (.aload_n 0, 1) := by decide +kernel
theorem dL_law_597 : decode cL_law 597 = .ok (.iload 5, 2) := by decide +kernel
theorem dL_law_599 : decode cL_law 599 = .ok (.iconst 1, 1) := by decide +kernel
theorem dL_law_600 : decode cL_law 600 = .ok (.iadd, 1) := by decide +kernel
theorem dL_law_601 : decode cL_law 601 = .ok (.iaload, 1) := by decide +kernel
theorem dL_law_602 : decode cL_law 602 = .ok (.aload_n 0, 1) := by decide +kernel
theorem dL_law_603 : decode cL_law 603 = .ok (.iload 5, 2) := by decide +kernel
theorem dL_law_605 : decode cL_law 605 = .ok (.iconst 2, 1) := by decide +kernel
theorem dL_law_606 : decode cL_law 606 = .ok (.iadd, 1) := by decide +kernel
theorem dL_law_607 : decode cL_law 607 = .ok (.iaload, 1) := by decide +kernel
theorem dL_law_608 : decode cL_law 608 = .ok (.invokevirtual 134, 3) := by decide +kernel
theorem dL_law_611 : decode cL_law 611 = .ok (.istore 7, 2) := by decide +kernel
theorem dL_law_613 : decode cL_law 613 = .ok (.aload_n 2, 1) := by decide +kernel
theorem dL_law_614 : decode cL_law 614 = .ok (.invokevirtual 112, 3) := by decide +kernel
theorem dL_law_617 : decode cL_law 617 = .ok (.iload 6, 2) := by decide +kernel
theorem dL_law_619 : decode cL_law 619 = .ok (.if_icmp .eq 5, 3) := by decide +kernel
theorem dL_law_622 : decode cL_law 622 = .ok (.iconst 0, 1) := by decide +kernel
theorem dL_law_623 : decode cL_law 623 = .ok (.ireturn, 1) := by decide +kernel
theorem dL_law_624 : decode cL_law 624 = .ok (.iload 6, 2) := by decide +kernel
theorem dL_law_626 : decode cL_law 626 = .ok (.ifCond .ne 15, 3) := by decide +kernel
theorem dL_law_629 : decode cL_law 629 = .ok (.aload_n 3, 1) := by decide +kernel
theorem dL_law_630 : decode cL_law 630 = .ok (.iconst 0, 1) := by decide +kernel
theorem dL_law_631 : decode cL_law 631 = .ok (.laload, 1) := by decide +kernel
theorem dL_law_632 : decode cL_law 632 = .ok (.iload 7, 2) := by decide +kernel
theorem dL_law_634 : decode cL_law 634 = .ok (.i2l, 1) := by decide +kernel
theorem dL_law_635 : decode cL_law 635 = .ok (.lcmp, 1) := by decide +kernel
theorem dL_law_636 : decode cL_law 636 = .ok (.ifCond .eq 5, 3) := by decide +kernel
theorem dL_law_639 : decode cL_law 639 = .ok (.iconst 0, 1) := by decide +kernel
theorem dL_law_640 : decode cL_law 640 = .ok (.ireturn, 1) := by decide +kernel
theorem dL_law_641 : decode cL_law 641 = .ok (.goto 1479, 3) := by decide +kernel
theorem dL_law_644 : decode cL_law 644 = .ok (.aload_n 1, 1) := by decide +kernel
theorem dL_law_645 : decode cL_law 645 = .ok (.aload_n 0, 1) := by decide +kernel
theorem dL_law_646 : decode cL_law 646 = .ok (.iload 5, 2) := by decide +kernel
theorem dL_law_648 : decode cL_law 648 = .ok (.iconst 1, 1) := by decide +kernel
theorem dL_law_649 : decode cL_law 649 = .ok (.iadd, 1) := by decide +kernel
theorem dL_law_650 : decode cL_law 650 = .ok (.iaload, 1) := by decide +kernel
theorem dL_law_651 : decode cL_law 651 = .ok (.aload_n 0, 1) := by decide +kernel
theorem dL_law_652 : decode cL_law 652 = .ok (.iload 5, 2) := by decide +kernel
theorem dL_law_654 : decode cL_law 654 = .ok (.iconst 2, 1) := by decide +kernel
theorem dL_law_655 : decode cL_law 655 = .ok (.iadd, 1) := by decide +kernel
theorem dL_law_656 : decode cL_law 656 = .ok (.iaload, 1) := by decide +kernel
theorem dL_law_657 : decode cL_law 657 = .ok (.ifCond .eq 7, 3) := by decide +kernel
theorem dL_law_660 : decode cL_law 660 = .ok (.iconst 1, 1) := by decide +kernel
theorem dL_law_661 : decode cL_law 661 = .ok (.goto 4, 3) := by decide +kernel
theorem dL_law_664 : decode cL_law 664 = .ok (.iconst 0, 1) := by decide +kernel
theorem dL_law_665 : decode cL_law 665 = .ok (.aload_n 3, 1) := by decide +kernel
theorem dL_law_666 : decode cL_law 666 = .ok (.invokestatic 135, 3) := by decide +kernel
theorem dL_law_669 : decode cL_law 669 = .ok (.istore 6, 2) := by decide +kernel
theorem dL_law_671 : decode cL_law 671 = .ok (.aload_n 2, 1) := by decide +kernel
theorem dL_law_672 : decode cL_law 672 = .ok (.aload_n 0, 1) := by decide +kernel
theorem dL_law_673 : decode cL_law 673 = .ok (.iload 5, 2) := by decide +kernel
theorem dL_law_675 : decode cL_law 675 = .ok (.iconst 1, 1) := by decide +kernel
theorem dL_law_676 : decode cL_law 676 = .ok (.iadd, 1) := by decide +kernel
theorem dL_law_677 : decode cL_law 677 = .ok (.iaload, 1) := by decide +kernel
theorem dL_law_678 : decode cL_law 678 = .ok (.aload_n 0, 1) := by decide +kernel
theorem dL_law_679 : decode cL_law 679 = .ok (.iload 5, 2) := by decide +kernel
theorem dL_law_681 : decode cL_law 681 = .ok (.iconst 2, 1) := by decide +kernel
theorem dL_law_682 : decode cL_law 682 = .ok (.iadd, 1) := by decide +kernel
theorem dL_law_683 : decode cL_law 683 = .ok (.iaload, 1) := by decide +kernel
theorem dL_law_684 : decode cL_law 684 = .ok (.ifCond .eq 7, 3) := by decide +kernel
theorem dL_law_687 : decode cL_law 687 = .ok (.iconst 1, 1) := by decide +kernel
theorem dL_law_688 : decode cL_law 688 = .ok (.goto 4, 3) := by decide +kernel
theorem dL_law_691 : decode cL_law 691 = .ok (.iconst 0, 1) := by decide +kernel
theorem dL_law_692 : decode cL_law 692 = .ok (.invokevirtual 138, 3) := by decide +kernel
theorem dL_law_695 : decode cL_law 695 = .ok (.istore 7, 2) := by decide +kernel
theorem dL_law_697 : decode cL_law 697 = .ok (.aload_n 2, 1) := by decide +kernel
theorem dL_law_698 : decode cL_law 698 = .ok (.invokevirtual 112, 3) := by decide +kernel
theorem dL_law_701 : decode cL_law 701 = .ok (.iload 6, 2) := by decide +kernel
theorem dL_law_703 : decode cL_law 703 = .ok (.if_icmp .eq 5, 3) := by decide +kernel
theorem dL_law_706 : decode cL_law 706 = .ok (.iconst 0, 1) := by decide +kernel
theorem dL_law_707 : decode cL_law 707 = .ok (.ireturn, 1) := by decide +kernel
theorem dL_law_708 : decode cL_law 708 = .ok (.iload 6, 2) := by decide +kernel
theorem dL_law_710 : decode cL_law 710 = .ok (.ifCond .ne 22, 3) := by decide +kernel
theorem dL_law_713 : decode cL_law 713 = .ok (.aload_n 3, 1) := by decide +kernel
theorem dL_law_714 : decode cL_law 714 = .ok (.iconst 0, 1) := by decide +kernel
theorem dL_law_715 : decode cL_law 715 = .ok (.laload, 1) := by decide +kernel
theorem dL_law_716 : decode cL_law 716 = .ok (.iload 7, 2) := by decide +kernel
theorem dL_law_718 : decode cL_law 718 = .ok (.ifCond .eq 7, 3) := by decide +kernel
theorem dL_law_721 : decode cL_law 721 = .ok (.lconst 1, 1) := by decide +kernel
theorem dL_law_722 : decode cL_law 722 = .ok (.goto 4, 3) := by decide +kernel
theorem dL_law_725 : decode cL_law 725 = .ok (.lconst 0, 1) := by decide +kernel
theorem dL_law_726 : decode cL_law 726 = .ok (.lcmp, 1) := by decide +kernel
theorem dL_law_727 : decode cL_law 727 = .ok (.ifCond .eq 5, 3) := by decide +kernel
theorem dL_law_730 : decode cL_law 730 = .ok (.iconst 0, 1) := by decide +kernel
theorem dL_law_731 : decode cL_law 731 = .ok (.ireturn, 1) := by decide +kernel
theorem dL_law_732 : decode cL_law 732 = .ok (.goto 1388, 3) := by decide +kernel
theorem dL_law_735 : decode cL_law 735 = .ok (.aload_n 1, 1) := by decide +kernel
theorem dL_law_736 : decode cL_law 736 = .ok (.aload_n 0, 1) := by decide +kernel
theorem dL_law_737 : decode cL_law 737 = .ok (.iload 5, 2) := by decide +kernel
theorem dL_law_739 : decode cL_law 739 = .ok (.iconst 1, 1) := by decide +kernel
theorem dL_law_740 : decode cL_law 740 = .ok (.iadd, 1) := by decide +kernel
theorem dL_law_741 : decode cL_law 741 = .ok (.iaload, 1) := by decide +kernel
theorem dL_law_742 : decode cL_law 742 = .ok (.aload_n 3, 1) := by decide +kernel
theorem dL_law_743 : decode cL_law 743 = .ok (.invokestatic 139, 3) := by decide +kernel
theorem dL_law_746 : decode cL_law 746 = .ok (.istore 6, 2) := by decide +kernel
theorem dL_law_748 : decode cL_law 748 = .ok (.aload_n 2, 1) := by decide +kernel
theorem dL_law_749 : decode cL_law 749 = .ok (.aload_n 0, 1) := by decide +kernel
theorem dL_law_750 : decode cL_law 750 = .ok (.iload 5, 2) := by decide +kernel
theorem dL_law_752 : decode cL_law 752 = .ok (.iconst 1, 1) := by decide +kernel
theorem dL_law_753 : decode cL_law 753 = .ok (.iadd, 1) := by decide +kernel
theorem dL_law_754 : decode cL_law 754 = .ok (.iaload, 1) := by decide +kernel
theorem dL_law_755 : decode cL_law 755 = .ok (.invokevirtual 141, 3) := by decide +kernel
theorem dL_law_758 : decode cL_law 758 = .ok (.istore 7, 2) := by decide +kernel
theorem dL_law_760 : decode cL_law 760 = .ok (.aload_n 2, 1) := by decide +kernel
theorem dL_law_761 : decode cL_law 761 = .ok (.invokevirtual 112, 3) := by decide +kernel
theorem dL_law_764 : decode cL_law 764 = .ok (.iload 6, 2) := by decide +kernel
theorem dL_law_766 : decode cL_law 766 = .ok (.if_icmp .eq 5, 3) := by decide +kernel
theorem dL_law_769 : decode cL_law 769 = .ok (.iconst 0, 1) := by decide +kernel
theorem dL_law_770 : decode cL_law 770 = .ok (.ireturn, 1) := by decide +kernel
theorem dL_law_771 : decode cL_law 771 = .ok (.iload 6, 2) := by decide +kernel
theorem dL_law_773 : decode cL_law 773 = .ok (.ifCond .ne 15, 3) := by decide +kernel
theorem dL_law_776 : decode cL_law 776 = .ok (.aload_n 3, 1) := by decide +kernel
theorem dL_law_777 : decode cL_law 777 = .ok (.iconst 0, 1) := by decide +kernel
theorem dL_law_778 : decode cL_law 778 = .ok (.laload, 1) := by decide +kernel
theorem dL_law_779 : decode cL_law 779 = .ok (.iload 7, 2) := by decide +kernel
theorem dL_law_781 : decode cL_law 781 = .ok (.i2l, 1) := by decide +kernel
theorem dL_law_782 : decode cL_law 782 = .ok (.lcmp, 1) := by decide +kernel
theorem dL_law_783 : decode cL_law 783 = .ok (.ifCond .eq 5, 3) := by decide +kernel
theorem dL_law_786 : decode cL_law 786 = .ok (.iconst 0, 1) := by decide +kernel
theorem dL_law_787 : decode cL_law 787 = .ok (.ireturn, 1) := by decide +kernel
theorem dL_law_788 : decode cL_law 788 = .ok (.goto 1332, 3) := by decide +kernel
theorem dL_law_791 : decode cL_law 791 = .ok (.aload_n 1, 1) := by decide +kernel
theorem dL_law_792 : decode cL_law 792 = .ok (.aload_n 0, 1) := by decide +kernel
theorem dL_law_793 : decode cL_law 793 = .ok (.iload 5, 2) := by decide +kernel
theorem dL_law_795 : decode cL_law 795 = .ok (.iconst 1, 1) := by decide +kernel
theorem dL_law_796 : decode cL_law 796 = .ok (.iadd, 1) := by decide +kernel
theorem dL_law_797 : decode cL_law 797 = .ok (.iaload, 1) := by decide +kernel
theorem dL_law_798 : decode cL_law 798 = .ok (.aload_n 3, 1) := by decide +kernel
theorem dL_law_799 : decode cL_law 799 = .ok (.invokestatic 142, 3) := by decide +kernel
theorem dL_law_802 : decode cL_law 802 = .ok (.istore 6, 2) := by decide +kernel
theorem dL_law_804 : decode cL_law 804 = .ok (.aload_n 2, 1) := by decide +kernel
theorem dL_law_805 : decode cL_law 805 = .ok (.aload_n 0, 1) := by decide +kernel
theorem dL_law_806 : decode cL_law 806 = .ok (.iload 5, 2) := by decide +kernel
theorem dL_law_808 : decode cL_law 808 = .ok (.iconst 1, 1) := by decide +kernel
theorem dL_law_809 : decode cL_law 809 = .ok (.iadd, 1) := by decide +kernel
theorem dL_law_810 : decode cL_law 810 = .ok (.iaload, 1) := by decide +kernel
theorem dL_law_811 : decode cL_law 811 = .ok (.invokevirtual 144, 3) := by decide +kernel
theorem dL_law_814 : decode cL_law 814 = .ok (.istore 7, 2) := by decide +kernel
theorem dL_law_816 : decode cL_law 816 = .ok (.aload_n 2, 1) := by decide +kernel
theorem dL_law_817 : decode cL_law 817 = .ok (.invokevirtual 112, 3) := by decide +kernel
theorem dL_law_820 : decode cL_law 820 = .ok (.iload 6, 2) := by decide +kernel
theorem dL_law_822 : decode cL_law 822 = .ok (.if_icmp .eq 5, 3) := by decide +kernel
theorem dL_law_825 : decode cL_law 825 = .ok (.iconst 0, 1) := by decide +kernel
theorem dL_law_826 : decode cL_law 826 = .ok (.ireturn, 1) := by decide +kernel
theorem dL_law_827 : decode cL_law 827 = .ok (.iload 6, 2) := by decide +kernel
theorem dL_law_829 : decode cL_law 829 = .ok (.ifCond .ne 15, 3) := by decide +kernel
theorem dL_law_832 : decode cL_law 832 = .ok (.aload_n 3, 1) := by decide +kernel
theorem dL_law_833 : decode cL_law 833 = .ok (.iconst 0, 1) := by decide +kernel
theorem dL_law_834 : decode cL_law 834 = .ok (.laload, 1) := by decide +kernel
theorem dL_law_835 : decode cL_law 835 = .ok (.iload 7, 2) := by decide +kernel
theorem dL_law_837 : decode cL_law 837 = .ok (.i2l, 1) := by decide +kernel
theorem dL_law_838 : decode cL_law 838 = .ok (.lcmp, 1) := by decide +kernel
theorem dL_law_839 : decode cL_law 839 = .ok (.ifCond .eq 5, 3) := by decide +kernel
theorem dL_law_842 : decode cL_law 842 = .ok (.iconst 0, 1) := by decide +kernel
theorem dL_law_843 : decode cL_law 843 = .ok (.ireturn, 1) := by decide +kernel
theorem dL_law_844 : decode cL_law 844 = .ok (.goto 1276, 3) := by decide +kernel
theorem dL_law_847 : decode cL_law 847 = .ok (.aload_n 1, 1) := by decide +kernel
theorem dL_law_848 : decode cL_law 848 = .ok (.aload_n 0, 1) := by decide +kernel
theorem dL_law_849 : decode cL_law 849 = .ok (.iload 5, 2) := by decide +kernel
theorem dL_law_851 : decode cL_law 851 = .ok (.iconst 1, 1) := by decide +kernel
theorem dL_law_852 : decode cL_law 852 = .ok (.iadd, 1) := by decide +kernel
theorem dL_law_853 : decode cL_law 853 = .ok (.iaload, 1) := by decide +kernel
theorem dL_law_854 : decode cL_law 854 = .ok (.aload_n 3, 1) := by decide +kernel
theorem dL_law_855 : decode cL_law 855 = .ok (.invokestatic 145, 3) := by decide +kernel
theorem dL_law_858 : decode cL_law 858 = .ok (.istore 6, 2) := by decide +kernel
theorem dL_law_860 : decode cL_law 860 = .ok (.aload_n 2, 1) := by decide +kernel
theorem dL_law_861 : decode cL_law 861 = .ok (.aload_n 0, 1) := by decide +kernel
theorem dL_law_862 : decode cL_law 862 = .ok (.iload 5, 2) := by decide +kernel
theorem dL_law_864 : decode cL_law 864 = .ok (.iconst 1, 1) := by decide +kernel
theorem dL_law_865 : decode cL_law 865 = .ok (.iadd, 1) := by decide +kernel
theorem dL_law_866 : decode cL_law 866 = .ok (.iaload, 1) := by decide +kernel
theorem dL_law_867 : decode cL_law 867 = .ok (.invokevirtual 147, 3) := by decide +kernel
theorem dL_law_870 : decode cL_law 870 = .ok (.istore 7, 2) := by decide +kernel
theorem dL_law_872 : decode cL_law 872 = .ok (.aload_n 2, 1) := by decide +kernel
theorem dL_law_873 : decode cL_law 873 = .ok (.invokevirtual 112, 3) := by decide +kernel
theorem dL_law_876 : decode cL_law 876 = .ok (.iload 6, 2) := by decide +kernel
theorem dL_law_878 : decode cL_law 878 = .ok (.if_icmp .eq 5, 3) := by decide +kernel
theorem dL_law_881 : decode cL_law 881 = .ok (.iconst 0, 1) := by decide +kernel
theorem dL_law_882 : decode cL_law 882 = .ok (.ireturn, 1) := by decide +kernel
theorem dL_law_883 : decode cL_law 883 = .ok (.iload 6, 2) := by decide +kernel
theorem dL_law_885 : decode cL_law 885 = .ok (.ifCond .ne 15, 3) := by decide +kernel
theorem dL_law_888 : decode cL_law 888 = .ok (.aload_n 3, 1) := by decide +kernel
theorem dL_law_889 : decode cL_law 889 = .ok (.iconst 0, 1) := by decide +kernel
theorem dL_law_890 : decode cL_law 890 = .ok (.laload, 1) := by decide +kernel
theorem dL_law_891 : decode cL_law 891 = .ok (.iload 7, 2) := by decide +kernel
theorem dL_law_893 : decode cL_law 893 = .ok (.i2l, 1) := by decide +kernel
theorem dL_law_894 : decode cL_law 894 = .ok (.lcmp, 1) := by decide +kernel
theorem dL_law_895 : decode cL_law 895 = .ok (.ifCond .eq 5, 3) := by decide +kernel
theorem dL_law_898 : decode cL_law 898 = .ok (.iconst 0, 1) := by decide +kernel
theorem dL_law_899 : decode cL_law 899 = .ok (.ireturn, 1) := by decide +kernel
theorem dL_law_900 : decode cL_law 900 = .ok (.goto 1220, 3) := by decide +kernel
theorem dL_law_903 : decode cL_law 903 = .ok (.aload_n 1, 1) := by decide +kernel
theorem dL_law_904 : decode cL_law 904 = .ok (.invokevirtual 148, 3) := by decide +kernel
theorem dL_law_907 : decode cL_law 907 = .ok (.aload_n 2, 1) := by decide +kernel
theorem dL_law_908 : decode cL_law 908 = .ok (.invokevirtual 152, 3) := by decide +kernel
theorem dL_law_911 : decode cL_law 911 = .ok (.lcmp, 1) := by decide +kernel
theorem dL_law_912 : decode cL_law 912 = .ok (.ifCond .eq 1208, 3) := by decide +kernel
theorem dL_law_915 : decode cL_law 915 = .ok (.iconst 0, 1) := by decide +kernel
theorem dL_law_916 : decode cL_law 916 = .ok (.ireturn, 1) := by decide +kernel
theorem dL_law_917 : decode cL_law 917 = .ok (.aload_n 1, 1) := by decide +kernel
theorem dL_law_918 : decode cL_law 918 = .ok (.aload_n 0, 1) := by decide +kernel
theorem dL_law_919 : decode cL_law 919 = .ok (.iload 5, 2) := by decide +kernel
theorem dL_law_921 : decode cL_law 921 = .ok (.iconst 1, 1) := by decide +kernel
theorem dL_law_922 : decode cL_law 922 = .ok (.iadd, 1) := by decide +kernel
theorem dL_law_923 : decode cL_law 923 = .ok (.iaload, 1) := by decide +kernel
theorem dL_law_924 : decode cL_law 924 = .ok (.aload_n 0, 1) := by decide +kernel
theorem dL_law_925 : decode cL_law 925 = .ok (.iload 5, 2) := by decide +kernel
theorem dL_law_927 : decode cL_law 927 = .ok (.iconst 2, 1) := by decide +kernel
theorem dL_law_928 : decode cL_law 928 = .ok (.iadd, 1) := by decide +kernel
theorem dL_law_929 : decode cL_law 929 = .ok (.iaload, 1) := by decide +kernel
theorem dL_law_930 : decode cL_law 930 = .ok (.aload_n 0, 1) := by decide +kernel
theorem dL_law_931 : decode cL_law 931 = .ok (.iload 5, 2) := by decide +kernel
theorem dL_law_933 : decode cL_law 933 = .ok (.iconst 3, 1) := by decide +kernel
theorem dL_law_934 : decode cL_law 934 = .ok (.iadd, 1) := by decide +kernel
theorem dL_law_935 : decode cL_law 935 = .ok (.iaload, 1) := by decide +kernel
theorem dL_law_936 : decode cL_law 936 = .ok (.aload_n 3, 1) := by decide +kernel
theorem dL_law_937 : decode cL_law 937 = .ok (.invokestatic 153, 3) := by decide +kernel
theorem dL_law_940 : decode cL_law 940 = .ok (.istore 6, 2) := by decide +kernel
theorem dL_law_942 : decode cL_law 942 = .ok (.aload_n 2, 1) := by decide +kernel
theorem dL_law_943 : decode cL_law 943 = .ok (.aload_n 0, 1) := by decide +kernel
theorem dL_law_944 : decode cL_law 944 = .ok (.iload 5, 2) := by decide +kernel
theorem dL_law_946 : decode cL_law 946 = .ok (.iconst 1, 1) := by decide +kernel
theorem dL_law_947 : decode cL_law 947 = .ok (.iadd, 1) := by decide +kernel
theorem dL_law_948 : decode cL_law 948 = .ok (.iaload, 1) := by decide +kernel
theorem dL_law_949 : decode cL_law 949 = .ok (.aload_n 0, 1) := by decide +kernel
theorem dL_law_950 : decode cL_law 950 = .ok (.iload 5, 2) := by decide +kernel
theorem dL_law_952 : decode cL_law 952 = .ok (.iconst 2, 1) := by decide +kernel
theorem dL_law_953 : decode cL_law 953 = .ok (.iadd, 1) := by decide +kernel
theorem dL_law_954 : decode cL_law 954 = .ok (.iaload, 1) := by decide +kernel
theorem dL_law_955 : decode cL_law 955 = .ok (.aload_n 0, 1) := by decide +kernel
theorem dL_law_956 : decode cL_law 956 = .ok (.iload 5, 2) := by decide +kernel
theorem dL_law_958 : decode cL_law 958 = .ok (.iconst 3, 1) := by decide +kernel
theorem dL_law_959 : decode cL_law 959 = .ok (.iadd, 1) := by decide +kernel
theorem dL_law_960 : decode cL_law 960 = .ok (.iaload, 1) := by decide +kernel
theorem dL_law_961 : decode cL_law 961 = .ok (.invokevirtual 156, 3) := by decide +kernel
theorem dL_law_964 : decode cL_law 964 = .ok (.istore 7, 2) := by decide +kernel
theorem dL_law_966 : decode cL_law 966 = .ok (.aload_n 2, 1) := by decide +kernel
theorem dL_law_967 : decode cL_law 967 = .ok (.invokevirtual 112, 3) := by decide +kernel
theorem dL_law_970 : decode cL_law 970 = .ok (.iload 6, 2) := by decide +kernel
theorem dL_law_972 : decode cL_law 972 = .ok (.if_icmp .eq 5, 3) := by decide +kernel
theorem dL_law_975 : decode cL_law 975 = .ok (.iconst 0, 1) := by decide +kernel
theorem dL_law_976 : decode cL_law 976 = .ok (.ireturn, 1) := by decide +kernel
theorem dL_law_977 : decode cL_law 977 = .ok (.iload 6, 2) := by decide +kernel
theorem dL_law_979 : decode cL_law 979 = .ok (.ifCond .ne 22, 3) := by decide +kernel
theorem dL_law_982 : decode cL_law 982 = .ok (.aload_n 3, 1) := by decide +kernel
theorem dL_law_983 : decode cL_law 983 = .ok (.iconst 0, 1) := by decide +kernel
theorem dL_law_984 : decode cL_law 984 = .ok (.laload, 1) := by decide +kernel
theorem dL_law_985 : decode cL_law 985 = .ok (.iload 7, 2) := by decide +kernel
theorem dL_law_987 : decode cL_law 987 = .ok (.ifCond .eq 7, 3) := by decide +kernel
theorem dL_law_990 : decode cL_law 990 = .ok (.lconst 1, 1) := by decide +kernel
theorem dL_law_991 : decode cL_law 991 = .ok (.goto 4, 3) := by decide +kernel
theorem dL_law_994 : decode cL_law 994 = .ok (.lconst 0, 1) := by decide +kernel
theorem dL_law_995 : decode cL_law 995 = .ok (.lcmp, 1) := by decide +kernel
theorem dL_law_996 : decode cL_law 996 = .ok (.ifCond .eq 5, 3) := by decide +kernel
theorem dL_law_999 : decode cL_law 999 = .ok (.iconst 0, 1) := by decide +kernel
theorem dL_law_1000 : decode cL_law 1000 = .ok (.ireturn, 1) := by decide +kernel
theorem dL_law_1001 : decode cL_law 1001 = .ok (.goto 1119, 3) := by decide +kernel
theorem dL_law_1004 : decode cL_law 1004 = .ok (.aload_n 1, 1) := by decide +kernel
theorem dL_law_1005 : decode cL_law 1005 = .ok (.aload_n 0, 1) := by decide +kernel
theorem dL_law_1006 : decode cL_law 1006 = .ok (.iload 5, 2) := by decide +kernel
theorem dL_law_1008 : decode cL_law 1008 = .ok (.iconst 1, 1) := by decide +kernel
theorem dL_law_1009 : decode cL_law 1009 = .ok (.iadd, 1) := by decide +kernel
theorem dL_law_1010 : decode cL_law 1010 = .ok (.iaload, 1) := by decide +kernel
theorem dL_law_1011 : decode cL_law 1011 = .ok (.aload_n 0, 1) := by decide +kernel
theorem dL_law_1012 : decode cL_law 1012 = .ok (.iload 5, 2) := by decide +kernel
theorem dL_law_1014 : decode cL_law 1014 = .ok (.iconst 2, 1) := by decide +kernel
theorem dL_law_1015 : decode cL_law 1015 = .ok (.iadd, 1) := by decide +kernel
theorem dL_law_1016 : decode cL_law 1016 = .ok (.iaload, 1) := by decide +kernel
theorem dL_law_1017 : decode cL_law 1017 = .ok (.aload_n 0, 1) := by decide +kernel
theorem dL_law_1018 : decode cL_law 1018 = .ok (.iload 5, 2) := by decide +kernel
theorem dL_law_1020 : decode cL_law 1020 = .ok (.iconst 3, 1) := by decide +kernel
theorem dL_law_1021 : decode cL_law 1021 = .ok (.iadd, 1) := by decide +kernel
theorem dL_law_1022 : decode cL_law 1022 = .ok (.iaload, 1) := by decide +kernel
theorem dL_law_1023 : decode cL_law 1023 = .ok (.aload_n 3, 1) := by decide +kernel
theorem dL_law_1024 : decode cL_law 1024 = .ok (.invokestatic 157, 3) := by decide +kernel
theorem dL_law_1027 : decode cL_law 1027 = .ok (.istore 6, 2) := by decide +kernel
theorem dL_law_1029 : decode cL_law 1029 = .ok (.aload_n 2, 1) := by decide +kernel
theorem dL_law_1030 : decode cL_law 1030 = .ok (.aload_n 0, 1) := by decide +kernel
theorem dL_law_1031 : decode cL_law 1031 = .ok (.iload 5, 2) := by decide +kernel
theorem dL_law_1033 : decode cL_law 1033 = .ok (.iconst 1, 1) := by decide +kernel
theorem dL_law_1034 : decode cL_law 1034 = .ok (.iadd, 1) := by decide +kernel
theorem dL_law_1035 : decode cL_law 1035 = .ok (.iaload, 1) := by decide +kernel
theorem dL_law_1036 : decode cL_law 1036 = .ok (.aload_n 0, 1) := by decide +kernel
theorem dL_law_1037 : decode cL_law 1037 = .ok (.iload 5, 2) := by decide +kernel
theorem dL_law_1039 : decode cL_law 1039 = .ok (.iconst 2, 1) := by decide +kernel
theorem dL_law_1040 : decode cL_law 1040 = .ok (.iadd, 1) := by decide +kernel
theorem dL_law_1041 : decode cL_law 1041 = .ok (.iaload, 1) := by decide +kernel
theorem dL_law_1042 : decode cL_law 1042 = .ok (.aload_n 0, 1) := by decide +kernel
theorem dL_law_1043 : decode cL_law 1043 = .ok (.iload 5, 2) := by decide +kernel
theorem dL_law_1045 : decode cL_law 1045 = .ok (.iconst 3, 1) := by decide +kernel
theorem dL_law_1046 : decode cL_law 1046 = .ok (.iadd, 1) := by decide +kernel
theorem dL_law_1047 : decode cL_law 1047 = .ok (.iaload, 1) := by decide +kernel
theorem dL_law_1048 : decode cL_law 1048 = .ok (.invokevirtual 159, 3) := by decide +kernel
theorem dL_law_1051 : decode cL_law 1051 = .ok (.istore 7, 2) := by decide +kernel
theorem dL_law_1053 : decode cL_law 1053 = .ok (.aload_n 2, 1) := by decide +kernel
theorem dL_law_1054 : decode cL_law 1054 = .ok (.invokevirtual 112, 3) := by decide +kernel
theorem dL_law_1057 : decode cL_law 1057 = .ok (.iload 6, 2) := by decide +kernel
theorem dL_law_1059 : decode cL_law 1059 = .ok (.if_icmp .eq 5, 3) := by decide +kernel
theorem dL_law_1062 : decode cL_law 1062 = .ok (.iconst 0, 1) := by decide +kernel
theorem dL_law_1063 : decode cL_law 1063 = .ok (.ireturn, 1) := by decide +kernel
theorem dL_law_1064 : decode cL_law 1064 = .ok (.iload 6, 2) := by decide +kernel
theorem dL_law_1066 : decode cL_law 1066 = .ok (.ifCond .ne 22, 3) := by decide +kernel
theorem dL_law_1069 : decode cL_law 1069 = .ok (.aload_n 3, 1) := by decide +kernel
theorem dL_law_1070 : decode cL_law 1070 = .ok (.iconst 0, 1) := by decide +kernel
theorem dL_law_1071 : decode cL_law 1071 = .ok (.laload, 1) := by decide +kernel
theorem dL_law_1072 : decode cL_law 1072 = .ok (.iload 7, 2) := by decide +kernel
theorem dL_law_1074 : decode cL_law 1074 = .ok (.ifCond .eq 7, 3) := by decide +kernel
theorem dL_law_1077 : decode cL_law 1077 = .ok (.lconst 1, 1) := by decide +kernel
theorem dL_law_1078 : decode cL_law 1078 = .ok (.goto 4, 3) := by decide +kernel
theorem dL_law_1081 : decode cL_law 1081 = .ok (.lconst 0, 1) := by decide +kernel
theorem dL_law_1082 : decode cL_law 1082 = .ok (.lcmp, 1) := by decide +kernel
theorem dL_law_1083 : decode cL_law 1083 = .ok (.ifCond .eq 5, 3) := by decide +kernel
theorem dL_law_1086 : decode cL_law 1086 = .ok (.iconst 0, 1) := by decide +kernel
theorem dL_law_1087 : decode cL_law 1087 = .ok (.ireturn, 1) := by decide +kernel
theorem dL_law_1088 : decode cL_law 1088 = .ok (.goto 1032, 3) := by decide +kernel
theorem dL_law_1091 : decode cL_law 1091 = .ok (.aload_n 1, 1) := by decide +kernel
theorem dL_law_1092 : decode cL_law 1092 = .ok (.aload_n 0, 1) := by decide +kernel
theorem dL_law_1093 : decode cL_law 1093 = .ok (.iload 5, 2) := by decide +kernel
theorem dL_law_1095 : decode cL_law 1095 = .ok (.iconst 1, 1) := by decide +kernel
theorem dL_law_1096 : decode cL_law 1096 = .ok (.iadd, 1) := by decide +kernel
theorem dL_law_1097 : decode cL_law 1097 = .ok (.iaload, 1) := by decide +kernel
theorem dL_law_1098 : decode cL_law 1098 = .ok (.aload_n 0, 1) := by decide +kernel
theorem dL_law_1099 : decode cL_law 1099 = .ok (.iload 5, 2) := by decide +kernel
theorem dL_law_1101 : decode cL_law 1101 = .ok (.iconst 2, 1) := by decide +kernel
theorem dL_law_1102 : decode cL_law 1102 = .ok (.iadd, 1) := by decide +kernel
theorem dL_law_1103 : decode cL_law 1103 = .ok (.iaload, 1) := by decide +kernel
theorem dL_law_1104 : decode cL_law 1104 = .ok (.aload_n 0, 1) := by decide +kernel
theorem dL_law_1105 : decode cL_law 1105 = .ok (.iload 5, 2) := by decide +kernel
theorem dL_law_1107 : decode cL_law 1107 = .ok (.iconst 3, 1) := by decide +kernel
theorem dL_law_1108 : decode cL_law 1108 = .ok (.iadd, 1) := by decide +kernel
theorem dL_law_1109 : decode cL_law 1109 = .ok (.iaload, 1) := by decide +kernel
theorem dL_law_1110 : decode cL_law 1110 = .ok (.aload_n 0, 1) := by decide +kernel
theorem dL_law_1111 : decode cL_law 1111 = .ok (.iload 5, 2) := by decide +kernel
theorem dL_law_1113 : decode cL_law 1113 = .ok (.iconst 4, 1) := by decide +kernel
theorem dL_law_1114 : decode cL_law 1114 = .ok (.iadd, 1) := by decide +kernel
theorem dL_law_1115 : decode cL_law 1115 = .ok (.iaload, 1) := by decide +kernel
theorem dL_law_1116 : decode cL_law 1116 = .ok (.aload_n 3, 1) := by decide +kernel
theorem dL_law_1117 : decode cL_law 1117 = .ok (.invokestatic 160, 3) := by decide +kernel
theorem dL_law_1120 : decode cL_law 1120 = .ok (.istore 6, 2) := by decide +kernel
theorem dL_law_1122 : decode cL_law 1122 = .ok (.aload_n 2, 1) := by decide +kernel
theorem dL_law_1123 : decode cL_law 1123 = .ok (.aload_n 0, 1) := by decide +kernel
theorem dL_law_1124 : decode cL_law 1124 = .ok (.iload 5, 2) := by decide +kernel
theorem dL_law_1126 : decode cL_law 1126 = .ok (.iconst 1, 1) := by decide +kernel
theorem dL_law_1127 : decode cL_law 1127 = .ok (.iadd, 1) := by decide +kernel
theorem dL_law_1128 : decode cL_law 1128 = .ok (.iaload, 1) := by decide +kernel
theorem dL_law_1129 : decode cL_law 1129 = .ok (.aload_n 0, 1) := by decide +kernel
theorem dL_law_1130 : decode cL_law 1130 = .ok (.iload 5, 2) := by decide +kernel
theorem dL_law_1132 : decode cL_law 1132 = .ok (.iconst 2, 1) := by decide +kernel
theorem dL_law_1133 : decode cL_law 1133 = .ok (.iadd, 1) := by decide +kernel
theorem dL_law_1134 : decode cL_law 1134 = .ok (.iaload, 1) := by decide +kernel
theorem dL_law_1135 : decode cL_law 1135 = .ok (.aload_n 0, 1) := by decide +kernel
theorem dL_law_1136 : decode cL_law 1136 = .ok (.iload 5, 2) := by decide +kernel
theorem dL_law_1138 : decode cL_law 1138 = .ok (.iconst 3, 1) := by decide +kernel
theorem dL_law_1139 : decode cL_law 1139 = .ok (.iadd, 1) := by decide +kernel
theorem dL_law_1140 : decode cL_law 1140 = .ok (.iaload, 1) := by decide +kernel
theorem dL_law_1141 : decode cL_law 1141 = .ok (.aload_n 0, 1) := by decide +kernel
theorem dL_law_1142 : decode cL_law 1142 = .ok (.iload 5, 2) := by decide +kernel
theorem dL_law_1144 : decode cL_law 1144 = .ok (.iconst 4, 1) := by decide +kernel
theorem dL_law_1145 : decode cL_law 1145 = .ok (.iadd, 1) := by decide +kernel
theorem dL_law_1146 : decode cL_law 1146 = .ok (.iaload, 1) := by decide +kernel
theorem dL_law_1147 : decode cL_law 1147 = .ok (.invokevirtual 162, 3) := by decide +kernel
theorem dL_law_1150 : decode cL_law 1150 = .ok (.istore 7, 2) := by decide +kernel
theorem dL_law_1152 : decode cL_law 1152 = .ok (.aload_n 2, 1) := by decide +kernel
theorem dL_law_1153 : decode cL_law 1153 = .ok (.invokevirtual 112, 3) := by decide +kernel
theorem dL_law_1156 : decode cL_law 1156 = .ok (.iload 6, 2) := by decide +kernel
theorem dL_law_1158 : decode cL_law 1158 = .ok (.if_icmp .eq 5, 3) := by decide +kernel
theorem dL_law_1161 : decode cL_law 1161 = .ok (.iconst 0, 1) := by decide +kernel
theorem dL_law_1162 : decode cL_law 1162 = .ok (.ireturn, 1) := by decide +kernel
theorem dL_law_1163 : decode cL_law 1163 = .ok (.iload 6, 2) := by decide +kernel
theorem dL_law_1165 : decode cL_law 1165 = .ok (.ifCond .ne 15, 3) := by decide +kernel
theorem dL_law_1168 : decode cL_law 1168 = .ok (.aload_n 3, 1) := by decide +kernel
theorem dL_law_1169 : decode cL_law 1169 = .ok (.iconst 0, 1) := by decide +kernel
theorem dL_law_1170 : decode cL_law 1170 = .ok (.laload, 1) := by decide +kernel
theorem dL_law_1171 : decode cL_law 1171 = .ok (.iload 7, 2) := by decide +kernel
theorem dL_law_1173 : decode cL_law 1173 = .ok (.i2l, 1) := by decide +kernel
theorem dL_law_1174 : decode cL_law 1174 = .ok (.lcmp, 1) := by decide +kernel
theorem dL_law_1175 : decode cL_law 1175 = .ok (.ifCond .eq 5, 3) := by decide +kernel
theorem dL_law_1178 : decode cL_law 1178 = .ok (.iconst 0, 1) := by decide +kernel
theorem dL_law_1179 : decode cL_law 1179 = .ok (.ireturn, 1) := by decide +kernel
theorem dL_law_1180 : decode cL_law 1180 = .ok (.goto 940, 3) := by decide +kernel
theorem dL_law_1183 : decode cL_law 1183 = .ok (.aload_n 1, 1) := by decide +kernel
theorem dL_law_1184 : decode cL_law 1184 = .ok (.aload_n 0, 1) := by decide +kernel
theorem dL_law_1185 : decode cL_law 1185 = .ok (.iload 5, 2) := by decide +kernel
theorem dL_law_1187 : decode cL_law 1187 = .ok (.iconst 1, 1) := by decide +kernel
theorem dL_law_1188 : decode cL_law 1188 = .ok (.iadd, 1) := by decide +kernel
theorem dL_law_1189 : decode cL_law 1189 = .ok (.iaload, 1) := by decide +kernel
theorem dL_law_1190 : decode cL_law 1190 = .ok (.aload_n 0, 1) := by decide +kernel
theorem dL_law_1191 : decode cL_law 1191 = .ok (.iload 5, 2) := by decide +kernel
theorem dL_law_1193 : decode cL_law 1193 = .ok (.iconst 2, 1) := by decide +kernel
theorem dL_law_1194 : decode cL_law 1194 = .ok (.iadd, 1) := by decide +kernel
theorem dL_law_1195 : decode cL_law 1195 = .ok (.iaload, 1) := by decide +kernel
theorem dL_law_1196 : decode cL_law 1196 = .ok (.aload_n 3, 1) := by decide +kernel
theorem dL_law_1197 : decode cL_law 1197 = .ok (.invokestatic 163, 3) := by decide +kernel
theorem dL_law_1200 : decode cL_law 1200 = .ok (.istore 6, 2) := by decide +kernel
theorem dL_law_1202 : decode cL_law 1202 = .ok (.aload_n 2, 1) := by decide +kernel
theorem dL_law_1203 : decode cL_law 1203 = .ok (.aload_n 0, 1) := by decide +kernel
theorem dL_law_1204 : decode cL_law 1204 = .ok (.iload 5, 2) := by decide +kernel
theorem dL_law_1206 : decode cL_law 1206 = .ok (.iconst 1, 1) := by decide +kernel
theorem dL_law_1207 : decode cL_law 1207 = .ok (.iadd, 1) := by decide +kernel
theorem dL_law_1208 : decode cL_law 1208 = .ok (.iaload, 1) := by decide +kernel
theorem dL_law_1209 : decode cL_law 1209 = .ok (.aload_n 0, 1) := by decide +kernel
theorem dL_law_1210 : decode cL_law 1210 = .ok (.iload 5, 2) := by decide +kernel
theorem dL_law_1212 : decode cL_law 1212 = .ok (.iconst 2, 1) := by decide +kernel
theorem dL_law_1213 : decode cL_law 1213 = .ok (.iadd, 1) := by decide +kernel
theorem dL_law_1214 : decode cL_law 1214 = .ok (.iaload, 1) := by decide +kernel
theorem dL_law_1215 : decode cL_law 1215 = .ok (.invokevirtual 165, 3) := by decide +kernel
theorem dL_law_1218 : decode cL_law 1218 = .ok (.istore 7, 2) := by decide +kernel
theorem dL_law_1220 : decode cL_law 1220 = .ok (.aload_n 2, 1) := by decide +kernel
theorem dL_law_1221 : decode cL_law 1221 = .ok (.invokevirtual 112, 3) := by decide +kernel
theorem dL_law_1224 : decode cL_law 1224 = .ok (.iload 6, 2) := by decide +kernel
theorem dL_law_1226 : decode cL_law 1226 = .ok (.if_icmp .eq 5, 3) := by decide +kernel
theorem dL_law_1229 : decode cL_law 1229 = .ok (.iconst 0, 1) := by decide +kernel
theorem dL_law_1230 : decode cL_law 1230 = .ok (.ireturn, 1) := by decide +kernel
theorem dL_law_1231 : decode cL_law 1231 = .ok (.iload 6, 2) := by decide +kernel
theorem dL_law_1233 : decode cL_law 1233 = .ok (.ifCond .ne 15, 3) := by decide +kernel
theorem dL_law_1236 : decode cL_law 1236 = .ok (.aload_n 3, 1) := by decide +kernel
theorem dL_law_1237 : decode cL_law 1237 = .ok (.iconst 0, 1) := by decide +kernel
theorem dL_law_1238 : decode cL_law 1238 = .ok (.laload, 1) := by decide +kernel
theorem dL_law_1239 : decode cL_law 1239 = .ok (.iload 7, 2) := by decide +kernel
theorem dL_law_1241 : decode cL_law 1241 = .ok (.i2l, 1) := by decide +kernel
theorem dL_law_1242 : decode cL_law 1242 = .ok (.lcmp, 1) := by decide +kernel
theorem dL_law_1243 : decode cL_law 1243 = .ok (.ifCond .eq 5, 3) := by decide +kernel
theorem dL_law_1246 : decode cL_law 1246 = .ok (.iconst 0, 1) := by decide +kernel
theorem dL_law_1247 : decode cL_law 1247 = .ok (.ireturn, 1) := by decide +kernel
theorem dL_law_1248 : decode cL_law 1248 = .ok (.goto 872, 3) := by decide +kernel
theorem dL_law_1251 : decode cL_law 1251 = .ok (.aload_n 1, 1) := by decide +kernel
theorem dL_law_1252 : decode cL_law 1252 = .ok (.invokevirtual 166, 3) := by decide +kernel
theorem dL_law_1255 : decode cL_law 1255 = .ok (.aload_n 2, 1) := by decide +kernel
theorem dL_law_1256 : decode cL_law 1256 = .ok (.invokevirtual 169, 3) := by decide +kernel
theorem dL_law_1259 : decode cL_law 1259 = .ok (.if_icmp .eq 861, 3) := by decide +kernel
theorem dL_law_1262 : decode cL_law 1262 = .ok (.iconst 0, 1) := by decide +kernel
theorem dL_law_1263 : decode cL_law 1263 = .ok (.ireturn, 1) := by decide +kernel
theorem dL_law_1264 : decode cL_law 1264 = .ok (.aload_n 1, 1) := by decide +kernel
theorem dL_law_1265 : decode cL_law 1265 = .ok (.invokevirtual 170, 3) := by decide +kernel
theorem dL_law_1268 : decode cL_law 1268 = .ok (.aload_n 2, 1) := by decide +kernel
theorem dL_law_1269 : decode cL_law 1269 = .ok (.invokevirtual 173, 3) := by decide +kernel
theorem dL_law_1272 : decode cL_law 1272 = .ok (.if_icmp .eq 848, 3) := by decide +kernel
theorem dL_law_1275 : decode cL_law 1275 = .ok (.iconst 0, 1) := by decide +kernel
theorem dL_law_1276 : decode cL_law 1276 = .ok (.ireturn, 1) := by decide +kernel
theorem dL_law_1277 : decode cL_law 1277 = .ok (.aload_n 1, 1) := by decide +kernel
theorem dL_law_1278 : decode cL_law 1278 = .ok (.invokevirtual 174, 3) := by decide +kernel
theorem dL_law_1281 : decode cL_law 1281 = .ok (.aload_n 2, 1) := by decide +kernel
theorem dL_law_1282 : decode cL_law 1282 = .ok (.invokevirtual 177, 3) := by decide +kernel
theorem dL_law_1285 : decode cL_law 1285 = .ok (.if_icmp .eq 835, 3) := by decide +kernel
theorem dL_law_1288 : decode cL_law 1288 = .ok (.iconst 0, 1) := by decide +kernel
theorem dL_law_1289 : decode cL_law 1289 = .ok (.ireturn, 1) := by decide +kernel
theorem dL_law_1290 : decode cL_law 1290 = .ok (.aload_n 1, 1) := by decide +kernel
theorem dL_law_1291 : decode cL_law 1291 = .ok (.invokevirtual 178, 3) := by decide +kernel
theorem dL_law_1294 : decode cL_law 1294 = .ok (.aload_n 2, 1) := by decide +kernel
theorem dL_law_1295 : decode cL_law 1295 = .ok (.invokevirtual 181, 3) := by decide +kernel
theorem dL_law_1298 : decode cL_law 1298 = .ok (.if_icmp .eq 822, 3) := by decide +kernel
theorem dL_law_1301 : decode cL_law 1301 = .ok (.iconst 0, 1) := by decide +kernel
theorem dL_law_1302 : decode cL_law 1302 = .ok (.ireturn, 1) := by decide +kernel
theorem dL_law_1303 : decode cL_law 1303 = .ok (.aload_n 1, 1) := by decide +kernel
theorem dL_law_1304 : decode cL_law 1304 = .ok (.aload_n 0, 1) := by decide +kernel
theorem dL_law_1305 : decode cL_law 1305 = .ok (.iload 5, 2) := by decide +kernel
theorem dL_law_1307 : decode cL_law 1307 = .ok (.iconst 1, 1) := by decide +kernel
theorem dL_law_1308 : decode cL_law 1308 = .ok (.iadd, 1) := by decide +kernel
theorem dL_law_1309 : decode cL_law 1309 = .ok (.iaload, 1) := by decide +kernel
theorem dL_law_1310 : decode cL_law 1310 = .ok (.aload 4, 2) := by decide +kernel
theorem dL_law_1312 : decode cL_law 1312 = .ok (.invokestatic 182, 3) := by decide +kernel
theorem dL_law_1315 : decode cL_law 1315 = .ok (.istore 6, 2) := by decide +kernel
theorem dL_law_1317 : decode cL_law 1317 = .ok (.aload_n 2, 1) := by decide +kernel
theorem dL_law_1318 : decode cL_law 1318 = .ok (.aload_n 0, 1) := by decide +kernel
theorem dL_law_1319 : decode cL_law 1319 = .ok (.iload 5, 2) := by decide +kernel
theorem dL_law_1321 : decode cL_law 1321 = .ok (.iconst 1, 1) := by decide +kernel
theorem dL_law_1322 : decode cL_law 1322 = .ok (.iadd, 1) := by decide +kernel
theorem dL_law_1323 : decode cL_law 1323 = .ok (.iaload, 1) := by decide +kernel
theorem dL_law_1324 : decode cL_law 1324 = .ok (.invokevirtual 185, 3) := by decide +kernel
theorem dL_law_1327 : decode cL_law 1327 = .ok (.dstore 7, 2) := by decide +kernel
theorem dL_law_1329 : decode cL_law 1329 = .ok (.aload_n 2, 1) := by decide +kernel
theorem dL_law_1330 : decode cL_law 1330 = .ok (.invokevirtual 112, 3) := by decide +kernel
theorem dL_law_1333 : decode cL_law 1333 = .ok (.iload 6, 2) := by decide +kernel
theorem dL_law_1335 : decode cL_law 1335 = .ok (.if_icmp .eq 5, 3) := by decide +kernel
theorem dL_law_1338 : decode cL_law 1338 = .ok (.iconst 0, 1) := by decide +kernel
theorem dL_law_1339 : decode cL_law 1339 = .ok (.ireturn, 1) := by decide +kernel
theorem dL_law_1340 : decode cL_law 1340 = .ok (.iload 6, 2) := by decide +kernel
theorem dL_law_1342 : decode cL_law 1342 = .ok (.ifCond .ne 35, 3) := by decide +kernel
theorem dL_law_1345 : decode cL_law 1345 = .ok (.aload 4, 2) := by decide +kernel
theorem dL_law_1347 : decode cL_law 1347 = .ok (.iconst 0, 1) := by decide +kernel
theorem dL_law_1348 : decode cL_law 1348 = .ok (.daload, 1) := by decide +kernel
theorem dL_law_1349 : decode cL_law 1349 = .ok (.dload 7, 2) := by decide +kernel
theorem dL_law_1351 : decode cL_law 1351 = .ok (.dcmp .l, 1) := by decide +kernel
theorem dL_law_1352 : decode cL_law 1352 = .ok (.ifCond .eq 25, 3) := by decide +kernel
theorem dL_law_1355 : decode cL_law 1355 = .ok (.aload 4, 2) := by decide +kernel
theorem dL_law_1357 : decode cL_law 1357 = .ok (.iconst 0, 1) := by decide +kernel
theorem dL_law_1358 : decode cL_law 1358 = .ok (.daload, 1) := by decide +kernel
theorem dL_law_1359 : decode cL_law 1359 = .ok (.aload 4, 2) := by decide +kernel
theorem dL_law_1361 : decode cL_law 1361 = .ok (.iconst 0, 1) := by decide +kernel
theorem dL_law_1362 : decode cL_law 1362 = .ok (.daload, 1) := by decide +kernel
theorem dL_law_1363 : decode cL_law 1363 = .ok (.dcmp .l, 1) := by decide +kernel
theorem dL_law_1364 : decode cL_law 1364 = .ok (.ifCond .eq 11, 3) := by decide +kernel
theorem dL_law_1367 : decode cL_law 1367 = .ok (.dload 7, 2) := by decide +kernel
theorem dL_law_1369 : decode cL_law 1369 = .ok (.dload 7, 2) := by decide +kernel
theorem dL_law_1371 : decode cL_law 1371 = .ok (.dcmp .l, 1) := by decide +kernel
theorem dL_law_1372 : decode cL_law 1372 = .ok (.ifCond .ne 5, 3) := by decide +kernel
theorem dL_law_1375 : decode cL_law 1375 = .ok (.iconst 0, 1) := by decide +kernel
theorem dL_law_1376 : decode cL_law 1376 = .ok (.ireturn, 1) := by decide +kernel
theorem dL_law_1377 : decode cL_law 1377 = .ok (.goto 743, 3) := by decide +kernel
theorem dL_law_1380 : decode cL_law 1380 = .ok (.aload_n 1, 1) := by decide +kernel
theorem dL_law_1381 : decode cL_law 1381 = .ok (.invokevirtual 186, 3) := by decide +kernel
theorem dL_law_1384 : decode cL_law 1384 = .ok (.f2d, 1) := by decide +kernel
theorem dL_law_1385 : decode cL_law 1385 = .ok (.dstore 6, 2) := by decide +kernel
theorem dL_law_1387 : decode cL_law 1387 = .ok (.aload_n 2, 1) := by decide +kernel
theorem dL_law_1388 : decode cL_law 1388 = .ok (.invokevirtual 190, 3) := by decide +kernel
theorem dL_law_1391 : decode cL_law 1391 = .ok (.f2d, 1) := by decide +kernel
theorem dL_law_1392 : decode cL_law 1392 = .ok (.dstore 8, 2) := by decide +kernel
theorem dL_law_1394 : decode cL_law 1394 = .ok (.dload 6, 2) := by decide +kernel
theorem dL_law_1396 : decode cL_law 1396 = .ok (.dload 8, 2) := by decide +kernel
theorem dL_law_1398 : decode cL_law 1398 = .ok (.dcmp .l, 1) := by decide +kernel
theorem dL_law_1399 : decode cL_law 1399 = .ok (.ifCond .eq 21, 3) := by decide +kernel
theorem dL_law_1402 : decode cL_law 1402 = .ok (.dload 6, 2) := by decide +kernel
theorem dL_law_1404 : decode cL_law 1404 = .ok (.dload 6, 2) := by decide +kernel
theorem dL_law_1406 : decode cL_law 1406 = .ok (.dcmp .l, 1) := by decide +kernel
theorem dL_law_1407 : decode cL_law 1407 = .ok (.ifCond .eq 11, 3) := by decide +kernel
theorem dL_law_1410 : decode cL_law 1410 = .ok (.dload 8, 2) := by decide +kernel
theorem dL_law_1412 : decode cL_law 1412 = .ok (.dload 8, 2) := by decide +kernel
theorem dL_law_1414 : decode cL_law 1414 = .ok (.dcmp .l, 1) := by decide +kernel
theorem dL_law_1415 : decode cL_law 1415 = .ok (.ifCond .ne 5, 3) := by decide +kernel
theorem dL_law_1418 : decode cL_law 1418 = .ok (.iconst 0, 1) := by decide +kernel
theorem dL_law_1419 : decode cL_law 1419 = .ok (.ireturn, 1) := by decide +kernel
theorem dL_law_1420 : decode cL_law 1420 = .ok (.goto 700, 3) := by decide +kernel
theorem dL_law_1423 : decode cL_law 1423 = .ok (.aload_n 1, 1) := by decide +kernel
theorem dL_law_1424 : decode cL_law 1424 = .ok (.aload_n 0, 1) := by decide +kernel
theorem dL_law_1425 : decode cL_law 1425 = .ok (.iload 5, 2) := by decide +kernel
theorem dL_law_1427 : decode cL_law 1427 = .ok (.iconst 1, 1) := by decide +kernel
theorem dL_law_1428 : decode cL_law 1428 = .ok (.iadd, 1) := by decide +kernel
theorem dL_law_1429 : decode cL_law 1429 = .ok (.iaload, 1) := by decide +kernel
theorem dL_law_1430 : decode cL_law 1430 = .ok (.aload_n 0, 1) := by decide +kernel
theorem dL_law_1431 : decode cL_law 1431 = .ok (.iload 5, 2) := by decide +kernel
theorem dL_law_1433 : decode cL_law 1433 = .ok (.iconst 2, 1) := by decide +kernel
theorem dL_law_1434 : decode cL_law 1434 = .ok (.iadd, 1) := by decide +kernel
theorem dL_law_1435 : decode cL_law 1435 = .ok (.iaload, 1) := by decide +kernel
theorem dL_law_1436 : decode cL_law 1436 = .ok (.aload_n 0, 1) := by decide +kernel
theorem dL_law_1437 : decode cL_law 1437 = .ok (.iload 5, 2) := by decide +kernel
theorem dL_law_1439 : decode cL_law 1439 = .ok (.iconst 3, 1) := by decide +kernel
theorem dL_law_1440 : decode cL_law 1440 = .ok (.iadd, 1) := by decide +kernel
theorem dL_law_1441 : decode cL_law 1441 = .ok (.iaload, 1) := by decide +kernel
theorem dL_law_1442 : decode cL_law 1442 = .ok (.aload_n 3, 1) := by decide +kernel
theorem dL_law_1443 : decode cL_law 1443 = .ok (.invokestatic 191, 3) := by decide +kernel
theorem dL_law_1446 : decode cL_law 1446 = .ok (.istore 6, 2) := by decide +kernel
theorem dL_law_1448 : decode cL_law 1448 = .ok (.aload_n 2, 1) := by decide +kernel
theorem dL_law_1449 : decode cL_law 1449 = .ok (.aload_n 0, 1) := by decide +kernel
theorem dL_law_1450 : decode cL_law 1450 = .ok (.iload 5, 2) := by decide +kernel
theorem dL_law_1452 : decode cL_law 1452 = .ok (.iconst 1, 1) := by decide +kernel
theorem dL_law_1453 : decode cL_law 1453 = .ok (.iadd, 1) := by decide +kernel
theorem dL_law_1454 : decode cL_law 1454 = .ok (.iaload, 1) := by decide +kernel
theorem dL_law_1455 : decode cL_law 1455 = .ok (.aload_n 0, 1) := by decide +kernel
theorem dL_law_1456 : decode cL_law 1456 = .ok (.iload 5, 2) := by decide +kernel
theorem dL_law_1458 : decode cL_law 1458 = .ok (.iconst 2, 1) := by decide +kernel
theorem dL_law_1459 : decode cL_law 1459 = .ok (.iadd, 1) := by decide +kernel
theorem dL_law_1460 : decode cL_law 1460 = .ok (.iaload, 1) := by decide +kernel
theorem dL_law_1461 : decode cL_law 1461 = .ok (.aload_n 0, 1) := by decide +kernel
theorem dL_law_1462 : decode cL_law 1462 = .ok (.iload 5, 2) := by decide +kernel
theorem dL_law_1464 : decode cL_law 1464 = .ok (.iconst 3, 1) := by decide +kernel
theorem dL_law_1465 : decode cL_law 1465 = .ok (.iadd, 1) := by decide +kernel
theorem dL_law_1466 : decode cL_law 1466 = .ok (.iaload, 1) := by decide +kernel
theorem dL_law_1467 : decode cL_law 1467 = .ok (.invokevirtual 193, 3) := by decide +kernel
theorem dL_law_1470 : decode cL_law 1470 = .ok (.istore 7, 2) := by decide +kernel
theorem dL_law_1472 : decode cL_law 1472 = .ok (.aload_n 2, 1) := by decide +kernel
theorem dL_law_1473 : decode cL_law 1473 = .ok (.invokevirtual 112, 3) := by decide +kernel
theorem dL_law_1476 : decode cL_law 1476 = .ok (.iload 6, 2) := by decide +kernel
theorem dL_law_1478 : decode cL_law 1478 = .ok (.if_icmp .eq 5, 3) := by decide +kernel
theorem dL_law_1481 : decode cL_law 1481 = .ok (.iconst 0, 1) := by decide +kernel
theorem dL_law_1482 : decode cL_law 1482 = .ok (.ireturn, 1) := by decide +kernel
theorem dL_law_1483 : decode cL_law 1483 = .ok (.iload 6, 2) := by decide +kernel
theorem dL_law_1485 : decode cL_law 1485 = .ok (.ifCond .ne 15, 3) := by decide +kernel
theorem dL_law_1488 : decode cL_law 1488 = .ok (.aload_n 3, 1) := by decide +kernel
theorem dL_law_1489 : decode cL_law 1489 = .ok (.iconst 0, 1) := by decide +kernel
theorem dL_law_1490 : decode cL_law 1490 = .ok (.laload, 1) := by decide +kernel
theorem dL_law_1491 : decode cL_law 1491 = .ok (.iload 7, 2) := by decide +kernel
theorem dL_law_1493 : decode cL_law 1493 = .ok (.i2l, 1) := by decide +kernel
theorem dL_law_1494 : decode cL_law 1494 = .ok (.lcmp, 1) := by decide +kernel
theorem dL_law_1495 : decode cL_law 1495 = .ok (.ifCond .eq 5, 3) := by decide +kernel
theorem dL_law_1498 : decode cL_law 1498 = .ok (.iconst 0, 1) := by decide +kernel
theorem dL_law_1499 : decode cL_law 1499 = .ok (.ireturn, 1) := by decide +kernel
theorem dL_law_1500 : decode cL_law 1500 = .ok (.goto 620, 3) := by decide +kernel
theorem dL_law_1503 : decode cL_law 1503 = .ok (.aload_n 1, 1) := by decide +kernel
theorem dL_law_1504 : decode cL_law 1504 = .ok (.aload_n 0, 1) := by decide +kernel
theorem dL_law_1505 : decode cL_law 1505 = .ok (.iload 5, 2) := by decide +kernel
theorem dL_law_1507 : decode cL_law 1507 = .ok (.iconst 1, 1) := by decide +kernel
theorem dL_law_1508 : decode cL_law 1508 = .ok (.iadd, 1) := by decide +kernel
theorem dL_law_1509 : decode cL_law 1509 = .ok (.iaload, 1) := by decide +kernel
theorem dL_law_1510 : decode cL_law 1510 = .ok (.aload_n 0, 1) := by decide +kernel
theorem dL_law_1511 : decode cL_law 1511 = .ok (.iload 5, 2) := by decide +kernel
theorem dL_law_1513 : decode cL_law 1513 = .ok (.iconst 2, 1) := by decide +kernel
theorem dL_law_1514 : decode cL_law 1514 = .ok (.iadd, 1) := by decide +kernel
theorem dL_law_1515 : decode cL_law 1515 = .ok (.iaload, 1) := by decide +kernel
theorem dL_law_1516 : decode cL_law 1516 = .ok (.ifCond .eq 7, 3) := by decide +kernel
theorem dL_law_1519 : decode cL_law 1519 = .ok (.iconst 1, 1) := by decide +kernel
theorem dL_law_1520 : decode cL_law 1520 = .ok (.goto 4, 3) := by decide +kernel
theorem dL_law_1523 : decode cL_law 1523 = .ok (.iconst 0, 1) := by decide +kernel
theorem dL_law_1524 : decode cL_law 1524 = .ok (.aload_n 3, 1) := by decide +kernel
theorem dL_law_1525 : decode cL_law 1525 = .ok (.invokestatic 194, 3) := by decide +kernel
theorem dL_law_1528 : decode cL_law 1528 = .ok (.istore 6, 2) := by decide +kernel
theorem dL_law_1530 : decode cL_law 1530 = .ok (.aload_n 2, 1) := by decide +kernel
theorem dL_law_1531 : decode cL_law 1531 = .ok (.aload_n 0, 1) := by decide +kernel
theorem dL_law_1532 : decode cL_law 1532 = .ok (.iload 5, 2) := by decide +kernel
theorem dL_law_1534 : decode cL_law 1534 = .ok (.iconst 1, 1) := by decide +kernel
theorem dL_law_1535 : decode cL_law 1535 = .ok (.iadd, 1) := by decide +kernel
theorem dL_law_1536 : decode cL_law 1536 = .ok (.iaload, 1) := by decide +kernel
theorem dL_law_1537 : decode cL_law 1537 = .ok (.aload_n 0, 1) := by decide +kernel
theorem dL_law_1538 : decode cL_law 1538 = .ok (.iload 5, 2) := by decide +kernel
theorem dL_law_1540 : decode cL_law 1540 = .ok (.iconst 2, 1) := by decide +kernel
theorem dL_law_1541 : decode cL_law 1541 = .ok (.iadd, 1) := by decide +kernel
theorem dL_law_1542 : decode cL_law 1542 = .ok (.iaload, 1) := by decide +kernel
theorem dL_law_1543 : decode cL_law 1543 = .ok (.ifCond .eq 7, 3) := by decide +kernel
theorem dL_law_1546 : decode cL_law 1546 = .ok (.iconst 1, 1) := by decide +kernel
theorem dL_law_1547 : decode cL_law 1547 = .ok (.goto 4, 3) := by decide +kernel
theorem dL_law_1550 : decode cL_law 1550 = .ok (.iconst 0, 1) := by decide +kernel
theorem dL_law_1551 : decode cL_law 1551 = .ok (.invokevirtual 196, 3) := by decide +kernel
theorem dL_law_1554 : decode cL_law 1554 = .ok (.istore 7, 2) := by decide +kernel
theorem dL_law_1556 : decode cL_law 1556 = .ok (.aload_n 2, 1) := by decide +kernel
theorem dL_law_1557 : decode cL_law 1557 = .ok (.invokevirtual 112, 3) := by decide +kernel
theorem dL_law_1560 : decode cL_law 1560 = .ok (.iload 6, 2) := by decide +kernel
theorem dL_law_1562 : decode cL_law 1562 = .ok (.if_icmp .eq 5, 3) := by decide +kernel
theorem dL_law_1565 : decode cL_law 1565 = .ok (.iconst 0, 1) := by decide +kernel
theorem dL_law_1566 : decode cL_law 1566 = .ok (.ireturn, 1) := by decide +kernel
theorem dL_law_1567 : decode cL_law 1567 = .ok (.iload 6, 2) := by decide +kernel
theorem dL_law_1569 : decode cL_law 1569 = .ok (.ifCond .ne 22, 3) := by decide +kernel
theorem dL_law_1572 : decode cL_law 1572 = .ok (.aload_n 3, 1) := by decide +kernel
theorem dL_law_1573 : decode cL_law 1573 = .ok (.iconst 0, 1) := by decide +kernel
theorem dL_law_1574 : decode cL_law 1574 = .ok (.laload, 1) := by decide +kernel
theorem dL_law_1575 : decode cL_law 1575 = .ok (.iload 7, 2) := by decide +kernel
theorem dL_law_1577 : decode cL_law 1577 = .ok (.ifCond .eq 7, 3) := by decide +kernel
theorem dL_law_1580 : decode cL_law 1580 = .ok (.lconst 1, 1) := by decide +kernel
theorem dL_law_1581 : decode cL_law 1581 = .ok (.goto 4, 3) := by decide +kernel
theorem dL_law_1584 : decode cL_law 1584 = .ok (.lconst 0, 1) := by decide +kernel
theorem dL_law_1585 : decode cL_law 1585 = .ok (.lcmp, 1) := by decide +kernel
theorem dL_law_1586 : decode cL_law 1586 = .ok (.ifCond .eq 5, 3) := by decide +kernel
theorem dL_law_1589 : decode cL_law 1589 = .ok (.iconst 0, 1) := by decide +kernel
theorem dL_law_1590 : decode cL_law 1590 = .ok (.ireturn, 1) := by decide +kernel
theorem dL_law_1591 : decode cL_law 1591 = .ok (.goto 529, 3) := by decide +kernel
theorem dL_law_1594 : decode cL_law 1594 = .ok (.aload_n 1, 1) := by decide +kernel
theorem dL_law_1595 : decode cL_law 1595 = .ok (.aload_n 0, 1) := by decide +kernel
theorem dL_law_1596 : decode cL_law 1596 = .ok (.iload 5, 2) := by decide +kernel
theorem dL_law_1598 : decode cL_law 1598 = .ok (.iconst 1, 1) := by decide +kernel
theorem dL_law_1599 : decode cL_law 1599 = .ok (.iadd, 1) := by decide +kernel
theorem dL_law_1600 : decode cL_law 1600 = .ok (.iaload, 1) := by decide +kernel
theorem dL_law_1601 : decode cL_law 1601 = .ok (.aload_n 0, 1) := by decide +kernel
theorem dL_law_1602 : decode cL_law 1602 = .ok (.iload 5, 2) := by decide +kernel
theorem dL_law_1604 : decode cL_law 1604 = .ok (.iconst 2, 1) := by decide +kernel
theorem dL_law_1605 : decode cL_law 1605 = .ok (.iadd, 1) := by decide +kernel
theorem dL_law_1606 : decode cL_law 1606 = .ok (.iaload, 1) := by decide +kernel
theorem dL_law_1607 : decode cL_law 1607 = .ok (.aload_n 0, 1) := by decide +kernel
theorem dL_law_1608 : decode cL_law 1608 = .ok (.iload 5, 2) := by decide +kernel
theorem dL_law_1610 : decode cL_law 1610 = .ok (.iconst 3, 1) := by decide +kernel
theorem dL_law_1611 : decode cL_law 1611 = .ok (.iadd, 1) := by decide +kernel
theorem dL_law_1612 : decode cL_law 1612 = .ok (.iaload, 1) := by decide +kernel
theorem dL_law_1613 : decode cL_law 1613 = .ok (.aload_n 0, 1) := by decide +kernel
theorem dL_law_1614 : decode cL_law 1614 = .ok (.iload 5, 2) := by decide +kernel
theorem dL_law_1616 : decode cL_law 1616 = .ok (.iconst 4, 1) := by decide +kernel
theorem dL_law_1617 : decode cL_law 1617 = .ok (.iadd, 1) := by decide +kernel
theorem dL_law_1618 : decode cL_law 1618 = .ok (.iaload, 1) := by decide +kernel
theorem dL_law_1619 : decode cL_law 1619 = .ok (.aload_n 3, 1) := by decide +kernel
theorem dL_law_1620 : decode cL_law 1620 = .ok (.invokestatic 197, 3) := by decide +kernel
theorem dL_law_1623 : decode cL_law 1623 = .ok (.istore 6, 2) := by decide +kernel
theorem dL_law_1625 : decode cL_law 1625 = .ok (.aload_n 2, 1) := by decide +kernel
theorem dL_law_1626 : decode cL_law 1626 = .ok (.aload_n 0, 1) := by decide +kernel
theorem dL_law_1627 : decode cL_law 1627 = .ok (.iload 5, 2) := by decide +kernel
theorem dL_law_1629 : decode cL_law 1629 = .ok (.iconst 1, 1) := by decide +kernel
theorem dL_law_1630 : decode cL_law 1630 = .ok (.iadd, 1) := by decide +kernel
theorem dL_law_1631 : decode cL_law 1631 = .ok (.iaload, 1) := by decide +kernel
theorem dL_law_1632 : decode cL_law 1632 = .ok (.aload_n 0, 1) := by decide +kernel
theorem dL_law_1633 : decode cL_law 1633 = .ok (.iload 5, 2) := by decide +kernel
theorem dL_law_1635 : decode cL_law 1635 = .ok (.iconst 2, 1) := by decide +kernel
theorem dL_law_1636 : decode cL_law 1636 = .ok (.iadd, 1) := by decide +kernel
theorem dL_law_1637 : decode cL_law 1637 = .ok (.iaload, 1) := by decide +kernel
theorem dL_law_1638 : decode cL_law 1638 = .ok (.aload_n 0, 1) := by decide +kernel
theorem dL_law_1639 : decode cL_law 1639 = .ok (.iload 5, 2) := by decide +kernel
theorem dL_law_1641 : decode cL_law 1641 = .ok (.iconst 3, 1) := by decide +kernel
theorem dL_law_1642 : decode cL_law 1642 = .ok (.iadd, 1) := by decide +kernel
theorem dL_law_1643 : decode cL_law 1643 = .ok (.iaload, 1) := by decide +kernel
theorem dL_law_1644 : decode cL_law 1644 = .ok (.aload_n 0, 1) := by decide +kernel
theorem dL_law_1645 : decode cL_law 1645 = .ok (.iload 5, 2) := by decide +kernel
theorem dL_law_1647 : decode cL_law 1647 = .ok (.iconst 4, 1) := by decide +kernel
theorem dL_law_1648 : decode cL_law 1648 = .ok (.iadd, 1) := by decide +kernel
theorem dL_law_1649 : decode cL_law 1649 = .ok (.iaload, 1) := by decide +kernel
theorem dL_law_1650 : decode cL_law 1650 = .ok (.invokevirtual 199, 3) := by decide +kernel
theorem dL_law_1653 : decode cL_law 1653 = .ok (.istore 7, 2) := by decide +kernel
theorem dL_law_1655 : decode cL_law 1655 = .ok (.aload_n 2, 1) := by decide +kernel
theorem dL_law_1656 : decode cL_law 1656 = .ok (.invokevirtual 112, 3) := by decide +kernel
theorem dL_law_1659 : decode cL_law 1659 = .ok (.iload 6, 2) := by decide +kernel
theorem dL_law_1661 : decode cL_law 1661 = .ok (.if_icmp .eq 5, 3) := by decide +kernel
theorem dL_law_1664 : decode cL_law 1664 = .ok (.iconst 0, 1) := by decide +kernel
theorem dL_law_1665 : decode cL_law 1665 = .ok (.ireturn, 1) := by decide +kernel
theorem dL_law_1666 : decode cL_law 1666 = .ok (.iload 6, 2) := by decide +kernel
theorem dL_law_1668 : decode cL_law 1668 = .ok (.ifCond .ne 15, 3) := by decide +kernel
theorem dL_law_1671 : decode cL_law 1671 = .ok (.aload_n 3, 1) := by decide +kernel
theorem dL_law_1672 : decode cL_law 1672 = .ok (.iconst 0, 1) := by decide +kernel
theorem dL_law_1673 : decode cL_law 1673 = .ok (.laload, 1) := by decide +kernel
theorem dL_law_1674 : decode cL_law 1674 = .ok (.iload 7, 2) := by decide +kernel
theorem dL_law_1676 : decode cL_law 1676 = .ok (.i2l, 1) := by decide +kernel
theorem dL_law_1677 : decode cL_law 1677 = .ok (.lcmp, 1) := by decide +kernel
theorem dL_law_1678 : decode cL_law 1678 = .ok (.ifCond .eq 5, 3) := by decide +kernel
theorem dL_law_1681 : decode cL_law 1681 = .ok (.iconst 0, 1) := by decide +kernel
theorem dL_law_1682 : decode cL_law 1682 = .ok (.ireturn, 1) := by decide +kernel
theorem dL_law_1683 : decode cL_law 1683 = .ok (.goto 437, 3) := by decide +kernel
theorem dL_law_1686 : decode cL_law 1686 = .ok (.aload_n 1, 1) := by decide +kernel
theorem dL_law_1687 : decode cL_law 1687 = .ok (.aload_n 0, 1) := by decide +kernel
theorem dL_law_1688 : decode cL_law 1688 = .ok (.iload 5, 2) := by decide +kernel
theorem dL_law_1690 : decode cL_law 1690 = .ok (.iconst 1, 1) := by decide +kernel
theorem dL_law_1691 : decode cL_law 1691 = .ok (.iadd, 1) := by decide +kernel
theorem dL_law_1692 : decode cL_law 1692 = .ok (.iaload, 1) := by decide +kernel
theorem dL_law_1693 : decode cL_law 1693 = .ok (.aload_n 0, 1) := by decide +kernel
theorem dL_law_1694 : decode cL_law 1694 = .ok (.iload 5, 2) := by decide +kernel
theorem dL_law_1696 : decode cL_law 1696 = .ok (.iconst 2, 1) := by decide +kernel
theorem dL_law_1697 : decode cL_law 1697 = .ok (.iadd, 1) := by decide +kernel
theorem dL_law_1698 : decode cL_law 1698 = .ok (.iaload, 1) := by decide +kernel
theorem dL_law_1699 : decode cL_law 1699 = .ok (.aload_n 0, 1) := by decide +kernel
theorem dL_law_1700 : decode cL_law 1700 = .ok (.iload 5, 2) := by decide +kernel
theorem dL_law_1702 : decode cL_law 1702 = .ok (.iconst 3, 1) := by decide +kernel
theorem dL_law_1703 : decode cL_law 1703 = .ok (.iadd, 1) := by decide +kernel
theorem dL_law_1704 : decode cL_law 1704 = .ok (.iaload, 1) := by decide +kernel
theorem dL_law_1705 : decode cL_law 1705 = .ok (.aload_n 3, 1) := by decide +kernel
theorem dL_law_1706 : decode cL_law 1706 = .ok (.invokestatic 200, 3) := by decide +kernel
theorem dL_law_1709 : decode cL_law 1709 = .ok (.istore 6, 2) := by decide +kernel
theorem dL_law_1711 : decode cL_law 1711 = .ok (.aload_n 2, 1) := by decide +kernel
theorem dL_law_1712 : decode cL_law 1712 = .ok (.aload_n 0, 1) := by decide +kernel
theorem dL_law_1713 : decode cL_law 1713 = .ok (.iload 5, 2) := by decide +kernel
theorem dL_law_1715 : decode cL_law 1715 = .ok (.iconst 1, 1) := by decide +kernel
theorem dL_law_1716 : decode cL_law 1716 = .ok (.iadd, 1) := by decide +kernel
theorem dL_law_1717 : decode cL_law 1717 = .ok (.iaload, 1) := by decide +kernel
theorem dL_law_1718 : decode cL_law 1718 = .ok (.aload_n 0, 1) := by decide +kernel
theorem dL_law_1719 : decode cL_law 1719 = .ok (.iload 5, 2) := by decide +kernel
theorem dL_law_1721 : decode cL_law 1721 = .ok (.iconst 2, 1) := by decide +kernel
theorem dL_law_1722 : decode cL_law 1722 = .ok (.iadd, 1) := by decide +kernel
theorem dL_law_1723 : decode cL_law 1723 = .ok (.iaload, 1) := by decide +kernel
theorem dL_law_1724 : decode cL_law 1724 = .ok (.aload_n 0, 1) := by decide +kernel
theorem dL_law_1725 : decode cL_law 1725 = .ok (.iload 5, 2) := by decide +kernel
theorem dL_law_1727 : decode cL_law 1727 = .ok (.iconst 3, 1) := by decide +kernel
theorem dL_law_1728 : decode cL_law 1728 = .ok (.iadd, 1) := by decide +kernel
theorem dL_law_1729 : decode cL_law 1729 = .ok (.iaload, 1) := by decide +kernel
theorem dL_law_1730 : decode cL_law 1730 = .ok (.invokevirtual 202, 3) := by decide +kernel
theorem dL_law_1733 : decode cL_law 1733 = .ok (.istore 7, 2) := by decide +kernel
theorem dL_law_1735 : decode cL_law 1735 = .ok (.aload_n 2, 1) := by decide +kernel
theorem dL_law_1736 : decode cL_law 1736 = .ok (.invokevirtual 112, 3) := by decide +kernel
theorem dL_law_1739 : decode cL_law 1739 = .ok (.iload 6, 2) := by decide +kernel
theorem dL_law_1741 : decode cL_law 1741 = .ok (.if_icmp .eq 5, 3) := by decide +kernel
theorem dL_law_1744 : decode cL_law 1744 = .ok (.iconst 0, 1) := by decide +kernel
theorem dL_law_1745 : decode cL_law 1745 = .ok (.ireturn, 1) := by decide +kernel
theorem dL_law_1746 : decode cL_law 1746 = .ok (.iload 6, 2) := by decide +kernel
theorem dL_law_1748 : decode cL_law 1748 = .ok (.ifCond .ne 15, 3) := by decide +kernel
theorem dL_law_1751 : decode cL_law 1751 = .ok (.aload_n 3, 1) := by decide +kernel
theorem dL_law_1752 : decode cL_law 1752 = .ok (.iconst 0, 1) := by decide +kernel
theorem dL_law_1753 : decode cL_law 1753 = .ok (.laload, 1) := by decide +kernel
theorem dL_law_1754 : decode cL_law 1754 = .ok (.iload 7, 2) := by decide +kernel
theorem dL_law_1756 : decode cL_law 1756 = .ok (.i2l, 1) := by decide +kernel
theorem dL_law_1757 : decode cL_law 1757 = .ok (.lcmp, 1) := by decide +kernel
theorem dL_law_1758 : decode cL_law 1758 = .ok (.ifCond .eq 5, 3) := by decide +kernel
theorem dL_law_1761 : decode cL_law 1761 = .ok (.iconst 0, 1) := by decide +kernel
theorem dL_law_1762 : decode cL_law 1762 = .ok (.ireturn, 1) := by decide +kernel
theorem dL_law_1763 : decode cL_law 1763 = .ok (.goto 357, 3) := by decide +kernel
theorem dL_law_1766 : decode cL_law 1766 = .ok (.aload_n 1, 1) := by decide +kernel
theorem dL_law_1767 : decode cL_law 1767 = .ok (.aload_n 0, 1) := by decide +kernel
theorem dL_law_1768 : decode cL_law 1768 = .ok (.iload 5, 2) := by decide +kernel
theorem dL_law_1770 : decode cL_law 1770 = .ok (.iconst 1, 1) := by decide +kernel
theorem dL_law_1771 : decode cL_law 1771 = .ok (.iadd, 1) := by decide +kernel
theorem dL_law_1772 : decode cL_law 1772 = .ok (.iaload, 1) := by decide +kernel
theorem dL_law_1773 : decode cL_law 1773 = .ok (.aload_n 0, 1) := by decide +kernel
theorem dL_law_1774 : decode cL_law 1774 = .ok (.iload 5, 2) := by decide +kernel
theorem dL_law_1776 : decode cL_law 1776 = .ok (.iconst 2, 1) := by decide +kernel
theorem dL_law_1777 : decode cL_law 1777 = .ok (.iadd, 1) := by decide +kernel
theorem dL_law_1778 : decode cL_law 1778 = .ok (.iaload, 1) := by decide +kernel
theorem dL_law_1779 : decode cL_law 1779 = .ok (.aload_n 3, 1) := by decide +kernel
theorem dL_law_1780 : decode cL_law 1780 = .ok (.invokestatic 203, 3) := by decide +kernel
theorem dL_law_1783 : decode cL_law 1783 = .ok (.istore 6, 2) := by decide +kernel
theorem dL_law_1785 : decode cL_law 1785 = .ok (.aload_n 2, 1) := by decide +kernel
theorem dL_law_1786 : decode cL_law 1786 = .ok (.aload_n 0, 1) := by decide +kernel
theorem dL_law_1787 : decode cL_law 1787 = .ok (.iload 5, 2) := by decide +kernel
theorem dL_law_1789 : decode cL_law 1789 = .ok (.iconst 1, 1) := by decide +kernel
theorem dL_law_1790 : decode cL_law 1790 = .ok (.iadd, 1) := by decide +kernel
theorem dL_law_1791 : decode cL_law 1791 = .ok (.iaload, 1) := by decide +kernel
theorem dL_law_1792 : decode cL_law 1792 = .ok (.aload_n 0, 1) := by decide +kernel
theorem dL_law_1793 : decode cL_law 1793 = .ok (.iload 5, 2) := by decide +kernel
theorem dL_law_1795 : decode cL_law 1795 = .ok (.iconst 2, 1) := by decide +kernel
theorem dL_law_1796 : decode cL_law 1796 = .ok (.iadd, 1) := by decide +kernel
theorem dL_law_1797 : decode cL_law 1797 = .ok (.iaload, 1) := by decide +kernel
theorem dL_law_1798 : decode cL_law 1798 = .ok (.invokevirtual 205, 3) := by decide +kernel
theorem dL_law_1801 : decode cL_law 1801 = .ok (.istore 7, 2) := by decide +kernel
theorem dL_law_1803 : decode cL_law 1803 = .ok (.aload_n 2, 1) := by decide +kernel
theorem dL_law_1804 : decode cL_law 1804 = .ok (.invokevirtual 112, 3) := by decide +kernel
theorem dL_law_1807 : decode cL_law 1807 = .ok (.iload 6, 2) := by decide +kernel
theorem dL_law_1809 : decode cL_law 1809 = .ok (.if_icmp .eq 5, 3) := by decide +kernel
theorem dL_law_1812 : decode cL_law 1812 = .ok (.iconst 0, 1) := by decide +kernel
theorem dL_law_1813 : decode cL_law 1813 = .ok (.ireturn, 1) := by decide +kernel
theorem dL_law_1814 : decode cL_law 1814 = .ok (.iload 6, 2) := by decide +kernel
theorem dL_law_1816 : decode cL_law 1816 = .ok (.ifCond .ne 15, 3) := by decide +kernel
theorem dL_law_1819 : decode cL_law 1819 = .ok (.aload_n 3, 1) := by decide +kernel
theorem dL_law_1820 : decode cL_law 1820 = .ok (.iconst 0, 1) := by decide +kernel
theorem dL_law_1821 : decode cL_law 1821 = .ok (.laload, 1) := by decide +kernel
theorem dL_law_1822 : decode cL_law 1822 = .ok (.iload 7, 2) := by decide +kernel
theorem dL_law_1824 : decode cL_law 1824 = .ok (.i2l, 1) := by decide +kernel
theorem dL_law_1825 : decode cL_law 1825 = .ok (.lcmp, 1) := by decide +kernel
theorem dL_law_1826 : decode cL_law 1826 = .ok (.ifCond .eq 5, 3) := by decide +kernel
theorem dL_law_1829 : decode cL_law 1829 = .ok (.iconst 0, 1) := by decide +kernel
theorem dL_law_1830 : decode cL_law 1830 = .ok (.ireturn, 1) := by decide +kernel
theorem dL_law_1831 : decode cL_law 1831 = .ok (.goto 289, 3) := by decide +kernel
theorem dL_law_1834 : decode cL_law 1834 = .ok (.aload_n 1, 1) := by decide +kernel
theorem dL_law_1835 : decode cL_law 1835 = .ok (.invokevirtual 206, 3) := by decide +kernel
theorem dL_law_1838 : decode cL_law 1838 = .ok (.aload_n 2, 1) := by decide +kernel
theorem dL_law_1839 : decode cL_law 1839 = .ok (.invokevirtual 209, 3) := by decide +kernel
theorem dL_law_1842 : decode cL_law 1842 = .ok (.if_icmp .eq 278, 3) := by decide +kernel
theorem dL_law_1845 : decode cL_law 1845 = .ok (.iconst 0, 1) := by decide +kernel
theorem dL_law_1846 : decode cL_law 1846 = .ok (.ireturn, 1) := by decide +kernel
theorem dL_law_1847 : decode cL_law 1847 = .ok (.aload_n 1, 1) := by decide +kernel
theorem dL_law_1848 : decode cL_law 1848 = .ok (.aload_n 0, 1) := by decide +kernel
theorem dL_law_1849 : decode cL_law 1849 = .ok (.iload 5, 2) := by decide +kernel
theorem dL_law_1851 : decode cL_law 1851 = .ok (.iconst 1, 1) := by decide +kernel
theorem dL_law_1852 : decode cL_law 1852 = .ok (.iadd, 1) := by decide +kernel
theorem dL_law_1853 : decode cL_law 1853 = .ok (.iaload, 1) := by decide +kernel
theorem dL_law_1854 : decode cL_law 1854 = .ok (.aload_n 0, 1) := by decide +kernel
theorem dL_law_1855 : decode cL_law 1855 = .ok (.iload 5, 2) := by decide +kernel
theorem dL_law_1857 : decode cL_law 1857 = .ok (.iconst 2, 1) := by decide +kernel
theorem dL_law_1858 : decode cL_law 1858 = .ok (.iadd, 1) := by decide +kernel
theorem dL_law_1859 : decode cL_law 1859 = .ok (.iaload, 1) := by decide +kernel
theorem dL_law_1860 : decode cL_law 1860 = .ok (.aload_n 3, 1) := by decide +kernel
theorem dL_law_1861 : decode cL_law 1861 = .ok (.invokestatic 210, 3) := by decide +kernel
theorem dL_law_1864 : decode cL_law 1864 = .ok (.istore 6, 2) := by decide +kernel
theorem dL_law_1866 : decode cL_law 1866 = .ok (.aload_n 2, 1) := by decide +kernel
theorem dL_law_1867 : decode cL_law 1867 = .ok (.aload_n 0, 1) := by decide +kernel
theorem dL_law_1868 : decode cL_law 1868 = .ok (.iload 5, 2) := by decide +kernel
theorem dL_law_1870 : decode cL_law 1870 = .ok (.iconst 1, 1) := by decide +kernel
theorem dL_law_1871 : decode cL_law 1871 = .ok (.iadd, 1) := by decide +kernel
theorem dL_law_1872 : decode cL_law 1872 = .ok (.iaload, 1) := by decide +kernel
theorem dL_law_1873 : decode cL_law 1873 = .ok (.aload_n 0, 1) := by decide +kernel
theorem dL_law_1874 : decode cL_law 1874 = .ok (.iload 5, 2) := by decide +kernel
theorem dL_law_1876 : decode cL_law 1876 = .ok (.iconst 2, 1) := by decide +kernel
theorem dL_law_1877 : decode cL_law 1877 = .ok (.iadd, 1) := by decide +kernel
theorem dL_law_1878 : decode cL_law 1878 = .ok (.iaload, 1) := by decide +kernel
theorem dL_law_1879 : decode cL_law 1879 = .ok (.invokevirtual 212, 3) := by decide +kernel
theorem dL_law_1882 : decode cL_law 1882 = .ok (.istore 7, 2) := by decide +kernel
theorem dL_law_1884 : decode cL_law 1884 = .ok (.aload_n 2, 1) := by decide +kernel
theorem dL_law_1885 : decode cL_law 1885 = .ok (.invokevirtual 112, 3) := by decide +kernel
theorem dL_law_1888 : decode cL_law 1888 = .ok (.iload 6, 2) := by decide +kernel
theorem dL_law_1890 : decode cL_law 1890 = .ok (.if_icmp .eq 5, 3) := by decide +kernel
theorem dL_law_1893 : decode cL_law 1893 = .ok (.iconst 0, 1) := by decide +kernel
theorem dL_law_1894 : decode cL_law 1894 = .ok (.ireturn, 1) := by decide +kernel
theorem dL_law_1895 : decode cL_law 1895 = .ok (.iload 6, 2) := by decide +kernel
theorem dL_law_1897 : decode cL_law 1897 = .ok (.ifCond .ne 15, 3) := by decide +kernel
theorem dL_law_1900 : decode cL_law 1900 = .ok (.aload_n 3, 1) := by decide +kernel
theorem dL_law_1901 : decode cL_law 1901 = .ok (.iconst 0, 1) := by decide +kernel
theorem dL_law_1902 : decode cL_law 1902 = .ok (.laload, 1) := by decide +kernel
theorem dL_law_1903 : decode cL_law 1903 = .ok (.iload 7, 2) := by decide +kernel
theorem dL_law_1905 : decode cL_law 1905 = .ok (.i2l, 1) := by decide +kernel
theorem dL_law_1906 : decode cL_law 1906 = .ok (.lcmp, 1) := by decide +kernel
theorem dL_law_1907 : decode cL_law 1907 = .ok (.ifCond .eq 5, 3) := by decide +kernel
theorem dL_law_1910 : decode cL_law 1910 = .ok (.iconst 0, 1) := by decide +kernel
theorem dL_law_1911 : decode cL_law 1911 = .ok (.ireturn, 1) := by decide +kernel
theorem dL_law_1912 : decode cL_law 1912 = .ok (.goto 208, 3) := by decide +kernel
theorem dL_law_1915 : decode cL_law 1915 = .ok (.aload_n 1, 1) := by decide +kernel
theorem dL_law_1916 : decode cL_law 1916 = .ok (.aload_n 0, 1) := by decide +kernel
theorem dL_law_1917 : decode cL_law 1917 = .ok (.iload 5, 2) := by decide +kernel
theorem dL_law_1919 : decode cL_law 1919 = .ok (.iconst 1, 1) := by decide +kernel
theorem dL_law_1920 : decode cL_law 1920 = .ok (.iadd, 1) := by decide +kernel
theorem dL_law_1921 : decode cL_law 1921 = .ok (.iaload, 1) := by decide +kernel
theorem dL_law_1922 : decode cL_law 1922 = .ok (.aload_n 0, 1) := by decide +kernel
theorem dL_law_1923 : decode cL_law 1923 = .ok (.iload 5, 2) := by decide +kernel
theorem dL_law_1925 : decode cL_law 1925 = .ok (.iconst 2, 1) := by decide +kernel
theorem dL_law_1926 : decode cL_law 1926 = .ok (.iadd, 1) := by decide +kernel
theorem dL_law_1927 : decode cL_law 1927 = .ok (.iaload, 1) := by decide +kernel
theorem dL_law_1928 : decode cL_law 1928 = .ok (.ifCond .eq 7, 3) := by decide +kernel
theorem dL_law_1931 : decode cL_law 1931 = .ok (.iconst 1, 1) := by decide +kernel
theorem dL_law_1932 : decode cL_law 1932 = .ok (.goto 4, 3) := by decide +kernel
theorem dL_law_1935 : decode cL_law 1935 = .ok (.iconst 0, 1) := by decide +kernel
theorem dL_law_1936 : decode cL_law 1936 = .ok (.aload_n 0, 1) := by decide +kernel
theorem dL_law_1937 : decode cL_law 1937 = .ok (.iload 5, 2) := by decide +kernel
theorem dL_law_1939 : decode cL_law 1939 = .ok (.iconst 3, 1) := by decide +kernel
theorem dL_law_1940 : decode cL_law 1940 = .ok (.iadd, 1) := by decide +kernel
theorem dL_law_1941 : decode cL_law 1941 = .ok (.iaload, 1) := by decide +kernel
theorem dL_law_1942 : decode cL_law 1942 = .ok (.aload_n 0, 1) := by decide +kernel
theorem dL_law_1943 : decode cL_law 1943 = .ok (.iload 5, 2) := by decide +kernel
theorem dL_law_1945 : decode cL_law 1945 = .ok (.iconst 4, 1) := by decide +kernel
theorem dL_law_1946 : decode cL_law 1946 = .ok (.iadd, 1) := by decide +kernel
theorem dL_law_1947 : decode cL_law 1947 = .ok (.iaload, 1) := by decide +kernel
theorem dL_law_1948 : decode cL_law 1948 = .ok (.aload_n 3, 1) := by decide +kernel
theorem dL_law_1949 : decode cL_law 1949 = .ok (.invokestatic 213, 3) := by decide +kernel
theorem dL_law_1952 : decode cL_law 1952 = .ok (.istore 6, 2) := by decide +kernel
theorem dL_law_1954 : decode cL_law 1954 = .ok (.aload_n 2, 1) := by decide +kernel
theorem dL_law_1955 : decode cL_law 1955 = .ok (.aload_n 0, 1) := by decide +kernel
theorem dL_law_1956 : decode cL_law 1956 = .ok (.iload 5, 2) := by decide +kernel
theorem dL_law_1958 : decode cL_law 1958 = .ok (.iconst 1, 1) := by decide +kernel
theorem dL_law_1959 : decode cL_law 1959 = .ok (.iadd, 1) := by decide +kernel
theorem dL_law_1960 : decode cL_law 1960 = .ok (.iaload, 1) := by decide +kernel
theorem dL_law_1961 : decode cL_law 1961 = .ok (.aload_n 0, 1) := by decide +kernel
theorem dL_law_1962 : decode cL_law 1962 = .ok (.iload 5, 2) := by decide +kernel
theorem dL_law_1964 : decode cL_law 1964 = .ok (.iconst 2, 1) := by decide +kernel
theorem dL_law_1965 : decode cL_law 1965 = .ok (.iadd, 1) := by decide +kernel
theorem dL_law_1966 : decode cL_law 1966 = .ok (.iaload, 1) := by decide +kernel
theorem dL_law_1967 : decode cL_law 1967 = .ok (.ifCond .eq 7, 3) := by decide +kernel
theorem dL_law_1970 : decode cL_law 1970 = .ok (.iconst 1, 1) := by decide +kernel
theorem dL_law_1971 : decode cL_law 1971 = .ok (.goto 4, 3) := by decide +kernel
theorem dL_law_1974 : decode cL_law 1974 = .ok (.iconst 0, 1) := by decide +kernel
theorem dL_law_1975 : decode cL_law 1975 = .ok (.aload_n 0, 1) := by decide +kernel
theorem dL_law_1976 : decode cL_law 1976 = .ok (.iload 5, 2) := by decide +kernel
theorem dL_law_1978 : decode cL_law 1978 = .ok (.iconst 3, 1) := by decide +kernel
theorem dL_law_1979 : decode cL_law 1979 = .ok (.iadd, 1) := by decide +kernel
theorem dL_law_1980 : decode cL_law 1980 = .ok (.iaload, 1) := by decide +kernel
theorem dL_law_1981 : decode cL_law 1981 = .ok (.aload_n 0, 1) := by decide +kernel
theorem dL_law_1982 : decode cL_law 1982 = .ok (.iload 5, 2) := by decide +kernel
theorem dL_law_1984 : decode cL_law 1984 = .ok (.iconst 4, 1) := by decide +kernel
theorem dL_law_1985 : decode cL_law 1985 = .ok (.iadd, 1) := by decide +kernel
theorem dL_law_1986 : decode cL_law 1986 = .ok (.iaload, 1) := by decide +kernel
theorem dL_law_1987 : decode cL_law 1987 = .ok (.invokevirtual 216, 3) := by decide +kernel
theorem dL_law_1990 : decode cL_law 1990 = .ok (.istore 7, 2) := by decide +kernel
theorem dL_law_1992 : decode cL_law 1992 = .ok (.aload_n 2, 1) := by decide +kernel
theorem dL_law_1993 : decode cL_law 1993 = .ok (.invokevirtual 112, 3) := by decide +kernel
theorem dL_law_1996 : decode cL_law 1996 = .ok (.iload 6, 2) := by decide +kernel
theorem dL_law_1998 : decode cL_law 1998 = .ok (.if_icmp .eq 5, 3) := by decide +kernel
theorem dL_law_2001 : decode cL_law 2001 = .ok (.iconst 0, 1) := by decide +kernel
theorem dL_law_2002 : decode cL_law 2002 = .ok (.ireturn, 1) := by decide +kernel
theorem dL_law_2003 : decode cL_law 2003 = .ok (.iload 6, 2) := by decide +kernel
theorem dL_law_2005 : decode cL_law 2005 = .ok (.ifCond .ne 15, 3) := by decide +kernel
theorem dL_law_2008 : decode cL_law 2008 = .ok (.aload_n 3, 1) := by decide +kernel
theorem dL_law_2009 : decode cL_law 2009 = .ok (.iconst 0, 1) := by decide +kernel
theorem dL_law_2010 : decode cL_law 2010 = .ok (.laload, 1) := by decide +kernel
theorem dL_law_2011 : decode cL_law 2011 = .ok (.iload 7, 2) := by decide +kernel
theorem dL_law_2013 : decode cL_law 2013 = .ok (.i2l, 1) := by decide +kernel
theorem dL_law_2014 : decode cL_law 2014 = .ok (.lcmp, 1) := by decide +kernel
theorem dL_law_2015 : decode cL_law 2015 = .ok (.ifCond .eq 5, 3) := by decide +kernel
theorem dL_law_2018 : decode cL_law 2018 = .ok (.iconst 0, 1) := by decide +kernel
theorem dL_law_2019 : decode cL_law 2019 = .ok (.ireturn, 1) := by decide +kernel
theorem dL_law_2020 : decode cL_law 2020 = .ok (.goto 100, 3) := by decide +kernel
theorem dL_law_2023 : decode cL_law 2023 = .ok (.aload_n 1, 1) := by decide +kernel
theorem dL_law_2024 : decode cL_law 2024 = .ok (.aload_n 0, 1) := by decide +kernel
theorem dL_law_2025 : decode cL_law 2025 = .ok (.iload 5, 2) := by decide +kernel
theorem dL_law_2027 : decode cL_law 2027 = .ok (.iconst 1, 1) := by decide +kernel
theorem dL_law_2028 : decode cL_law 2028 = .ok (.iadd, 1) := by decide +kernel
theorem dL_law_2029 : decode cL_law 2029 = .ok (.iaload, 1) := by decide +kernel
theorem dL_law_2030 : decode cL_law 2030 = .ok (.aload_n 0, 1) := by decide +kernel
theorem dL_law_2031 : decode cL_law 2031 = .ok (.iload 5, 2) := by decide +kernel
theorem dL_law_2033 : decode cL_law 2033 = .ok (.iconst 2, 1) := by decide +kernel
theorem dL_law_2034 : decode cL_law 2034 = .ok (.iadd, 1) := by decide +kernel
theorem dL_law_2035 : decode cL_law 2035 = .ok (.iaload, 1) := by decide +kernel
theorem dL_law_2036 : decode cL_law 2036 = .ok (.ifCond .eq 7, 3) := by decide +kernel
theorem dL_law_2039 : decode cL_law 2039 = .ok (.iconst 1, 1) := by decide +kernel
theorem dL_law_2040 : decode cL_law 2040 = .ok (.goto 4, 3) := by decide +kernel
theorem dL_law_2043 : decode cL_law 2043 = .ok (.iconst 0, 1) := by decide +kernel
theorem dL_law_2044 : decode cL_law 2044 = .ok (.aload_n 3, 1) := by decide +kernel
theorem dL_law_2045 : decode cL_law 2045 = .ok (.invokestatic 217, 3) := by decide +kernel
theorem dL_law_2048 : decode cL_law 2048 = .ok (.istore 6, 2) := by decide +kernel
theorem dL_law_2050 : decode cL_law 2050 = .ok (.aload_n 2, 1) := by decide +kernel
theorem dL_law_2051 : decode cL_law 2051 = .ok (.aload_n 0, 1) := by decide +kernel
theorem dL_law_2052 : decode cL_law 2052 = .ok (.iload 5, 2) := by decide +kernel
theorem dL_law_2054 : decode cL_law 2054 = .ok (.iconst 1, 1) := by decide +kernel
theorem dL_law_2055 : decode cL_law 2055 = .ok (.iadd, 1) := by decide +kernel
theorem dL_law_2056 : decode cL_law 2056 = .ok (.iaload, 1) := by decide +kernel
theorem dL_law_2057 : decode cL_law 2057 = .ok (.aload_n 0, 1) := by decide +kernel
theorem dL_law_2058 : decode cL_law 2058 = .ok (.iload 5, 2) := by decide +kernel
theorem dL_law_2060 : decode cL_law 2060 = .ok (.iconst 2, 1) := by decide +kernel
theorem dL_law_2061 : decode cL_law 2061 = .ok (.iadd, 1) := by decide +kernel
theorem dL_law_2062 : decode cL_law 2062 = .ok (.iaload, 1) := by decide +kernel
theorem dL_law_2063 : decode cL_law 2063 = .ok (.ifCond .eq 7, 3) := by decide +kernel
theorem dL_law_2066 : decode cL_law 2066 = .ok (.iconst 1, 1) := by decide +kernel
theorem dL_law_2067 : decode cL_law 2067 = .ok (.goto 4, 3) := by decide +kernel
theorem dL_law_2070 : decode cL_law 2070 = .ok (.iconst 0, 1) := by decide +kernel
theorem dL_law_2071 : decode cL_law 2071 = .ok (.invokevirtual 219, 3) := by decide +kernel
theorem dL_law_2074 : decode cL_law 2074 = .ok (.istore 7, 2) := by decide +kernel
theorem dL_law_2076 : decode cL_law 2076 = .ok (.aload_n 2, 1) := by decide +kernel
theorem dL_law_2077 : decode cL_law 2077 = .ok (.invokevirtual 112, 3) := by decide +kernel
theorem dL_law_2080 : decode cL_law 2080 = .ok (.iload 6, 2) := by decide +kernel
theorem dL_law_2082 : decode cL_law 2082 = .ok (.if_icmp .eq 5, 3) := by decide +kernel
theorem dL_law_2085 : decode cL_law 2085 = .ok (.iconst 0, 1) := by decide +kernel
theorem dL_law_2086 : decode cL_law 2086 = .ok (.ireturn, 1) := by decide +kernel
theorem dL_law_2087 : decode cL_law 2087 = .ok (.iload 6, 2) := by decide +kernel
theorem dL_law_2089 : decode cL_law 2089 = .ok (.ifCond .ne 15, 3) := by decide +kernel
theorem dL_law_2092 : decode cL_law 2092 = .ok (.aload_n 3, 1) := by decide +kernel
theorem dL_law_2093 : decode cL_law 2093 = .ok (.iconst 0, 1) := by decide +kernel
theorem dL_law_2094 : decode cL_law 2094 = .ok (.laload, 1) := by decide +kernel
theorem dL_law_2095 : decode cL_law 2095 = .ok (.iload 7, 2) := by decide +kernel
theorem dL_law_2097 : decode cL_law 2097 = .ok (.i2l, 1) := by decide +kernel
theorem dL_law_2098 : decode cL_law 2098 = .ok (.lcmp, 1) := by decide +kernel
theorem dL_law_2099 : decode cL_law 2099 = .ok (.ifCond .eq 5, 3) := by decide +kernel
theorem dL_law_2102 : decode cL_law 2102 = .ok (.iconst 0, 1) := by decide +kernel
theorem dL_law_2103 : decode cL_law 2103 = .ok (.ireturn, 1) := by decide +kernel
theorem dL_law_2104 : decode cL_law 2104 = .ok (.goto 16, 3) := by decide +kernel
theorem dL_law_2107 : decode cL_law 2107 = .ok (.aload_n 1, 1) := by decide +kernel
theorem dL_law_2108 : decode cL_law 2108 = .ok (.invokevirtual 220, 3) := by decide +kernel
theorem dL_law_2111 : decode cL_law 2111 = .ok (.aload_n 2, 1) := by decide +kernel
theorem dL_law_2112 : decode cL_law 2112 = .ok (.invokevirtual 224, 3) := by decide +kernel
theorem dL_law_2115 : decode cL_law 2115 = .ok (.if_icmp .eq 5, 3) := by decide +kernel
theorem dL_law_2118 : decode cL_law 2118 = .ok (.iconst 0, 1) := by decide +kernel
theorem dL_law_2119 : decode cL_law 2119 = .ok (.ireturn, 1) := by decide +kernel
theorem dL_law_2120 : decode cL_law 2120 = .ok (.iinc 5 5, 3) := by decide +kernel
theorem dL_law_2123 : decode cL_law 2123 = .ok (.goto (-2095), 3) := by decide +kernel
theorem dL_law_2126 : decode cL_law 2126 = .ok (.iconst 1, 1) := by decide +kernel
theorem dL_law_2127 : decode cL_law 2127 = .ok (.ireturn, 1) := by decide +kernel
