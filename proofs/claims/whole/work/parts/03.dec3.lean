theorem dX3_sum_61 : decode cX3_sum 61 = .ok (.ireturn, 1) := by decide +kernel
theorem dX3_sum_62 : decode cX3_sum 62 = .ok (.iconst 0, 1) := by decide +kernel
theorem dX3_sum_63 : decode cX3_sum 63 = .ok (.istore_n 3, 1) := by decide +kernel
theorem dX3_sum_64 : decode cX3_sum 64 = .ok (.iconst 0, 1) := by decide +kernel
theorem dX3_sum_65 : decode cX3_sum 65 = .ok (.istore 4, 2) := by decide +kernel
theorem dX3_sum_67 : decode cX3_sum 67 = .ok (.iload 4, 2) := by decide +kernel
theorem dX3_sum_69 : decode cX3_sum 69 = .ok (.aload_n 0, 1) := by decide +kernel
theorem dX3_sum_70 : decode cX3_sum 70 = .ok (.getfield 13, 3) := by decide +kernel
theorem dX3_sum_73 : decode cX3_sum 73 = .ok (.iload_n 1, 1) := by decide +kernel
theorem dX3_sum_74 : decode cX3_sum 74 = .ok (.iaload, 1) := by decide +kernel
theorem dX3_sum_75 : decode cX3_sum 75 = .ok (.if_icmp .ge 20, 3) := by decide +kernel
theorem dX3_sum_78 : decode cX3_sum 78 = .ok (.iload_n 3, 1) := by decide +kernel
theorem dX3_sum_79 : decode cX3_sum 79 = .ok (.aload_n 0, 1) := by decide +kernel
theorem dX3_sum_80 : decode cX3_sum 80 = .ok (.iload_n 1, 1) := by decide +kernel
theorem dX3_sum_81 : decode cX3_sum 81 = .ok (.iload 4, 2) := by decide +kernel
theorem dX3_sum_83 : decode cX3_sum 83 = .ok (.invokevirtual 89, 3) := by decide +kernel
theorem dX3_sum_86 : decode cX3_sum 86 = .ok (.l2i, 1) := by decide +kernel
theorem dX3_sum_87 : decode cX3_sum 87 = .ok (.iadd, 1) := by decide +kernel
theorem dX3_sum_88 : decode cX3_sum 88 = .ok (.istore_n 3, 1) := by decide +kernel
theorem dX3_sum_89 : decode cX3_sum 89 = .ok (.iinc 4 1, 3) := by decide +kernel
theorem dX3_sum_92 : decode cX3_sum 92 = .ok (.goto (-25), 3) := by decide +kernel
theorem dX3_sum_95 : decode cX3_sum 95 = .ok (.iload_n 3, 1) := by decide +kernel
theorem dX3_sum_96 : decode cX3_sum 96 = .ok (.ireturn, 1) := by decide +kernel
theorem dX3_isWhole_0 : decode cX3_isWhole 0 = .ok (.iload_n 0, 1) := by decide +kernel
theorem dX3_isWhole_1 : decode cX3_isWhole 1 = .ok (.iconst 5, 1) := by decide +kernel
theorem dX3_isWhole_2 : decode cX3_isWhole 2 = .ok (.if_icmp .ge 7, 3) := by decide +kernel
theorem dX3_isWhole_5 : decode cX3_isWhole 5 = .ok (.iconst 1, 1) := by decide +kernel
theorem dX3_isWhole_6 : decode cX3_isWhole 6 = .ok (.goto 4, 3) := by decide +kernel
theorem dX3_isWhole_9 : decode cX3_isWhole 9 = .ok (.iconst 0, 1) := by decide +kernel
theorem dX3_isWhole_10 : decode cX3_isWhole 10 = .ok (.ireturn, 1) := by decide +kernel
theorem dX3_fits_0 : decode cX3_fits 0 = .ok (.iload_n 0, 1) := by decide +kernel
theorem dX3_fits_1 : decode cX3_fits 1 = .ok (.lload_n 1, 1) := by decide +kernel
theorem dX3_fits_2 : decode cX3_fits 2 = .ok (.invokestatic 85, 3) := by decide +kernel
theorem dX3_fits_5 : decode cX3_fits 5 = .ok (.lload_n 1, 1) := by decide +kernel
theorem dX3_fits_6 : decode cX3_fits 6 = .ok (.lcmp, 1) := by decide +kernel
theorem dX3_fits_7 : decode cX3_fits 7 = .ok (.ifCond .ne 7, 3) := by decide +kernel
theorem dX3_fits_10 : decode cX3_fits 10 = .ok (.iconst 1, 1) := by decide +kernel
theorem dX3_fits_11 : decode cX3_fits 11 = .ok (.goto 4, 3) := by decide +kernel
theorem dX3_fits_14 : decode cX3_fits 14 = .ok (.iconst 0, 1) := by decide +kernel
theorem dX3_fits_15 : decode cX3_fits 15 = .ok (.ireturn, 1) := by decide +kernel
theorem dX3_isInLongs_0 : decode cX3_isInLongs 0 = .ok (.dload_n 0, 1) := by decide +kernel
theorem dX3_isInLongs_1 : decode cX3_isInLongs 1 = .ok (.ldc2_w 93, 3) := by decide +kernel
theorem dX3_isInLongs_4 : decode cX3_isInLongs 4 = .ok (.dcmp .l, 1) := by decide +kernel
theorem dX3_isInLongs_5 : decode cX3_isInLongs 5 = .ok (.ifCond .lt 15, 3) := by decide +kernel
theorem dX3_isInLongs_8 : decode cX3_isInLongs 8 = .ok (.dload_n 0, 1) := by decide +kernel
theorem dX3_isInLongs_9 : decode cX3_isInLongs 9 = .ok (.ldc2_w 95, 3) := by decide +kernel
theorem dX3_isInLongs_12 : decode cX3_isInLongs 12 = .ok (.dcmp .g, 1) := by decide +kernel
theorem dX3_isInLongs_13 : decode cX3_isInLongs 13 = .ok (.ifCond .ge 7, 3) := by decide +kernel
theorem dX3_isInLongs_16 : decode cX3_isInLongs 16 = .ok (.iconst 1, 1) := by decide +kernel
theorem dX3_isInLongs_17 : decode cX3_isInLongs 17 = .ok (.goto 4, 3) := by decide +kernel
theorem dX3_isInLongs_20 : decode cX3_isInLongs 20 = .ok (.iconst 0, 1) := by decide +kernel
theorem dX3_isInLongs_21 : decode cX3_isInLongs 21 = .ok (.ireturn, 1) := by decide +kernel
theorem dX3_canBe_0 : decode cX3_canBe 0 = .ok (.iload_n 2, 1) := by decide +kernel
theorem dX3_canBe_1 : decode cX3_canBe 1 = .ok (.invokestatic 97, 3) := by decide +kernel
theorem dX3_canBe_4 : decode cX3_canBe 4 = .ok (.ifCond .eq 65, 3) := by decide +kernel
theorem dX3_canBe_7 : decode cX3_canBe 7 = .ok (.aload_n 0, 1) := by decide +kernel
theorem dX3_canBe_8 : decode cX3_canBe 8 = .ok (.getfield 20, 3) := by decide +kernel
theorem dX3_canBe_11 : decode cX3_canBe 11 = .ok (.iload_n 1, 1) := by decide +kernel
theorem dX3_canBe_12 : decode cX3_canBe 12 = .ok (.laload, 1) := by decide +kernel
theorem dX3_canBe_13 : decode cX3_canBe 13 = .ok (.lstore 4, 2) := by decide +kernel
theorem dX3_canBe_15 : decode cX3_canBe 15 = .ok (.iload_n 3, 1) := by decide +kernel
theorem dX3_canBe_16 : decode cX3_canBe 16 = .ok (.invokestatic 97, 3) := by decide +kernel
theorem dX3_canBe_19 : decode cX3_canBe 19 = .ok (.ifCond .eq 10, 3) := by decide +kernel
theorem dX3_canBe_22 : decode cX3_canBe 22 = .ok (.iload_n 3, 1) := by decide +kernel
theorem dX3_canBe_23 : decode cX3_canBe 23 = .ok (.lload 4, 2) := by decide +kernel
theorem dX3_canBe_25 : decode cX3_canBe 25 = .ok (.invokestatic 100, 3) := by decide +kernel
theorem dX3_canBe_28 : decode cX3_canBe 28 = .ok (.ireturn, 1) := by decide +kernel
theorem dX3_canBe_29 : decode cX3_canBe 29 = .ok (.iload_n 3, 1) := by decide +kernel
theorem dX3_canBe_30 : decode cX3_canBe 30 = .ok (.iconst 5, 1) := by decide +kernel
theorem dX3_canBe_31 : decode cX3_canBe 31 = .ok (.if_icmp .ne 10, 3) := by decide +kernel
theorem dX3_canBe_34 : decode cX3_canBe 34 = .ok (.lload 4, 2) := by decide +kernel
theorem dX3_canBe_36 : decode cX3_canBe 36 = .ok (.l2f, 1) := by decide +kernel
theorem dX3_canBe_37 : decode cX3_canBe 37 = .ok (.f2d, 1) := by decide +kernel
theorem dX3_canBe_38 : decode cX3_canBe 38 = .ok (.goto 6, 3) := by decide +kernel
theorem dX3_canBe_41 : decode cX3_canBe 41 = .ok (.lload 4, 2) := by decide +kernel
theorem dX3_canBe_43 : decode cX3_canBe 43 = .ok (.l2d, 1) := by decide +kernel
theorem dX3_canBe_44 : decode cX3_canBe 44 = .ok (.dstore 6, 2) := by decide +kernel
theorem dX3_canBe_46 : decode cX3_canBe 46 = .ok (.dload 6, 2) := by decide +kernel
theorem dX3_canBe_48 : decode cX3_canBe 48 = .ok (.invokestatic 104, 3) := by decide +kernel
theorem dX3_canBe_51 : decode cX3_canBe 51 = .ok (.ifCond .eq 16, 3) := by decide +kernel
theorem dX3_canBe_54 : decode cX3_canBe 54 = .ok (.dload 6, 2) := by decide +kernel
theorem dX3_canBe_56 : decode cX3_canBe 56 = .ok (.d2l, 1) := by decide +kernel
theorem dX3_canBe_57 : decode cX3_canBe 57 = .ok (.lload 4, 2) := by decide +kernel
theorem dX3_canBe_59 : decode cX3_canBe 59 = .ok (.lcmp, 1) := by decide +kernel
theorem dX3_canBe_60 : decode cX3_canBe 60 = .ok (.ifCond .ne 7, 3) := by decide +kernel
theorem dX3_canBe_63 : decode cX3_canBe 63 = .ok (.iconst 1, 1) := by decide +kernel
theorem dX3_canBe_64 : decode cX3_canBe 64 = .ok (.goto 4, 3) := by decide +kernel
theorem dX3_canBe_67 : decode cX3_canBe 67 = .ok (.iconst 0, 1) := by decide +kernel
theorem dX3_canBe_68 : decode cX3_canBe 68 = .ok (.ireturn, 1) := by decide +kernel
theorem dX3_canBe_69 : decode cX3_canBe 69 = .ok (.aload_n 0, 1) := by decide +kernel
theorem dX3_canBe_70 : decode cX3_canBe 70 = .ok (.getfield 24, 3) := by decide +kernel
theorem dX3_canBe_73 : decode cX3_canBe 73 = .ok (.iload_n 1, 1) := by decide +kernel
theorem dX3_canBe_74 : decode cX3_canBe 74 = .ok (.daload, 1) := by decide +kernel
theorem dX3_canBe_75 : decode cX3_canBe 75 = .ok (.dstore 4, 2) := by decide +kernel
theorem dX3_canBe_77 : decode cX3_canBe 77 = .ok (.iload_n 3, 1) := by decide +kernel
theorem dX3_canBe_78 : decode cX3_canBe 78 = .ok (.invokestatic 97, 3) := by decide +kernel
theorem dX3_canBe_81 : decode cX3_canBe 81 = .ok (.ifCond .eq 37, 3) := by decide +kernel
theorem dX3_canBe_84 : decode cX3_canBe 84 = .ok (.dload 4, 2) := by decide +kernel
theorem dX3_canBe_86 : decode cX3_canBe 86 = .ok (.invokestatic 104, 3) := by decide +kernel
theorem dX3_canBe_89 : decode cX3_canBe 89 = .ok (.ifCond .eq 27, 3) := by decide +kernel
theorem dX3_canBe_92 : decode cX3_canBe 92 = .ok (.dload 4, 2) := by decide +kernel
theorem dX3_canBe_94 : decode cX3_canBe 94 = .ok (.d2l, 1) := by decide +kernel
theorem dX3_canBe_95 : decode cX3_canBe 95 = .ok (.l2d, 1) := by decide +kernel
theorem dX3_canBe_96 : decode cX3_canBe 96 = .ok (.dload 4, 2) := by decide +kernel
theorem dX3_canBe_98 : decode cX3_canBe 98 = .ok (.dcmp .l, 1) := by decide +kernel
theorem dX3_canBe_99 : decode cX3_canBe 99 = .ok (.ifCond .ne 17, 3) := by decide +kernel
theorem dX3_canBe_102 : decode cX3_canBe 102 = .ok (.iload_n 3, 1) := by decide +kernel
theorem dX3_canBe_103 : decode cX3_canBe 103 = .ok (.dload 4, 2) := by decide +kernel
theorem dX3_canBe_105 : decode cX3_canBe 105 = .ok (.d2l, 1) := by decide +kernel
theorem dX3_canBe_106 : decode cX3_canBe 106 = .ok (.invokestatic 100, 3) := by decide +kernel
theorem dX3_canBe_109 : decode cX3_canBe 109 = .ok (.ifCond .eq 7, 3) := by decide +kernel
theorem dX3_canBe_112 : decode cX3_canBe 112 = .ok (.iconst 1, 1) := by decide +kernel
theorem dX3_canBe_113 : decode cX3_canBe 113 = .ok (.goto 4, 3) := by decide +kernel
theorem dX3_canBe_116 : decode cX3_canBe 116 = .ok (.iconst 0, 1) := by decide +kernel
theorem dX3_canBe_117 : decode cX3_canBe 117 = .ok (.ireturn, 1) := by decide +kernel
theorem dX3_canBe_118 : decode cX3_canBe 118 = .ok (.iload_n 3, 1) := by decide +kernel
theorem dX3_canBe_119 : decode cX3_canBe 119 = .ok (.bipush 6, 2) := by decide +kernel
theorem dX3_canBe_121 : decode cX3_canBe 121 = .ok (.if_icmp .eq 13, 3) := by decide +kernel
theorem dX3_canBe_124 : decode cX3_canBe 124 = .ok (.dload 4, 2) := by decide +kernel
theorem dX3_canBe_126 : decode cX3_canBe 126 = .ok (.d2f, 1) := by decide +kernel
theorem dX3_canBe_127 : decode cX3_canBe 127 = .ok (.f2d, 1) := by decide +kernel
theorem dX3_canBe_128 : decode cX3_canBe 128 = .ok (.dload 4, 2) := by decide +kernel
theorem dX3_canBe_130 : decode cX3_canBe 130 = .ok (.dcmp .l, 1) := by decide +kernel
theorem dX3_canBe_131 : decode cX3_canBe 131 = .ok (.ifCond .ne 7, 3) := by decide +kernel
theorem dX3_canBe_134 : decode cX3_canBe 134 = .ok (.iconst 1, 1) := by decide +kernel
theorem dX3_canBe_135 : decode cX3_canBe 135 = .ok (.goto 4, 3) := by decide +kernel
theorem dX3_canBe_138 : decode cX3_canBe 138 = .ok (.iconst 0, 1) := by decide +kernel
theorem dX3_canBe_139 : decode cX3_canBe 139 = .ok (.ireturn, 1) := by decide +kernel
theorem dX3_turn_0 : decode cX3_turn 0 = .ok (.aload_n 0, 1) := by decide +kernel
theorem dX3_turn_1 : decode cX3_turn 1 = .ok (.iconst 0, 1) := by decide +kernel
theorem dX3_turn_2 : decode cX3_turn 2 = .ok (.putfield 55, 3) := by decide +kernel
theorem dX3_turn_5 : decode cX3_turn 5 = .ok (.iload_n 1, 1) := by decide +kernel
theorem dX3_turn_6 : decode cX3_turn 6 = .ok (.invokestatic 63, 3) := by decide +kernel
theorem dX3_turn_9 : decode cX3_turn 9 = .ok (.ifCond .eq 13, 3) := by decide +kernel
theorem dX3_turn_12 : decode cX3_turn 12 = .ok (.iload_n 2, 1) := by decide +kernel
theorem dX3_turn_13 : decode cX3_turn 13 = .ok (.iconst 0, 1) := by decide +kernel
theorem dX3_turn_14 : decode cX3_turn 14 = .ok (.bipush 6, 2) := by decide +kernel
theorem dX3_turn_16 : decode cX3_turn 16 = .ok (.invokestatic 59, 3) := by decide +kernel
theorem dX3_turn_19 : decode cX3_turn 19 = .ok (.ifCond .ne 5, 3) := by decide +kernel
theorem dX3_turn_22 : decode cX3_turn 22 = .ok (.iconst (-1), 1) := by decide +kernel
theorem dX3_turn_23 : decode cX3_turn 23 = .ok (.ireturn, 1) := by decide +kernel
theorem dX3_turn_24 : decode cX3_turn 24 = .ok (.aload_n 0, 1) := by decide +kernel
theorem dX3_turn_25 : decode cX3_turn 25 = .ok (.iload_n 1, 1) := by decide +kernel
theorem dX3_turn_26 : decode cX3_turn 26 = .ok (.iconst 0, 1) := by decide +kernel
theorem dX3_turn_27 : decode cX3_turn 27 = .ok (.invokevirtual 74, 3) := by decide +kernel
theorem dX3_turn_30 : decode cX3_turn 30 = .ok (.istore_n 3, 1) := by decide +kernel
theorem dX3_turn_31 : decode cX3_turn 31 = .ok (.iload_n 3, 1) := by decide +kernel
theorem dX3_turn_32 : decode cX3_turn 32 = .ok (.ifCond .eq 5, 3) := by decide +kernel
theorem dX3_turn_35 : decode cX3_turn 35 = .ok (.iload_n 3, 1) := by decide +kernel
theorem dX3_turn_36 : decode cX3_turn 36 = .ok (.ireturn, 1) := by decide +kernel
theorem dX3_turn_37 : decode cX3_turn 37 = .ok (.aload_n 0, 1) := by decide +kernel
theorem dX3_turn_38 : decode cX3_turn 38 = .ok (.getfield 7, 3) := by decide +kernel
theorem dX3_turn_41 : decode cX3_turn 41 = .ok (.iload_n 1, 1) := by decide +kernel
theorem dX3_turn_42 : decode cX3_turn 42 = .ok (.iaload, 1) := by decide +kernel
theorem dX3_turn_43 : decode cX3_turn 43 = .ok (.istore 4, 2) := by decide +kernel
theorem dX3_turn_45 : decode cX3_turn 45 = .ok (.iconst 0, 1) := by decide +kernel
theorem dX3_turn_46 : decode cX3_turn 46 = .ok (.istore 5, 2) := by decide +kernel
theorem dX3_turn_48 : decode cX3_turn 48 = .ok (.iload 5, 2) := by decide +kernel
theorem dX3_turn_50 : decode cX3_turn 50 = .ok (.aload_n 0, 1) := by decide +kernel
theorem dX3_turn_51 : decode cX3_turn 51 = .ok (.getfield 13, 3) := by decide +kernel
theorem dX3_turn_54 : decode cX3_turn 54 = .ok (.iload_n 1, 1) := by decide +kernel
theorem dX3_turn_55 : decode cX3_turn 55 = .ok (.iaload, 1) := by decide +kernel
theorem dX3_turn_56 : decode cX3_turn 56 = .ok (.if_icmp .ge 32, 3) := by decide +kernel
theorem dX3_turn_59 : decode cX3_turn 59 = .ok (.aload_n 0, 1) := by decide +kernel
theorem dX3_turn_60 : decode cX3_turn 60 = .ok (.bipush 40, 2) := by decide +kernel
theorem dX3_turn_62 : decode cX3_turn 62 = .ok (.iload_n 1, 1) := by decide +kernel
theorem dX3_turn_63 : decode cX3_turn 63 = .ok (.imul, 1) := by decide +kernel
theorem dX3_turn_64 : decode cX3_turn 64 = .ok (.iload 5, 2) := by decide +kernel
theorem dX3_turn_66 : decode cX3_turn 66 = .ok (.iadd, 1) := by decide +kernel
theorem dX3_turn_67 : decode cX3_turn 67 = .ok (.iload 4, 2) := by decide +kernel
theorem dX3_turn_69 : decode cX3_turn 69 = .ok (.iload_n 2, 1) := by decide +kernel
theorem dX3_turn_70 : decode cX3_turn 70 = .ok (.invokevirtual 108, 3) := by decide +kernel
theorem dX3_turn_73 : decode cX3_turn 73 = .ok (.ifCond .ne 9, 3) := by decide +kernel
theorem dX3_turn_76 : decode cX3_turn 76 = .ok (.bipush (-20), 2) := by decide +kernel
theorem dX3_turn_78 : decode cX3_turn 78 = .ok (.iload 5, 2) := by decide +kernel
theorem dX3_turn_80 : decode cX3_turn 80 = .ok (.isub, 1) := by decide +kernel
theorem dX3_turn_81 : decode cX3_turn 81 = .ok (.ireturn, 1) := by decide +kernel
theorem dX3_turn_82 : decode cX3_turn 82 = .ok (.iinc 5 1, 3) := by decide +kernel
theorem dX3_turn_85 : decode cX3_turn 85 = .ok (.goto (-37), 3) := by decide +kernel
theorem dX3_turn_88 : decode cX3_turn 88 = .ok (.iconst 0, 1) := by decide +kernel
theorem dX3_turn_89 : decode cX3_turn 89 = .ok (.istore 5, 2) := by decide +kernel
theorem dX3_turn_91 : decode cX3_turn 91 = .ok (.iload 5, 2) := by decide +kernel
theorem dX3_turn_93 : decode cX3_turn 93 = .ok (.aload_n 0, 1) := by decide +kernel
theorem dX3_turn_94 : decode cX3_turn 94 = .ok (.getfield 13, 3) := by decide +kernel
theorem dX3_turn_97 : decode cX3_turn 97 = .ok (.iload_n 1, 1) := by decide +kernel
theorem dX3_turn_98 : decode cX3_turn 98 = .ok (.iaload, 1) := by decide +kernel
theorem dX3_turn_99 : decode cX3_turn 99 = .ok (.if_icmp .ge 81, 3) := by decide +kernel
theorem dX3_turn_102 : decode cX3_turn 102 = .ok (.bipush 40, 2) := by decide +kernel
theorem dX3_turn_104 : decode cX3_turn 104 = .ok (.iload_n 1, 1) := by decide +kernel
theorem dX3_turn_105 : decode cX3_turn 105 = .ok (.imul, 1) := by decide +kernel
theorem dX3_turn_106 : decode cX3_turn 106 = .ok (.iload 5, 2) := by decide +kernel
theorem dX3_turn_108 : decode cX3_turn 108 = .ok (.iadd, 1) := by decide +kernel
theorem dX3_turn_109 : decode cX3_turn 109 = .ok (.istore 6, 2) := by decide +kernel
theorem dX3_turn_111 : decode cX3_turn 111 = .ok (.iload 4, 2) := by decide +kernel
theorem dX3_turn_113 : decode cX3_turn 113 = .ok (.invokestatic 97, 3) := by decide +kernel
theorem dX3_turn_116 : decode cX3_turn 116 = .ok (.ifCond .eq 28, 3) := by decide +kernel
theorem dX3_turn_119 : decode cX3_turn 119 = .ok (.iload_n 2, 1) := by decide +kernel
theorem dX3_turn_120 : decode cX3_turn 120 = .ok (.invokestatic 97, 3) := by decide +kernel
theorem dX3_turn_123 : decode cX3_turn 123 = .ok (.ifCond .ne 21, 3) := by decide +kernel
theorem dX3_turn_126 : decode cX3_turn 126 = .ok (.aload_n 0, 1) := by decide +kernel
theorem dX3_turn_127 : decode cX3_turn 127 = .ok (.getfield 24, 3) := by decide +kernel
theorem dX3_turn_130 : decode cX3_turn 130 = .ok (.iload 6, 2) := by decide +kernel
theorem dX3_turn_132 : decode cX3_turn 132 = .ok (.aload_n 0, 1) := by decide +kernel
theorem dX3_turn_133 : decode cX3_turn 133 = .ok (.getfield 20, 3) := by decide +kernel
theorem dX3_turn_136 : decode cX3_turn 136 = .ok (.iload 6, 2) := by decide +kernel
theorem dX3_turn_138 : decode cX3_turn 138 = .ok (.laload, 1) := by decide +kernel
theorem dX3_turn_139 : decode cX3_turn 139 = .ok (.l2d, 1) := by decide +kernel
theorem dX3_turn_140 : decode cX3_turn 140 = .ok (.dastore, 1) := by decide +kernel
theorem dX3_turn_141 : decode cX3_turn 141 = .ok (.goto 33, 3) := by decide +kernel
theorem dX3_turn_144 : decode cX3_turn 144 = .ok (.iload 4, 2) := by decide +kernel
theorem dX3_turn_146 : decode cX3_turn 146 = .ok (.invokestatic 97, 3) := by decide +kernel
theorem dX3_turn_149 : decode cX3_turn 149 = .ok (.ifCond .ne 25, 3) := by decide +kernel
theorem dX3_turn_152 : decode cX3_turn 152 = .ok (.iload_n 2, 1) := by decide +kernel
theorem dX3_turn_153 : decode cX3_turn 153 = .ok (.invokestatic 97, 3) := by decide +kernel
theorem dX3_turn_156 : decode cX3_turn 156 = .ok (.ifCond .eq 18, 3) := by decide +kernel
theorem dX3_turn_159 : decode cX3_turn 159 = .ok (.aload_n 0, 1) := by decide +kernel
theorem dX3_turn_160 : decode cX3_turn 160 = .ok (.getfield 20, 3) := by decide +kernel
theorem dX3_turn_163 : decode cX3_turn 163 = .ok (.iload 6, 2) := by decide +kernel
theorem dX3_turn_165 : decode cX3_turn 165 = .ok (.aload_n 0, 1) := by decide +kernel
theorem dX3_turn_166 : decode cX3_turn 166 = .ok (.getfield 24, 3) := by decide +kernel
theorem dX3_turn_169 : decode cX3_turn 169 = .ok (.iload 6, 2) := by decide +kernel
theorem dX3_turn_171 : decode cX3_turn 171 = .ok (.daload, 1) := by decide +kernel
theorem dX3_turn_172 : decode cX3_turn 172 = .ok (.d2l, 1) := by decide +kernel
theorem dX3_turn_173 : decode cX3_turn 173 = .ok (.lastore, 1) := by decide +kernel
theorem dX3_turn_174 : decode cX3_turn 174 = .ok (.iinc 5 1, 3) := by decide +kernel
theorem dX3_turn_177 : decode cX3_turn 177 = .ok (.goto (-86), 3) := by decide +kernel
theorem dX3_turn_180 : decode cX3_turn 180 = .ok (.aload_n 0, 1) := by decide +kernel
theorem dX3_turn_181 : decode cX3_turn 181 = .ok (.getfield 7, 3) := by decide +kernel
theorem dX3_turn_184 : decode cX3_turn 184 = .ok (.iload_n 1, 1) := by decide +kernel
theorem dX3_turn_185 : decode cX3_turn 185 = .ok (.iload_n 2, 1) := by decide +kernel
theorem dX3_turn_186 : decode cX3_turn 186 = .ok (.iastore, 1) := by decide +kernel
theorem dX3_turn_187 : decode cX3_turn 187 = .ok (.iconst 1, 1) := by decide +kernel
theorem dX3_turn_188 : decode cX3_turn 188 = .ok (.ireturn, 1) := by decide +kernel
theorem dX3_part_0 : decode cX3_part 0 = .ok (.aload_n 0, 1) := by decide +kernel
theorem dX3_part_1 : decode cX3_part 1 = .ok (.iconst 0, 1) := by decide +kernel
theorem dX3_part_2 : decode cX3_part 2 = .ok (.putfield 55, 3) := by decide +kernel
theorem dX3_part_5 : decode cX3_part 5 = .ok (.iload_n 1, 1) := by decide +kernel
theorem dX3_part_6 : decode cX3_part 6 = .ok (.iconst 0, 1) := by decide +kernel
theorem dX3_part_7 : decode cX3_part 7 = .ok (.iconst 2, 1) := by decide +kernel
theorem dX3_part_8 : decode cX3_part 8 = .ok (.invokestatic 59, 3) := by decide +kernel
theorem dX3_part_11 : decode cX3_part 11 = .ok (.ifCond .eq 14, 3) := by decide +kernel
theorem dX3_part_14 : decode cX3_part 14 = .ok (.iload_n 2, 1) := by decide +kernel
theorem dX3_part_15 : decode cX3_part 15 = .ok (.iconst 0, 1) := by decide +kernel
theorem dX3_part_16 : decode cX3_part 16 = .ok (.sipush 1000, 3) := by decide +kernel
theorem dX3_part_19 : decode cX3_part 19 = .ok (.invokestatic 59, 3) := by decide +kernel
theorem dX3_part_22 : decode cX3_part 22 = .ok (.ifCond .ne 5, 3) := by decide +kernel
theorem dX3_part_25 : decode cX3_part 25 = .ok (.iconst (-1), 1) := by decide +kernel
theorem dX3_part_26 : decode cX3_part 26 = .ok (.ireturn, 1) := by decide +kernel
theorem dX3_part_27 : decode cX3_part 27 = .ok (.aload_n 0, 1) := by decide +kernel
theorem dX3_part_28 : decode cX3_part 28 = .ok (.getfield 111, 3) := by decide +kernel
theorem dX3_part_31 : decode cX3_part 31 = .ok (.bipush 40, 2) := by decide +kernel
theorem dX3_part_33 : decode cX3_part 33 = .ok (.if_icmp .ne 6, 3) := by decide +kernel
theorem dX3_part_36 : decode cX3_part 36 = .ok (.bipush (-2), 2) := by decide +kernel
theorem dX3_part_38 : decode cX3_part 38 = .ok (.ireturn, 1) := by decide +kernel
theorem dX3_part_39 : decode cX3_part 39 = .ok (.aload_n 0, 1) := by decide +kernel
theorem dX3_part_40 : decode cX3_part 40 = .ok (.getfield 43, 3) := by decide +kernel
theorem dX3_part_43 : decode cX3_part 43 = .ok (.aload_n 0, 1) := by decide +kernel
theorem dX3_part_44 : decode cX3_part 44 = .ok (.getfield 111, 3) := by decide +kernel
theorem dX3_part_47 : decode cX3_part 47 = .ok (.iload_n 1, 1) := by decide +kernel
theorem dX3_part_48 : decode cX3_part 48 = .ok (.iastore, 1) := by decide +kernel
theorem dX3_part_49 : decode cX3_part 49 = .ok (.aload_n 0, 1) := by decide +kernel
theorem dX3_part_50 : decode cX3_part 50 = .ok (.getfield 46, 3) := by decide +kernel
theorem dX3_part_53 : decode cX3_part 53 = .ok (.aload_n 0, 1) := by decide +kernel
theorem dX3_part_54 : decode cX3_part 54 = .ok (.getfield 111, 3) := by decide +kernel
theorem dX3_part_57 : decode cX3_part 57 = .ok (.iload_n 2, 1) := by decide +kernel
theorem dX3_part_58 : decode cX3_part 58 = .ok (.iastore, 1) := by decide +kernel
theorem dX3_part_59 : decode cX3_part 59 = .ok (.aload_n 0, 1) := by decide +kernel
theorem dX3_part_60 : decode cX3_part 60 = .ok (.getfield 52, 3) := by decide +kernel
theorem dX3_part_63 : decode cX3_part 63 = .ok (.aload_n 0, 1) := by decide +kernel
theorem dX3_part_64 : decode cX3_part 64 = .ok (.getfield 111, 3) := by decide +kernel
theorem dX3_part_67 : decode cX3_part 67 = .ok (.iconst (-1), 1) := by decide +kernel
theorem dX3_part_68 : decode cX3_part 68 = .ok (.iastore, 1) := by decide +kernel
theorem dX3_part_69 : decode cX3_part 69 = .ok (.aload_n 0, 1) := by decide +kernel
theorem dX3_part_70 : decode cX3_part 70 = .ok (.dup, 1) := by decide +kernel
theorem dX3_part_71 : decode cX3_part 71 = .ok (.getfield 111, 3) := by decide +kernel
theorem dX3_part_74 : decode cX3_part 74 = .ok (.iconst 1, 1) := by decide +kernel
theorem dX3_part_75 : decode cX3_part 75 = .ok (.iadd, 1) := by decide +kernel
theorem dX3_part_76 : decode cX3_part 76 = .ok (.putfield 111, 3) := by decide +kernel
theorem dX3_part_79 : decode cX3_part 79 = .ok (.aload_n 0, 1) := by decide +kernel
theorem dX3_part_80 : decode cX3_part 80 = .ok (.getfield 111, 3) := by decide +kernel
theorem dX3_part_83 : decode cX3_part 83 = .ok (.iconst 1, 1) := by decide +kernel
theorem dX3_part_84 : decode cX3_part 84 = .ok (.isub, 1) := by decide +kernel
theorem dX3_part_85 : decode cX3_part 85 = .ok (.ireturn, 1) := by decide +kernel
theorem dX3_takes_0 : decode cX3_takes 0 = .ok (.lload_n 2, 1) := by decide +kernel
theorem dX3_takes_1 : decode cX3_takes 1 = .ok (.lconst 0, 1) := by decide +kernel
theorem dX3_takes_2 : decode cX3_takes 2 = .ok (.lcmp, 1) := by decide +kernel
theorem dX3_takes_3 : decode cX3_takes 3 = .ok (.ifCond .lt 23, 3) := by decide +kernel
theorem dX3_takes_6 : decode cX3_takes 6 = .ok (.iload_n 1, 1) := by decide +kernel
theorem dX3_takes_7 : decode cX3_takes 7 = .ok (.bipush 7, 2) := by decide +kernel
theorem dX3_takes_9 : decode cX3_takes 9 = .ok (.if_icmp .eq 17, 3) := by decide +kernel
theorem dX3_takes_12 : decode cX3_takes 12 = .ok (.aload_n 0, 1) := by decide +kernel
theorem dX3_takes_13 : decode cX3_takes 13 = .ok (.getfield 43, 3) := by decide +kernel
theorem dX3_takes_16 : decode cX3_takes 16 = .ok (.lload_n 2, 1) := by decide +kernel
theorem dX3_takes_17 : decode cX3_takes 17 = .ok (.l2i, 1) := by decide +kernel
theorem dX3_takes_18 : decode cX3_takes 18 = .ok (.iaload, 1) := by decide +kernel
theorem dX3_takes_19 : decode cX3_takes 19 = .ok (.iload_n 1, 1) := by decide +kernel
theorem dX3_takes_20 : decode cX3_takes 20 = .ok (.bipush 7, 2) := by decide +kernel
theorem dX3_takes_22 : decode cX3_takes 22 = .ok (.isub, 1) := by decide +kernel
theorem dX3_takes_23 : decode cX3_takes 23 = .ok (.if_icmp .ne 7, 3) := by decide +kernel
theorem dX3_takes_26 : decode cX3_takes 26 = .ok (.iconst 1, 1) := by decide +kernel
theorem dX3_takes_27 : decode cX3_takes 27 = .ok (.goto 4, 3) := by decide +kernel
theorem dX3_takes_30 : decode cX3_takes 30 = .ok (.iconst 0, 1) := by decide +kernel
theorem dX3_takes_31 : decode cX3_takes 31 = .ok (.ireturn, 1) := by decide +kernel
theorem dX3_lay_0 : decode cX3_lay 0 = .ok (.aload_n 0, 1) := by decide +kernel
theorem dX3_lay_1 : decode cX3_lay 1 = .ok (.iconst 0, 1) := by decide +kernel
theorem dX3_lay_2 : decode cX3_lay 2 = .ok (.putfield 55, 3) := by decide +kernel
theorem dX3_lay_5 : decode cX3_lay 5 = .ok (.iload_n 1, 1) := by decide +kernel
theorem dX3_lay_6 : decode cX3_lay 6 = .ok (.invokestatic 63, 3) := by decide +kernel
theorem dX3_lay_9 : decode cX3_lay 9 = .ok (.ifCond .eq 17, 3) := by decide +kernel
theorem dX3_lay_12 : decode cX3_lay 12 = .ok (.iload_n 3, 1) := by decide +kernel
theorem dX3_lay_13 : decode cX3_lay 13 = .ok (.iconst (-1), 1) := by decide +kernel
theorem dX3_lay_14 : decode cX3_lay 14 = .ok (.aload_n 0, 1) := by decide +kernel
theorem dX3_lay_15 : decode cX3_lay 15 = .ok (.getfield 111, 3) := by decide +kernel
theorem dX3_lay_18 : decode cX3_lay 18 = .ok (.iconst 1, 1) := by decide +kernel
theorem dX3_lay_19 : decode cX3_lay 19 = .ok (.isub, 1) := by decide +kernel
theorem dX3_lay_20 : decode cX3_lay 20 = .ok (.invokestatic 59, 3) := by decide +kernel
theorem dX3_lay_23 : decode cX3_lay 23 = .ok (.ifCond .ne 5, 3) := by decide +kernel
theorem dX3_lay_26 : decode cX3_lay 26 = .ok (.iconst (-1), 1) := by decide +kernel
theorem dX3_lay_27 : decode cX3_lay 27 = .ok (.ireturn, 1) := by decide +kernel
theorem dX3_lay_28 : decode cX3_lay 28 = .ok (.aload_n 0, 1) := by decide +kernel
theorem dX3_lay_29 : decode cX3_lay 29 = .ok (.iload_n 1, 1) := by decide +kernel
theorem dX3_lay_30 : decode cX3_lay 30 = .ok (.iconst 1, 1) := by decide +kernel
theorem dX3_lay_31 : decode cX3_lay 31 = .ok (.invokevirtual 74, 3) := by decide +kernel
theorem dX3_lay_34 : decode cX3_lay 34 = .ok (.istore 4, 2) := by decide +kernel
theorem dX3_lay_36 : decode cX3_lay 36 = .ok (.iload 4, 2) := by decide +kernel
theorem dX3_lay_38 : decode cX3_lay 38 = .ok (.ifCond .eq 6, 3) := by decide +kernel
theorem dX3_lay_41 : decode cX3_lay 41 = .ok (.iload 4, 2) := by decide +kernel
theorem dX3_lay_43 : decode cX3_lay 43 = .ok (.ireturn, 1) := by decide +kernel
theorem dX3_lay_44 : decode cX3_lay 44 = .ok (.aload_n 0, 1) := by decide +kernel
theorem dX3_lay_45 : decode cX3_lay 45 = .ok (.iload_n 1, 1) := by decide +kernel
theorem dX3_lay_46 : decode cX3_lay 46 = .ok (.iload_n 2, 1) := by decide +kernel
theorem dX3_lay_47 : decode cX3_lay 47 = .ok (.invokevirtual 78, 3) := by decide +kernel
theorem dX3_lay_50 : decode cX3_lay 50 = .ok (.ifCond .ne 6, 3) := by decide +kernel
theorem dX3_lay_53 : decode cX3_lay 53 = .ok (.bipush (-12), 2) := by decide +kernel
theorem dX3_lay_55 : decode cX3_lay 55 = .ok (.ireturn, 1) := by decide +kernel
theorem dX3_lay_56 : decode cX3_lay 56 = .ok (.aload_n 0, 1) := by decide +kernel
theorem dX3_lay_57 : decode cX3_lay 57 = .ok (.aload_n 0, 1) := by decide +kernel
theorem dX3_lay_58 : decode cX3_lay 58 = .ok (.getfield 7, 3) := by decide +kernel
theorem dX3_lay_61 : decode cX3_lay 61 = .ok (.iload_n 1, 1) := by decide +kernel
theorem dX3_lay_62 : decode cX3_lay 62 = .ok (.iaload, 1) := by decide +kernel
theorem dX3_lay_63 : decode cX3_lay 63 = .ok (.iload_n 3, 1) := by decide +kernel
theorem dX3_lay_64 : decode cX3_lay 64 = .ok (.i2l, 1) := by decide +kernel
theorem dX3_lay_65 : decode cX3_lay 65 = .ok (.invokevirtual 114, 3) := by decide +kernel
theorem dX3_lay_68 : decode cX3_lay 68 = .ok (.ifCond .ne 6, 3) := by decide +kernel
theorem dX3_lay_71 : decode cX3_lay 71 = .ok (.bipush (-14), 2) := by decide +kernel
theorem dX3_lay_73 : decode cX3_lay 73 = .ok (.ireturn, 1) := by decide +kernel
theorem dX3_lay_74 : decode cX3_lay 74 = .ok (.aload_n 0, 1) := by decide +kernel
theorem dX3_lay_75 : decode cX3_lay 75 = .ok (.getfield 20, 3) := by decide +kernel
theorem dX3_lay_78 : decode cX3_lay 78 = .ok (.bipush 40, 2) := by decide +kernel
theorem dX3_lay_80 : decode cX3_lay 80 = .ok (.iload_n 1, 1) := by decide +kernel
theorem dX3_lay_81 : decode cX3_lay 81 = .ok (.imul, 1) := by decide +kernel
theorem dX3_lay_82 : decode cX3_lay 82 = .ok (.iload_n 2, 1) := by decide +kernel
theorem dX3_lay_83 : decode cX3_lay 83 = .ok (.iadd, 1) := by decide +kernel
theorem dX3_lay_84 : decode cX3_lay 84 = .ok (.iload_n 3, 1) := by decide +kernel
theorem dX3_lay_85 : decode cX3_lay 85 = .ok (.i2l, 1) := by decide +kernel
theorem dX3_lay_86 : decode cX3_lay 86 = .ok (.lastore, 1) := by decide +kernel
theorem dX3_lay_87 : decode cX3_lay 87 = .ok (.iload_n 3, 1) := by decide +kernel
theorem dX3_lay_88 : decode cX3_lay 88 = .ok (.ifCond .lt 13, 3) := by decide +kernel
theorem dX3_lay_91 : decode cX3_lay 91 = .ok (.aload_n 0, 1) := by decide +kernel
theorem dX3_lay_92 : decode cX3_lay 92 = .ok (.getfield 49, 3) := by decide +kernel
theorem dX3_lay_95 : decode cX3_lay 95 = .ok (.iload_n 3, 1) := by decide +kernel
theorem dX3_lay_96 : decode cX3_lay 96 = .ok (.dup2, 1) := by decide +kernel
theorem dX3_lay_97 : decode cX3_lay 97 = .ok (.iaload, 1) := by decide +kernel
theorem dX3_lay_98 : decode cX3_lay 98 = .ok (.iconst 1, 1) := by decide +kernel
theorem dX3_lay_99 : decode cX3_lay 99 = .ok (.iadd, 1) := by decide +kernel
theorem dX3_lay_100 : decode cX3_lay 100 = .ok (.iastore, 1) := by decide +kernel
theorem dX3_lay_101 : decode cX3_lay 101 = .ok (.iconst 1, 1) := by decide +kernel
theorem dX3_lay_102 : decode cX3_lay 102 = .ok (.ireturn, 1) := by decide +kernel
theorem dX3_wayTo_0 : decode cX3_wayTo 0 = .ok (.iload_n 1, 1) := by decide +kernel
theorem dX3_wayTo_1 : decode cX3_wayTo 1 = .ok (.invokestatic 63, 3) := by decide +kernel
theorem dX3_wayTo_4 : decode cX3_wayTo 4 = .ok (.ifCond .ne 5, 3) := by decide +kernel
theorem dX3_wayTo_7 : decode cX3_wayTo 7 = .ok (.iconst (-1), 1) := by decide +kernel
theorem dX3_wayTo_8 : decode cX3_wayTo 8 = .ok (.ireturn, 1) := by decide +kernel
theorem dX3_wayTo_9 : decode cX3_wayTo 9 = .ok (.aload_n 0, 1) := by decide +kernel
theorem dX3_wayTo_10 : decode cX3_wayTo 10 = .ok (.iload_n 1, 1) := by decide +kernel
theorem dX3_wayTo_11 : decode cX3_wayTo 11 = .ok (.iconst 1, 1) := by decide +kernel
theorem dX3_wayTo_12 : decode cX3_wayTo 12 = .ok (.invokevirtual 74, 3) := by decide +kernel
theorem dX3_wayTo_15 : decode cX3_wayTo 15 = .ok (.istore_n 3, 1) := by decide +kernel
theorem dX3_wayTo_16 : decode cX3_wayTo 16 = .ok (.iload_n 3, 1) := by decide +kernel
theorem dX3_wayTo_17 : decode cX3_wayTo 17 = .ok (.ifCond .eq 5, 3) := by decide +kernel
theorem dX3_wayTo_20 : decode cX3_wayTo 20 = .ok (.iload_n 3, 1) := by decide +kernel
theorem dX3_wayTo_21 : decode cX3_wayTo 21 = .ok (.ireturn, 1) := by decide +kernel
theorem dX3_wayTo_22 : decode cX3_wayTo 22 = .ok (.aload_n 0, 1) := by decide +kernel
theorem dX3_wayTo_23 : decode cX3_wayTo 23 = .ok (.iload_n 1, 1) := by decide +kernel
theorem dX3_wayTo_24 : decode cX3_wayTo 24 = .ok (.iload_n 2, 1) := by decide +kernel
theorem dX3_wayTo_25 : decode cX3_wayTo 25 = .ok (.invokevirtual 78, 3) := by decide +kernel
theorem dX3_wayTo_28 : decode cX3_wayTo 28 = .ok (.ifCond .ne 8, 3) := by decide +kernel
theorem dX3_wayTo_31 : decode cX3_wayTo 31 = .ok (.bipush (-12), 2) := by decide +kernel
theorem dX3_wayTo_33 : decode cX3_wayTo 33 = .ok (.goto 25, 3) := by decide +kernel
theorem dX3_wayTo_36 : decode cX3_wayTo 36 = .ok (.aload_n 0, 1) := by decide +kernel
theorem dX3_wayTo_37 : decode cX3_wayTo 37 = .ok (.getfield 20, 3) := by decide +kernel
theorem dX3_wayTo_40 : decode cX3_wayTo 40 = .ok (.bipush 40, 2) := by decide +kernel
theorem dX3_wayTo_42 : decode cX3_wayTo 42 = .ok (.iload_n 1, 1) := by decide +kernel
theorem dX3_wayTo_43 : decode cX3_wayTo 43 = .ok (.imul, 1) := by decide +kernel
theorem dX3_wayTo_44 : decode cX3_wayTo 44 = .ok (.iload_n 2, 1) := by decide +kernel
theorem dX3_wayTo_45 : decode cX3_wayTo 45 = .ok (.iadd, 1) := by decide +kernel
theorem dX3_wayTo_46 : decode cX3_wayTo 46 = .ok (.laload, 1) := by decide +kernel
theorem dX3_wayTo_47 : decode cX3_wayTo 47 = .ok (.lconst 0, 1) := by decide +kernel
theorem dX3_wayTo_48 : decode cX3_wayTo 48 = .ok (.lcmp, 1) := by decide +kernel
theorem dX3_wayTo_49 : decode cX3_wayTo 49 = .ok (.ifCond .ge 8, 3) := by decide +kernel
theorem dX3_wayTo_52 : decode cX3_wayTo 52 = .ok (.bipush (-11), 2) := by decide +kernel
theorem dX3_wayTo_54 : decode cX3_wayTo 54 = .ok (.goto 4, 3) := by decide +kernel
theorem dX3_wayTo_57 : decode cX3_wayTo 57 = .ok (.iconst 0, 1) := by decide +kernel
theorem dX3_wayTo_58 : decode cX3_wayTo 58 = .ok (.ireturn, 1) := by decide +kernel
theorem dX3_weigh_0 : decode cX3_weigh 0 = .ok (.aload_n 0, 1) := by decide +kernel
theorem dX3_weigh_1 : decode cX3_weigh 1 = .ok (.iconst 0, 1) := by decide +kernel
theorem dX3_weigh_2 : decode cX3_weigh 2 = .ok (.putfield 55, 3) := by decide +kernel
theorem dX3_weigh_5 : decode cX3_weigh 5 = .ok (.aload_n 0, 1) := by decide +kernel
theorem dX3_weigh_6 : decode cX3_weigh 6 = .ok (.iload_n 1, 1) := by decide +kernel
theorem dX3_weigh_7 : decode cX3_weigh 7 = .ok (.iload_n 2, 1) := by decide +kernel
theorem dX3_weigh_8 : decode cX3_weigh 8 = .ok (.invokevirtual 117, 3) := by decide +kernel
theorem dX3_weigh_11 : decode cX3_weigh 11 = .ok (.istore_n 3, 1) := by decide +kernel
theorem dX3_weigh_12 : decode cX3_weigh 12 = .ok (.iload_n 3, 1) := by decide +kernel
theorem dX3_weigh_13 : decode cX3_weigh 13 = .ok (.ifCond .eq 5, 3) := by decide +kernel
theorem dX3_weigh_16 : decode cX3_weigh 16 = .ok (.iload_n 3, 1) := by decide +kernel
theorem dX3_weigh_17 : decode cX3_weigh 17 = .ok (.ireturn, 1) := by decide +kernel
theorem dX3_weigh_18 : decode cX3_weigh 18 = .ok (.aload_n 0, 1) := by decide +kernel
theorem dX3_weigh_19 : decode cX3_weigh 19 = .ok (.getfield 20, 3) := by decide +kernel
theorem dX3_weigh_22 : decode cX3_weigh 22 = .ok (.bipush 40, 2) := by decide +kernel
theorem dX3_weigh_24 : decode cX3_weigh 24 = .ok (.iload_n 1, 1) := by decide +kernel
theorem dX3_weigh_25 : decode cX3_weigh 25 = .ok (.imul, 1) := by decide +kernel
theorem dX3_weigh_26 : decode cX3_weigh 26 = .ok (.iload_n 2, 1) := by decide +kernel
theorem dX3_weigh_27 : decode cX3_weigh 27 = .ok (.iadd, 1) := by decide +kernel
theorem dX3_weigh_28 : decode cX3_weigh 28 = .ok (.laload, 1) := by decide +kernel
theorem dX3_weigh_29 : decode cX3_weigh 29 = .ok (.l2i, 1) := by decide +kernel
theorem dX3_weigh_30 : decode cX3_weigh 30 = .ok (.istore 4, 2) := by decide +kernel
theorem dX3_weigh_32 : decode cX3_weigh 32 = .ok (.aload_n 0, 1) := by decide +kernel
theorem dX3_weigh_33 : decode cX3_weigh 33 = .ok (.getfield 43, 3) := by decide +kernel
theorem dX3_weigh_36 : decode cX3_weigh 36 = .ok (.iload 4, 2) := by decide +kernel
theorem dX3_weigh_38 : decode cX3_weigh 38 = .ok (.iaload, 1) := by decide +kernel
theorem dX3_weigh_39 : decode cX3_weigh 39 = .ok (.lookupswitch 51 #[(0, 25), (1, 33)], 25) := by decide +kernel
theorem dX3_weigh_64 : decode cX3_weigh 64 = .ok (.aload_n 0, 1) := by decide +kernel
theorem dX3_weigh_65 : decode cX3_weigh 65 = .ok (.getfield 46, 3) := by decide +kernel
theorem dX3_weigh_68 : decode cX3_weigh 68 = .ok (.iload 4, 2) := by decide +kernel
theorem dX3_weigh_70 : decode cX3_weigh 70 = .ok (.iaload, 1) := by decide +kernel
theorem dX3_weigh_71 : decode cX3_weigh 71 = .ok (.ireturn, 1) := by decide +kernel
theorem dX3_weigh_72 : decode cX3_weigh 72 = .ok (.aload_n 0, 1) := by decide +kernel
theorem dX3_weigh_73 : decode cX3_weigh 73 = .ok (.getfield 46, 3) := by decide +kernel
theorem dX3_weigh_76 : decode cX3_weigh 76 = .ok (.iload 4, 2) := by decide +kernel
theorem dX3_weigh_78 : decode cX3_weigh 78 = .ok (.iaload, 1) := by decide +kernel
theorem dX3_weigh_79 : decode cX3_weigh 79 = .ok (.iconst 3, 1) := by decide +kernel
theorem dX3_weigh_80 : decode cX3_weigh 80 = .ok (.aload_n 0, 1) := by decide +kernel
theorem dX3_weigh_81 : decode cX3_weigh 81 = .ok (.getfield 49, 3) := by decide +kernel
theorem dX3_weigh_84 : decode cX3_weigh 84 = .ok (.iload 4, 2) := by decide +kernel
theorem dX3_weigh_86 : decode cX3_weigh 86 = .ok (.iaload, 1) := by decide +kernel
theorem dX3_weigh_87 : decode cX3_weigh 87 = .ok (.imul, 1) := by decide +kernel
theorem dX3_weigh_88 : decode cX3_weigh 88 = .ok (.iadd, 1) := by decide +kernel
theorem dX3_weigh_89 : decode cX3_weigh 89 = .ok (.ireturn, 1) := by decide +kernel
theorem dX3_weigh_90 : decode cX3_weigh 90 = .ok (.aload_n 0, 1) := by decide +kernel
theorem dX3_weigh_91 : decode cX3_weigh 91 = .ok (.getfield 46, 3) := by decide +kernel
theorem dX3_weigh_94 : decode cX3_weigh 94 = .ok (.iload 4, 2) := by decide +kernel
theorem dX3_weigh_96 : decode cX3_weigh 96 = .ok (.iaload, 1) := by decide +kernel
theorem dX3_weigh_97 : decode cX3_weigh 97 = .ok (.iconst 2, 1) := by decide +kernel
theorem dX3_weigh_98 : decode cX3_weigh 98 = .ok (.idiv, 1) := by decide +kernel
theorem dX3_weigh_99 : decode cX3_weigh 99 = .ok (.aload_n 0, 1) := by decide +kernel
theorem dX3_weigh_100 : decode cX3_weigh 100 = .ok (.getfield 49, 3) := by decide +kernel
theorem dX3_weigh_103 : decode cX3_weigh 103 = .ok (.iload 4, 2) := by decide +kernel
theorem dX3_weigh_105 : decode cX3_weigh 105 = .ok (.iaload, 1) := by decide +kernel
theorem dX3_weigh_106 : decode cX3_weigh 106 = .ok (.iconst 1, 1) := by decide +kernel
theorem dX3_weigh_107 : decode cX3_weigh 107 = .ok (.iadd, 1) := by decide +kernel
theorem dX3_weigh_108 : decode cX3_weigh 108 = .ok (.iconst 2, 1) := by decide +kernel
theorem dX3_weigh_109 : decode cX3_weigh 109 = .ok (.idiv, 1) := by decide +kernel
theorem dX3_weigh_110 : decode cX3_weigh 110 = .ok (.iadd, 1) := by decide +kernel
theorem dX3_weigh_111 : decode cX3_weigh 111 = .ok (.ireturn, 1) := by decide +kernel
theorem dX3_rigid_0 : decode cX3_rigid 0 = .ok (.aload_n 0, 1) := by decide +kernel
theorem dX3_rigid_1 : decode cX3_rigid 1 = .ok (.iconst 0, 1) := by decide +kernel
theorem dX3_rigid_2 : decode cX3_rigid 2 = .ok (.putfield 55, 3) := by decide +kernel
theorem dX3_rigid_5 : decode cX3_rigid 5 = .ok (.aload_n 0, 1) := by decide +kernel
theorem dX3_rigid_6 : decode cX3_rigid 6 = .ok (.iload_n 1, 1) := by decide +kernel
theorem dX3_rigid_7 : decode cX3_rigid 7 = .ok (.iload_n 2, 1) := by decide +kernel
theorem dX3_rigid_8 : decode cX3_rigid 8 = .ok (.invokevirtual 117, 3) := by decide +kernel
theorem dX3_rigid_11 : decode cX3_rigid 11 = .ok (.istore_n 3, 1) := by decide +kernel
theorem dX3_rigid_12 : decode cX3_rigid 12 = .ok (.iload_n 3, 1) := by decide +kernel
theorem dX3_rigid_13 : decode cX3_rigid 13 = .ok (.ifCond .eq 5, 3) := by decide +kernel
theorem dX3_rigid_16 : decode cX3_rigid 16 = .ok (.iload_n 3, 1) := by decide +kernel
theorem dX3_rigid_17 : decode cX3_rigid 17 = .ok (.ireturn, 1) := by decide +kernel
theorem dX3_rigid_18 : decode cX3_rigid 18 = .ok (.aload_n 0, 1) := by decide +kernel
theorem dX3_rigid_19 : decode cX3_rigid 19 = .ok (.getfield 20, 3) := by decide +kernel
theorem dX3_rigid_22 : decode cX3_rigid 22 = .ok (.bipush 40, 2) := by decide +kernel
theorem dX3_rigid_24 : decode cX3_rigid 24 = .ok (.iload_n 1, 1) := by decide +kernel
theorem dX3_rigid_25 : decode cX3_rigid 25 = .ok (.imul, 1) := by decide +kernel
theorem dX3_rigid_26 : decode cX3_rigid 26 = .ok (.iload_n 2, 1) := by decide +kernel
theorem dX3_rigid_27 : decode cX3_rigid 27 = .ok (.iadd, 1) := by decide +kernel
theorem dX3_rigid_28 : decode cX3_rigid 28 = .ok (.laload, 1) := by decide +kernel
theorem dX3_rigid_29 : decode cX3_rigid 29 = .ok (.l2i, 1) := by decide +kernel
theorem dX3_rigid_30 : decode cX3_rigid 30 = .ok (.istore 4, 2) := by decide +kernel
theorem dX3_rigid_32 : decode cX3_rigid 32 = .ok (.aload_n 0, 1) := by decide +kernel
theorem dX3_rigid_33 : decode cX3_rigid 33 = .ok (.getfield 43, 3) := by decide +kernel
theorem dX3_rigid_36 : decode cX3_rigid 36 = .ok (.iload 4, 2) := by decide +kernel
theorem dX3_rigid_38 : decode cX3_rigid 38 = .ok (.iaload, 1) := by decide +kernel
theorem dX3_rigid_39 : decode cX3_rigid 39 = .ok (.iconst 1, 1) := by decide +kernel
theorem dX3_rigid_40 : decode cX3_rigid 40 = .ok (.if_icmp .eq 8, 3) := by decide +kernel
theorem dX3_rigid_43 : decode cX3_rigid 43 = .ok (.bipush (-15), 2) := by decide +kernel
theorem dX3_rigid_45 : decode cX3_rigid 45 = .ok (.goto 10, 3) := by decide +kernel
theorem dX3_rigid_48 : decode cX3_rigid 48 = .ok (.aload_n 0, 1) := by decide +kernel
theorem dX3_rigid_49 : decode cX3_rigid 49 = .ok (.getfield 49, 3) := by decide +kernel
theorem dX3_rigid_52 : decode cX3_rigid 52 = .ok (.iload 4, 2) := by decide +kernel
theorem dX3_rigid_54 : decode cX3_rigid 54 = .ok (.iaload, 1) := by decide +kernel
theorem dX3_rigid_55 : decode cX3_rigid 55 = .ok (.ireturn, 1) := by decide +kernel
theorem dX3_fault_0 : decode cX3_fault 0 = .ok (.aload_n 0, 1) := by decide +kernel
theorem dX3_fault_1 : decode cX3_fault 1 = .ok (.iconst 0, 1) := by decide +kernel
theorem dX3_fault_2 : decode cX3_fault 2 = .ok (.putfield 55, 3) := by decide +kernel
theorem dX3_fault_5 : decode cX3_fault 5 = .ok (.iload_n 1, 1) := by decide +kernel
theorem dX3_fault_6 : decode cX3_fault 6 = .ok (.iconst 0, 1) := by decide +kernel
theorem dX3_fault_7 : decode cX3_fault 7 = .ok (.aload_n 0, 1) := by decide +kernel
theorem dX3_fault_8 : decode cX3_fault 8 = .ok (.getfield 111, 3) := by decide +kernel
theorem dX3_fault_11 : decode cX3_fault 11 = .ok (.iconst 1, 1) := by decide +kernel
theorem dX3_fault_12 : decode cX3_fault 12 = .ok (.isub, 1) := by decide +kernel
theorem dX3_fault_13 : decode cX3_fault 13 = .ok (.invokestatic 59, 3) := by decide +kernel
theorem dX3_fault_16 : decode cX3_fault 16 = .ok (.ifCond .eq 13, 3) := by decide +kernel
theorem dX3_fault_19 : decode cX3_fault 19 = .ok (.iload_n 2, 1) := by decide +kernel
theorem dX3_fault_20 : decode cX3_fault 20 = .ok (.iconst (-1), 1) := by decide +kernel
theorem dX3_fault_21 : decode cX3_fault 21 = .ok (.bipush 9, 2) := by decide +kernel
theorem dX3_fault_23 : decode cX3_fault 23 = .ok (.invokestatic 59, 3) := by decide +kernel
theorem dX3_fault_26 : decode cX3_fault 26 = .ok (.ifCond .ne 5, 3) := by decide +kernel
theorem dX3_fault_29 : decode cX3_fault 29 = .ok (.iconst (-1), 1) := by decide +kernel
theorem dX3_fault_30 : decode cX3_fault 30 = .ok (.ireturn, 1) := by decide +kernel
theorem dX3_fault_31 : decode cX3_fault 31 = .ok (.aload_n 0, 1) := by decide +kernel
theorem dX3_fault_32 : decode cX3_fault 32 = .ok (.getfield 52, 3) := by decide +kernel
theorem dX3_fault_35 : decode cX3_fault 35 = .ok (.iload_n 1, 1) := by decide +kernel
theorem dX3_fault_36 : decode cX3_fault 36 = .ok (.iload_n 2, 1) := by decide +kernel
theorem dX3_fault_37 : decode cX3_fault 37 = .ok (.iastore, 1) := by decide +kernel
theorem dX3_fault_38 : decode cX3_fault 38 = .ok (.iconst 1, 1) := by decide +kernel
theorem dX3_fault_39 : decode cX3_fault 39 = .ok (.ireturn, 1) := by decide +kernel
theorem dX3_raise_0 : decode cX3_raise 0 = .ok (.aload_n 0, 1) := by decide +kernel
theorem dX3_raise_1 : decode cX3_raise 1 = .ok (.iconst 0, 1) := by decide +kernel
theorem dX3_raise_2 : decode cX3_raise 2 = .ok (.putfield 55, 3) := by decide +kernel
theorem dX3_raise_5 : decode cX3_raise 5 = .ok (.aload_n 0, 1) := by decide +kernel
theorem dX3_raise_6 : decode cX3_raise 6 = .ok (.iload_n 1, 1) := by decide +kernel
theorem dX3_raise_7 : decode cX3_raise 7 = .ok (.iload_n 2, 1) := by decide +kernel
theorem dX3_raise_8 : decode cX3_raise 8 = .ok (.invokevirtual 117, 3) := by decide +kernel
theorem dX3_raise_11 : decode cX3_raise 11 = .ok (.istore_n 3, 1) := by decide +kernel
theorem dX3_raise_12 : decode cX3_raise 12 = .ok (.iload_n 3, 1) := by decide +kernel
theorem dX3_raise_13 : decode cX3_raise 13 = .ok (.ifCond .eq 5, 3) := by decide +kernel
theorem dX3_raise_16 : decode cX3_raise 16 = .ok (.iload_n 3, 1) := by decide +kernel
theorem dX3_raise_17 : decode cX3_raise 17 = .ok (.ireturn, 1) := by decide +kernel
theorem dX3_raise_18 : decode cX3_raise 18 = .ok (.aload_n 0, 1) := by decide +kernel
theorem dX3_raise_19 : decode cX3_raise 19 = .ok (.getfield 52, 3) := by decide +kernel
theorem dX3_raise_22 : decode cX3_raise 22 = .ok (.aload_n 0, 1) := by decide +kernel
theorem dX3_raise_23 : decode cX3_raise 23 = .ok (.getfield 20, 3) := by decide +kernel
theorem dX3_raise_26 : decode cX3_raise 26 = .ok (.bipush 40, 2) := by decide +kernel
theorem dX3_raise_28 : decode cX3_raise 28 = .ok (.iload_n 1, 1) := by decide +kernel
theorem dX3_raise_29 : decode cX3_raise 29 = .ok (.imul, 1) := by decide +kernel
theorem dX3_raise_30 : decode cX3_raise 30 = .ok (.iload_n 2, 1) := by decide +kernel
theorem dX3_raise_31 : decode cX3_raise 31 = .ok (.iadd, 1) := by decide +kernel
theorem dX3_raise_32 : decode cX3_raise 32 = .ok (.laload, 1) := by decide +kernel
theorem dX3_raise_33 : decode cX3_raise 33 = .ok (.l2i, 1) := by decide +kernel
theorem dX3_raise_34 : decode cX3_raise 34 = .ok (.iaload, 1) := by decide +kernel
theorem dX3_raise_35 : decode cX3_raise 35 = .ok (.istore 4, 2) := by decide +kernel
theorem dX3_raise_37 : decode cX3_raise 37 = .ok (.iload 4, 2) := by decide +kernel
theorem dX3_raise_39 : decode cX3_raise 39 = .ok (.ifCond .ge 8, 3) := by decide +kernel
theorem dX3_raise_42 : decode cX3_raise 42 = .ok (.bipush (-11), 2) := by decide +kernel
theorem dX3_raise_44 : decode cX3_raise 44 = .ok (.goto 8, 3) := by decide +kernel
theorem dX3_raise_47 : decode cX3_raise 47 = .ok (.bipush (-30), 2) := by decide +kernel
theorem dX3_raise_49 : decode cX3_raise 49 = .ok (.iload 4, 2) := by decide +kernel
theorem dX3_raise_51 : decode cX3_raise 51 = .ok (.isub, 1) := by decide +kernel
theorem dX3_raise_52 : decode cX3_raise 52 = .ok (.ireturn, 1) := by decide +kernel
theorem dX3_reaches_0 : decode cX3_reaches 0 = .ok (.iload_n 0, 1) := by decide +kernel
theorem dX3_reaches_1 : decode cX3_reaches 1 = .ok (.ifCond .lt 19, 3) := by decide +kernel
theorem dX3_reaches_4 : decode cX3_reaches 4 = .ok (.iload_n 0, 1) := by decide +kernel
theorem dX3_reaches_5 : decode cX3_reaches 5 = .ok (.iload_n 2, 1) := by decide +kernel
theorem dX3_reaches_6 : decode cX3_reaches 6 = .ok (.if_icmp .gt 14, 3) := by decide +kernel
theorem dX3_reaches_9 : decode cX3_reaches 9 = .ok (.iload_n 1, 1) := by decide +kernel
theorem dX3_reaches_10 : decode cX3_reaches 10 = .ok (.iload_n 2, 1) := by decide +kernel
theorem dX3_reaches_11 : decode cX3_reaches 11 = .ok (.iload_n 0, 1) := by decide +kernel
theorem dX3_reaches_12 : decode cX3_reaches 12 = .ok (.isub, 1) := by decide +kernel
theorem dX3_reaches_13 : decode cX3_reaches 13 = .ok (.if_icmp .gt 7, 3) := by decide +kernel
theorem dX3_reaches_16 : decode cX3_reaches 16 = .ok (.iconst 1, 1) := by decide +kernel
theorem dX3_reaches_17 : decode cX3_reaches 17 = .ok (.goto 4, 3) := by decide +kernel
theorem dX3_reaches_20 : decode cX3_reaches 20 = .ok (.iconst 0, 1) := by decide +kernel
theorem dX3_reaches_21 : decode cX3_reaches 21 = .ok (.ireturn, 1) := by decide +kernel
theorem dX3_copy_0 : decode cX3_copy 0 = .ok (.aload_n 0, 1) := by decide +kernel
theorem dX3_copy_1 : decode cX3_copy 1 = .ok (.iconst 0, 1) := by decide +kernel
theorem dX3_copy_2 : decode cX3_copy 2 = .ok (.putfield 55, 3) := by decide +kernel
theorem dX3_copy_5 : decode cX3_copy 5 = .ok (.iload_n 1, 1) := by decide +kernel
theorem dX3_copy_6 : decode cX3_copy 6 = .ok (.invokestatic 63, 3) := by decide +kernel
theorem dX3_copy_9 : decode cX3_copy 9 = .ok (.ifCond .eq 10, 3) := by decide +kernel
theorem dX3_copy_12 : decode cX3_copy 12 = .ok (.iload_n 3, 1) := by decide +kernel
theorem dX3_copy_13 : decode cX3_copy 13 = .ok (.invokestatic 63, 3) := by decide +kernel
theorem dX3_copy_16 : decode cX3_copy 16 = .ok (.ifCond .ne 5, 3) := by decide +kernel
theorem dX3_copy_19 : decode cX3_copy 19 = .ok (.iconst (-1), 1) := by decide +kernel
theorem dX3_copy_20 : decode cX3_copy 20 = .ok (.ireturn, 1) := by decide +kernel
theorem dX3_copy_21 : decode cX3_copy 21 = .ok (.aload_n 0, 1) := by decide +kernel
theorem dX3_copy_22 : decode cX3_copy 22 = .ok (.iconst 0, 1) := by decide +kernel
theorem dX3_copy_23 : decode cX3_copy 23 = .ok (.putfield 121, 3) := by decide +kernel
theorem dX3_copy_26 : decode cX3_copy 26 = .ok (.aload_n 0, 1) := by decide +kernel
theorem dX3_copy_27 : decode cX3_copy 27 = .ok (.iload_n 1, 1) := by decide +kernel
theorem dX3_copy_28 : decode cX3_copy 28 = .ok (.invokevirtual 69, 3) := by decide +kernel
theorem dX3_copy_31 : decode cX3_copy 31 = .ok (.ifCond .ne 11, 3) := by decide +kernel
theorem dX3_copy_34 : decode cX3_copy 34 = .ok (.aload_n 0, 1) := by decide +kernel
theorem dX3_copy_35 : decode cX3_copy 35 = .ok (.iload_n 3, 1) := by decide +kernel
theorem dX3_copy_36 : decode cX3_copy 36 = .ok (.invokevirtual 69, 3) := by decide +kernel
theorem dX3_copy_39 : decode cX3_copy 39 = .ok (.ifCond .eq 6, 3) := by decide +kernel
theorem dX3_copy_42 : decode cX3_copy 42 = .ok (.bipush (-11), 2) := by decide +kernel
theorem dX3_copy_44 : decode cX3_copy 44 = .ok (.ireturn, 1) := by decide +kernel
theorem dX3_copy_45 : decode cX3_copy 45 = .ok (.aload_n 0, 1) := by decide +kernel
theorem dX3_copy_46 : decode cX3_copy 46 = .ok (.getfield 7, 3) := by decide +kernel
theorem dX3_copy_49 : decode cX3_copy 49 = .ok (.iload_n 1, 1) := by decide +kernel
theorem dX3_copy_50 : decode cX3_copy 50 = .ok (.iaload, 1) := by decide +kernel
theorem dX3_copy_51 : decode cX3_copy 51 = .ok (.bipush 7, 2) := by decide +kernel
theorem dX3_copy_53 : decode cX3_copy 53 = .ok (.if_icmp .lt 7, 3) := by decide +kernel
theorem dX3_copy_56 : decode cX3_copy 56 = .ok (.iconst 1, 1) := by decide +kernel
theorem dX3_copy_57 : decode cX3_copy 57 = .ok (.goto 4, 3) := by decide +kernel
theorem dX3_copy_60 : decode cX3_copy 60 = .ok (.iconst 0, 1) := by decide +kernel
theorem dX3_copy_61 : decode cX3_copy 61 = .ok (.istore 6, 2) := by decide +kernel
theorem dX3_copy_63 : decode cX3_copy 63 = .ok (.iload 6, 2) := by decide +kernel
theorem dX3_copy_65 : decode cX3_copy 65 = .ok (.aload_n 0, 1) := by decide +kernel
theorem dX3_copy_66 : decode cX3_copy 66 = .ok (.getfield 7, 3) := by decide +kernel
theorem dX3_copy_69 : decode cX3_copy 69 = .ok (.iload_n 3, 1) := by decide +kernel
theorem dX3_copy_70 : decode cX3_copy 70 = .ok (.iaload, 1) := by decide +kernel
theorem dX3_copy_71 : decode cX3_copy 71 = .ok (.bipush 7, 2) := by decide +kernel
theorem dX3_copy_73 : decode cX3_copy 73 = .ok (.if_icmp .lt 7, 3) := by decide +kernel
theorem dX3_copy_76 : decode cX3_copy 76 = .ok (.iconst 1, 1) := by decide +kernel
theorem dX3_copy_77 : decode cX3_copy 77 = .ok (.goto 4, 3) := by decide +kernel
theorem dX3_copy_80 : decode cX3_copy 80 = .ok (.iconst 0, 1) := by decide +kernel
theorem dX3_copy_81 : decode cX3_copy 81 = .ok (.if_icmp .ne 23, 3) := by decide +kernel
theorem dX3_copy_84 : decode cX3_copy 84 = .ok (.iload 6, 2) := by decide +kernel
theorem dX3_copy_86 : decode cX3_copy 86 = .ok (.ifCond .ne 21, 3) := by decide +kernel
theorem dX3_copy_89 : decode cX3_copy 89 = .ok (.aload_n 0, 1) := by decide +kernel
theorem dX3_copy_90 : decode cX3_copy 90 = .ok (.getfield 7, 3) := by decide +kernel
theorem dX3_copy_93 : decode cX3_copy 93 = .ok (.iload_n 1, 1) := by decide +kernel
theorem dX3_copy_94 : decode cX3_copy 94 = .ok (.iaload, 1) := by decide +kernel
theorem dX3_copy_95 : decode cX3_copy 95 = .ok (.aload_n 0, 1) := by decide +kernel
theorem dX3_copy_96 : decode cX3_copy 96 = .ok (.getfield 7, 3) := by decide +kernel
theorem dX3_copy_99 : decode cX3_copy 99 = .ok (.iload_n 3, 1) := by decide +kernel
theorem dX3_copy_100 : decode cX3_copy 100 = .ok (.iaload, 1) := by decide +kernel
theorem dX3_copy_101 : decode cX3_copy 101 = .ok (.if_icmp .eq 6, 3) := by decide +kernel
theorem dX3_copy_104 : decode cX3_copy 104 = .ok (.bipush (-13), 2) := by decide +kernel
theorem dX3_copy_106 : decode cX3_copy 106 = .ok (.ireturn, 1) := by decide +kernel
theorem dX3_copy_107 : decode cX3_copy 107 = .ok (.iload 5, 2) := by decide +kernel
theorem dX3_copy_109 : decode cX3_copy 109 = .ok (.ifCond .lt 34, 3) := by decide +kernel
theorem dX3_copy_112 : decode cX3_copy 112 = .ok (.iload_n 2, 1) := by decide +kernel
theorem dX3_copy_113 : decode cX3_copy 113 = .ok (.iload 5, 2) := by decide +kernel
theorem dX3_copy_115 : decode cX3_copy 115 = .ok (.aload_n 0, 1) := by decide +kernel
theorem dX3_copy_116 : decode cX3_copy 116 = .ok (.getfield 13, 3) := by decide +kernel
theorem dX3_copy_119 : decode cX3_copy 119 = .ok (.iload_n 1, 1) := by decide +kernel
theorem dX3_copy_120 : decode cX3_copy 120 = .ok (.iaload, 1) := by decide +kernel
theorem dX3_copy_121 : decode cX3_copy 121 = .ok (.invokestatic 124, 3) := by decide +kernel
theorem dX3_copy_124 : decode cX3_copy 124 = .ok (.ifCond .eq 19, 3) := by decide +kernel
theorem dX3_copy_127 : decode cX3_copy 127 = .ok (.iload 4, 2) := by decide +kernel
theorem dX3_copy_129 : decode cX3_copy 129 = .ok (.iload 5, 2) := by decide +kernel
theorem dX3_copy_131 : decode cX3_copy 131 = .ok (.aload_n 0, 1) := by decide +kernel
theorem dX3_copy_132 : decode cX3_copy 132 = .ok (.getfield 13, 3) := by decide +kernel
theorem dX3_copy_135 : decode cX3_copy 135 = .ok (.iload_n 3, 1) := by decide +kernel
theorem dX3_copy_136 : decode cX3_copy 136 = .ok (.iaload, 1) := by decide +kernel
theorem dX3_copy_137 : decode cX3_copy 137 = .ok (.invokestatic 124, 3) := by decide +kernel
theorem dX3_copy_140 : decode cX3_copy 140 = .ok (.ifCond .ne 6, 3) := by decide +kernel
theorem dX3_copy_143 : decode cX3_copy 143 = .ok (.bipush (-12), 2) := by decide +kernel
theorem dX3_copy_145 : decode cX3_copy 145 = .ok (.ireturn, 1) := by decide +kernel
theorem dX3_copy_146 : decode cX3_copy 146 = .ok (.iload_n 1, 1) := by decide +kernel
theorem dX3_copy_147 : decode cX3_copy 147 = .ok (.iload_n 3, 1) := by decide +kernel
theorem dX3_copy_148 : decode cX3_copy 148 = .ok (.if_icmp .ne 13, 3) := by decide +kernel
theorem dX3_copy_151 : decode cX3_copy 151 = .ok (.iload 4, 2) := by decide +kernel
theorem dX3_copy_153 : decode cX3_copy 153 = .ok (.iload_n 2, 1) := by decide +kernel
theorem dX3_copy_154 : decode cX3_copy 154 = .ok (.if_icmp .le 7, 3) := by decide +kernel
theorem dX3_copy_157 : decode cX3_copy 157 = .ok (.iconst 1, 1) := by decide +kernel
theorem dX3_copy_158 : decode cX3_copy 158 = .ok (.goto 4, 3) := by decide +kernel
theorem dX3_copy_161 : decode cX3_copy 161 = .ok (.iconst 0, 1) := by decide +kernel
theorem dX3_copy_162 : decode cX3_copy 162 = .ok (.istore 7, 2) := by decide +kernel
theorem dX3_copy_164 : decode cX3_copy 164 = .ok (.iconst 0, 1) := by decide +kernel
theorem dX3_copy_165 : decode cX3_copy 165 = .ok (.istore 8, 2) := by decide +kernel
theorem dX3_copy_167 : decode cX3_copy 167 = .ok (.iload 8, 2) := by decide +kernel
theorem dX3_copy_169 : decode cX3_copy 169 = .ok (.iload 5, 2) := by decide +kernel
theorem dX3_copy_171 : decode cX3_copy 171 = .ok (.if_icmp .ge 132, 3) := by decide +kernel
theorem dX3_copy_174 : decode cX3_copy 174 = .ok (.iload 7, 2) := by decide +kernel
theorem dX3_copy_176 : decode cX3_copy 176 = .ok (.ifCond .eq 13, 3) := by decide +kernel
theorem dX3_copy_179 : decode cX3_copy 179 = .ok (.iload 5, 2) := by decide +kernel
theorem dX3_copy_181 : decode cX3_copy 181 = .ok (.iconst 1, 1) := by decide +kernel
theorem dX3_copy_182 : decode cX3_copy 182 = .ok (.isub, 1) := by decide +kernel
theorem dX3_copy_183 : decode cX3_copy 183 = .ok (.iload 8, 2) := by decide +kernel
theorem dX3_copy_185 : decode cX3_copy 185 = .ok (.isub, 1) := by decide +kernel
theorem dX3_copy_186 : decode cX3_copy 186 = .ok (.goto 5, 3) := by decide +kernel
theorem dX3_copy_189 : decode cX3_copy 189 = .ok (.iload 8, 2) := by decide +kernel
theorem dX3_copy_191 : decode cX3_copy 191 = .ok (.istore 9, 2) := by decide +kernel
theorem dX3_copy_193 : decode cX3_copy 193 = .ok (.bipush 40, 2) := by decide +kernel
theorem dX3_copy_195 : decode cX3_copy 195 = .ok (.iload_n 1, 1) := by decide +kernel
theorem dX3_copy_196 : decode cX3_copy 196 = .ok (.imul, 1) := by decide +kernel
theorem dX3_copy_197 : decode cX3_copy 197 = .ok (.iload_n 2, 1) := by decide +kernel
theorem dX3_copy_198 : decode cX3_copy 198 = .ok (.iadd, 1) := by decide +kernel
theorem dX3_copy_199 : decode cX3_copy 199 = .ok (.iload 9, 2) := by decide +kernel
theorem dX3_copy_201 : decode cX3_copy 201 = .ok (.iadd, 1) := by decide +kernel
theorem dX3_copy_202 : decode cX3_copy 202 = .ok (.istore 10, 2) := by decide +kernel
theorem dX3_copy_204 : decode cX3_copy 204 = .ok (.bipush 40, 2) := by decide +kernel
theorem dX3_copy_206 : decode cX3_copy 206 = .ok (.iload_n 3, 1) := by decide +kernel
theorem dX3_copy_207 : decode cX3_copy 207 = .ok (.imul, 1) := by decide +kernel
theorem dX3_copy_208 : decode cX3_copy 208 = .ok (.iload 4, 2) := by decide +kernel
theorem dX3_copy_210 : decode cX3_copy 210 = .ok (.iadd, 1) := by decide +kernel
theorem dX3_copy_211 : decode cX3_copy 211 = .ok (.iload 9, 2) := by decide +kernel
theorem dX3_copy_213 : decode cX3_copy 213 = .ok (.iadd, 1) := by decide +kernel
theorem dX3_copy_214 : decode cX3_copy 214 = .ok (.istore 11, 2) := by decide +kernel
theorem dX3_copy_216 : decode cX3_copy 216 = .ok (.iload 6, 2) := by decide +kernel
theorem dX3_copy_218 : decode cX3_copy 218 = .ok (.ifCond .eq 41, 3) := by decide +kernel
theorem dX3_copy_221 : decode cX3_copy 221 = .ok (.aload_n 0, 1) := by decide +kernel
theorem dX3_copy_222 : decode cX3_copy 222 = .ok (.getfield 7, 3) := by decide +kernel
theorem dX3_copy_225 : decode cX3_copy 225 = .ok (.iload_n 1, 1) := by decide +kernel
theorem dX3_copy_226 : decode cX3_copy 226 = .ok (.iaload, 1) := by decide +kernel
theorem dX3_copy_227 : decode cX3_copy 227 = .ok (.aload_n 0, 1) := by decide +kernel
theorem dX3_copy_228 : decode cX3_copy 228 = .ok (.getfield 7, 3) := by decide +kernel
theorem dX3_copy_231 : decode cX3_copy 231 = .ok (.iload_n 3, 1) := by decide +kernel
theorem dX3_copy_232 : decode cX3_copy 232 = .ok (.iaload, 1) := by decide +kernel
theorem dX3_copy_233 : decode cX3_copy 233 = .ok (.if_icmp .eq 26, 3) := by decide +kernel
theorem dX3_copy_236 : decode cX3_copy 236 = .ok (.aload_n 0, 1) := by decide +kernel
theorem dX3_copy_237 : decode cX3_copy 237 = .ok (.aload_n 0, 1) := by decide +kernel
theorem dX3_copy_238 : decode cX3_copy 238 = .ok (.getfield 7, 3) := by decide +kernel
theorem dX3_copy_241 : decode cX3_copy 241 = .ok (.iload_n 3, 1) := by decide +kernel
theorem dX3_copy_242 : decode cX3_copy 242 = .ok (.iaload, 1) := by decide +kernel
theorem dX3_copy_243 : decode cX3_copy 243 = .ok (.aload_n 0, 1) := by decide +kernel
theorem dX3_copy_244 : decode cX3_copy 244 = .ok (.getfield 20, 3) := by decide +kernel
theorem dX3_copy_247 : decode cX3_copy 247 = .ok (.iload 10, 2) := by decide +kernel
theorem dX3_copy_249 : decode cX3_copy 249 = .ok (.laload, 1) := by decide +kernel
theorem dX3_copy_250 : decode cX3_copy 250 = .ok (.invokevirtual 114, 3) := by decide +kernel
theorem dX3_copy_253 : decode cX3_copy 253 = .ok (.ifCond .ne 6, 3) := by decide +kernel
theorem dX3_copy_256 : decode cX3_copy 256 = .ok (.bipush (-14), 2) := by decide +kernel
theorem dX3_copy_258 : decode cX3_copy 258 = .ok (.ireturn, 1) := by decide +kernel
theorem dX3_copy_259 : decode cX3_copy 259 = .ok (.aload_n 0, 1) := by decide +kernel
theorem dX3_copy_260 : decode cX3_copy 260 = .ok (.getfield 20, 3) := by decide +kernel
theorem dX3_copy_263 : decode cX3_copy 263 = .ok (.iload 11, 2) := by decide +kernel
theorem dX3_copy_265 : decode cX3_copy 265 = .ok (.aload_n 0, 1) := by decide +kernel
theorem dX3_copy_266 : decode cX3_copy 266 = .ok (.getfield 20, 3) := by decide +kernel
theorem dX3_copy_269 : decode cX3_copy 269 = .ok (.iload 10, 2) := by decide +kernel
theorem dX3_copy_271 : decode cX3_copy 271 = .ok (.laload, 1) := by decide +kernel
theorem dX3_copy_272 : decode cX3_copy 272 = .ok (.lastore, 1) := by decide +kernel
theorem dX3_copy_273 : decode cX3_copy 273 = .ok (.aload_n 0, 1) := by decide +kernel
theorem dX3_copy_274 : decode cX3_copy 274 = .ok (.getfield 24, 3) := by decide +kernel
theorem dX3_copy_277 : decode cX3_copy 277 = .ok (.iload 11, 2) := by decide +kernel
theorem dX3_copy_279 : decode cX3_copy 279 = .ok (.aload_n 0, 1) := by decide +kernel
theorem dX3_copy_280 : decode cX3_copy 280 = .ok (.getfield 24, 3) := by decide +kernel
theorem dX3_copy_283 : decode cX3_copy 283 = .ok (.iload 10, 2) := by decide +kernel
theorem dX3_copy_285 : decode cX3_copy 285 = .ok (.daload, 1) := by decide +kernel
theorem dX3_copy_286 : decode cX3_copy 286 = .ok (.dastore, 1) := by decide +kernel
theorem dX3_copy_287 : decode cX3_copy 287 = .ok (.aload_n 0, 1) := by decide +kernel
theorem dX3_copy_288 : decode cX3_copy 288 = .ok (.dup, 1) := by decide +kernel
theorem dX3_copy_289 : decode cX3_copy 289 = .ok (.getfield 121, 3) := by decide +kernel
theorem dX3_copy_292 : decode cX3_copy 292 = .ok (.iconst 1, 1) := by decide +kernel
theorem dX3_copy_293 : decode cX3_copy 293 = .ok (.iadd, 1) := by decide +kernel
theorem dX3_copy_294 : decode cX3_copy 294 = .ok (.putfield 121, 3) := by decide +kernel
theorem dX3_copy_297 : decode cX3_copy 297 = .ok (.iinc 8 1, 3) := by decide +kernel
theorem dX3_copy_300 : decode cX3_copy 300 = .ok (.goto (-133), 3) := by decide +kernel
theorem dX3_copy_303 : decode cX3_copy 303 = .ok (.iload 5, 2) := by decide +kernel
theorem dX3_copy_305 : decode cX3_copy 305 = .ok (.ireturn, 1) := by decide +kernel
theorem dX3_copied_0 : decode cX3_copied 0 = .ok (.aload_n 0, 1) := by decide +kernel
theorem dX3_copied_1 : decode cX3_copied 1 = .ok (.iconst 0, 1) := by decide +kernel
theorem dX3_copied_2 : decode cX3_copied 2 = .ok (.putfield 55, 3) := by decide +kernel
theorem dX3_copied_5 : decode cX3_copied 5 = .ok (.aload_n 0, 1) := by decide +kernel
theorem dX3_copied_6 : decode cX3_copied 6 = .ok (.getfield 121, 3) := by decide +kernel
theorem dX3_copied_9 : decode cX3_copied 9 = .ok (.ireturn, 1) := by decide +kernel
theorem dX3_move_0 : decode cX3_move 0 = .ok (.aload_n 0, 1) := by decide +kernel
theorem dX3_move_1 : decode cX3_move 1 = .ok (.iconst 0, 1) := by decide +kernel
theorem dX3_move_2 : decode cX3_move 2 = .ok (.putfield 55, 3) := by decide +kernel
theorem dX3_move_5 : decode cX3_move 5 = .ok (.iload_n 1, 1) := by decide +kernel
theorem dX3_move_6 : decode cX3_move 6 = .ok (.iconst 0, 1) := by decide +kernel
theorem dX3_move_7 : decode cX3_move 7 = .ok (.iconst 3, 1) := by decide +kernel
theorem dX3_move_8 : decode cX3_move 8 = .ok (.invokestatic 59, 3) := by decide +kernel
theorem dX3_move_11 : decode cX3_move 11 = .ok (.ifCond .eq 22, 3) := by decide +kernel
theorem dX3_move_14 : decode cX3_move 14 = .ok (.iload_n 2, 1) := by decide +kernel
theorem dX3_move_15 : decode cX3_move 15 = .ok (.iconst 0, 1) := by decide +kernel
theorem dX3_move_16 : decode cX3_move 16 = .ok (.iconst 3, 1) := by decide +kernel
theorem dX3_move_17 : decode cX3_move 17 = .ok (.invokestatic 59, 3) := by decide +kernel
theorem dX3_move_20 : decode cX3_move 20 = .ok (.ifCond .eq 13, 3) := by decide +kernel
theorem dX3_move_23 : decode cX3_move 23 = .ok (.iload_n 3, 1) := by decide +kernel
theorem dX3_move_24 : decode cX3_move 24 = .ok (.iconst 0, 1) := by decide +kernel
theorem dX3_move_25 : decode cX3_move 25 = .ok (.ldc 127, 2) := by decide +kernel
theorem dX3_move_27 : decode cX3_move 27 = .ok (.invokestatic 59, 3) := by decide +kernel
theorem dX3_move_30 : decode cX3_move 30 = .ok (.ifCond .ne 5, 3) := by decide +kernel
theorem dX3_move_33 : decode cX3_move 33 = .ok (.iconst (-1), 1) := by decide +kernel
theorem dX3_move_34 : decode cX3_move 34 = .ok (.ireturn, 1) := by decide +kernel
theorem dX3_move_35 : decode cX3_move 35 = .ok (.iconst 0, 1) := by decide +kernel
theorem dX3_move_36 : decode cX3_move 36 = .ok (.istore 4, 2) := by decide +kernel
theorem dX3_move_38 : decode cX3_move 38 = .ok (.iload 4, 2) := by decide +kernel
theorem dX3_move_40 : decode cX3_move 40 = .ok (.bipush 6, 2) := by decide +kernel
theorem dX3_move_42 : decode cX3_move 42 = .ok (.if_icmp .ge 128, 3) := by decide +kernel
theorem dX3_move_45 : decode cX3_move 45 = .ok (.bipush 6, 2) := by decide +kernel
theorem dX3_move_47 : decode cX3_move 47 = .ok (.iload_n 1, 1) := by decide +kernel
theorem dX3_move_48 : decode cX3_move 48 = .ok (.imul, 1) := by decide +kernel
theorem dX3_move_49 : decode cX3_move 49 = .ok (.iload 4, 2) := by decide +kernel
theorem dX3_move_51 : decode cX3_move 51 = .ok (.iadd, 1) := by decide +kernel
theorem dX3_move_52 : decode cX3_move 52 = .ok (.istore 5, 2) := by decide +kernel
theorem dX3_move_54 : decode cX3_move 54 = .ok (.aload_n 0, 1) := by decide +kernel
theorem dX3_move_55 : decode cX3_move 55 = .ok (.getfield 28, 3) := by decide +kernel
theorem dX3_move_58 : decode cX3_move 58 = .ok (.iload 4, 2) := by decide +kernel
theorem dX3_move_60 : decode cX3_move 60 = .ok (.aload_n 0, 1) := by decide +kernel
theorem dX3_move_61 : decode cX3_move 61 = .ok (.getfield 7, 3) := by decide +kernel
theorem dX3_move_64 : decode cX3_move 64 = .ok (.iload 5, 2) := by decide +kernel
theorem dX3_move_66 : decode cX3_move 66 = .ok (.iaload, 1) := by decide +kernel
theorem dX3_move_67 : decode cX3_move 67 = .ok (.iastore, 1) := by decide +kernel
theorem dX3_move_68 : decode cX3_move 68 = .ok (.aload_n 0, 1) := by decide +kernel
theorem dX3_move_69 : decode cX3_move 69 = .ok (.getfield 31, 3) := by decide +kernel
theorem dX3_move_72 : decode cX3_move 72 = .ok (.iload 4, 2) := by decide +kernel
theorem dX3_move_74 : decode cX3_move 74 = .ok (.aload_n 0, 1) := by decide +kernel
theorem dX3_move_75 : decode cX3_move 75 = .ok (.getfield 13, 3) := by decide +kernel
theorem dX3_move_78 : decode cX3_move 78 = .ok (.iload 5, 2) := by decide +kernel
theorem dX3_move_80 : decode cX3_move 80 = .ok (.iaload, 1) := by decide +kernel
theorem dX3_move_81 : decode cX3_move 81 = .ok (.iastore, 1) := by decide +kernel
theorem dX3_move_82 : decode cX3_move 82 = .ok (.aload_n 0, 1) := by decide +kernel
theorem dX3_move_83 : decode cX3_move 83 = .ok (.getfield 34, 3) := by decide +kernel
theorem dX3_move_86 : decode cX3_move 86 = .ok (.iload 4, 2) := by decide +kernel
theorem dX3_move_88 : decode cX3_move 88 = .ok (.aload_n 0, 1) := by decide +kernel
theorem dX3_move_89 : decode cX3_move 89 = .ok (.getfield 16, 3) := by decide +kernel
theorem dX3_move_92 : decode cX3_move 92 = .ok (.iload 5, 2) := by decide +kernel
theorem dX3_move_94 : decode cX3_move 94 = .ok (.baload, 1) := by decide +kernel
theorem dX3_move_95 : decode cX3_move 95 = .ok (.bastore, 1) := by decide +kernel
theorem dX3_move_96 : decode cX3_move 96 = .ok (.iconst 0, 1) := by decide +kernel
theorem dX3_move_97 : decode cX3_move 97 = .ok (.istore 6, 2) := by decide +kernel
theorem dX3_move_99 : decode cX3_move 99 = .ok (.iload 6, 2) := by decide +kernel
theorem dX3_move_101 : decode cX3_move 101 = .ok (.bipush 40, 2) := by decide +kernel
theorem dX3_move_103 : decode cX3_move 103 = .ok (.if_icmp .ge 61, 3) := by decide +kernel
theorem dX3_move_106 : decode cX3_move 106 = .ok (.aload_n 0, 1) := by decide +kernel
theorem dX3_move_107 : decode cX3_move 107 = .ok (.getfield 37, 3) := by decide +kernel
theorem dX3_move_110 : decode cX3_move 110 = .ok (.bipush 40, 2) := by decide +kernel
theorem dX3_move_112 : decode cX3_move 112 = .ok (.iload 4, 2) := by decide +kernel
theorem dX3_move_114 : decode cX3_move 114 = .ok (.imul, 1) := by decide +kernel
theorem dX3_move_115 : decode cX3_move 115 = .ok (.iload 6, 2) := by decide +kernel
theorem dX3_move_117 : decode cX3_move 117 = .ok (.iadd, 1) := by decide +kernel
theorem dX3_move_118 : decode cX3_move 118 = .ok (.aload_n 0, 1) := by decide +kernel
theorem dX3_move_119 : decode cX3_move 119 = .ok (.getfield 20, 3) := by decide +kernel
theorem dX3_move_122 : decode cX3_move 122 = .ok (.bipush 40, 2) := by decide +kernel
theorem dX3_move_124 : decode cX3_move 124 = .ok (.iload 5, 2) := by decide +kernel
theorem dX3_move_126 : decode cX3_move 126 = .ok (.imul, 1) := by decide +kernel
theorem dX3_move_127 : decode cX3_move 127 = .ok (.iload 6, 2) := by decide +kernel
theorem dX3_move_129 : decode cX3_move 129 = .ok (.iadd, 1) := by decide +kernel
theorem dX3_move_130 : decode cX3_move 130 = .ok (.laload, 1) := by decide +kernel
theorem dX3_move_131 : decode cX3_move 131 = .ok (.lastore, 1) := by decide +kernel
theorem dX3_move_132 : decode cX3_move 132 = .ok (.aload_n 0, 1) := by decide +kernel
theorem dX3_move_133 : decode cX3_move 133 = .ok (.getfield 40, 3) := by decide +kernel
theorem dX3_move_136 : decode cX3_move 136 = .ok (.bipush 40, 2) := by decide +kernel
theorem dX3_move_138 : decode cX3_move 138 = .ok (.iload 4, 2) := by decide +kernel
theorem dX3_move_140 : decode cX3_move 140 = .ok (.imul, 1) := by decide +kernel
theorem dX3_move_141 : decode cX3_move 141 = .ok (.iload 6, 2) := by decide +kernel
theorem dX3_move_143 : decode cX3_move 143 = .ok (.iadd, 1) := by decide +kernel
theorem dX3_move_144 : decode cX3_move 144 = .ok (.aload_n 0, 1) := by decide +kernel
theorem dX3_move_145 : decode cX3_move 145 = .ok (.getfield 24, 3) := by decide +kernel
theorem dX3_move_148 : decode cX3_move 148 = .ok (.bipush 40, 2) := by decide +kernel
theorem dX3_move_150 : decode cX3_move 150 = .ok (.iload 5, 2) := by decide +kernel
theorem dX3_move_152 : decode cX3_move 152 = .ok (.imul, 1) := by decide +kernel
theorem dX3_move_153 : decode cX3_move 153 = .ok (.iload 6, 2) := by decide +kernel
theorem dX3_move_155 : decode cX3_move 155 = .ok (.iadd, 1) := by decide +kernel
theorem dX3_move_156 : decode cX3_move 156 = .ok (.daload, 1) := by decide +kernel
theorem dX3_move_157 : decode cX3_move 157 = .ok (.dastore, 1) := by decide +kernel
theorem dX3_move_158 : decode cX3_move 158 = .ok (.iinc 6 1, 3) := by decide +kernel
theorem dX3_move_161 : decode cX3_move 161 = .ok (.goto (-62), 3) := by decide +kernel
theorem dX3_move_164 : decode cX3_move 164 = .ok (.iinc 4 1, 3) := by decide +kernel
theorem dX3_move_167 : decode cX3_move 167 = .ok (.goto (-129), 3) := by decide +kernel
theorem dX3_move_170 : decode cX3_move 170 = .ok (.iconst 0, 1) := by decide +kernel
theorem dX3_move_171 : decode cX3_move 171 = .ok (.istore 4, 2) := by decide +kernel
theorem dX3_move_173 : decode cX3_move 173 = .ok (.iconst 0, 1) := by decide +kernel
theorem dX3_move_174 : decode cX3_move 174 = .ok (.istore 5, 2) := by decide +kernel
theorem dX3_move_176 : decode cX3_move 176 = .ok (.iload 5, 2) := by decide +kernel
theorem dX3_move_178 : decode cX3_move 178 = .ok (.bipush 6, 2) := by decide +kernel
theorem dX3_move_180 : decode cX3_move 180 = .ok (.if_icmp .ge 99, 3) := by decide +kernel
theorem dX3_move_183 : decode cX3_move 183 = .ok (.iload_n 3, 1) := by decide +kernel
theorem dX3_move_184 : decode cX3_move 184 = .ok (.iconst 3, 1) := by decide +kernel
theorem dX3_move_185 : decode cX3_move 185 = .ok (.iload 5, 2) := by decide +kernel
theorem dX3_move_187 : decode cX3_move 187 = .ok (.imul, 1) := by decide +kernel
theorem dX3_move_188 : decode cX3_move 188 = .ok (.ishr, 1) := by decide +kernel
theorem dX3_move_189 : decode cX3_move 189 = .ok (.bipush 7, 2) := by decide +kernel
theorem dX3_move_191 : decode cX3_move 191 = .ok (.iand, 1) := by decide +kernel
theorem dX3_move_192 : decode cX3_move 192 = .ok (.istore 6, 2) := by decide +kernel
theorem dX3_move_194 : decode cX3_move 194 = .ok (.bipush 6, 2) := by decide +kernel
theorem dX3_move_196 : decode cX3_move 196 = .ok (.iload_n 2, 1) := by decide +kernel
theorem dX3_move_197 : decode cX3_move 197 = .ok (.imul, 1) := by decide +kernel
theorem dX3_move_198 : decode cX3_move 198 = .ok (.iload 5, 2) := by decide +kernel
theorem dX3_move_200 : decode cX3_move 200 = .ok (.iadd, 1) := by decide +kernel
theorem dX3_move_201 : decode cX3_move 201 = .ok (.istore 7, 2) := by decide +kernel
theorem dX3_move_203 : decode cX3_move 203 = .ok (.iload 6, 2) := by decide +kernel
theorem dX3_move_205 : decode cX3_move 205 = .ok (.bipush 6, 2) := by decide +kernel
theorem dX3_move_207 : decode cX3_move 207 = .ok (.if_icmp .ge 14, 3) := by decide +kernel
theorem dX3_move_210 : decode cX3_move 210 = .ok (.aload_n 0, 1) := by decide +kernel
theorem dX3_move_211 : decode cX3_move 211 = .ok (.iload 7, 2) := by decide +kernel
theorem dX3_move_213 : decode cX3_move 213 = .ok (.iload 6, 2) := by decide +kernel
theorem dX3_move_215 : decode cX3_move 215 = .ok (.invokevirtual 128, 3) := by decide +kernel
theorem dX3_move_218 : decode cX3_move 218 = .ok (.goto 34, 3) := by decide +kernel
theorem dX3_move_221 : decode cX3_move 221 = .ok (.iload 6, 2) := by decide +kernel
theorem dX3_move_223 : decode cX3_move 223 = .ok (.bipush 6, 2) := by decide +kernel
theorem dX3_move_225 : decode cX3_move 225 = .ok (.if_icmp .ne 27, 3) := by decide +kernel
theorem dX3_move_228 : decode cX3_move 228 = .ok (.aload_n 0, 1) := by decide +kernel
theorem dX3_move_229 : decode cX3_move 229 = .ok (.getfield 7, 3) := by decide +kernel
theorem dX3_move_232 : decode cX3_move 232 = .ok (.iload 7, 2) := by decide +kernel
theorem dX3_move_234 : decode cX3_move 234 = .ok (.iconst (-1), 1) := by decide +kernel
theorem dX3_move_235 : decode cX3_move 235 = .ok (.iastore, 1) := by decide +kernel
theorem dX3_move_236 : decode cX3_move 236 = .ok (.aload_n 0, 1) := by decide +kernel
theorem dX3_move_237 : decode cX3_move 237 = .ok (.getfield 13, 3) := by decide +kernel
theorem dX3_move_240 : decode cX3_move 240 = .ok (.iload 7, 2) := by decide +kernel
theorem dX3_move_242 : decode cX3_move 242 = .ok (.iconst 0, 1) := by decide +kernel
theorem dX3_move_243 : decode cX3_move 243 = .ok (.iastore, 1) := by decide +kernel
theorem dX3_move_244 : decode cX3_move 244 = .ok (.aload_n 0, 1) := by decide +kernel
theorem dX3_move_245 : decode cX3_move 245 = .ok (.getfield 16, 3) := by decide +kernel
theorem dX3_move_248 : decode cX3_move 248 = .ok (.iload 7, 2) := by decide +kernel
theorem dX3_move_250 : decode cX3_move 250 = .ok (.iconst 0, 1) := by decide +kernel
theorem dX3_move_251 : decode cX3_move 251 = .ok (.bastore, 1) := by decide +kernel
theorem dX3_move_252 : decode cX3_move 252 = .ok (.iload 4, 2) := by decide +kernel
theorem dX3_move_254 : decode cX3_move 254 = .ok (.aload_n 0, 1) := by decide +kernel
theorem dX3_move_255 : decode cX3_move 255 = .ok (.getfield 7, 3) := by decide +kernel
theorem dX3_move_258 : decode cX3_move 258 = .ok (.iload 7, 2) := by decide +kernel
theorem dX3_move_260 : decode cX3_move 260 = .ok (.iaload, 1) := by decide +kernel
theorem dX3_move_261 : decode cX3_move 261 = .ok (.iconst (-1), 1) := by decide +kernel
theorem dX3_move_262 : decode cX3_move 262 = .ok (.if_icmp .eq 7, 3) := by decide +kernel
theorem dX3_move_265 : decode cX3_move 265 = .ok (.iconst 1, 1) := by decide +kernel
theorem dX3_move_266 : decode cX3_move 266 = .ok (.goto 4, 3) := by decide +kernel
theorem dX3_move_269 : decode cX3_move 269 = .ok (.iconst 0, 1) := by decide +kernel
theorem dX3_move_270 : decode cX3_move 270 = .ok (.iadd, 1) := by decide +kernel
theorem dX3_move_271 : decode cX3_move 271 = .ok (.istore 4, 2) := by decide +kernel
theorem dX3_move_273 : decode cX3_move 273 = .ok (.iinc 5 1, 3) := by decide +kernel
theorem dX3_move_276 : decode cX3_move 276 = .ok (.goto (-100), 3) := by decide +kernel
theorem dX3_move_279 : decode cX3_move 279 = .ok (.iload 4, 2) := by decide +kernel
theorem dX3_move_281 : decode cX3_move 281 = .ok (.ireturn, 1) := by decide +kernel
theorem dX3_take_0 : decode cX3_take 0 = .ok (.aload_n 0, 1) := by decide +kernel
theorem dX3_take_1 : decode cX3_take 1 = .ok (.getfield 7, 3) := by decide +kernel
theorem dX3_take_4 : decode cX3_take 4 = .ok (.iload_n 1, 1) := by decide +kernel
theorem dX3_take_5 : decode cX3_take 5 = .ok (.aload_n 0, 1) := by decide +kernel
theorem dX3_take_6 : decode cX3_take 6 = .ok (.getfield 28, 3) := by decide +kernel
theorem dX3_take_9 : decode cX3_take 9 = .ok (.iload_n 2, 1) := by decide +kernel
theorem dX3_take_10 : decode cX3_take 10 = .ok (.iaload, 1) := by decide +kernel
theorem dX3_take_11 : decode cX3_take 11 = .ok (.iastore, 1) := by decide +kernel
theorem dX3_take_12 : decode cX3_take 12 = .ok (.aload_n 0, 1) := by decide +kernel
theorem dX3_take_13 : decode cX3_take 13 = .ok (.getfield 13, 3) := by decide +kernel
theorem dX3_take_16 : decode cX3_take 16 = .ok (.iload_n 1, 1) := by decide +kernel
theorem dX3_take_17 : decode cX3_take 17 = .ok (.aload_n 0, 1) := by decide +kernel
theorem dX3_take_18 : decode cX3_take 18 = .ok (.getfield 31, 3) := by decide +kernel
theorem dX3_take_21 : decode cX3_take 21 = .ok (.iload_n 2, 1) := by decide +kernel
theorem dX3_take_22 : decode cX3_take 22 = .ok (.iaload, 1) := by decide +kernel
theorem dX3_take_23 : decode cX3_take 23 = .ok (.iastore, 1) := by decide +kernel
theorem dX3_take_24 : decode cX3_take 24 = .ok (.aload_n 0, 1) := by decide +kernel
theorem dX3_take_25 : decode cX3_take 25 = .ok (.getfield 16, 3) := by decide +kernel
theorem dX3_take_28 : decode cX3_take 28 = .ok (.iload_n 1, 1) := by decide +kernel
theorem dX3_take_29 : decode cX3_take 29 = .ok (.aload_n 0, 1) := by decide +kernel
theorem dX3_take_30 : decode cX3_take 30 = .ok (.getfield 34, 3) := by decide +kernel
theorem dX3_take_33 : decode cX3_take 33 = .ok (.iload_n 2, 1) := by decide +kernel
theorem dX3_take_34 : decode cX3_take 34 = .ok (.baload, 1) := by decide +kernel
theorem dX3_take_35 : decode cX3_take 35 = .ok (.bastore, 1) := by decide +kernel
theorem dX3_take_36 : decode cX3_take 36 = .ok (.iconst 0, 1) := by decide +kernel
theorem dX3_take_37 : decode cX3_take 37 = .ok (.istore_n 3, 1) := by decide +kernel
theorem dX3_take_38 : decode cX3_take 38 = .ok (.iload_n 3, 1) := by decide +kernel
theorem dX3_take_39 : decode cX3_take 39 = .ok (.bipush 40, 2) := by decide +kernel
theorem dX3_take_41 : decode cX3_take 41 = .ok (.if_icmp .ge 53, 3) := by decide +kernel
theorem dX3_take_44 : decode cX3_take 44 = .ok (.aload_n 0, 1) := by decide +kernel
theorem dX3_take_45 : decode cX3_take 45 = .ok (.getfield 20, 3) := by decide +kernel
theorem dX3_take_48 : decode cX3_take 48 = .ok (.bipush 40, 2) := by decide +kernel
theorem dX3_take_50 : decode cX3_take 50 = .ok (.iload_n 1, 1) := by decide +kernel
theorem dX3_take_51 : decode cX3_take 51 = .ok (.imul, 1) := by decide +kernel
theorem dX3_take_52 : decode cX3_take 52 = .ok (.iload_n 3, 1) := by decide +kernel
theorem dX3_take_53 : decode cX3_take 53 = .ok (.iadd, 1) := by decide +kernel
theorem dX3_take_54 : decode cX3_take 54 = .ok (.aload_n 0, 1) := by decide +kernel
theorem dX3_take_55 : decode cX3_take 55 = .ok (.getfield 37, 3) := by decide +kernel
theorem dX3_take_58 : decode cX3_take 58 = .ok (.bipush 40, 2) := by decide +kernel
theorem dX3_take_60 : decode cX3_take 60 = .ok (.iload_n 2, 1) := by decide +kernel
theorem dX3_take_61 : decode cX3_take 61 = .ok (.imul, 1) := by decide +kernel
theorem dX3_take_62 : decode cX3_take 62 = .ok (.iload_n 3, 1) := by decide +kernel
theorem dX3_take_63 : decode cX3_take 63 = .ok (.iadd, 1) := by decide +kernel
theorem dX3_take_64 : decode cX3_take 64 = .ok (.laload, 1) := by decide +kernel
theorem dX3_take_65 : decode cX3_take 65 = .ok (.lastore, 1) := by decide +kernel
theorem dX3_take_66 : decode cX3_take 66 = .ok (.aload_n 0, 1) := by decide +kernel
theorem dX3_take_67 : decode cX3_take 67 = .ok (.getfield 24, 3) := by decide +kernel
theorem dX3_take_70 : decode cX3_take 70 = .ok (.bipush 40, 2) := by decide +kernel
theorem dX3_take_72 : decode cX3_take 72 = .ok (.iload_n 1, 1) := by decide +kernel
theorem dX3_take_73 : decode cX3_take 73 = .ok (.imul, 1) := by decide +kernel
theorem dX3_take_74 : decode cX3_take 74 = .ok (.iload_n 3, 1) := by decide +kernel
theorem dX3_take_75 : decode cX3_take 75 = .ok (.iadd, 1) := by decide +kernel
theorem dX3_take_76 : decode cX3_take 76 = .ok (.aload_n 0, 1) := by decide +kernel
theorem dX3_take_77 : decode cX3_take 77 = .ok (.getfield 40, 3) := by decide +kernel
theorem dX3_take_80 : decode cX3_take 80 = .ok (.bipush 40, 2) := by decide +kernel
theorem dX3_take_82 : decode cX3_take 82 = .ok (.iload_n 2, 1) := by decide +kernel
theorem dX3_take_83 : decode cX3_take 83 = .ok (.imul, 1) := by decide +kernel
theorem dX3_take_84 : decode cX3_take 84 = .ok (.iload_n 3, 1) := by decide +kernel
theorem dX3_take_85 : decode cX3_take 85 = .ok (.iadd, 1) := by decide +kernel
theorem dX3_take_86 : decode cX3_take 86 = .ok (.daload, 1) := by decide +kernel
theorem dX3_take_87 : decode cX3_take 87 = .ok (.dastore, 1) := by decide +kernel
theorem dX3_take_88 : decode cX3_take 88 = .ok (.iinc 3 1, 3) := by decide +kernel
theorem dX3_take_91 : decode cX3_take 91 = .ok (.goto (-53), 3) := by decide +kernel
theorem dX3_take_94 : decode cX3_take 94 = .ok (.return_, 1) := by decide +kernel
theorem dX3_like_0 : decode cX3_like 0 = .ok (.aload_n 0, 1) := by decide +kernel
theorem dX3_like_1 : decode cX3_like 1 = .ok (.iconst 0, 1) := by decide +kernel
theorem dX3_like_2 : decode cX3_like 2 = .ok (.putfield 55, 3) := by decide +kernel
theorem dX3_like_5 : decode cX3_like 5 = .ok (.iload_n 1, 1) := by decide +kernel
theorem dX3_like_6 : decode cX3_like 6 = .ok (.invokestatic 63, 3) := by decide +kernel
theorem dX3_like_9 : decode cX3_like 9 = .ok (.ifCond .eq 10, 3) := by decide +kernel
theorem dX3_like_12 : decode cX3_like 12 = .ok (.iload_n 2, 1) := by decide +kernel
theorem dX3_like_13 : decode cX3_like 13 = .ok (.invokestatic 63, 3) := by decide +kernel
theorem dX3_like_16 : decode cX3_like 16 = .ok (.ifCond .ne 5, 3) := by decide +kernel
theorem dX3_like_19 : decode cX3_like 19 = .ok (.iconst (-1), 1) := by decide +kernel
theorem dX3_like_20 : decode cX3_like 20 = .ok (.ireturn, 1) := by decide +kernel
theorem dX3_like_21 : decode cX3_like 21 = .ok (.aload_n 0, 1) := by decide +kernel
theorem dX3_like_22 : decode cX3_like 22 = .ok (.iload_n 1, 1) := by decide +kernel
theorem dX3_like_23 : decode cX3_like 23 = .ok (.invokevirtual 69, 3) := by decide +kernel
theorem dX3_like_26 : decode cX3_like 26 = .ok (.ifCond .ne 11, 3) := by decide +kernel
theorem dX3_like_29 : decode cX3_like 29 = .ok (.aload_n 0, 1) := by decide +kernel
theorem dX3_like_30 : decode cX3_like 30 = .ok (.iload_n 2, 1) := by decide +kernel
theorem dX3_like_31 : decode cX3_like 31 = .ok (.invokevirtual 69, 3) := by decide +kernel
theorem dX3_like_34 : decode cX3_like 34 = .ok (.ifCond .eq 6, 3) := by decide +kernel
theorem dX3_like_37 : decode cX3_like 37 = .ok (.bipush (-11), 2) := by decide +kernel
theorem dX3_like_39 : decode cX3_like 39 = .ok (.ireturn, 1) := by decide +kernel
theorem dX3_like_40 : decode cX3_like 40 = .ok (.aload_n 0, 1) := by decide +kernel
theorem dX3_like_41 : decode cX3_like 41 = .ok (.getfield 7, 3) := by decide +kernel
theorem dX3_like_44 : decode cX3_like 44 = .ok (.iload_n 1, 1) := by decide +kernel
theorem dX3_like_45 : decode cX3_like 45 = .ok (.iaload, 1) := by decide +kernel
theorem dX3_like_46 : decode cX3_like 46 = .ok (.aload_n 0, 1) := by decide +kernel
theorem dX3_like_47 : decode cX3_like 47 = .ok (.getfield 7, 3) := by decide +kernel
theorem dX3_like_50 : decode cX3_like 50 = .ok (.iload_n 2, 1) := by decide +kernel
theorem dX3_like_51 : decode cX3_like 51 = .ok (.iaload, 1) := by decide +kernel
theorem dX3_like_52 : decode cX3_like 52 = .ok (.if_icmp .ne 22, 3) := by decide +kernel
theorem dX3_like_55 : decode cX3_like 55 = .ok (.aload_n 0, 1) := by decide +kernel
