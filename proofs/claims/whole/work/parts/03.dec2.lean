theorem dX2_raise_18 : decode cX2_raise 18 = .ok (.getfield 20, 3) := by decide +kernel
theorem dX2_raise_21 : decode cX2_raise 21 = .ok (.iload_n 3, 1) := by decide +kernel
theorem dX2_raise_22 : decode cX2_raise 22 = .ok (.aaload, 1) := by decide +kernel
theorem dX2_raise_23 : decode cX2_raise 23 = .ok (.getfield 126, 3) := by decide +kernel
theorem dX2_raise_26 : decode cX2_raise 26 = .ok (.istore 4, 2) := by decide +kernel
theorem dX2_raise_28 : decode cX2_raise 28 = .ok (.iload 4, 2) := by decide +kernel
theorem dX2_raise_30 : decode cX2_raise 30 = .ok (.iconst (-1), 1) := by decide +kernel
theorem dX2_raise_31 : decode cX2_raise 31 = .ok (.if_icmp .ne 8, 3) := by decide +kernel
theorem dX2_raise_34 : decode cX2_raise 34 = .ok (.bipush (-11), 2) := by decide +kernel
theorem dX2_raise_36 : decode cX2_raise 36 = .ok (.goto 8, 3) := by decide +kernel
theorem dX2_raise_39 : decode cX2_raise 39 = .ok (.bipush (-30), 2) := by decide +kernel
theorem dX2_raise_41 : decode cX2_raise 41 = .ok (.iload 4, 2) := by decide +kernel
theorem dX2_raise_43 : decode cX2_raise 43 = .ok (.isub, 1) := by decide +kernel
theorem dX2_raise_44 : decode cX2_raise 44 = .ok (.ireturn, 1) := by decide +kernel
theorem dX2_copy_0 : decode cX2_copy 0 = .ok (.iload_n 1, 1) := by decide +kernel
theorem dX2_copy_1 : decode cX2_copy 1 = .ok (.invokestatic 33, 3) := by decide +kernel
theorem dX2_copy_4 : decode cX2_copy 4 = .ok (.ifCond .eq 10, 3) := by decide +kernel
theorem dX2_copy_7 : decode cX2_copy 7 = .ok (.iload_n 3, 1) := by decide +kernel
theorem dX2_copy_8 : decode cX2_copy 8 = .ok (.invokestatic 33, 3) := by decide +kernel
theorem dX2_copy_11 : decode cX2_copy 11 = .ok (.ifCond .ne 5, 3) := by decide +kernel
theorem dX2_copy_14 : decode cX2_copy 14 = .ok (.iconst (-1), 1) := by decide +kernel
theorem dX2_copy_15 : decode cX2_copy 15 = .ok (.ireturn, 1) := by decide +kernel
theorem dX2_copy_16 : decode cX2_copy 16 = .ok (.aload_n 0, 1) := by decide +kernel
theorem dX2_copy_17 : decode cX2_copy 17 = .ok (.iconst 0, 1) := by decide +kernel
theorem dX2_copy_18 : decode cX2_copy 18 = .ok (.putfield 28, 3) := by decide +kernel
theorem dX2_copy_21 : decode cX2_copy 21 = .ok (.aload_n 0, 1) := by decide +kernel
theorem dX2_copy_22 : decode cX2_copy 22 = .ok (.getfield 11, 3) := by decide +kernel
theorem dX2_copy_25 : decode cX2_copy 25 = .ok (.iload_n 1, 1) := by decide +kernel
theorem dX2_copy_26 : decode cX2_copy 26 = .ok (.aaload, 1) := by decide +kernel
theorem dX2_copy_27 : decode cX2_copy 27 = .ok (.astore 6, 2) := by decide +kernel
theorem dX2_copy_29 : decode cX2_copy 29 = .ok (.aload_n 0, 1) := by decide +kernel
theorem dX2_copy_30 : decode cX2_copy 30 = .ok (.getfield 11, 3) := by decide +kernel
theorem dX2_copy_33 : decode cX2_copy 33 = .ok (.iload_n 3, 1) := by decide +kernel
theorem dX2_copy_34 : decode cX2_copy 34 = .ok (.aaload, 1) := by decide +kernel
theorem dX2_copy_35 : decode cX2_copy 35 = .ok (.astore 7, 2) := by decide +kernel
theorem dX2_copy_37 : decode cX2_copy 37 = .ok (.aload 6, 2) := by decide +kernel
theorem dX2_copy_39 : decode cX2_copy 39 = .ok (.invokevirtual 41, 3) := by decide +kernel
theorem dX2_copy_42 : decode cX2_copy 42 = .ok (.ifCond .ne 11, 3) := by decide +kernel
theorem dX2_copy_45 : decode cX2_copy 45 = .ok (.aload 7, 2) := by decide +kernel
theorem dX2_copy_47 : decode cX2_copy 47 = .ok (.invokevirtual 41, 3) := by decide +kernel
theorem dX2_copy_50 : decode cX2_copy 50 = .ok (.ifCond .eq 6, 3) := by decide +kernel
theorem dX2_copy_53 : decode cX2_copy 53 = .ok (.bipush (-11), 2) := by decide +kernel
theorem dX2_copy_55 : decode cX2_copy 55 = .ok (.ireturn, 1) := by decide +kernel
theorem dX2_copy_56 : decode cX2_copy 56 = .ok (.aload 6, 2) := by decide +kernel
theorem dX2_copy_58 : decode cX2_copy 58 = .ok (.getfield 57, 3) := by decide +kernel
theorem dX2_copy_61 : decode cX2_copy 61 = .ok (.aload 7, 2) := by decide +kernel
theorem dX2_copy_63 : decode cX2_copy 63 = .ok (.getfield 57, 3) := by decide +kernel
theorem dX2_copy_66 : decode cX2_copy 66 = .ok (.if_icmp .eq 22, 3) := by decide +kernel
theorem dX2_copy_69 : decode cX2_copy 69 = .ok (.aload 6, 2) := by decide +kernel
theorem dX2_copy_71 : decode cX2_copy 71 = .ok (.invokevirtual 77, 3) := by decide +kernel
theorem dX2_copy_74 : decode cX2_copy 74 = .ok (.ifCond .eq 11, 3) := by decide +kernel
theorem dX2_copy_77 : decode cX2_copy 77 = .ok (.aload 7, 2) := by decide +kernel
theorem dX2_copy_79 : decode cX2_copy 79 = .ok (.invokevirtual 77, 3) := by decide +kernel
theorem dX2_copy_82 : decode cX2_copy 82 = .ok (.ifCond .ne 6, 3) := by decide +kernel
theorem dX2_copy_85 : decode cX2_copy 85 = .ok (.bipush (-13), 2) := by decide +kernel
theorem dX2_copy_87 : decode cX2_copy 87 = .ok (.ireturn, 1) := by decide +kernel
theorem dX2_copy_88 : decode cX2_copy 88 = .ok (.aload 6, 2) := by decide +kernel
theorem dX2_copy_90 : decode cX2_copy 90 = .ok (.iload_n 2, 1) := by decide +kernel
theorem dX2_copy_91 : decode cX2_copy 91 = .ok (.iload 5, 2) := by decide +kernel
theorem dX2_copy_93 : decode cX2_copy 93 = .ok (.invokevirtual 129, 3) := by decide +kernel
theorem dX2_copy_96 : decode cX2_copy 96 = .ok (.ifCond .eq 15, 3) := by decide +kernel
theorem dX2_copy_99 : decode cX2_copy 99 = .ok (.aload 7, 2) := by decide +kernel
theorem dX2_copy_101 : decode cX2_copy 101 = .ok (.iload 4, 2) := by decide +kernel
theorem dX2_copy_103 : decode cX2_copy 103 = .ok (.iload 5, 2) := by decide +kernel
theorem dX2_copy_105 : decode cX2_copy 105 = .ok (.invokevirtual 129, 3) := by decide +kernel
theorem dX2_copy_108 : decode cX2_copy 108 = .ok (.ifCond .ne 6, 3) := by decide +kernel
theorem dX2_copy_111 : decode cX2_copy 111 = .ok (.bipush (-12), 2) := by decide +kernel
theorem dX2_copy_113 : decode cX2_copy 113 = .ok (.ireturn, 1) := by decide +kernel
theorem dX2_copy_114 : decode cX2_copy 114 = .ok (.aload 6, 2) := by decide +kernel
theorem dX2_copy_116 : decode cX2_copy 116 = .ok (.getfield 57, 3) := by decide +kernel
theorem dX2_copy_119 : decode cX2_copy 119 = .ok (.aload 7, 2) := by decide +kernel
theorem dX2_copy_121 : decode cX2_copy 121 = .ok (.getfield 57, 3) := by decide +kernel
theorem dX2_copy_124 : decode cX2_copy 124 = .ok (.if_icmp .ne 24, 3) := by decide +kernel
theorem dX2_copy_127 : decode cX2_copy 127 = .ok (.aload 7, 2) := by decide +kernel
theorem dX2_copy_129 : decode cX2_copy 129 = .ok (.aload 6, 2) := by decide +kernel
theorem dX2_copy_131 : decode cX2_copy 131 = .ok (.iload_n 2, 1) := by decide +kernel
theorem dX2_copy_132 : decode cX2_copy 132 = .ok (.iload 4, 2) := by decide +kernel
theorem dX2_copy_134 : decode cX2_copy 134 = .ok (.iload 5, 2) := by decide +kernel
theorem dX2_copy_136 : decode cX2_copy 136 = .ok (.invokevirtual 133, 3) := by decide +kernel
theorem dX2_copy_139 : decode cX2_copy 139 = .ok (.aload_n 0, 1) := by decide +kernel
theorem dX2_copy_140 : decode cX2_copy 140 = .ok (.iload 5, 2) := by decide +kernel
theorem dX2_copy_142 : decode cX2_copy 142 = .ok (.putfield 28, 3) := by decide +kernel
theorem dX2_copy_145 : decode cX2_copy 145 = .ok (.goto 20, 3) := by decide +kernel
theorem dX2_copy_148 : decode cX2_copy 148 = .ok (.aload_n 0, 1) := by decide +kernel
theorem dX2_copy_149 : decode cX2_copy 149 = .ok (.aload_n 0, 1) := by decide +kernel
theorem dX2_copy_150 : decode cX2_copy 150 = .ok (.aload 6, 2) := by decide +kernel
theorem dX2_copy_152 : decode cX2_copy 152 = .ok (.iload_n 2, 1) := by decide +kernel
theorem dX2_copy_153 : decode cX2_copy 153 = .ok (.aload 7, 2) := by decide +kernel
theorem dX2_copy_155 : decode cX2_copy 155 = .ok (.iload 4, 2) := by decide +kernel
theorem dX2_copy_157 : decode cX2_copy 157 = .ok (.iload 5, 2) := by decide +kernel
theorem dX2_copy_159 : decode cX2_copy 159 = .ok (.invokevirtual 137, 3) := by decide +kernel
theorem dX2_copy_162 : decode cX2_copy 162 = .ok (.putfield 28, 3) := by decide +kernel
theorem dX2_copy_165 : decode cX2_copy 165 = .ok (.aload_n 0, 1) := by decide +kernel
theorem dX2_copy_166 : decode cX2_copy 166 = .ok (.getfield 28, 3) := by decide +kernel
theorem dX2_copy_169 : decode cX2_copy 169 = .ok (.iload 5, 2) := by decide +kernel
theorem dX2_copy_171 : decode cX2_copy 171 = .ok (.if_icmp .ge 8, 3) := by decide +kernel
theorem dX2_copy_174 : decode cX2_copy 174 = .ok (.bipush (-14), 2) := by decide +kernel
theorem dX2_copy_176 : decode cX2_copy 176 = .ok (.goto 5, 3) := by decide +kernel
theorem dX2_copy_179 : decode cX2_copy 179 = .ok (.iload 5, 2) := by decide +kernel
theorem dX2_copy_181 : decode cX2_copy 181 = .ok (.ireturn, 1) := by decide +kernel
theorem dX2_copied_0 : decode cX2_copied 0 = .ok (.aload_n 0, 1) := by decide +kernel
theorem dX2_copied_1 : decode cX2_copied 1 = .ok (.getfield 28, 3) := by decide +kernel
theorem dX2_copied_4 : decode cX2_copied 4 = .ok (.ireturn, 1) := by decide +kernel
theorem dX2_move_0 : decode cX2_move 0 = .ok (.iload_n 1, 1) := by decide +kernel
theorem dX2_move_1 : decode cX2_move 1 = .ok (.invokestatic 141, 3) := by decide +kernel
theorem dX2_move_4 : decode cX2_move 4 = .ok (.ifCond .eq 20, 3) := by decide +kernel
theorem dX2_move_7 : decode cX2_move 7 = .ok (.iload_n 2, 1) := by decide +kernel
theorem dX2_move_8 : decode cX2_move 8 = .ok (.invokestatic 141, 3) := by decide +kernel
theorem dX2_move_11 : decode cX2_move 11 = .ok (.ifCond .eq 13, 3) := by decide +kernel
theorem dX2_move_14 : decode cX2_move 14 = .ok (.iload_n 3, 1) := by decide +kernel
theorem dX2_move_15 : decode cX2_move 15 = .ok (.ifCond .lt 9, 3) := by decide +kernel
theorem dX2_move_18 : decode cX2_move 18 = .ok (.iload_n 3, 1) := by decide +kernel
theorem dX2_move_19 : decode cX2_move 19 = .ok (.ldc 144, 2) := by decide +kernel
theorem dX2_move_21 : decode cX2_move 21 = .ok (.if_icmp .le 5, 3) := by decide +kernel
theorem dX2_move_24 : decode cX2_move 24 = .ok (.iconst (-1), 1) := by decide +kernel
theorem dX2_move_25 : decode cX2_move 25 = .ok (.ireturn, 1) := by decide +kernel
theorem dX2_move_26 : decode cX2_move 26 = .ok (.iconst 0, 1) := by decide +kernel
theorem dX2_move_27 : decode cX2_move 27 = .ok (.istore 4, 2) := by decide +kernel
theorem dX2_move_29 : decode cX2_move 29 = .ok (.iload 4, 2) := by decide +kernel
theorem dX2_move_31 : decode cX2_move 31 = .ok (.bipush 6, 2) := by decide +kernel
theorem dX2_move_33 : decode cX2_move 33 = .ok (.if_icmp .ge 31, 3) := by decide +kernel
theorem dX2_move_36 : decode cX2_move 36 = .ok (.aload_n 0, 1) := by decide +kernel
theorem dX2_move_37 : decode cX2_move 37 = .ok (.getfield 15, 3) := by decide +kernel
theorem dX2_move_40 : decode cX2_move 40 = .ok (.iload 4, 2) := by decide +kernel
theorem dX2_move_42 : decode cX2_move 42 = .ok (.aaload, 1) := by decide +kernel
theorem dX2_move_43 : decode cX2_move 43 = .ok (.aload_n 0, 1) := by decide +kernel
theorem dX2_move_44 : decode cX2_move 44 = .ok (.getfield 11, 3) := by decide +kernel
theorem dX2_move_47 : decode cX2_move 47 = .ok (.bipush 6, 2) := by decide +kernel
theorem dX2_move_49 : decode cX2_move 49 = .ok (.iload_n 1, 1) := by decide +kernel
theorem dX2_move_50 : decode cX2_move 50 = .ok (.imul, 1) := by decide +kernel
theorem dX2_move_51 : decode cX2_move 51 = .ok (.iload 4, 2) := by decide +kernel
theorem dX2_move_53 : decode cX2_move 53 = .ok (.iadd, 1) := by decide +kernel
theorem dX2_move_54 : decode cX2_move 54 = .ok (.aaload, 1) := by decide +kernel
theorem dX2_move_55 : decode cX2_move 55 = .ok (.invokevirtual 145, 3) := by decide +kernel
theorem dX2_move_58 : decode cX2_move 58 = .ok (.iinc 4 1, 3) := by decide +kernel
theorem dX2_move_61 : decode cX2_move 61 = .ok (.goto (-32), 3) := by decide +kernel
theorem dX2_move_64 : decode cX2_move 64 = .ok (.iconst 0, 1) := by decide +kernel
theorem dX2_move_65 : decode cX2_move 65 = .ok (.istore 4, 2) := by decide +kernel
theorem dX2_move_67 : decode cX2_move 67 = .ok (.iconst 0, 1) := by decide +kernel
theorem dX2_move_68 : decode cX2_move 68 = .ok (.istore 5, 2) := by decide +kernel
theorem dX2_move_70 : decode cX2_move 70 = .ok (.iload 5, 2) := by decide +kernel
theorem dX2_move_72 : decode cX2_move 72 = .ok (.bipush 6, 2) := by decide +kernel
theorem dX2_move_74 : decode cX2_move 74 = .ok (.if_icmp .ge 56, 3) := by decide +kernel
theorem dX2_move_77 : decode cX2_move 77 = .ok (.aload_n 0, 1) := by decide +kernel
theorem dX2_move_78 : decode cX2_move 78 = .ok (.getfield 11, 3) := by decide +kernel
theorem dX2_move_81 : decode cX2_move 81 = .ok (.bipush 6, 2) := by decide +kernel
theorem dX2_move_83 : decode cX2_move 83 = .ok (.iload_n 2, 1) := by decide +kernel
theorem dX2_move_84 : decode cX2_move 84 = .ok (.imul, 1) := by decide +kernel
theorem dX2_move_85 : decode cX2_move 85 = .ok (.iload 5, 2) := by decide +kernel
theorem dX2_move_87 : decode cX2_move 87 = .ok (.iadd, 1) := by decide +kernel
theorem dX2_move_88 : decode cX2_move 88 = .ok (.aaload, 1) := by decide +kernel
theorem dX2_move_89 : decode cX2_move 89 = .ok (.astore 6, 2) := by decide +kernel
theorem dX2_move_91 : decode cX2_move 91 = .ok (.aload_n 0, 1) := by decide +kernel
theorem dX2_move_92 : decode cX2_move 92 = .ok (.aload 6, 2) := by decide +kernel
theorem dX2_move_94 : decode cX2_move 94 = .ok (.iload_n 3, 1) := by decide +kernel
theorem dX2_move_95 : decode cX2_move 95 = .ok (.iconst 3, 1) := by decide +kernel
theorem dX2_move_96 : decode cX2_move 96 = .ok (.iload 5, 2) := by decide +kernel
theorem dX2_move_98 : decode cX2_move 98 = .ok (.imul, 1) := by decide +kernel
theorem dX2_move_99 : decode cX2_move 99 = .ok (.ishr, 1) := by decide +kernel
theorem dX2_move_100 : decode cX2_move 100 = .ok (.bipush 7, 2) := by decide +kernel
theorem dX2_move_102 : decode cX2_move 102 = .ok (.iand, 1) := by decide +kernel
theorem dX2_move_103 : decode cX2_move 103 = .ok (.invokevirtual 149, 3) := by decide +kernel
theorem dX2_move_106 : decode cX2_move 106 = .ok (.iload 4, 2) := by decide +kernel
theorem dX2_move_108 : decode cX2_move 108 = .ok (.aload 6, 2) := by decide +kernel
theorem dX2_move_110 : decode cX2_move 110 = .ok (.invokevirtual 51, 3) := by decide +kernel
theorem dX2_move_113 : decode cX2_move 113 = .ok (.ifCond .eq 7, 3) := by decide +kernel
theorem dX2_move_116 : decode cX2_move 116 = .ok (.iconst 0, 1) := by decide +kernel
theorem dX2_move_117 : decode cX2_move 117 = .ok (.goto 4, 3) := by decide +kernel
theorem dX2_move_120 : decode cX2_move 120 = .ok (.iconst 1, 1) := by decide +kernel
theorem dX2_move_121 : decode cX2_move 121 = .ok (.iadd, 1) := by decide +kernel
theorem dX2_move_122 : decode cX2_move 122 = .ok (.istore 4, 2) := by decide +kernel
theorem dX2_move_124 : decode cX2_move 124 = .ok (.iinc 5 1, 3) := by decide +kernel
theorem dX2_move_127 : decode cX2_move 127 = .ok (.goto (-57), 3) := by decide +kernel
theorem dX2_move_130 : decode cX2_move 130 = .ok (.iload 4, 2) := by decide +kernel
theorem dX2_move_132 : decode cX2_move 132 = .ok (.ireturn, 1) := by decide +kernel
theorem dX2_like_0 : decode cX2_like 0 = .ok (.iload_n 1, 1) := by decide +kernel
theorem dX2_like_1 : decode cX2_like 1 = .ok (.invokestatic 33, 3) := by decide +kernel
theorem dX2_like_4 : decode cX2_like 4 = .ok (.ifCond .eq 10, 3) := by decide +kernel
theorem dX2_like_7 : decode cX2_like 7 = .ok (.iload_n 2, 1) := by decide +kernel
theorem dX2_like_8 : decode cX2_like 8 = .ok (.invokestatic 33, 3) := by decide +kernel
theorem dX2_like_11 : decode cX2_like 11 = .ok (.ifCond .ne 5, 3) := by decide +kernel
theorem dX2_like_14 : decode cX2_like 14 = .ok (.iconst (-1), 1) := by decide +kernel
theorem dX2_like_15 : decode cX2_like 15 = .ok (.ireturn, 1) := by decide +kernel
theorem dX2_like_16 : decode cX2_like 16 = .ok (.aload_n 0, 1) := by decide +kernel
theorem dX2_like_17 : decode cX2_like 17 = .ok (.getfield 11, 3) := by decide +kernel
theorem dX2_like_20 : decode cX2_like 20 = .ok (.iload_n 1, 1) := by decide +kernel
theorem dX2_like_21 : decode cX2_like 21 = .ok (.aaload, 1) := by decide +kernel
theorem dX2_like_22 : decode cX2_like 22 = .ok (.astore_n 3, 1) := by decide +kernel
theorem dX2_like_23 : decode cX2_like 23 = .ok (.aload_n 0, 1) := by decide +kernel
theorem dX2_like_24 : decode cX2_like 24 = .ok (.getfield 11, 3) := by decide +kernel
theorem dX2_like_27 : decode cX2_like 27 = .ok (.iload_n 2, 1) := by decide +kernel
theorem dX2_like_28 : decode cX2_like 28 = .ok (.aaload, 1) := by decide +kernel
theorem dX2_like_29 : decode cX2_like 29 = .ok (.astore 4, 2) := by decide +kernel
theorem dX2_like_31 : decode cX2_like 31 = .ok (.aload_n 3, 1) := by decide +kernel
theorem dX2_like_32 : decode cX2_like 32 = .ok (.invokevirtual 41, 3) := by decide +kernel
theorem dX2_like_35 : decode cX2_like 35 = .ok (.ifCond .ne 11, 3) := by decide +kernel
theorem dX2_like_38 : decode cX2_like 38 = .ok (.aload 4, 2) := by decide +kernel
theorem dX2_like_40 : decode cX2_like 40 = .ok (.invokevirtual 41, 3) := by decide +kernel
theorem dX2_like_43 : decode cX2_like 43 = .ok (.ifCond .eq 6, 3) := by decide +kernel
theorem dX2_like_46 : decode cX2_like 46 = .ok (.bipush (-11), 2) := by decide +kernel
theorem dX2_like_48 : decode cX2_like 48 = .ok (.ireturn, 1) := by decide +kernel
theorem dX2_like_49 : decode cX2_like 49 = .ok (.aload_n 3, 1) := by decide +kernel
theorem dX2_like_50 : decode cX2_like 50 = .ok (.aload 4, 2) := by decide +kernel
theorem dX2_like_52 : decode cX2_like 52 = .ok (.invokevirtual 153, 3) := by decide +kernel
theorem dX2_like_55 : decode cX2_like 55 = .ok (.ifCond .eq 7, 3) := by decide +kernel
theorem dX2_like_58 : decode cX2_like 58 = .ok (.iconst 1, 1) := by decide +kernel
theorem dX2_like_59 : decode cX2_like 59 = .ok (.goto 4, 3) := by decide +kernel
theorem dX2_like_62 : decode cX2_like 62 = .ok (.iconst 0, 1) := by decide +kernel
theorem dX2_like_63 : decode cX2_like 63 = .ok (.ireturn, 1) := by decide +kernel
theorem dX2_told_0 : decode cX2_told 0 = .ok (.iload_n 1, 1) := by decide +kernel
theorem dX2_told_1 : decode cX2_told 1 = .ok (.tableswitch 51 0 3 #[31, 36, 41, 46], 31) := by decide +kernel
theorem dX2_told_32 : decode cX2_told 32 = .ok (.aload_n 0, 1) := by decide +kernel
theorem dX2_told_33 : decode cX2_told 33 = .ok (.invokevirtual 157, 3) := by decide +kernel
theorem dX2_told_36 : decode cX2_told 36 = .ok (.ireturn, 1) := by decide +kernel
theorem dX2_told_37 : decode cX2_told 37 = .ok (.aload_n 0, 1) := by decide +kernel
theorem dX2_told_38 : decode cX2_told 38 = .ok (.invokevirtual 160, 3) := by decide +kernel
theorem dX2_told_41 : decode cX2_told 41 = .ok (.ireturn, 1) := by decide +kernel
theorem dX2_told_42 : decode cX2_told 42 = .ok (.aload_n 0, 1) := by decide +kernel
theorem dX2_told_43 : decode cX2_told 43 = .ok (.getfield 24, 3) := by decide +kernel
theorem dX2_told_46 : decode cX2_told 46 = .ok (.ireturn, 1) := by decide +kernel
theorem dX2_told_47 : decode cX2_told 47 = .ok (.aload_n 0, 1) := by decide +kernel
theorem dX2_told_48 : decode cX2_told 48 = .ok (.invokevirtual 163, 3) := by decide +kernel
theorem dX2_told_51 : decode cX2_told 51 = .ok (.ireturn, 1) := by decide +kernel
theorem dX2_told_52 : decode cX2_told 52 = .ok (.iconst (-1), 1) := by decide +kernel
theorem dX2_told_53 : decode cX2_told 53 = .ok (.ireturn, 1) := by decide +kernel
theorem dX2_isPlace_0 : decode cX2_isPlace 0 = .ok (.iload_n 0, 1) := by decide +kernel
theorem dX2_isPlace_1 : decode cX2_isPlace 1 = .ok (.ifCond .lt 13, 3) := by decide +kernel
theorem dX2_isPlace_4 : decode cX2_isPlace 4 = .ok (.iload_n 0, 1) := by decide +kernel
theorem dX2_isPlace_5 : decode cX2_isPlace 5 = .ok (.bipush 24, 2) := by decide +kernel
theorem dX2_isPlace_7 : decode cX2_isPlace 7 = .ok (.if_icmp .ge 7, 3) := by decide +kernel
theorem dX2_isPlace_10 : decode cX2_isPlace 10 = .ok (.iconst 1, 1) := by decide +kernel
theorem dX2_isPlace_11 : decode cX2_isPlace 11 = .ok (.goto 4, 3) := by decide +kernel
theorem dX2_isPlace_14 : decode cX2_isPlace 14 = .ok (.iconst 0, 1) := by decide +kernel
theorem dX2_isPlace_15 : decode cX2_isPlace 15 = .ok (.ireturn, 1) := by decide +kernel
theorem dX2_isMapping_0 : decode cX2_isMapping 0 = .ok (.iload_n 0, 1) := by decide +kernel
theorem dX2_isMapping_1 : decode cX2_isMapping 1 = .ok (.ifCond .lt 12, 3) := by decide +kernel
theorem dX2_isMapping_4 : decode cX2_isMapping 4 = .ok (.iload_n 0, 1) := by decide +kernel
theorem dX2_isMapping_5 : decode cX2_isMapping 5 = .ok (.iconst 4, 1) := by decide +kernel
theorem dX2_isMapping_6 : decode cX2_isMapping 6 = .ok (.if_icmp .ge 7, 3) := by decide +kernel
theorem dX2_isMapping_9 : decode cX2_isMapping 9 = .ok (.iconst 1, 1) := by decide +kernel
theorem dX2_isMapping_10 : decode cX2_isMapping 10 = .ok (.goto 4, 3) := by decide +kernel
theorem dX2_isMapping_13 : decode cX2_isMapping 13 = .ok (.iconst 0, 1) := by decide +kernel
theorem dX2_isMapping_14 : decode cX2_isMapping 14 = .ok (.ireturn, 1) := by decide +kernel
theorem dX2_isKindOfNumbers_0 : decode cX2_isKindOfNumbers 0 = .ok (.iload_n 0, 1) := by decide +kernel
theorem dX2_isKindOfNumbers_1 : decode cX2_isKindOfNumbers 1 = .ok (.ifCond .lt 13, 3) := by decide +kernel
theorem dX2_isKindOfNumbers_4 : decode cX2_isKindOfNumbers 4 = .ok (.iload_n 0, 1) := by decide +kernel
theorem dX2_isKindOfNumbers_5 : decode cX2_isKindOfNumbers 5 = .ok (.bipush 6, 2) := by decide +kernel
theorem dX2_isKindOfNumbers_7 : decode cX2_isKindOfNumbers 7 = .ok (.if_icmp .gt 7, 3) := by decide +kernel
theorem dX2_isKindOfNumbers_10 : decode cX2_isKindOfNumbers 10 = .ok (.iconst 1, 1) := by decide +kernel
theorem dX2_isKindOfNumbers_11 : decode cX2_isKindOfNumbers 11 = .ok (.goto 4, 3) := by decide +kernel
theorem dX2_isKindOfNumbers_14 : decode cX2_isKindOfNumbers 14 = .ok (.iconst 0, 1) := by decide +kernel
theorem dX2_isKindOfNumbers_15 : decode cX2_isKindOfNumbers 15 = .ok (.ireturn, 1) := by decide +kernel
theorem dX2_isPart_0 : decode cX2_isPart 0 = .ok (.iload_n 1, 1) := by decide +kernel
theorem dX2_isPart_1 : decode cX2_isPart 1 = .ok (.ifCond .lt 15, 3) := by decide +kernel
theorem dX2_isPart_4 : decode cX2_isPart 4 = .ok (.iload_n 1, 1) := by decide +kernel
theorem dX2_isPart_5 : decode cX2_isPart 5 = .ok (.aload_n 0, 1) := by decide +kernel
theorem dX2_isPart_6 : decode cX2_isPart 6 = .ok (.getfield 24, 3) := by decide +kernel
theorem dX2_isPart_9 : decode cX2_isPart 9 = .ok (.if_icmp .ge 7, 3) := by decide +kernel
theorem dX2_isPart_12 : decode cX2_isPart 12 = .ok (.iconst 1, 1) := by decide +kernel
theorem dX2_isPart_13 : decode cX2_isPart 13 = .ok (.goto 4, 3) := by decide +kernel
theorem dX2_isPart_16 : decode cX2_isPart 16 = .ok (.iconst 0, 1) := by decide +kernel
theorem dX2_isPart_17 : decode cX2_isPart 17 = .ok (.ireturn, 1) := by decide +kernel
theorem dX2_inWayOfCell_0 : decode cX2_inWayOfCell 0 = .ok (.iload_n 1, 1) := by decide +kernel
theorem dX2_inWayOfCell_1 : decode cX2_inWayOfCell 1 = .ok (.invokestatic 33, 3) := by decide +kernel
theorem dX2_inWayOfCell_4 : decode cX2_inWayOfCell 4 = .ok (.ifCond .ne 5, 3) := by decide +kernel
theorem dX2_inWayOfCell_7 : decode cX2_inWayOfCell 7 = .ok (.iconst (-1), 1) := by decide +kernel
theorem dX2_inWayOfCell_8 : decode cX2_inWayOfCell 8 = .ok (.ireturn, 1) := by decide +kernel
theorem dX2_inWayOfCell_9 : decode cX2_inWayOfCell 9 = .ok (.aload_n 0, 1) := by decide +kernel
theorem dX2_inWayOfCell_10 : decode cX2_inWayOfCell 10 = .ok (.getfield 11, 3) := by decide +kernel
theorem dX2_inWayOfCell_13 : decode cX2_inWayOfCell 13 = .ok (.iload_n 1, 1) := by decide +kernel
theorem dX2_inWayOfCell_14 : decode cX2_inWayOfCell 14 = .ok (.aaload, 1) := by decide +kernel
theorem dX2_inWayOfCell_15 : decode cX2_inWayOfCell 15 = .ok (.astore 4, 2) := by decide +kernel
theorem dX2_inWayOfCell_17 : decode cX2_inWayOfCell 17 = .ok (.aload 4, 2) := by decide +kernel
theorem dX2_inWayOfCell_19 : decode cX2_inWayOfCell 19 = .ok (.invokevirtual 51, 3) := by decide +kernel
theorem dX2_inWayOfCell_22 : decode cX2_inWayOfCell 22 = .ok (.ifCond .eq 6, 3) := by decide +kernel
theorem dX2_inWayOfCell_25 : decode cX2_inWayOfCell 25 = .ok (.bipush (-11), 2) := by decide +kernel
theorem dX2_inWayOfCell_27 : decode cX2_inWayOfCell 27 = .ok (.ireturn, 1) := by decide +kernel
theorem dX2_inWayOfCell_28 : decode cX2_inWayOfCell 28 = .ok (.aload 4, 2) := by decide +kernel
theorem dX2_inWayOfCell_30 : decode cX2_inWayOfCell 30 = .ok (.invokevirtual 77, 3) := by decide +kernel
theorem dX2_inWayOfCell_33 : decode cX2_inWayOfCell 33 = .ok (.iload_n 3, 1) := by decide +kernel
theorem dX2_inWayOfCell_34 : decode cX2_inWayOfCell 34 = .ok (.if_icmp .eq 6, 3) := by decide +kernel
theorem dX2_inWayOfCell_37 : decode cX2_inWayOfCell 37 = .ok (.bipush (-13), 2) := by decide +kernel
theorem dX2_inWayOfCell_39 : decode cX2_inWayOfCell 39 = .ok (.ireturn, 1) := by decide +kernel
theorem dX2_inWayOfCell_40 : decode cX2_inWayOfCell 40 = .ok (.aload 4, 2) := by decide +kernel
theorem dX2_inWayOfCell_42 : decode cX2_inWayOfCell 42 = .ok (.invokevirtual 41, 3) := by decide +kernel
theorem dX2_inWayOfCell_45 : decode cX2_inWayOfCell 45 = .ok (.ifCond .eq 6, 3) := by decide +kernel
theorem dX2_inWayOfCell_48 : decode cX2_inWayOfCell 48 = .ok (.bipush (-11), 2) := by decide +kernel
theorem dX2_inWayOfCell_50 : decode cX2_inWayOfCell 50 = .ok (.ireturn, 1) := by decide +kernel
theorem dX2_inWayOfCell_51 : decode cX2_inWayOfCell 51 = .ok (.aload 4, 2) := by decide +kernel
theorem dX2_inWayOfCell_53 : decode cX2_inWayOfCell 53 = .ok (.iload_n 2, 1) := by decide +kernel
theorem dX2_inWayOfCell_54 : decode cX2_inWayOfCell 54 = .ok (.invokevirtual 74, 3) := by decide +kernel
theorem dX2_inWayOfCell_57 : decode cX2_inWayOfCell 57 = .ok (.ifCond .eq 7, 3) := by decide +kernel
theorem dX2_inWayOfCell_60 : decode cX2_inWayOfCell 60 = .ok (.iconst 0, 1) := by decide +kernel
theorem dX2_inWayOfCell_61 : decode cX2_inWayOfCell 61 = .ok (.goto 5, 3) := by decide +kernel
theorem dX2_inWayOfCell_64 : decode cX2_inWayOfCell 64 = .ok (.bipush (-12), 2) := by decide +kernel
theorem dX2_inWayOfCell_66 : decode cX2_inWayOfCell 66 = .ok (.ireturn, 1) := by decide +kernel
theorem dX2_partLookedAt_0 : decode cX2_partLookedAt 0 = .ok (.aload_n 0, 1) := by decide +kernel
theorem dX2_partLookedAt_1 : decode cX2_partLookedAt 1 = .ok (.iload_n 1, 1) := by decide +kernel
theorem dX2_partLookedAt_2 : decode cX2_partLookedAt 2 = .ok (.iload_n 2, 1) := by decide +kernel
theorem dX2_partLookedAt_3 : decode cX2_partLookedAt 3 = .ok (.iconst 1, 1) := by decide +kernel
theorem dX2_partLookedAt_4 : decode cX2_partLookedAt 4 = .ok (.invokevirtual 60, 3) := by decide +kernel
theorem dX2_partLookedAt_7 : decode cX2_partLookedAt 7 = .ok (.istore_n 3, 1) := by decide +kernel
theorem dX2_partLookedAt_8 : decode cX2_partLookedAt 8 = .ok (.iload_n 3, 1) := by decide +kernel
theorem dX2_partLookedAt_9 : decode cX2_partLookedAt 9 = .ok (.ifCond .eq 5, 3) := by decide +kernel
theorem dX2_partLookedAt_12 : decode cX2_partLookedAt 12 = .ok (.iload_n 3, 1) := by decide +kernel
theorem dX2_partLookedAt_13 : decode cX2_partLookedAt 13 = .ok (.ireturn, 1) := by decide +kernel
theorem dX2_partLookedAt_14 : decode cX2_partLookedAt 14 = .ok (.aload_n 0, 1) := by decide +kernel
theorem dX2_partLookedAt_15 : decode cX2_partLookedAt 15 = .ok (.getfield 11, 3) := by decide +kernel
theorem dX2_partLookedAt_18 : decode cX2_partLookedAt 18 = .ok (.iload_n 1, 1) := by decide +kernel
theorem dX2_partLookedAt_19 : decode cX2_partLookedAt 19 = .ok (.aaload, 1) := by decide +kernel
theorem dX2_partLookedAt_20 : decode cX2_partLookedAt 20 = .ok (.iload_n 2, 1) := by decide +kernel
theorem dX2_partLookedAt_21 : decode cX2_partLookedAt 21 = .ok (.invokevirtual 80, 3) := by decide +kernel
theorem dX2_partLookedAt_24 : decode cX2_partLookedAt 24 = .ok (.istore 4, 2) := by decide +kernel
theorem dX2_partLookedAt_26 : decode cX2_partLookedAt 26 = .ok (.aload_n 0, 1) := by decide +kernel
theorem dX2_partLookedAt_27 : decode cX2_partLookedAt 27 = .ok (.iload 4, 2) := by decide +kernel
theorem dX2_partLookedAt_29 : decode cX2_partLookedAt 29 = .ok (.invokevirtual 103, 3) := by decide +kernel
theorem dX2_partLookedAt_32 : decode cX2_partLookedAt 32 = .ok (.ifCond .eq 8, 3) := by decide +kernel
theorem dX2_partLookedAt_35 : decode cX2_partLookedAt 35 = .ok (.iload 4, 2) := by decide +kernel
theorem dX2_partLookedAt_37 : decode cX2_partLookedAt 37 = .ok (.goto 5, 3) := by decide +kernel
theorem dX2_partLookedAt_40 : decode cX2_partLookedAt 40 = .ok (.bipush (-11), 2) := by decide +kernel
theorem dX2_partLookedAt_42 : decode cX2_partLookedAt 42 = .ok (.ireturn, 1) := by decide +kernel
theorem dX2_isForPart_0 : decode cX2_isForPart 0 = .ok (.aload_n 0, 1) := by decide +kernel
theorem dX2_isForPart_1 : decode cX2_isForPart 1 = .ok (.iload_n 2, 1) := by decide +kernel
theorem dX2_isForPart_2 : decode cX2_isForPart 2 = .ok (.invokevirtual 103, 3) := by decide +kernel
theorem dX2_isForPart_5 : decode cX2_isForPart 5 = .ok (.ifCond .eq 19, 3) := by decide +kernel
theorem dX2_isForPart_8 : decode cX2_isForPart 8 = .ok (.aload_n 1, 1) := by decide +kernel
theorem dX2_isForPart_9 : decode cX2_isForPart 9 = .ok (.aload_n 0, 1) := by decide +kernel
theorem dX2_isForPart_10 : decode cX2_isForPart 10 = .ok (.getfield 20, 3) := by decide +kernel
theorem dX2_isForPart_13 : decode cX2_isForPart 13 = .ok (.iload_n 2, 1) := by decide +kernel
theorem dX2_isForPart_14 : decode cX2_isForPart 14 = .ok (.aaload, 1) := by decide +kernel
theorem dX2_isForPart_15 : decode cX2_isForPart 15 = .ok (.getfield 123, 3) := by decide +kernel
theorem dX2_isForPart_18 : decode cX2_isForPart 18 = .ok (.invokevirtual 166, 3) := by decide +kernel
theorem dX2_isForPart_21 : decode cX2_isForPart 21 = .ok (.ifCond .eq 7, 3) := by decide +kernel
theorem dX2_isForPart_24 : decode cX2_isForPart 24 = .ok (.iconst 1, 1) := by decide +kernel
theorem dX2_isForPart_25 : decode cX2_isForPart 25 = .ok (.goto 4, 3) := by decide +kernel
theorem dX2_isForPart_28 : decode cX2_isForPart 28 = .ok (.iconst 0, 1) := by decide +kernel
theorem dX2_isForPart_29 : decode cX2_isForPart 29 = .ok (.ireturn, 1) := by decide +kernel
theorem dX2_takeParts_0 : decode cX2_takeParts 0 = .ok (.iconst 0, 1) := by decide +kernel
theorem dX2_takeParts_1 : decode cX2_takeParts 1 = .ok (.istore 6, 2) := by decide +kernel
theorem dX2_takeParts_3 : decode cX2_takeParts 3 = .ok (.iload 6, 2) := by decide +kernel
theorem dX2_takeParts_5 : decode cX2_takeParts 5 = .ok (.iload 5, 2) := by decide +kernel
theorem dX2_takeParts_7 : decode cX2_takeParts 7 = .ok (.if_icmp .ge 43, 3) := by decide +kernel
theorem dX2_takeParts_10 : decode cX2_takeParts 10 = .ok (.aload_n 1, 1) := by decide +kernel
theorem dX2_takeParts_11 : decode cX2_takeParts 11 = .ok (.iload_n 2, 1) := by decide +kernel
theorem dX2_takeParts_12 : decode cX2_takeParts 12 = .ok (.iload 6, 2) := by decide +kernel
theorem dX2_takeParts_14 : decode cX2_takeParts 14 = .ok (.iadd, 1) := by decide +kernel
theorem dX2_takeParts_15 : decode cX2_takeParts 15 = .ok (.invokevirtual 80, 3) := by decide +kernel
theorem dX2_takeParts_18 : decode cX2_takeParts 18 = .ok (.istore 7, 2) := by decide +kernel
theorem dX2_takeParts_20 : decode cX2_takeParts 20 = .ok (.aload_n 0, 1) := by decide +kernel
theorem dX2_takeParts_21 : decode cX2_takeParts 21 = .ok (.aload_n 3, 1) := by decide +kernel
theorem dX2_takeParts_22 : decode cX2_takeParts 22 = .ok (.iload 7, 2) := by decide +kernel
theorem dX2_takeParts_24 : decode cX2_takeParts 24 = .ok (.invokevirtual 106, 3) := by decide +kernel
theorem dX2_takeParts_27 : decode cX2_takeParts 27 = .ok (.ifCond .ne 6, 3) := by decide +kernel
theorem dX2_takeParts_30 : decode cX2_takeParts 30 = .ok (.iload 6, 2) := by decide +kernel
theorem dX2_takeParts_32 : decode cX2_takeParts 32 = .ok (.ireturn, 1) := by decide +kernel
theorem dX2_takeParts_33 : decode cX2_takeParts 33 = .ok (.aload_n 3, 1) := by decide +kernel
theorem dX2_takeParts_34 : decode cX2_takeParts 34 = .ok (.iload 4, 2) := by decide +kernel
theorem dX2_takeParts_36 : decode cX2_takeParts 36 = .ok (.iload 6, 2) := by decide +kernel
theorem dX2_takeParts_38 : decode cX2_takeParts 38 = .ok (.iadd, 1) := by decide +kernel
theorem dX2_takeParts_39 : decode cX2_takeParts 39 = .ok (.iload 7, 2) := by decide +kernel
theorem dX2_takeParts_41 : decode cX2_takeParts 41 = .ok (.invokevirtual 110, 3) := by decide +kernel
theorem dX2_takeParts_44 : decode cX2_takeParts 44 = .ok (.iinc 6 1, 3) := by decide +kernel
theorem dX2_takeParts_47 : decode cX2_takeParts 47 = .ok (.goto (-44), 3) := by decide +kernel
theorem dX2_takeParts_50 : decode cX2_takeParts 50 = .ok (.iload 5, 2) := by decide +kernel
theorem dX2_takeParts_52 : decode cX2_takeParts 52 = .ok (.ireturn, 1) := by decide +kernel
theorem dX2_moveByDigit_0 : decode cX2_moveByDigit 0 = .ok (.iload_n 2, 1) := by decide +kernel
theorem dX2_moveByDigit_1 : decode cX2_moveByDigit 1 = .ok (.ifCond .lt 22, 3) := by decide +kernel
theorem dX2_moveByDigit_4 : decode cX2_moveByDigit 4 = .ok (.iload_n 2, 1) := by decide +kernel
theorem dX2_moveByDigit_5 : decode cX2_moveByDigit 5 = .ok (.bipush 6, 2) := by decide +kernel
theorem dX2_moveByDigit_7 : decode cX2_moveByDigit 7 = .ok (.if_icmp .ge 16, 3) := by decide +kernel
theorem dX2_moveByDigit_10 : decode cX2_moveByDigit 10 = .ok (.aload_n 1, 1) := by decide +kernel
theorem dX2_moveByDigit_11 : decode cX2_moveByDigit 11 = .ok (.aload_n 0, 1) := by decide +kernel
theorem dX2_moveByDigit_12 : decode cX2_moveByDigit 12 = .ok (.getfield 15, 3) := by decide +kernel
theorem dX2_moveByDigit_15 : decode cX2_moveByDigit 15 = .ok (.iload_n 2, 1) := by decide +kernel
theorem dX2_moveByDigit_16 : decode cX2_moveByDigit 16 = .ok (.aaload, 1) := by decide +kernel
theorem dX2_moveByDigit_17 : decode cX2_moveByDigit 17 = .ok (.invokevirtual 145, 3) := by decide +kernel
theorem dX2_moveByDigit_20 : decode cX2_moveByDigit 20 = .ok (.goto 13, 3) := by decide +kernel
theorem dX2_moveByDigit_23 : decode cX2_moveByDigit 23 = .ok (.iload_n 2, 1) := by decide +kernel
theorem dX2_moveByDigit_24 : decode cX2_moveByDigit 24 = .ok (.bipush 6, 2) := by decide +kernel
theorem dX2_moveByDigit_26 : decode cX2_moveByDigit 26 = .ok (.if_icmp .ne 7, 3) := by decide +kernel
theorem dX2_moveByDigit_29 : decode cX2_moveByDigit 29 = .ok (.aload_n 1, 1) := by decide +kernel
theorem dX2_moveByDigit_30 : decode cX2_moveByDigit 30 = .ok (.invokevirtual 54, 3) := by decide +kernel
theorem dX2_moveByDigit_33 : decode cX2_moveByDigit 33 = .ok (.return_, 1) := by decide +kernel
theorem dX2_countColumns_0 : decode cX2_countColumns 0 = .ok (.iconst 0, 1) := by decide +kernel
theorem dX2_countColumns_1 : decode cX2_countColumns 1 = .ok (.istore_n 1, 1) := by decide +kernel
theorem dX2_countColumns_2 : decode cX2_countColumns 2 = .ok (.iconst 0, 1) := by decide +kernel
theorem dX2_countColumns_3 : decode cX2_countColumns 3 = .ok (.istore_n 2, 1) := by decide +kernel
theorem dX2_countColumns_4 : decode cX2_countColumns 4 = .ok (.iload_n 2, 1) := by decide +kernel
theorem dX2_countColumns_5 : decode cX2_countColumns 5 = .ok (.bipush 24, 2) := by decide +kernel
theorem dX2_countColumns_7 : decode cX2_countColumns 7 = .ok (.if_icmp .ge 29, 3) := by decide +kernel
theorem dX2_countColumns_10 : decode cX2_countColumns 10 = .ok (.iload_n 1, 1) := by decide +kernel
theorem dX2_countColumns_11 : decode cX2_countColumns 11 = .ok (.aload_n 0, 1) := by decide +kernel
theorem dX2_countColumns_12 : decode cX2_countColumns 12 = .ok (.getfield 11, 3) := by decide +kernel
theorem dX2_countColumns_15 : decode cX2_countColumns 15 = .ok (.iload_n 2, 1) := by decide +kernel
theorem dX2_countColumns_16 : decode cX2_countColumns 16 = .ok (.aaload, 1) := by decide +kernel
theorem dX2_countColumns_17 : decode cX2_countColumns 17 = .ok (.invokevirtual 51, 3) := by decide +kernel
theorem dX2_countColumns_20 : decode cX2_countColumns 20 = .ok (.ifCond .eq 7, 3) := by decide +kernel
theorem dX2_countColumns_23 : decode cX2_countColumns 23 = .ok (.iconst 0, 1) := by decide +kernel
theorem dX2_countColumns_24 : decode cX2_countColumns 24 = .ok (.goto 4, 3) := by decide +kernel
theorem dX2_countColumns_27 : decode cX2_countColumns 27 = .ok (.iconst 1, 1) := by decide +kernel
theorem dX2_countColumns_28 : decode cX2_countColumns 28 = .ok (.iadd, 1) := by decide +kernel
theorem dX2_countColumns_29 : decode cX2_countColumns 29 = .ok (.istore_n 1, 1) := by decide +kernel
theorem dX2_countColumns_30 : decode cX2_countColumns 30 = .ok (.iinc 2 1, 3) := by decide +kernel
theorem dX2_countColumns_33 : decode cX2_countColumns 33 = .ok (.goto (-29), 3) := by decide +kernel
theorem dX2_countColumns_36 : decode cX2_countColumns 36 = .ok (.iload_n 1, 1) := by decide +kernel
theorem dX2_countColumns_37 : decode cX2_countColumns 37 = .ok (.ireturn, 1) := by decide +kernel
theorem dX2_countCells_0 : decode cX2_countCells 0 = .ok (.iconst 0, 1) := by decide +kernel
theorem dX2_countCells_1 : decode cX2_countCells 1 = .ok (.istore_n 1, 1) := by decide +kernel
theorem dX2_countCells_2 : decode cX2_countCells 2 = .ok (.iconst 0, 1) := by decide +kernel
theorem dX2_countCells_3 : decode cX2_countCells 3 = .ok (.istore_n 2, 1) := by decide +kernel
theorem dX2_countCells_4 : decode cX2_countCells 4 = .ok (.iload_n 2, 1) := by decide +kernel
theorem dX2_countCells_5 : decode cX2_countCells 5 = .ok (.bipush 24, 2) := by decide +kernel
theorem dX2_countCells_7 : decode cX2_countCells 7 = .ok (.if_icmp .ge 37, 3) := by decide +kernel
theorem dX2_countCells_10 : decode cX2_countCells 10 = .ok (.iload_n 1, 1) := by decide +kernel
theorem dX2_countCells_11 : decode cX2_countCells 11 = .ok (.aload_n 0, 1) := by decide +kernel
theorem dX2_countCells_12 : decode cX2_countCells 12 = .ok (.getfield 11, 3) := by decide +kernel
theorem dX2_countCells_15 : decode cX2_countCells 15 = .ok (.iload_n 2, 1) := by decide +kernel
theorem dX2_countCells_16 : decode cX2_countCells 16 = .ok (.aaload, 1) := by decide +kernel
theorem dX2_countCells_17 : decode cX2_countCells 17 = .ok (.invokevirtual 41, 3) := by decide +kernel
theorem dX2_countCells_20 : decode cX2_countCells 20 = .ok (.ifCond .eq 7, 3) := by decide +kernel
theorem dX2_countCells_23 : decode cX2_countCells 23 = .ok (.iconst 0, 1) := by decide +kernel
theorem dX2_countCells_24 : decode cX2_countCells 24 = .ok (.goto 12, 3) := by decide +kernel
theorem dX2_countCells_27 : decode cX2_countCells 27 = .ok (.aload_n 0, 1) := by decide +kernel
theorem dX2_countCells_28 : decode cX2_countCells 28 = .ok (.getfield 11, 3) := by decide +kernel
theorem dX2_countCells_31 : decode cX2_countCells 31 = .ok (.iload_n 2, 1) := by decide +kernel
theorem dX2_countCells_32 : decode cX2_countCells 32 = .ok (.aaload, 1) := by decide +kernel
theorem dX2_countCells_33 : decode cX2_countCells 33 = .ok (.getfield 45, 3) := by decide +kernel
theorem dX2_countCells_36 : decode cX2_countCells 36 = .ok (.iadd, 1) := by decide +kernel
theorem dX2_countCells_37 : decode cX2_countCells 37 = .ok (.istore_n 1, 1) := by decide +kernel
theorem dX2_countCells_38 : decode cX2_countCells 38 = .ok (.iinc 2 1, 3) := by decide +kernel
theorem dX2_countCells_41 : decode cX2_countCells 41 = .ok (.goto (-37), 3) := by decide +kernel
theorem dX2_countCells_44 : decode cX2_countCells 44 = .ok (.iload_n 1, 1) := by decide +kernel
theorem dX2_countCells_45 : decode cX2_countCells 45 = .ok (.ireturn, 1) := by decide +kernel
theorem dX2_countHeld_0 : decode cX2_countHeld 0 = .ok (.iconst 0, 1) := by decide +kernel
theorem dX2_countHeld_1 : decode cX2_countHeld 1 = .ok (.istore_n 1, 1) := by decide +kernel
theorem dX2_countHeld_2 : decode cX2_countHeld 2 = .ok (.iconst 0, 1) := by decide +kernel
theorem dX2_countHeld_3 : decode cX2_countHeld 3 = .ok (.istore_n 2, 1) := by decide +kernel
theorem dX2_countHeld_4 : decode cX2_countHeld 4 = .ok (.iload_n 2, 1) := by decide +kernel
theorem dX2_countHeld_5 : decode cX2_countHeld 5 = .ok (.bipush 24, 2) := by decide +kernel
theorem dX2_countHeld_7 : decode cX2_countHeld 7 = .ok (.if_icmp .ge 21, 3) := by decide +kernel
theorem dX2_countHeld_10 : decode cX2_countHeld 10 = .ok (.iload_n 1, 1) := by decide +kernel
theorem dX2_countHeld_11 : decode cX2_countHeld 11 = .ok (.aload_n 0, 1) := by decide +kernel
theorem dX2_countHeld_12 : decode cX2_countHeld 12 = .ok (.getfield 11, 3) := by decide +kernel
theorem dX2_countHeld_15 : decode cX2_countHeld 15 = .ok (.iload_n 2, 1) := by decide +kernel
theorem dX2_countHeld_16 : decode cX2_countHeld 16 = .ok (.aaload, 1) := by decide +kernel
theorem dX2_countHeld_17 : decode cX2_countHeld 17 = .ok (.invokevirtual 169, 3) := by decide +kernel
theorem dX2_countHeld_20 : decode cX2_countHeld 20 = .ok (.iadd, 1) := by decide +kernel
theorem dX2_countHeld_21 : decode cX2_countHeld 21 = .ok (.istore_n 1, 1) := by decide +kernel
theorem dX2_countHeld_22 : decode cX2_countHeld 22 = .ok (.iinc 2 1, 3) := by decide +kernel
theorem dX2_countHeld_25 : decode cX2_countHeld 25 = .ok (.goto (-21), 3) := by decide +kernel
theorem dX2_countHeld_28 : decode cX2_countHeld 28 = .ok (.iload_n 1, 1) := by decide +kernel
theorem dX2_countHeld_29 : decode cX2_countHeld 29 = .ok (.ireturn, 1) := by decide +kernel
theorem dX3_init_0 : decode cX3_init 0 = .ok (.aload_n 0, 1) := by decide +kernel
theorem dX3_init_1 : decode cX3_init 1 = .ok (.invokespecial 1, 3) := by decide +kernel
theorem dX3_init_4 : decode cX3_init 4 = .ok (.aload_n 0, 1) := by decide +kernel
theorem dX3_init_5 : decode cX3_init 5 = .ok (.bipush 24, 2) := by decide +kernel
theorem dX3_init_7 : decode cX3_init 7 = .ok (.newarray .int, 2) := by decide +kernel
theorem dX3_init_9 : decode cX3_init 9 = .ok (.putfield 7, 3) := by decide +kernel
theorem dX3_init_12 : decode cX3_init 12 = .ok (.aload_n 0, 1) := by decide +kernel
theorem dX3_init_13 : decode cX3_init 13 = .ok (.bipush 24, 2) := by decide +kernel
theorem dX3_init_15 : decode cX3_init 15 = .ok (.newarray .int, 2) := by decide +kernel
theorem dX3_init_17 : decode cX3_init 17 = .ok (.putfield 13, 3) := by decide +kernel
theorem dX3_init_20 : decode cX3_init 20 = .ok (.aload_n 0, 1) := by decide +kernel
theorem dX3_init_21 : decode cX3_init 21 = .ok (.bipush 24, 2) := by decide +kernel
theorem dX3_init_23 : decode cX3_init 23 = .ok (.newarray .boolean, 2) := by decide +kernel
theorem dX3_init_25 : decode cX3_init 25 = .ok (.putfield 16, 3) := by decide +kernel
theorem dX3_init_28 : decode cX3_init 28 = .ok (.aload_n 0, 1) := by decide +kernel
theorem dX3_init_29 : decode cX3_init 29 = .ok (.sipush 960, 3) := by decide +kernel
theorem dX3_init_32 : decode cX3_init 32 = .ok (.newarray .long, 2) := by decide +kernel
theorem dX3_init_34 : decode cX3_init 34 = .ok (.putfield 20, 3) := by decide +kernel
theorem dX3_init_37 : decode cX3_init 37 = .ok (.aload_n 0, 1) := by decide +kernel
theorem dX3_init_38 : decode cX3_init 38 = .ok (.sipush 960, 3) := by decide +kernel
theorem dX3_init_41 : decode cX3_init 41 = .ok (.newarray .double, 2) := by decide +kernel
theorem dX3_init_43 : decode cX3_init 43 = .ok (.putfield 24, 3) := by decide +kernel
theorem dX3_init_46 : decode cX3_init 46 = .ok (.aload_n 0, 1) := by decide +kernel
theorem dX3_init_47 : decode cX3_init 47 = .ok (.bipush 6, 2) := by decide +kernel
theorem dX3_init_49 : decode cX3_init 49 = .ok (.newarray .int, 2) := by decide +kernel
theorem dX3_init_51 : decode cX3_init 51 = .ok (.putfield 28, 3) := by decide +kernel
theorem dX3_init_54 : decode cX3_init 54 = .ok (.aload_n 0, 1) := by decide +kernel
theorem dX3_init_55 : decode cX3_init 55 = .ok (.bipush 6, 2) := by decide +kernel
theorem dX3_init_57 : decode cX3_init 57 = .ok (.newarray .int, 2) := by decide +kernel
theorem dX3_init_59 : decode cX3_init 59 = .ok (.putfield 31, 3) := by decide +kernel
theorem dX3_init_62 : decode cX3_init 62 = .ok (.aload_n 0, 1) := by decide +kernel
theorem dX3_init_63 : decode cX3_init 63 = .ok (.bipush 6, 2) := by decide +kernel
theorem dX3_init_65 : decode cX3_init 65 = .ok (.newarray .boolean, 2) := by decide +kernel
theorem dX3_init_67 : decode cX3_init 67 = .ok (.putfield 34, 3) := by decide +kernel
theorem dX3_init_70 : decode cX3_init 70 = .ok (.aload_n 0, 1) := by decide +kernel
theorem dX3_init_71 : decode cX3_init 71 = .ok (.sipush 240, 3) := by decide +kernel
theorem dX3_init_74 : decode cX3_init 74 = .ok (.newarray .long, 2) := by decide +kernel
theorem dX3_init_76 : decode cX3_init 76 = .ok (.putfield 37, 3) := by decide +kernel
theorem dX3_init_79 : decode cX3_init 79 = .ok (.aload_n 0, 1) := by decide +kernel
theorem dX3_init_80 : decode cX3_init 80 = .ok (.sipush 240, 3) := by decide +kernel
theorem dX3_init_83 : decode cX3_init 83 = .ok (.newarray .double, 2) := by decide +kernel
theorem dX3_init_85 : decode cX3_init 85 = .ok (.putfield 40, 3) := by decide +kernel
theorem dX3_init_88 : decode cX3_init 88 = .ok (.aload_n 0, 1) := by decide +kernel
theorem dX3_init_89 : decode cX3_init 89 = .ok (.bipush 40, 2) := by decide +kernel
theorem dX3_init_91 : decode cX3_init 91 = .ok (.newarray .int, 2) := by decide +kernel
theorem dX3_init_93 : decode cX3_init 93 = .ok (.putfield 43, 3) := by decide +kernel
theorem dX3_init_96 : decode cX3_init 96 = .ok (.aload_n 0, 1) := by decide +kernel
theorem dX3_init_97 : decode cX3_init 97 = .ok (.bipush 40, 2) := by decide +kernel
theorem dX3_init_99 : decode cX3_init 99 = .ok (.newarray .int, 2) := by decide +kernel
theorem dX3_init_101 : decode cX3_init 101 = .ok (.putfield 46, 3) := by decide +kernel
theorem dX3_init_104 : decode cX3_init 104 = .ok (.aload_n 0, 1) := by decide +kernel
theorem dX3_init_105 : decode cX3_init 105 = .ok (.bipush 40, 2) := by decide +kernel
theorem dX3_init_107 : decode cX3_init 107 = .ok (.newarray .int, 2) := by decide +kernel
theorem dX3_init_109 : decode cX3_init 109 = .ok (.putfield 49, 3) := by decide +kernel
theorem dX3_init_112 : decode cX3_init 112 = .ok (.aload_n 0, 1) := by decide +kernel
theorem dX3_init_113 : decode cX3_init 113 = .ok (.bipush 40, 2) := by decide +kernel
theorem dX3_init_115 : decode cX3_init 115 = .ok (.newarray .int, 2) := by decide +kernel
theorem dX3_init_117 : decode cX3_init 117 = .ok (.putfield 52, 3) := by decide +kernel
theorem dX3_init_120 : decode cX3_init 120 = .ok (.iconst 0, 1) := by decide +kernel
theorem dX3_init_121 : decode cX3_init 121 = .ok (.istore_n 1, 1) := by decide +kernel
theorem dX3_init_122 : decode cX3_init 122 = .ok (.iload_n 1, 1) := by decide +kernel
theorem dX3_init_123 : decode cX3_init 123 = .ok (.bipush 24, 2) := by decide +kernel
theorem dX3_init_125 : decode cX3_init 125 = .ok (.if_icmp .ge 16, 3) := by decide +kernel
theorem dX3_init_128 : decode cX3_init 128 = .ok (.aload_n 0, 1) := by decide +kernel
theorem dX3_init_129 : decode cX3_init 129 = .ok (.getfield 7, 3) := by decide +kernel
theorem dX3_init_132 : decode cX3_init 132 = .ok (.iload_n 1, 1) := by decide +kernel
theorem dX3_init_133 : decode cX3_init 133 = .ok (.iconst (-1), 1) := by decide +kernel
theorem dX3_init_134 : decode cX3_init 134 = .ok (.iastore, 1) := by decide +kernel
theorem dX3_init_135 : decode cX3_init 135 = .ok (.iinc 1 1, 3) := by decide +kernel
theorem dX3_init_138 : decode cX3_init 138 = .ok (.goto (-16), 3) := by decide +kernel
theorem dX3_init_141 : decode cX3_init 141 = .ok (.return_, 1) := by decide +kernel
theorem dX3_thrown_0 : decode cX3_thrown 0 = .ok (.aload_n 0, 1) := by decide +kernel
theorem dX3_thrown_1 : decode cX3_thrown 1 = .ok (.getfield 55, 3) := by decide +kernel
theorem dX3_thrown_4 : decode cX3_thrown 4 = .ok (.ireturn, 1) := by decide +kernel
theorem dX3_in_0 : decode cX3_in 0 = .ok (.iload_n 0, 1) := by decide +kernel
theorem dX3_in_1 : decode cX3_in 1 = .ok (.iload_n 1, 1) := by decide +kernel
theorem dX3_in_2 : decode cX3_in 2 = .ok (.if_icmp .lt 12, 3) := by decide +kernel
theorem dX3_in_5 : decode cX3_in 5 = .ok (.iload_n 0, 1) := by decide +kernel
theorem dX3_in_6 : decode cX3_in 6 = .ok (.iload_n 2, 1) := by decide +kernel
theorem dX3_in_7 : decode cX3_in 7 = .ok (.if_icmp .gt 7, 3) := by decide +kernel
theorem dX3_in_10 : decode cX3_in 10 = .ok (.iconst 1, 1) := by decide +kernel
theorem dX3_in_11 : decode cX3_in 11 = .ok (.goto 4, 3) := by decide +kernel
theorem dX3_in_14 : decode cX3_in 14 = .ok (.iconst 0, 1) := by decide +kernel
theorem dX3_in_15 : decode cX3_in 15 = .ok (.ireturn, 1) := by decide +kernel
theorem dX3_isPlace_0 : decode cX3_isPlace 0 = .ok (.iload_n 0, 1) := by decide +kernel
theorem dX3_isPlace_1 : decode cX3_isPlace 1 = .ok (.iconst 0, 1) := by decide +kernel
theorem dX3_isPlace_2 : decode cX3_isPlace 2 = .ok (.bipush 23, 2) := by decide +kernel
theorem dX3_isPlace_4 : decode cX3_isPlace 4 = .ok (.invokestatic 59, 3) := by decide +kernel
theorem dX3_isPlace_7 : decode cX3_isPlace 7 = .ok (.ireturn, 1) := by decide +kernel
theorem dX3_has_0 : decode cX3_has 0 = .ok (.iload_n 2, 1) := by decide +kernel
theorem dX3_has_1 : decode cX3_has 1 = .ok (.ifCond .lt 17, 3) := by decide +kernel
theorem dX3_has_4 : decode cX3_has 4 = .ok (.iload_n 2, 1) := by decide +kernel
theorem dX3_has_5 : decode cX3_has 5 = .ok (.aload_n 0, 1) := by decide +kernel
theorem dX3_has_6 : decode cX3_has 6 = .ok (.getfield 13, 3) := by decide +kernel
theorem dX3_has_9 : decode cX3_has 9 = .ok (.iload_n 1, 1) := by decide +kernel
theorem dX3_has_10 : decode cX3_has 10 = .ok (.iaload, 1) := by decide +kernel
theorem dX3_has_11 : decode cX3_has 11 = .ok (.if_icmp .ge 7, 3) := by decide +kernel
theorem dX3_has_14 : decode cX3_has 14 = .ok (.iconst 1, 1) := by decide +kernel
theorem dX3_has_15 : decode cX3_has 15 = .ok (.goto 4, 3) := by decide +kernel
theorem dX3_has_18 : decode cX3_has 18 = .ok (.iconst 0, 1) := by decide +kernel
theorem dX3_has_19 : decode cX3_has 19 = .ok (.ireturn, 1) := by decide +kernel
theorem dX3_way_0 : decode cX3_way 0 = .ok (.aload_n 0, 1) := by decide +kernel
theorem dX3_way_1 : decode cX3_way 1 = .ok (.getfield 7, 3) := by decide +kernel
theorem dX3_way_4 : decode cX3_way 4 = .ok (.iload_n 1, 1) := by decide +kernel
theorem dX3_way_5 : decode cX3_way 5 = .ok (.iaload, 1) := by decide +kernel
theorem dX3_way_6 : decode cX3_way 6 = .ok (.iconst (-1), 1) := by decide +kernel
theorem dX3_way_7 : decode cX3_way 7 = .ok (.if_icmp .ne 6, 3) := by decide +kernel
theorem dX3_way_10 : decode cX3_way 10 = .ok (.bipush (-11), 2) := by decide +kernel
theorem dX3_way_12 : decode cX3_way 12 = .ok (.ireturn, 1) := by decide +kernel
theorem dX3_way_13 : decode cX3_way 13 = .ok (.aload_n 0, 1) := by decide +kernel
theorem dX3_way_14 : decode cX3_way 14 = .ok (.getfield 7, 3) := by decide +kernel
theorem dX3_way_17 : decode cX3_way 17 = .ok (.iload_n 1, 1) := by decide +kernel
theorem dX3_way_18 : decode cX3_way 18 = .ok (.iaload, 1) := by decide +kernel
theorem dX3_way_19 : decode cX3_way 19 = .ok (.bipush 7, 2) := by decide +kernel
theorem dX3_way_21 : decode cX3_way 21 = .ok (.if_icmp .lt 7, 3) := by decide +kernel
theorem dX3_way_24 : decode cX3_way 24 = .ok (.iconst 1, 1) := by decide +kernel
theorem dX3_way_25 : decode cX3_way 25 = .ok (.goto 4, 3) := by decide +kernel
theorem dX3_way_28 : decode cX3_way 28 = .ok (.iconst 0, 1) := by decide +kernel
theorem dX3_way_29 : decode cX3_way 29 = .ok (.iload_n 2, 1) := by decide +kernel
theorem dX3_way_30 : decode cX3_way 30 = .ok (.if_icmp .eq 6, 3) := by decide +kernel
theorem dX3_way_33 : decode cX3_way 33 = .ok (.bipush (-13), 2) := by decide +kernel
theorem dX3_way_35 : decode cX3_way 35 = .ok (.ireturn, 1) := by decide +kernel
theorem dX3_way_36 : decode cX3_way 36 = .ok (.aload_n 0, 1) := by decide +kernel
theorem dX3_way_37 : decode cX3_way 37 = .ok (.getfield 16, 3) := by decide +kernel
theorem dX3_way_40 : decode cX3_way 40 = .ok (.iload_n 1, 1) := by decide +kernel
theorem dX3_way_41 : decode cX3_way 41 = .ok (.baload, 1) := by decide +kernel
theorem dX3_way_42 : decode cX3_way 42 = .ok (.ifCond .eq 8, 3) := by decide +kernel
theorem dX3_way_45 : decode cX3_way 45 = .ok (.bipush (-11), 2) := by decide +kernel
theorem dX3_way_47 : decode cX3_way 47 = .ok (.goto 4, 3) := by decide +kernel
theorem dX3_way_50 : decode cX3_way 50 = .ok (.iconst 0, 1) := by decide +kernel
theorem dX3_way_51 : decode cX3_way 51 = .ok (.ireturn, 1) := by decide +kernel
theorem dX3_isNone_0 : decode cX3_isNone 0 = .ok (.aload_n 0, 1) := by decide +kernel
theorem dX3_isNone_1 : decode cX3_isNone 1 = .ok (.getfield 7, 3) := by decide +kernel
theorem dX3_isNone_4 : decode cX3_isNone 4 = .ok (.iload_n 1, 1) := by decide +kernel
theorem dX3_isNone_5 : decode cX3_isNone 5 = .ok (.iaload, 1) := by decide +kernel
theorem dX3_isNone_6 : decode cX3_isNone 6 = .ok (.iconst (-1), 1) := by decide +kernel
theorem dX3_isNone_7 : decode cX3_isNone 7 = .ok (.if_icmp .eq 12, 3) := by decide +kernel
theorem dX3_isNone_10 : decode cX3_isNone 10 = .ok (.aload_n 0, 1) := by decide +kernel
theorem dX3_isNone_11 : decode cX3_isNone 11 = .ok (.getfield 16, 3) := by decide +kernel
theorem dX3_isNone_14 : decode cX3_isNone 14 = .ok (.iload_n 1, 1) := by decide +kernel
theorem dX3_isNone_15 : decode cX3_isNone 15 = .ok (.baload, 1) := by decide +kernel
theorem dX3_isNone_16 : decode cX3_isNone 16 = .ok (.ifCond .eq 7, 3) := by decide +kernel
theorem dX3_isNone_19 : decode cX3_isNone 19 = .ok (.iconst 1, 1) := by decide +kernel
theorem dX3_isNone_20 : decode cX3_isNone 20 = .ok (.goto 4, 3) := by decide +kernel
theorem dX3_isNone_23 : decode cX3_isNone 23 = .ok (.iconst 0, 1) := by decide +kernel
theorem dX3_isNone_24 : decode cX3_isNone 24 = .ok (.ireturn, 1) := by decide +kernel
theorem dX3_make_0 : decode cX3_make 0 = .ok (.aload_n 0, 1) := by decide +kernel
theorem dX3_make_1 : decode cX3_make 1 = .ok (.iconst 0, 1) := by decide +kernel
theorem dX3_make_2 : decode cX3_make 2 = .ok (.putfield 55, 3) := by decide +kernel
theorem dX3_make_5 : decode cX3_make 5 = .ok (.iload_n 1, 1) := by decide +kernel
theorem dX3_make_6 : decode cX3_make 6 = .ok (.invokestatic 63, 3) := by decide +kernel
theorem dX3_make_9 : decode cX3_make 9 = .ok (.ifCond .eq 19, 3) := by decide +kernel
theorem dX3_make_12 : decode cX3_make 12 = .ok (.iload_n 2, 1) := by decide +kernel
theorem dX3_make_13 : decode cX3_make 13 = .ok (.iconst 0, 1) := by decide +kernel
theorem dX3_make_14 : decode cX3_make 14 = .ok (.bipush 9, 2) := by decide +kernel
theorem dX3_make_16 : decode cX3_make 16 = .ok (.invokestatic 59, 3) := by decide +kernel
theorem dX3_make_19 : decode cX3_make 19 = .ok (.ifCond .eq 9, 3) := by decide +kernel
theorem dX3_make_22 : decode cX3_make 22 = .ok (.iload_n 3, 1) := by decide +kernel
theorem dX3_make_23 : decode cX3_make 23 = .ok (.bipush 40, 2) := by decide +kernel
theorem dX3_make_25 : decode cX3_make 25 = .ok (.if_icmp .le 5, 3) := by decide +kernel
theorem dX3_make_28 : decode cX3_make 28 = .ok (.iconst (-1), 1) := by decide +kernel
theorem dX3_make_29 : decode cX3_make 29 = .ok (.ireturn, 1) := by decide +kernel
theorem dX3_make_30 : decode cX3_make 30 = .ok (.iload_n 3, 1) := by decide +kernel
theorem dX3_make_31 : decode cX3_make 31 = .ok (.ifCond .ge 6, 3) := by decide +kernel
theorem dX3_make_34 : decode cX3_make 34 = .ok (.bipush (-16), 2) := by decide +kernel
theorem dX3_make_36 : decode cX3_make 36 = .ok (.ireturn, 1) := by decide +kernel
theorem dX3_make_37 : decode cX3_make 37 = .ok (.aload_n 0, 1) := by decide +kernel
theorem dX3_make_38 : decode cX3_make 38 = .ok (.getfield 7, 3) := by decide +kernel
theorem dX3_make_41 : decode cX3_make 41 = .ok (.iload_n 1, 1) := by decide +kernel
theorem dX3_make_42 : decode cX3_make 42 = .ok (.iload_n 2, 1) := by decide +kernel
theorem dX3_make_43 : decode cX3_make 43 = .ok (.iastore, 1) := by decide +kernel
theorem dX3_make_44 : decode cX3_make 44 = .ok (.aload_n 0, 1) := by decide +kernel
theorem dX3_make_45 : decode cX3_make 45 = .ok (.getfield 13, 3) := by decide +kernel
theorem dX3_make_48 : decode cX3_make 48 = .ok (.iload_n 1, 1) := by decide +kernel
theorem dX3_make_49 : decode cX3_make 49 = .ok (.iload_n 3, 1) := by decide +kernel
theorem dX3_make_50 : decode cX3_make 50 = .ok (.iastore, 1) := by decide +kernel
theorem dX3_make_51 : decode cX3_make 51 = .ok (.aload_n 0, 1) := by decide +kernel
theorem dX3_make_52 : decode cX3_make 52 = .ok (.getfield 16, 3) := by decide +kernel
theorem dX3_make_55 : decode cX3_make 55 = .ok (.iload_n 1, 1) := by decide +kernel
theorem dX3_make_56 : decode cX3_make 56 = .ok (.iconst 0, 1) := by decide +kernel
theorem dX3_make_57 : decode cX3_make 57 = .ok (.bastore, 1) := by decide +kernel
theorem dX3_make_58 : decode cX3_make 58 = .ok (.iconst 0, 1) := by decide +kernel
theorem dX3_make_59 : decode cX3_make 59 = .ok (.istore 4, 2) := by decide +kernel
theorem dX3_make_61 : decode cX3_make 61 = .ok (.iload 4, 2) := by decide +kernel
theorem dX3_make_63 : decode cX3_make 63 = .ok (.iload_n 3, 1) := by decide +kernel
theorem dX3_make_64 : decode cX3_make 64 = .ok (.if_icmp .ge 47, 3) := by decide +kernel
theorem dX3_make_67 : decode cX3_make 67 = .ok (.aload_n 0, 1) := by decide +kernel
theorem dX3_make_68 : decode cX3_make 68 = .ok (.getfield 20, 3) := by decide +kernel
theorem dX3_make_71 : decode cX3_make 71 = .ok (.bipush 40, 2) := by decide +kernel
theorem dX3_make_73 : decode cX3_make 73 = .ok (.iload_n 1, 1) := by decide +kernel
theorem dX3_make_74 : decode cX3_make 74 = .ok (.imul, 1) := by decide +kernel
theorem dX3_make_75 : decode cX3_make 75 = .ok (.iload 4, 2) := by decide +kernel
theorem dX3_make_77 : decode cX3_make 77 = .ok (.iadd, 1) := by decide +kernel
theorem dX3_make_78 : decode cX3_make 78 = .ok (.iload_n 2, 1) := by decide +kernel
theorem dX3_make_79 : decode cX3_make 79 = .ok (.bipush 7, 2) := by decide +kernel
theorem dX3_make_81 : decode cX3_make 81 = .ok (.if_icmp .lt 9, 3) := by decide +kernel
theorem dX3_make_84 : decode cX3_make 84 = .ok (.ldc2_w 67, 3) := by decide +kernel
theorem dX3_make_87 : decode cX3_make 87 = .ok (.goto 4, 3) := by decide +kernel
theorem dX3_make_90 : decode cX3_make 90 = .ok (.lconst 0, 1) := by decide +kernel
theorem dX3_make_91 : decode cX3_make 91 = .ok (.lastore, 1) := by decide +kernel
theorem dX3_make_92 : decode cX3_make 92 = .ok (.aload_n 0, 1) := by decide +kernel
theorem dX3_make_93 : decode cX3_make 93 = .ok (.getfield 24, 3) := by decide +kernel
theorem dX3_make_96 : decode cX3_make 96 = .ok (.bipush 40, 2) := by decide +kernel
theorem dX3_make_98 : decode cX3_make 98 = .ok (.iload_n 1, 1) := by decide +kernel
theorem dX3_make_99 : decode cX3_make 99 = .ok (.imul, 1) := by decide +kernel
theorem dX3_make_100 : decode cX3_make 100 = .ok (.iload 4, 2) := by decide +kernel
theorem dX3_make_102 : decode cX3_make 102 = .ok (.iadd, 1) := by decide +kernel
theorem dX3_make_103 : decode cX3_make 103 = .ok (.dconst 0, 1) := by decide +kernel
theorem dX3_make_104 : decode cX3_make 104 = .ok (.dastore, 1) := by decide +kernel
theorem dX3_make_105 : decode cX3_make 105 = .ok (.iinc 4 1, 3) := by decide +kernel
theorem dX3_make_108 : decode cX3_make 108 = .ok (.goto (-47), 3) := by decide +kernel
theorem dX3_make_111 : decode cX3_make 111 = .ok (.iload_n 3, 1) := by decide +kernel
theorem dX3_make_112 : decode cX3_make 112 = .ok (.ireturn, 1) := by decide +kernel
theorem dX3_let_0 : decode cX3_let 0 = .ok (.aload_n 0, 1) := by decide +kernel
theorem dX3_let_1 : decode cX3_let 1 = .ok (.iconst 0, 1) := by decide +kernel
theorem dX3_let_2 : decode cX3_let 2 = .ok (.putfield 55, 3) := by decide +kernel
theorem dX3_let_5 : decode cX3_let 5 = .ok (.iload_n 1, 1) := by decide +kernel
theorem dX3_let_6 : decode cX3_let 6 = .ok (.invokestatic 63, 3) := by decide +kernel
theorem dX3_let_9 : decode cX3_let 9 = .ok (.ifCond .ne 5, 3) := by decide +kernel
theorem dX3_let_12 : decode cX3_let 12 = .ok (.iconst (-1), 1) := by decide +kernel
theorem dX3_let_13 : decode cX3_let 13 = .ok (.ireturn, 1) := by decide +kernel
theorem dX3_let_14 : decode cX3_let 14 = .ok (.aload_n 0, 1) := by decide +kernel
theorem dX3_let_15 : decode cX3_let 15 = .ok (.iload_n 1, 1) := by decide +kernel
theorem dX3_let_16 : decode cX3_let 16 = .ok (.invokevirtual 69, 3) := by decide +kernel
theorem dX3_let_19 : decode cX3_let 19 = .ok (.ifCond .eq 6, 3) := by decide +kernel
theorem dX3_let_22 : decode cX3_let 22 = .ok (.bipush (-11), 2) := by decide +kernel
theorem dX3_let_24 : decode cX3_let 24 = .ok (.ireturn, 1) := by decide +kernel
theorem dX3_let_25 : decode cX3_let 25 = .ok (.aload_n 0, 1) := by decide +kernel
theorem dX3_let_26 : decode cX3_let 26 = .ok (.getfield 13, 3) := by decide +kernel
theorem dX3_let_29 : decode cX3_let 29 = .ok (.iload_n 1, 1) := by decide +kernel
theorem dX3_let_30 : decode cX3_let 30 = .ok (.iaload, 1) := by decide +kernel
theorem dX3_let_31 : decode cX3_let 31 = .ok (.istore_n 2, 1) := by decide +kernel
theorem dX3_let_32 : decode cX3_let 32 = .ok (.aload_n 0, 1) := by decide +kernel
theorem dX3_let_33 : decode cX3_let 33 = .ok (.getfield 13, 3) := by decide +kernel
theorem dX3_let_36 : decode cX3_let 36 = .ok (.iload_n 1, 1) := by decide +kernel
theorem dX3_let_37 : decode cX3_let 37 = .ok (.iconst 0, 1) := by decide +kernel
theorem dX3_let_38 : decode cX3_let 38 = .ok (.iastore, 1) := by decide +kernel
theorem dX3_let_39 : decode cX3_let 39 = .ok (.aload_n 0, 1) := by decide +kernel
theorem dX3_let_40 : decode cX3_let 40 = .ok (.getfield 16, 3) := by decide +kernel
theorem dX3_let_43 : decode cX3_let 43 = .ok (.iload_n 1, 1) := by decide +kernel
theorem dX3_let_44 : decode cX3_let 44 = .ok (.iconst 1, 1) := by decide +kernel
theorem dX3_let_45 : decode cX3_let 45 = .ok (.bastore, 1) := by decide +kernel
theorem dX3_let_46 : decode cX3_let 46 = .ok (.iload_n 2, 1) := by decide +kernel
theorem dX3_let_47 : decode cX3_let 47 = .ok (.ireturn, 1) := by decide +kernel
theorem dX3_drop_0 : decode cX3_drop 0 = .ok (.aload_n 0, 1) := by decide +kernel
theorem dX3_drop_1 : decode cX3_drop 1 = .ok (.iconst 0, 1) := by decide +kernel
theorem dX3_drop_2 : decode cX3_drop 2 = .ok (.putfield 55, 3) := by decide +kernel
theorem dX3_drop_5 : decode cX3_drop 5 = .ok (.iload_n 1, 1) := by decide +kernel
theorem dX3_drop_6 : decode cX3_drop 6 = .ok (.invokestatic 63, 3) := by decide +kernel
theorem dX3_drop_9 : decode cX3_drop 9 = .ok (.ifCond .ne 5, 3) := by decide +kernel
theorem dX3_drop_12 : decode cX3_drop 12 = .ok (.iconst (-1), 1) := by decide +kernel
theorem dX3_drop_13 : decode cX3_drop 13 = .ok (.ireturn, 1) := by decide +kernel
theorem dX3_drop_14 : decode cX3_drop 14 = .ok (.aload_n 0, 1) := by decide +kernel
theorem dX3_drop_15 : decode cX3_drop 15 = .ok (.getfield 7, 3) := by decide +kernel
theorem dX3_drop_18 : decode cX3_drop 18 = .ok (.iload_n 1, 1) := by decide +kernel
theorem dX3_drop_19 : decode cX3_drop 19 = .ok (.iaload, 1) := by decide +kernel
theorem dX3_drop_20 : decode cX3_drop 20 = .ok (.iconst (-1), 1) := by decide +kernel
theorem dX3_drop_21 : decode cX3_drop 21 = .ok (.if_icmp .ne 7, 3) := by decide +kernel
theorem dX3_drop_24 : decode cX3_drop 24 = .ok (.iconst 0, 1) := by decide +kernel
theorem dX3_drop_25 : decode cX3_drop 25 = .ok (.goto 4, 3) := by decide +kernel
theorem dX3_drop_28 : decode cX3_drop 28 = .ok (.iconst 1, 1) := by decide +kernel
theorem dX3_drop_29 : decode cX3_drop 29 = .ok (.istore_n 2, 1) := by decide +kernel
theorem dX3_drop_30 : decode cX3_drop 30 = .ok (.aload_n 0, 1) := by decide +kernel
theorem dX3_drop_31 : decode cX3_drop 31 = .ok (.getfield 7, 3) := by decide +kernel
theorem dX3_drop_34 : decode cX3_drop 34 = .ok (.iload_n 1, 1) := by decide +kernel
theorem dX3_drop_35 : decode cX3_drop 35 = .ok (.iconst (-1), 1) := by decide +kernel
theorem dX3_drop_36 : decode cX3_drop 36 = .ok (.iastore, 1) := by decide +kernel
theorem dX3_drop_37 : decode cX3_drop 37 = .ok (.aload_n 0, 1) := by decide +kernel
theorem dX3_drop_38 : decode cX3_drop 38 = .ok (.getfield 13, 3) := by decide +kernel
theorem dX3_drop_41 : decode cX3_drop 41 = .ok (.iload_n 1, 1) := by decide +kernel
theorem dX3_drop_42 : decode cX3_drop 42 = .ok (.iconst 0, 1) := by decide +kernel
theorem dX3_drop_43 : decode cX3_drop 43 = .ok (.iastore, 1) := by decide +kernel
theorem dX3_drop_44 : decode cX3_drop 44 = .ok (.aload_n 0, 1) := by decide +kernel
theorem dX3_drop_45 : decode cX3_drop 45 = .ok (.getfield 16, 3) := by decide +kernel
theorem dX3_drop_48 : decode cX3_drop 48 = .ok (.iload_n 1, 1) := by decide +kernel
theorem dX3_drop_49 : decode cX3_drop 49 = .ok (.iconst 0, 1) := by decide +kernel
theorem dX3_drop_50 : decode cX3_drop 50 = .ok (.bastore, 1) := by decide +kernel
theorem dX3_drop_51 : decode cX3_drop 51 = .ok (.iload_n 2, 1) := by decide +kernel
theorem dX3_drop_52 : decode cX3_drop 52 = .ok (.ireturn, 1) := by decide +kernel
theorem dX3_kind_0 : decode cX3_kind 0 = .ok (.aload_n 0, 1) := by decide +kernel
theorem dX3_kind_1 : decode cX3_kind 1 = .ok (.iconst 0, 1) := by decide +kernel
theorem dX3_kind_2 : decode cX3_kind 2 = .ok (.putfield 55, 3) := by decide +kernel
theorem dX3_kind_5 : decode cX3_kind 5 = .ok (.iload_n 1, 1) := by decide +kernel
theorem dX3_kind_6 : decode cX3_kind 6 = .ok (.invokestatic 63, 3) := by decide +kernel
theorem dX3_kind_9 : decode cX3_kind 9 = .ok (.ifCond .ne 7, 3) := by decide +kernel
theorem dX3_kind_12 : decode cX3_kind 12 = .ok (.iconst (-1), 1) := by decide +kernel
theorem dX3_kind_13 : decode cX3_kind 13 = .ok (.goto 24, 3) := by decide +kernel
theorem dX3_kind_16 : decode cX3_kind 16 = .ok (.aload_n 0, 1) := by decide +kernel
theorem dX3_kind_17 : decode cX3_kind 17 = .ok (.getfield 7, 3) := by decide +kernel
theorem dX3_kind_20 : decode cX3_kind 20 = .ok (.iload_n 1, 1) := by decide +kernel
theorem dX3_kind_21 : decode cX3_kind 21 = .ok (.iaload, 1) := by decide +kernel
theorem dX3_kind_22 : decode cX3_kind 22 = .ok (.iconst (-1), 1) := by decide +kernel
theorem dX3_kind_23 : decode cX3_kind 23 = .ok (.if_icmp .ne 8, 3) := by decide +kernel
theorem dX3_kind_26 : decode cX3_kind 26 = .ok (.bipush (-11), 2) := by decide +kernel
theorem dX3_kind_28 : decode cX3_kind 28 = .ok (.goto 9, 3) := by decide +kernel
theorem dX3_kind_31 : decode cX3_kind 31 = .ok (.aload_n 0, 1) := by decide +kernel
theorem dX3_kind_32 : decode cX3_kind 32 = .ok (.getfield 7, 3) := by decide +kernel
theorem dX3_kind_35 : decode cX3_kind 35 = .ok (.iload_n 1, 1) := by decide +kernel
theorem dX3_kind_36 : decode cX3_kind 36 = .ok (.iaload, 1) := by decide +kernel
theorem dX3_kind_37 : decode cX3_kind 37 = .ok (.ireturn, 1) := by decide +kernel
theorem dX3_length_0 : decode cX3_length 0 = .ok (.aload_n 0, 1) := by decide +kernel
theorem dX3_length_1 : decode cX3_length 1 = .ok (.iconst 0, 1) := by decide +kernel
theorem dX3_length_2 : decode cX3_length 2 = .ok (.putfield 55, 3) := by decide +kernel
theorem dX3_length_5 : decode cX3_length 5 = .ok (.iload_n 1, 1) := by decide +kernel
theorem dX3_length_6 : decode cX3_length 6 = .ok (.invokestatic 63, 3) := by decide +kernel
theorem dX3_length_9 : decode cX3_length 9 = .ok (.ifCond .ne 7, 3) := by decide +kernel
theorem dX3_length_12 : decode cX3_length 12 = .ok (.iconst (-1), 1) := by decide +kernel
theorem dX3_length_13 : decode cX3_length 13 = .ok (.goto 22, 3) := by decide +kernel
theorem dX3_length_16 : decode cX3_length 16 = .ok (.aload_n 0, 1) := by decide +kernel
theorem dX3_length_17 : decode cX3_length 17 = .ok (.iload_n 1, 1) := by decide +kernel
theorem dX3_length_18 : decode cX3_length 18 = .ok (.invokevirtual 69, 3) := by decide +kernel
theorem dX3_length_21 : decode cX3_length 21 = .ok (.ifCond .eq 8, 3) := by decide +kernel
theorem dX3_length_24 : decode cX3_length 24 = .ok (.bipush (-11), 2) := by decide +kernel
theorem dX3_length_26 : decode cX3_length 26 = .ok (.goto 9, 3) := by decide +kernel
theorem dX3_length_29 : decode cX3_length 29 = .ok (.aload_n 0, 1) := by decide +kernel
theorem dX3_length_30 : decode cX3_length 30 = .ok (.getfield 13, 3) := by decide +kernel
theorem dX3_length_33 : decode cX3_length 33 = .ok (.iload_n 1, 1) := by decide +kernel
theorem dX3_length_34 : decode cX3_length 34 = .ok (.iaload, 1) := by decide +kernel
theorem dX3_length_35 : decode cX3_length 35 = .ok (.ireturn, 1) := by decide +kernel
theorem dX3_low_0 : decode cX3_low 0 = .ok (.iload_n 0, 1) := by decide +kernel
theorem dX3_low_1 : decode cX3_low 1 = .ok (.tableswitch 51 0 3 #[31, 36, 41, 47], 31) := by decide +kernel
theorem dX3_low_32 : decode cX3_low 32 = .ok (.lload_n 1, 1) := by decide +kernel
theorem dX3_low_33 : decode cX3_low 33 = .ok (.l2i, 1) := by decide +kernel
theorem dX3_low_34 : decode cX3_low 34 = .ok (.i2b, 1) := by decide +kernel
theorem dX3_low_35 : decode cX3_low 35 = .ok (.i2l, 1) := by decide +kernel
theorem dX3_low_36 : decode cX3_low 36 = .ok (.lreturn, 1) := by decide +kernel
theorem dX3_low_37 : decode cX3_low 37 = .ok (.lload_n 1, 1) := by decide +kernel
theorem dX3_low_38 : decode cX3_low 38 = .ok (.l2i, 1) := by decide +kernel
theorem dX3_low_39 : decode cX3_low 39 = .ok (.i2s, 1) := by decide +kernel
theorem dX3_low_40 : decode cX3_low 40 = .ok (.i2l, 1) := by decide +kernel
theorem dX3_low_41 : decode cX3_low 41 = .ok (.lreturn, 1) := by decide +kernel
theorem dX3_low_42 : decode cX3_low 42 = .ok (.lload_n 1, 1) := by decide +kernel
theorem dX3_low_43 : decode cX3_low 43 = .ok (.ldc2_w 72, 3) := by decide +kernel
theorem dX3_low_46 : decode cX3_low 46 = .ok (.land, 1) := by decide +kernel
theorem dX3_low_47 : decode cX3_low 47 = .ok (.lreturn, 1) := by decide +kernel
theorem dX3_low_48 : decode cX3_low 48 = .ok (.lload_n 1, 1) := by decide +kernel
theorem dX3_low_49 : decode cX3_low 49 = .ok (.l2i, 1) := by decide +kernel
theorem dX3_low_50 : decode cX3_low 50 = .ok (.i2l, 1) := by decide +kernel
theorem dX3_low_51 : decode cX3_low 51 = .ok (.lreturn, 1) := by decide +kernel
theorem dX3_low_52 : decode cX3_low 52 = .ok (.lload_n 1, 1) := by decide +kernel
theorem dX3_low_53 : decode cX3_low 53 = .ok (.lreturn, 1) := by decide +kernel
theorem dX3_put_0 : decode cX3_put 0 = .ok (.aload_n 0, 1) := by decide +kernel
theorem dX3_put_1 : decode cX3_put 1 = .ok (.iconst 0, 1) := by decide +kernel
theorem dX3_put_2 : decode cX3_put 2 = .ok (.putfield 55, 3) := by decide +kernel
theorem dX3_put_5 : decode cX3_put 5 = .ok (.iload_n 1, 1) := by decide +kernel
theorem dX3_put_6 : decode cX3_put 6 = .ok (.invokestatic 63, 3) := by decide +kernel
theorem dX3_put_9 : decode cX3_put 9 = .ok (.ifCond .ne 5, 3) := by decide +kernel
theorem dX3_put_12 : decode cX3_put 12 = .ok (.iconst (-1), 1) := by decide +kernel
theorem dX3_put_13 : decode cX3_put 13 = .ok (.ireturn, 1) := by decide +kernel
theorem dX3_put_14 : decode cX3_put 14 = .ok (.aload_n 0, 1) := by decide +kernel
theorem dX3_put_15 : decode cX3_put 15 = .ok (.iload_n 1, 1) := by decide +kernel
theorem dX3_put_16 : decode cX3_put 16 = .ok (.iconst 0, 1) := by decide +kernel
theorem dX3_put_17 : decode cX3_put 17 = .ok (.invokevirtual 74, 3) := by decide +kernel
theorem dX3_put_20 : decode cX3_put 20 = .ok (.istore 5, 2) := by decide +kernel
theorem dX3_put_22 : decode cX3_put 22 = .ok (.iload 5, 2) := by decide +kernel
theorem dX3_put_24 : decode cX3_put 24 = .ok (.ifCond .ne 12, 3) := by decide +kernel
theorem dX3_put_27 : decode cX3_put 27 = .ok (.aload_n 0, 1) := by decide +kernel
theorem dX3_put_28 : decode cX3_put 28 = .ok (.iload_n 1, 1) := by decide +kernel
theorem dX3_put_29 : decode cX3_put 29 = .ok (.iload_n 2, 1) := by decide +kernel
theorem dX3_put_30 : decode cX3_put 30 = .ok (.invokevirtual 78, 3) := by decide +kernel
theorem dX3_put_33 : decode cX3_put 33 = .ok (.ifCond .ne 16, 3) := by decide +kernel
theorem dX3_put_36 : decode cX3_put 36 = .ok (.iload 5, 2) := by decide +kernel
theorem dX3_put_38 : decode cX3_put 38 = .ok (.ifCond .eq 8, 3) := by decide +kernel
theorem dX3_put_41 : decode cX3_put 41 = .ok (.iload 5, 2) := by decide +kernel
theorem dX3_put_43 : decode cX3_put 43 = .ok (.goto 5, 3) := by decide +kernel
theorem dX3_put_46 : decode cX3_put 46 = .ok (.bipush (-12), 2) := by decide +kernel
theorem dX3_put_48 : decode cX3_put 48 = .ok (.ireturn, 1) := by decide +kernel
theorem dX3_put_49 : decode cX3_put 49 = .ok (.bipush 40, 2) := by decide +kernel
theorem dX3_put_51 : decode cX3_put 51 = .ok (.iload_n 1, 1) := by decide +kernel
theorem dX3_put_52 : decode cX3_put 52 = .ok (.imul, 1) := by decide +kernel
theorem dX3_put_53 : decode cX3_put 53 = .ok (.iload_n 2, 1) := by decide +kernel
theorem dX3_put_54 : decode cX3_put 54 = .ok (.iadd, 1) := by decide +kernel
theorem dX3_put_55 : decode cX3_put 55 = .ok (.istore 6, 2) := by decide +kernel
theorem dX3_put_57 : decode cX3_put 57 = .ok (.aload_n 0, 1) := by decide +kernel
theorem dX3_put_58 : decode cX3_put 58 = .ok (.getfield 7, 3) := by decide +kernel
theorem dX3_put_61 : decode cX3_put 61 = .ok (.iload_n 1, 1) := by decide +kernel
theorem dX3_put_62 : decode cX3_put 62 = .ok (.iaload, 1) := by decide +kernel
theorem dX3_put_63 : decode cX3_put 63 = .ok (.iconst 5, 1) := by decide +kernel
theorem dX3_put_64 : decode cX3_put 64 = .ok (.if_icmp .ne 19, 3) := by decide +kernel
theorem dX3_put_67 : decode cX3_put 67 = .ok (.aload_n 0, 1) := by decide +kernel
theorem dX3_put_68 : decode cX3_put 68 = .ok (.getfield 24, 3) := by decide +kernel
theorem dX3_put_71 : decode cX3_put 71 = .ok (.iload 6, 2) := by decide +kernel
theorem dX3_put_73 : decode cX3_put 73 = .ok (.lload_n 3, 1) := by decide +kernel
theorem dX3_put_74 : decode cX3_put 74 = .ok (.l2f, 1) := by decide +kernel
theorem dX3_put_75 : decode cX3_put 75 = .ok (.ldc 82, 2) := by decide +kernel
theorem dX3_put_77 : decode cX3_put 77 = .ok (.fdiv, 1) := by decide +kernel
theorem dX3_put_78 : decode cX3_put 78 = .ok (.f2d, 1) := by decide +kernel
theorem dX3_put_79 : decode cX3_put 79 = .ok (.dastore, 1) := by decide +kernel
theorem dX3_put_80 : decode cX3_put 80 = .ok (.goto 47, 3) := by decide +kernel
theorem dX3_put_83 : decode cX3_put 83 = .ok (.aload_n 0, 1) := by decide +kernel
theorem dX3_put_84 : decode cX3_put 84 = .ok (.getfield 7, 3) := by decide +kernel
theorem dX3_put_87 : decode cX3_put 87 = .ok (.iload_n 1, 1) := by decide +kernel
theorem dX3_put_88 : decode cX3_put 88 = .ok (.iaload, 1) := by decide +kernel
theorem dX3_put_89 : decode cX3_put 89 = .ok (.bipush 6, 2) := by decide +kernel
theorem dX3_put_91 : decode cX3_put 91 = .ok (.if_icmp .ne 19, 3) := by decide +kernel
theorem dX3_put_94 : decode cX3_put 94 = .ok (.aload_n 0, 1) := by decide +kernel
theorem dX3_put_95 : decode cX3_put 95 = .ok (.getfield 24, 3) := by decide +kernel
theorem dX3_put_98 : decode cX3_put 98 = .ok (.iload 6, 2) := by decide +kernel
theorem dX3_put_100 : decode cX3_put 100 = .ok (.lload_n 3, 1) := by decide +kernel
theorem dX3_put_101 : decode cX3_put 101 = .ok (.l2d, 1) := by decide +kernel
theorem dX3_put_102 : decode cX3_put 102 = .ok (.ldc2_w 83, 3) := by decide +kernel
theorem dX3_put_105 : decode cX3_put 105 = .ok (.ddiv, 1) := by decide +kernel
theorem dX3_put_106 : decode cX3_put 106 = .ok (.dastore, 1) := by decide +kernel
theorem dX3_put_107 : decode cX3_put 107 = .ok (.goto 20, 3) := by decide +kernel
theorem dX3_put_110 : decode cX3_put 110 = .ok (.aload_n 0, 1) := by decide +kernel
theorem dX3_put_111 : decode cX3_put 111 = .ok (.getfield 20, 3) := by decide +kernel
theorem dX3_put_114 : decode cX3_put 114 = .ok (.iload 6, 2) := by decide +kernel
theorem dX3_put_116 : decode cX3_put 116 = .ok (.aload_n 0, 1) := by decide +kernel
theorem dX3_put_117 : decode cX3_put 117 = .ok (.getfield 7, 3) := by decide +kernel
theorem dX3_put_120 : decode cX3_put 120 = .ok (.iload_n 1, 1) := by decide +kernel
theorem dX3_put_121 : decode cX3_put 121 = .ok (.iaload, 1) := by decide +kernel
theorem dX3_put_122 : decode cX3_put 122 = .ok (.lload_n 3, 1) := by decide +kernel
theorem dX3_put_123 : decode cX3_put 123 = .ok (.invokestatic 85, 3) := by decide +kernel
theorem dX3_put_126 : decode cX3_put 126 = .ok (.lastore, 1) := by decide +kernel
theorem dX3_put_127 : decode cX3_put 127 = .ok (.iconst 1, 1) := by decide +kernel
theorem dX3_put_128 : decode cX3_put 128 = .ok (.ireturn, 1) := by decide +kernel
theorem dX3_telling_0 : decode cX3_telling 0 = .ok (.bipush 40, 2) := by decide +kernel
theorem dX3_telling_2 : decode cX3_telling 2 = .ok (.iload_n 1, 1) := by decide +kernel
theorem dX3_telling_3 : decode cX3_telling 3 = .ok (.imul, 1) := by decide +kernel
theorem dX3_telling_4 : decode cX3_telling 4 = .ok (.iload_n 2, 1) := by decide +kernel
theorem dX3_telling_5 : decode cX3_telling 5 = .ok (.iadd, 1) := by decide +kernel
theorem dX3_telling_6 : decode cX3_telling 6 = .ok (.istore_n 3, 1) := by decide +kernel
theorem dX3_telling_7 : decode cX3_telling 7 = .ok (.aload_n 0, 1) := by decide +kernel
theorem dX3_telling_8 : decode cX3_telling 8 = .ok (.getfield 7, 3) := by decide +kernel
theorem dX3_telling_11 : decode cX3_telling 11 = .ok (.iload_n 1, 1) := by decide +kernel
theorem dX3_telling_12 : decode cX3_telling 12 = .ok (.iaload, 1) := by decide +kernel
theorem dX3_telling_13 : decode cX3_telling 13 = .ok (.iconst 5, 1) := by decide +kernel
theorem dX3_telling_14 : decode cX3_telling 14 = .ok (.if_icmp .ne 15, 3) := by decide +kernel
theorem dX3_telling_17 : decode cX3_telling 17 = .ok (.aload_n 0, 1) := by decide +kernel
theorem dX3_telling_18 : decode cX3_telling 18 = .ok (.getfield 24, 3) := by decide +kernel
theorem dX3_telling_21 : decode cX3_telling 21 = .ok (.iload_n 3, 1) := by decide +kernel
theorem dX3_telling_22 : decode cX3_telling 22 = .ok (.daload, 1) := by decide +kernel
theorem dX3_telling_23 : decode cX3_telling 23 = .ok (.d2f, 1) := by decide +kernel
theorem dX3_telling_24 : decode cX3_telling 24 = .ok (.ldc 82, 2) := by decide +kernel
theorem dX3_telling_26 : decode cX3_telling 26 = .ok (.fmul, 1) := by decide +kernel
theorem dX3_telling_27 : decode cX3_telling 27 = .ok (.f2l, 1) := by decide +kernel
theorem dX3_telling_28 : decode cX3_telling 28 = .ok (.lreturn, 1) := by decide +kernel
theorem dX3_telling_29 : decode cX3_telling 29 = .ok (.aload_n 0, 1) := by decide +kernel
theorem dX3_telling_30 : decode cX3_telling 30 = .ok (.getfield 7, 3) := by decide +kernel
theorem dX3_telling_33 : decode cX3_telling 33 = .ok (.iload_n 1, 1) := by decide +kernel
theorem dX3_telling_34 : decode cX3_telling 34 = .ok (.iaload, 1) := by decide +kernel
theorem dX3_telling_35 : decode cX3_telling 35 = .ok (.bipush 6, 2) := by decide +kernel
theorem dX3_telling_37 : decode cX3_telling 37 = .ok (.if_icmp .ne 17, 3) := by decide +kernel
theorem dX3_telling_40 : decode cX3_telling 40 = .ok (.aload_n 0, 1) := by decide +kernel
theorem dX3_telling_41 : decode cX3_telling 41 = .ok (.getfield 24, 3) := by decide +kernel
theorem dX3_telling_44 : decode cX3_telling 44 = .ok (.iload_n 3, 1) := by decide +kernel
theorem dX3_telling_45 : decode cX3_telling 45 = .ok (.daload, 1) := by decide +kernel
theorem dX3_telling_46 : decode cX3_telling 46 = .ok (.ldc2_w 83, 3) := by decide +kernel
theorem dX3_telling_49 : decode cX3_telling 49 = .ok (.dmul, 1) := by decide +kernel
theorem dX3_telling_50 : decode cX3_telling 50 = .ok (.d2l, 1) := by decide +kernel
theorem dX3_telling_51 : decode cX3_telling 51 = .ok (.goto 9, 3) := by decide +kernel
theorem dX3_telling_54 : decode cX3_telling 54 = .ok (.aload_n 0, 1) := by decide +kernel
theorem dX3_telling_55 : decode cX3_telling 55 = .ok (.getfield 20, 3) := by decide +kernel
theorem dX3_telling_58 : decode cX3_telling 58 = .ok (.iload_n 3, 1) := by decide +kernel
theorem dX3_telling_59 : decode cX3_telling 59 = .ok (.laload, 1) := by decide +kernel
theorem dX3_telling_60 : decode cX3_telling 60 = .ok (.lreturn, 1) := by decide +kernel
theorem dX3_get_0 : decode cX3_get 0 = .ok (.aload_n 0, 1) := by decide +kernel
theorem dX3_get_1 : decode cX3_get 1 = .ok (.iconst 0, 1) := by decide +kernel
theorem dX3_get_2 : decode cX3_get 2 = .ok (.putfield 55, 3) := by decide +kernel
theorem dX3_get_5 : decode cX3_get 5 = .ok (.iload_n 1, 1) := by decide +kernel
theorem dX3_get_6 : decode cX3_get 6 = .ok (.invokestatic 63, 3) := by decide +kernel
theorem dX3_get_9 : decode cX3_get 9 = .ok (.ifCond .ne 11, 3) := by decide +kernel
theorem dX3_get_12 : decode cX3_get 12 = .ok (.aload_n 0, 1) := by decide +kernel
theorem dX3_get_13 : decode cX3_get 13 = .ok (.iconst 2, 1) := by decide +kernel
theorem dX3_get_14 : decode cX3_get 14 = .ok (.putfield 55, 3) := by decide +kernel
theorem dX3_get_17 : decode cX3_get 17 = .ok (.goto 68, 3) := by decide +kernel
theorem dX3_get_20 : decode cX3_get 20 = .ok (.aload_n 0, 1) := by decide +kernel
theorem dX3_get_21 : decode cX3_get 21 = .ok (.iload_n 1, 1) := by decide +kernel
theorem dX3_get_22 : decode cX3_get 22 = .ok (.invokevirtual 69, 3) := by decide +kernel
theorem dX3_get_25 : decode cX3_get 25 = .ok (.ifCond .eq 11, 3) := by decide +kernel
theorem dX3_get_28 : decode cX3_get 28 = .ok (.aload_n 0, 1) := by decide +kernel
theorem dX3_get_29 : decode cX3_get 29 = .ok (.iconst 1, 1) := by decide +kernel
theorem dX3_get_30 : decode cX3_get 30 = .ok (.putfield 55, 3) := by decide +kernel
theorem dX3_get_33 : decode cX3_get 33 = .ok (.goto 52, 3) := by decide +kernel
theorem dX3_get_36 : decode cX3_get 36 = .ok (.aload_n 0, 1) := by decide +kernel
theorem dX3_get_37 : decode cX3_get 37 = .ok (.iload_n 1, 1) := by decide +kernel
theorem dX3_get_38 : decode cX3_get 38 = .ok (.iload_n 2, 1) := by decide +kernel
theorem dX3_get_39 : decode cX3_get 39 = .ok (.invokevirtual 78, 3) := by decide +kernel
theorem dX3_get_42 : decode cX3_get 42 = .ok (.ifCond .ne 11, 3) := by decide +kernel
theorem dX3_get_45 : decode cX3_get 45 = .ok (.aload_n 0, 1) := by decide +kernel
theorem dX3_get_46 : decode cX3_get 46 = .ok (.iconst 2, 1) := by decide +kernel
theorem dX3_get_47 : decode cX3_get 47 = .ok (.putfield 55, 3) := by decide +kernel
theorem dX3_get_50 : decode cX3_get 50 = .ok (.goto 35, 3) := by decide +kernel
theorem dX3_get_53 : decode cX3_get 53 = .ok (.aload_n 0, 1) := by decide +kernel
theorem dX3_get_54 : decode cX3_get 54 = .ok (.getfield 7, 3) := by decide +kernel
theorem dX3_get_57 : decode cX3_get 57 = .ok (.iload_n 1, 1) := by decide +kernel
theorem dX3_get_58 : decode cX3_get 58 = .ok (.iaload, 1) := by decide +kernel
theorem dX3_get_59 : decode cX3_get 59 = .ok (.bipush 7, 2) := by decide +kernel
theorem dX3_get_61 : decode cX3_get 61 = .ok (.if_icmp .lt 24, 3) := by decide +kernel
theorem dX3_get_64 : decode cX3_get 64 = .ok (.aload_n 0, 1) := by decide +kernel
theorem dX3_get_65 : decode cX3_get 65 = .ok (.getfield 20, 3) := by decide +kernel
theorem dX3_get_68 : decode cX3_get 68 = .ok (.bipush 40, 2) := by decide +kernel
theorem dX3_get_70 : decode cX3_get 70 = .ok (.iload_n 1, 1) := by decide +kernel
theorem dX3_get_71 : decode cX3_get 71 = .ok (.imul, 1) := by decide +kernel
theorem dX3_get_72 : decode cX3_get 72 = .ok (.iload_n 2, 1) := by decide +kernel
theorem dX3_get_73 : decode cX3_get 73 = .ok (.iadd, 1) := by decide +kernel
theorem dX3_get_74 : decode cX3_get 74 = .ok (.laload, 1) := by decide +kernel
theorem dX3_get_75 : decode cX3_get 75 = .ok (.lconst 0, 1) := by decide +kernel
theorem dX3_get_76 : decode cX3_get 76 = .ok (.lcmp, 1) := by decide +kernel
theorem dX3_get_77 : decode cX3_get 77 = .ok (.ifCond .ge 8, 3) := by decide +kernel
theorem dX3_get_80 : decode cX3_get 80 = .ok (.aload_n 0, 1) := by decide +kernel
theorem dX3_get_81 : decode cX3_get 81 = .ok (.iconst 1, 1) := by decide +kernel
theorem dX3_get_82 : decode cX3_get 82 = .ok (.putfield 55, 3) := by decide +kernel
theorem dX3_get_85 : decode cX3_get 85 = .ok (.aload_n 0, 1) := by decide +kernel
theorem dX3_get_86 : decode cX3_get 86 = .ok (.getfield 55, 3) := by decide +kernel
theorem dX3_get_89 : decode cX3_get 89 = .ok (.ifCond .eq 7, 3) := by decide +kernel
theorem dX3_get_92 : decode cX3_get 92 = .ok (.lconst 0, 1) := by decide +kernel
theorem dX3_get_93 : decode cX3_get 93 = .ok (.goto 9, 3) := by decide +kernel
theorem dX3_get_96 : decode cX3_get 96 = .ok (.aload_n 0, 1) := by decide +kernel
theorem dX3_get_97 : decode cX3_get 97 = .ok (.iload_n 1, 1) := by decide +kernel
theorem dX3_get_98 : decode cX3_get 98 = .ok (.iload_n 2, 1) := by decide +kernel
theorem dX3_get_99 : decode cX3_get 99 = .ok (.invokevirtual 89, 3) := by decide +kernel
theorem dX3_get_102 : decode cX3_get 102 = .ok (.lreturn, 1) := by decide +kernel
theorem dX3_sum_0 : decode cX3_sum 0 = .ok (.aload_n 0, 1) := by decide +kernel
theorem dX3_sum_1 : decode cX3_sum 1 = .ok (.iconst 0, 1) := by decide +kernel
theorem dX3_sum_2 : decode cX3_sum 2 = .ok (.putfield 55, 3) := by decide +kernel
theorem dX3_sum_5 : decode cX3_sum 5 = .ok (.iload_n 1, 1) := by decide +kernel
theorem dX3_sum_6 : decode cX3_sum 6 = .ok (.invokestatic 63, 3) := by decide +kernel
theorem dX3_sum_9 : decode cX3_sum 9 = .ok (.ifCond .eq 13, 3) := by decide +kernel
theorem dX3_sum_12 : decode cX3_sum 12 = .ok (.iload_n 2, 1) := by decide +kernel
theorem dX3_sum_13 : decode cX3_sum 13 = .ok (.iconst 0, 1) := by decide +kernel
theorem dX3_sum_14 : decode cX3_sum 14 = .ok (.bipush 6, 2) := by decide +kernel
theorem dX3_sum_16 : decode cX3_sum 16 = .ok (.invokestatic 59, 3) := by decide +kernel
theorem dX3_sum_19 : decode cX3_sum 19 = .ok (.ifCond .ne 5, 3) := by decide +kernel
theorem dX3_sum_22 : decode cX3_sum 22 = .ok (.iconst (-1), 1) := by decide +kernel
theorem dX3_sum_23 : decode cX3_sum 23 = .ok (.ireturn, 1) := by decide +kernel
theorem dX3_sum_24 : decode cX3_sum 24 = .ok (.aload_n 0, 1) := by decide +kernel
theorem dX3_sum_25 : decode cX3_sum 25 = .ok (.getfield 7, 3) := by decide +kernel
theorem dX3_sum_28 : decode cX3_sum 28 = .ok (.iload_n 1, 1) := by decide +kernel
theorem dX3_sum_29 : decode cX3_sum 29 = .ok (.iaload, 1) := by decide +kernel
theorem dX3_sum_30 : decode cX3_sum 30 = .ok (.iconst (-1), 1) := by decide +kernel
theorem dX3_sum_31 : decode cX3_sum 31 = .ok (.if_icmp .ne 6, 3) := by decide +kernel
theorem dX3_sum_34 : decode cX3_sum 34 = .ok (.bipush (-11), 2) := by decide +kernel
theorem dX3_sum_36 : decode cX3_sum 36 = .ok (.ireturn, 1) := by decide +kernel
theorem dX3_sum_37 : decode cX3_sum 37 = .ok (.aload_n 0, 1) := by decide +kernel
theorem dX3_sum_38 : decode cX3_sum 38 = .ok (.getfield 7, 3) := by decide +kernel
theorem dX3_sum_41 : decode cX3_sum 41 = .ok (.iload_n 1, 1) := by decide +kernel
theorem dX3_sum_42 : decode cX3_sum 42 = .ok (.iaload, 1) := by decide +kernel
theorem dX3_sum_43 : decode cX3_sum 43 = .ok (.iload_n 2, 1) := by decide +kernel
theorem dX3_sum_44 : decode cX3_sum 44 = .ok (.if_icmp .eq 6, 3) := by decide +kernel
theorem dX3_sum_47 : decode cX3_sum 47 = .ok (.bipush (-15), 2) := by decide +kernel
theorem dX3_sum_49 : decode cX3_sum 49 = .ok (.ireturn, 1) := by decide +kernel
theorem dX3_sum_50 : decode cX3_sum 50 = .ok (.aload_n 0, 1) := by decide +kernel
theorem dX3_sum_51 : decode cX3_sum 51 = .ok (.getfield 16, 3) := by decide +kernel
theorem dX3_sum_54 : decode cX3_sum 54 = .ok (.iload_n 1, 1) := by decide +kernel
theorem dX3_sum_55 : decode cX3_sum 55 = .ok (.baload, 1) := by decide +kernel
theorem dX3_sum_56 : decode cX3_sum 56 = .ok (.ifCond .eq 6, 3) := by decide +kernel
theorem dX3_sum_59 : decode cX3_sum 59 = .ok (.bipush (-11), 2) := by decide +kernel
