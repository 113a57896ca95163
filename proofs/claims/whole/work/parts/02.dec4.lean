theorem dX8_lit_116 : decode cX8_lit 116 = .ok (.ifCond .ne 8, 3) := by decide +kernel
theorem dX8_lit_119 : decode cX8_lit 119 = .ok (.iload 7, 2) := by decide +kernel
theorem dX8_lit_121 : decode cX8_lit 121 = .ok (.goto 5, 3) := by decide +kernel
theorem dX8_lit_124 : decode cX8_lit 124 = .ok (.iload 6, 2) := by decide +kernel
theorem dX8_lit_126 : decode cX8_lit 126 = .ok (.istore 6, 2) := by decide +kernel
theorem dX8_lit_128 : decode cX8_lit 128 = .ok (.iload 5, 2) := by decide +kernel
theorem dX8_lit_130 : decode cX8_lit 130 = .ok (.iload 8, 2) := by decide +kernel
theorem dX8_lit_132 : decode cX8_lit 132 = .ok (.ifCond .eq 7, 3) := by decide +kernel
theorem dX8_lit_135 : decode cX8_lit 135 = .ok (.iconst 1, 1) := by decide +kernel
theorem dX8_lit_136 : decode cX8_lit 136 = .ok (.goto 4, 3) := by decide +kernel
theorem dX8_lit_139 : decode cX8_lit 139 = .ok (.iconst 0, 1) := by decide +kernel
theorem dX8_lit_140 : decode cX8_lit 140 = .ok (.iadd, 1) := by decide +kernel
theorem dX8_lit_141 : decode cX8_lit 141 = .ok (.istore 5, 2) := by decide +kernel
theorem dX8_lit_143 : decode cX8_lit 143 = .ok (.iinc 7 1, 3) := by decide +kernel
theorem dX8_lit_146 : decode cX8_lit 146 = .ok (.goto (-81), 3) := by decide +kernel
theorem dX8_lit_149 : decode cX8_lit 149 = .ok (.iload 5, 2) := by decide +kernel
theorem dX8_lit_151 : decode cX8_lit 151 = .ok (.ifCond .le 25, 3) := by decide +kernel
theorem dX8_lit_154 : decode cX8_lit 154 = .ok (.iload_n 3, 1) := by decide +kernel
theorem dX8_lit_155 : decode cX8_lit 155 = .ok (.ifCond .ne 8, 3) := by decide +kernel
theorem dX8_lit_158 : decode cX8_lit 158 = .ok (.iload 4, 2) := by decide +kernel
theorem dX8_lit_160 : decode cX8_lit 160 = .ok (.goto 15, 3) := by decide +kernel
theorem dX8_lit_163 : decode cX8_lit 163 = .ok (.iload_n 3, 1) := by decide +kernel
theorem dX8_lit_164 : decode cX8_lit 164 = .ok (.iconst 1, 1) := by decide +kernel
theorem dX8_lit_165 : decode cX8_lit 165 = .ok (.if_icmp .ne 8, 3) := by decide +kernel
theorem dX8_lit_168 : decode cX8_lit 168 = .ok (.iload 5, 2) := by decide +kernel
theorem dX8_lit_170 : decode cX8_lit 170 = .ok (.goto 5, 3) := by decide +kernel
theorem dX8_lit_173 : decode cX8_lit 173 = .ok (.iload 6, 2) := by decide +kernel
theorem dX8_lit_175 : decode cX8_lit 175 = .ok (.ireturn, 1) := by decide +kernel
theorem dX8_lit_176 : decode cX8_lit 176 = .ok (.iinc 4 1, 3) := by decide +kernel
theorem dX8_lit_179 : decode cX8_lit 179 = .ok (.goto (-130), 3) := by decide +kernel
theorem dX8_lit_182 : decode cX8_lit 182 = .ok (.bipush (-9), 2) := by decide +kernel
theorem dX8_lit_184 : decode cX8_lit 184 = .ok (.ireturn, 1) := by decide +kernel
theorem dX8_who_0 : decode cX8_who 0 = .ok (.iload_n 1, 1) := by decide +kernel
theorem dX8_who_1 : decode cX8_who 1 = .ok (.i2l, 1) := by decide +kernel
theorem dX8_who_2 : decode cX8_who 2 = .ok (.lconst 0, 1) := by decide +kernel
theorem dX8_who_3 : decode cX8_who 3 = .ok (.ldc2_w 170, 3) := by decide +kernel
theorem dX8_who_6 : decode cX8_who 6 = .ok (.invokestatic 49, 3) := by decide +kernel
theorem dX8_who_9 : decode cX8_who 9 = .ok (.ifCond .eq 21, 3) := by decide +kernel
theorem dX8_who_12 : decode cX8_who 12 = .ok (.aload_n 0, 1) := by decide +kernel
theorem dX8_who_13 : decode cX8_who 13 = .ok (.iload_n 2, 1) := by decide +kernel
theorem dX8_who_14 : decode cX8_who 14 = .ok (.invokevirtual 167, 3) := by decide +kernel
theorem dX8_who_17 : decode cX8_who 17 = .ok (.ifCond .eq 13, 3) := by decide +kernel
theorem dX8_who_20 : decode cX8_who 20 = .ok (.iload_n 3, 1) := by decide +kernel
theorem dX8_who_21 : decode cX8_who 21 = .ok (.i2l, 1) := by decide +kernel
theorem dX8_who_22 : decode cX8_who 22 = .ok (.lconst 0, 1) := by decide +kernel
theorem dX8_who_23 : decode cX8_who 23 = .ok (.lconst 1, 1) := by decide +kernel
theorem dX8_who_24 : decode cX8_who 24 = .ok (.invokestatic 49, 3) := by decide +kernel
theorem dX8_who_27 : decode cX8_who 27 = .ok (.ifCond .ne 5, 3) := by decide +kernel
theorem dX8_who_30 : decode cX8_who 30 = .ok (.iconst (-1), 1) := by decide +kernel
theorem dX8_who_31 : decode cX8_who 31 = .ok (.ireturn, 1) := by decide +kernel
theorem dX8_who_32 : decode cX8_who 32 = .ok (.aload_n 0, 1) := by decide +kernel
theorem dX8_who_33 : decode cX8_who 33 = .ok (.aload_n 0, 1) := by decide +kernel
theorem dX8_who_34 : decode cX8_who 34 = .ok (.getfield 124, 3) := by decide +kernel
theorem dX8_who_37 : decode cX8_who 37 = .ok (.invokevirtual 146, 3) := by decide +kernel
theorem dX8_who_40 : decode cX8_who 40 = .ok (.iconst 0, 1) := by decide +kernel
theorem dX8_who_41 : decode cX8_who 41 = .ok (.istore 4, 2) := by decide +kernel
theorem dX8_who_43 : decode cX8_who 43 = .ok (.bipush (-9), 2) := by decide +kernel
theorem dX8_who_45 : decode cX8_who 45 = .ok (.istore 5, 2) := by decide +kernel
theorem dX8_who_47 : decode cX8_who 47 = .ok (.iconst 0, 1) := by decide +kernel
theorem dX8_who_48 : decode cX8_who 48 = .ok (.istore 6, 2) := by decide +kernel
theorem dX8_who_50 : decode cX8_who 50 = .ok (.iload 6, 2) := by decide +kernel
theorem dX8_who_52 : decode cX8_who 52 = .ok (.iconst 1, 1) := by decide +kernel
theorem dX8_who_53 : decode cX8_who 53 = .ok (.aload_n 0, 1) := by decide +kernel
theorem dX8_who_54 : decode cX8_who 54 = .ok (.getfield 43, 3) := by decide +kernel
theorem dX8_who_57 : decode cX8_who 57 = .ok (.ishl, 1) := by decide +kernel
theorem dX8_who_58 : decode cX8_who 58 = .ok (.if_icmp .ge 75, 3) := by decide +kernel
theorem dX8_who_61 : decode cX8_who 61 = .ok (.iload 6, 2) := by decide +kernel
theorem dX8_who_63 : decode cX8_who 63 = .ok (.invokestatic 137, 3) := by decide +kernel
theorem dX8_who_66 : decode cX8_who 66 = .ok (.iconst 4, 1) := by decide +kernel
theorem dX8_who_67 : decode cX8_who 67 = .ok (.if_icmp .ge 23, 3) := by decide +kernel
theorem dX8_who_70 : decode cX8_who 70 = .ok (.aload_n 0, 1) := by decide +kernel
theorem dX8_who_71 : decode cX8_who 71 = .ok (.aload_n 0, 1) := by decide +kernel
theorem dX8_who_72 : decode cX8_who 72 = .ok (.getfield 118, 3) := by decide +kernel
theorem dX8_who_75 : decode cX8_who 75 = .ok (.iload 6, 2) := by decide +kernel
theorem dX8_who_77 : decode cX8_who 77 = .ok (.ixor, 1) := by decide +kernel
theorem dX8_who_78 : decode cX8_who 78 = .ok (.iload_n 1, 1) := by decide +kernel
theorem dX8_who_79 : decode cX8_who 79 = .ok (.invokevirtual 155, 3) := by decide +kernel
theorem dX8_who_82 : decode cX8_who 82 = .ok (.iload_n 2, 1) := by decide +kernel
theorem dX8_who_83 : decode cX8_who 83 = .ok (.if_icmp .ne 7, 3) := by decide +kernel
theorem dX8_who_86 : decode cX8_who 86 = .ok (.iconst 1, 1) := by decide +kernel
theorem dX8_who_87 : decode cX8_who 87 = .ok (.goto 4, 3) := by decide +kernel
theorem dX8_who_90 : decode cX8_who 90 = .ok (.iconst 0, 1) := by decide +kernel
theorem dX8_who_91 : decode cX8_who 91 = .ok (.istore 7, 2) := by decide +kernel
theorem dX8_who_93 : decode cX8_who 93 = .ok (.iload 7, 2) := by decide +kernel
theorem dX8_who_95 : decode cX8_who 95 = .ok (.ifCond .eq 13, 3) := by decide +kernel
theorem dX8_who_98 : decode cX8_who 98 = .ok (.iload 4, 2) := by decide +kernel
theorem dX8_who_100 : decode cX8_who 100 = .ok (.ifCond .ne 8, 3) := by decide +kernel
theorem dX8_who_103 : decode cX8_who 103 = .ok (.iload 6, 2) := by decide +kernel
theorem dX8_who_105 : decode cX8_who 105 = .ok (.goto 5, 3) := by decide +kernel
theorem dX8_who_108 : decode cX8_who 108 = .ok (.iload 5, 2) := by decide +kernel
theorem dX8_who_110 : decode cX8_who 110 = .ok (.istore 5, 2) := by decide +kernel
theorem dX8_who_112 : decode cX8_who 112 = .ok (.iload 4, 2) := by decide +kernel
theorem dX8_who_114 : decode cX8_who 114 = .ok (.iload 7, 2) := by decide +kernel
theorem dX8_who_116 : decode cX8_who 116 = .ok (.ifCond .eq 7, 3) := by decide +kernel
theorem dX8_who_119 : decode cX8_who 119 = .ok (.iconst 1, 1) := by decide +kernel
theorem dX8_who_120 : decode cX8_who 120 = .ok (.goto 4, 3) := by decide +kernel
theorem dX8_who_123 : decode cX8_who 123 = .ok (.iconst 0, 1) := by decide +kernel
theorem dX8_who_124 : decode cX8_who 124 = .ok (.iadd, 1) := by decide +kernel
theorem dX8_who_125 : decode cX8_who 125 = .ok (.istore 4, 2) := by decide +kernel
theorem dX8_who_127 : decode cX8_who 127 = .ok (.iinc 6 1, 3) := by decide +kernel
theorem dX8_who_130 : decode cX8_who 130 = .ok (.goto (-80), 3) := by decide +kernel
theorem dX8_who_133 : decode cX8_who 133 = .ok (.iload_n 3, 1) := by decide +kernel
theorem dX8_who_134 : decode cX8_who 134 = .ok (.ifCond .ne 8, 3) := by decide +kernel
theorem dX8_who_137 : decode cX8_who 137 = .ok (.iload 4, 2) := by decide +kernel
theorem dX8_who_139 : decode cX8_who 139 = .ok (.goto 5, 3) := by decide +kernel
theorem dX8_who_142 : decode cX8_who 142 = .ok (.iload 5, 2) := by decide +kernel
theorem dX8_who_144 : decode cX8_who 144 = .ok (.ireturn, 1) := by decide +kernel
theorem dX8_thief_0 : decode cX8_thief 0 = .ok (.aload_n 0, 1) := by decide +kernel
theorem dX8_thief_1 : decode cX8_thief 1 = .ok (.iload_n 1, 1) := by decide +kernel
theorem dX8_thief_2 : decode cX8_thief 2 = .ok (.invokevirtual 130, 3) := by decide +kernel
theorem dX8_thief_5 : decode cX8_thief 5 = .ok (.ifCond .eq 11, 3) := by decide +kernel
theorem dX8_thief_8 : decode cX8_thief 8 = .ok (.aload_n 0, 1) := by decide +kernel
theorem dX8_thief_9 : decode cX8_thief 9 = .ok (.iload_n 2, 1) := by decide +kernel
theorem dX8_thief_10 : decode cX8_thief 10 = .ok (.invokevirtual 130, 3) := by decide +kernel
theorem dX8_thief_13 : decode cX8_thief 13 = .ok (.ifCond .ne 5, 3) := by decide +kernel
theorem dX8_thief_16 : decode cX8_thief 16 = .ok (.iconst (-1), 1) := by decide +kernel
theorem dX8_thief_17 : decode cX8_thief 17 = .ok (.ireturn, 1) := by decide +kernel
theorem dX8_thief_18 : decode cX8_thief 18 = .ok (.aload_n 0, 1) := by decide +kernel
theorem dX8_thief_19 : decode cX8_thief 19 = .ok (.aload_n 0, 1) := by decide +kernel
theorem dX8_thief_20 : decode cX8_thief 20 = .ok (.getfield 124, 3) := by decide +kernel
theorem dX8_thief_23 : decode cX8_thief 23 = .ok (.invokevirtual 146, 3) := by decide +kernel
theorem dX8_thief_26 : decode cX8_thief 26 = .ok (.aload_n 0, 1) := by decide +kernel
theorem dX8_thief_27 : decode cX8_thief 27 = .ok (.getfield 118, 3) := by decide +kernel
theorem dX8_thief_30 : decode cX8_thief 30 = .ok (.istore_n 3, 1) := by decide +kernel
theorem dX8_thief_31 : decode cX8_thief 31 = .ok (.iconst 1, 1) := by decide +kernel
theorem dX8_thief_32 : decode cX8_thief 32 = .ok (.iload_n 1, 1) := by decide +kernel
theorem dX8_thief_33 : decode cX8_thief 33 = .ok (.ishl, 1) := by decide +kernel
theorem dX8_thief_34 : decode cX8_thief 34 = .ok (.iload_n 3, 1) := by decide +kernel
theorem dX8_thief_35 : decode cX8_thief 35 = .ok (.iconst (-1), 1) := by decide +kernel
theorem dX8_thief_36 : decode cX8_thief 36 = .ok (.ixor, 1) := by decide +kernel
theorem dX8_thief_37 : decode cX8_thief 37 = .ok (.iand, 1) := by decide +kernel
theorem dX8_thief_38 : decode cX8_thief 38 = .ok (.istore 4, 2) := by decide +kernel
theorem dX8_thief_40 : decode cX8_thief 40 = .ok (.iconst 0, 1) := by decide +kernel
theorem dX8_thief_41 : decode cX8_thief 41 = .ok (.istore 5, 2) := by decide +kernel
theorem dX8_thief_43 : decode cX8_thief 43 = .ok (.iload 5, 2) := by decide +kernel
theorem dX8_thief_45 : decode cX8_thief 45 = .ok (.bipush 100, 2) := by decide +kernel
theorem dX8_thief_47 : decode cX8_thief 47 = .ok (.if_icmp .ge 90, 3) := by decide +kernel
theorem dX8_thief_50 : decode cX8_thief 50 = .ok (.iload 4, 2) := by decide +kernel
theorem dX8_thief_52 : decode cX8_thief 52 = .ok (.ifCond .eq 85, 3) := by decide +kernel
theorem dX8_thief_55 : decode cX8_thief 55 = .ok (.iload 4, 2) := by decide +kernel
theorem dX8_thief_57 : decode cX8_thief 57 = .ok (.iload_n 2, 1) := by decide +kernel
theorem dX8_thief_58 : decode cX8_thief 58 = .ok (.ishr, 1) := by decide +kernel
theorem dX8_thief_59 : decode cX8_thief 59 = .ok (.iconst 1, 1) := by decide +kernel
theorem dX8_thief_60 : decode cX8_thief 60 = .ok (.iand, 1) := by decide +kernel
theorem dX8_thief_61 : decode cX8_thief 61 = .ok (.iconst 1, 1) := by decide +kernel
theorem dX8_thief_62 : decode cX8_thief 62 = .ok (.if_icmp .ne 6, 3) := by decide +kernel
theorem dX8_thief_65 : decode cX8_thief 65 = .ok (.iload 5, 2) := by decide +kernel
theorem dX8_thief_67 : decode cX8_thief 67 = .ok (.ireturn, 1) := by decide +kernel
theorem dX8_thief_68 : decode cX8_thief 68 = .ok (.iload 4, 2) := by decide +kernel
theorem dX8_thief_70 : decode cX8_thief 70 = .ok (.istore 6, 2) := by decide +kernel
theorem dX8_thief_72 : decode cX8_thief 72 = .ok (.iconst 0, 1) := by decide +kernel
theorem dX8_thief_73 : decode cX8_thief 73 = .ok (.istore 7, 2) := by decide +kernel
theorem dX8_thief_75 : decode cX8_thief 75 = .ok (.iload 7, 2) := by decide +kernel
theorem dX8_thief_77 : decode cX8_thief 77 = .ok (.aload_n 0, 1) := by decide +kernel
theorem dX8_thief_78 : decode cX8_thief 78 = .ok (.getfield 43, 3) := by decide +kernel
theorem dX8_thief_81 : decode cX8_thief 81 = .ok (.if_icmp .ge 36, 3) := by decide +kernel
theorem dX8_thief_84 : decode cX8_thief 84 = .ok (.iload 6, 2) := by decide +kernel
theorem dX8_thief_86 : decode cX8_thief 86 = .ok (.iload 4, 2) := by decide +kernel
theorem dX8_thief_88 : decode cX8_thief 88 = .ok (.iload 7, 2) := by decide +kernel
theorem dX8_thief_90 : decode cX8_thief 90 = .ok (.ishr, 1) := by decide +kernel
theorem dX8_thief_91 : decode cX8_thief 91 = .ok (.iconst 1, 1) := by decide +kernel
theorem dX8_thief_92 : decode cX8_thief 92 = .ok (.iand, 1) := by decide +kernel
theorem dX8_thief_93 : decode cX8_thief 93 = .ok (.iconst 1, 1) := by decide +kernel
theorem dX8_thief_94 : decode cX8_thief 94 = .ok (.if_icmp .ne 13, 3) := by decide +kernel
theorem dX8_thief_97 : decode cX8_thief 97 = .ok (.aload_n 0, 1) := by decide +kernel
theorem dX8_thief_98 : decode cX8_thief 98 = .ok (.iload 7, 2) := by decide +kernel
theorem dX8_thief_100 : decode cX8_thief 100 = .ok (.iconst 0, 1) := by decide +kernel
theorem dX8_thief_101 : decode cX8_thief 101 = .ok (.invokevirtual 133, 3) := by decide +kernel
theorem dX8_thief_104 : decode cX8_thief 104 = .ok (.goto 4, 3) := by decide +kernel
theorem dX8_thief_107 : decode cX8_thief 107 = .ok (.iconst 0, 1) := by decide +kernel
theorem dX8_thief_108 : decode cX8_thief 108 = .ok (.ior, 1) := by decide +kernel
theorem dX8_thief_109 : decode cX8_thief 109 = .ok (.istore 6, 2) := by decide +kernel
theorem dX8_thief_111 : decode cX8_thief 111 = .ok (.iinc 7 1, 3) := by decide +kernel
theorem dX8_thief_114 : decode cX8_thief 114 = .ok (.goto (-39), 3) := by decide +kernel
theorem dX8_thief_117 : decode cX8_thief 117 = .ok (.aload_n 0, 1) := by decide +kernel
theorem dX8_thief_118 : decode cX8_thief 118 = .ok (.iload_n 3, 1) := by decide +kernel
theorem dX8_thief_119 : decode cX8_thief 119 = .ok (.invokevirtual 150, 3) := by decide +kernel
theorem dX8_thief_122 : decode cX8_thief 122 = .ok (.istore_n 3, 1) := by decide +kernel
theorem dX8_thief_123 : decode cX8_thief 123 = .ok (.iload 6, 2) := by decide +kernel
theorem dX8_thief_125 : decode cX8_thief 125 = .ok (.iload_n 3, 1) := by decide +kernel
theorem dX8_thief_126 : decode cX8_thief 126 = .ok (.iconst (-1), 1) := by decide +kernel
theorem dX8_thief_127 : decode cX8_thief 127 = .ok (.ixor, 1) := by decide +kernel
theorem dX8_thief_128 : decode cX8_thief 128 = .ok (.iand, 1) := by decide +kernel
theorem dX8_thief_129 : decode cX8_thief 129 = .ok (.istore 4, 2) := by decide +kernel
theorem dX8_thief_131 : decode cX8_thief 131 = .ok (.iinc 5 1, 3) := by decide +kernel
theorem dX8_thief_134 : decode cX8_thief 134 = .ok (.goto (-91), 3) := by decide +kernel
theorem dX8_thief_137 : decode cX8_thief 137 = .ok (.bipush (-9), 2) := by decide +kernel
theorem dX8_thief_139 : decode cX8_thief 139 = .ok (.ireturn, 1) := by decide +kernel
theorem dX8_still_0 : decode cX8_still 0 = .ok (.iload_n 1, 1) := by decide +kernel
theorem dX8_still_1 : decode cX8_still 1 = .ok (.i2l, 1) := by decide +kernel
theorem dX8_still_2 : decode cX8_still 2 = .ok (.lconst 0, 1) := by decide +kernel
theorem dX8_still_3 : decode cX8_still 3 = .ok (.lconst 1, 1) := by decide +kernel
theorem dX8_still_4 : decode cX8_still 4 = .ok (.invokestatic 49, 3) := by decide +kernel
theorem dX8_still_7 : decode cX8_still 7 = .ok (.ifCond .ne 5, 3) := by decide +kernel
theorem dX8_still_10 : decode cX8_still 10 = .ok (.iconst (-1), 1) := by decide +kernel
theorem dX8_still_11 : decode cX8_still 11 = .ok (.ireturn, 1) := by decide +kernel
theorem dX8_still_12 : decode cX8_still 12 = .ok (.iconst 0, 1) := by decide +kernel
theorem dX8_still_13 : decode cX8_still 13 = .ok (.istore_n 2, 1) := by decide +kernel
theorem dX8_still_14 : decode cX8_still 14 = .ok (.iload_n 2, 1) := by decide +kernel
theorem dX8_still_15 : decode cX8_still 15 = .ok (.aload_n 0, 1) := by decide +kernel
theorem dX8_still_16 : decode cX8_still 16 = .ok (.getfield 43, 3) := by decide +kernel
theorem dX8_still_19 : decode cX8_still 19 = .ok (.if_icmp .ge 106, 3) := by decide +kernel
theorem dX8_still_22 : decode cX8_still 22 = .ok (.iload_n 2, 1) := by decide +kernel
theorem dX8_still_23 : decode cX8_still 23 = .ok (.iconst 1, 1) := by decide +kernel
theorem dX8_still_24 : decode cX8_still 24 = .ok (.iadd, 1) := by decide +kernel
theorem dX8_still_25 : decode cX8_still 25 = .ok (.istore_n 3, 1) := by decide +kernel
theorem dX8_still_26 : decode cX8_still 26 = .ok (.iload_n 3, 1) := by decide +kernel
theorem dX8_still_27 : decode cX8_still 27 = .ok (.aload_n 0, 1) := by decide +kernel
theorem dX8_still_28 : decode cX8_still 28 = .ok (.getfield 43, 3) := by decide +kernel
theorem dX8_still_31 : decode cX8_still 31 = .ok (.if_icmp .ge 88, 3) := by decide +kernel
theorem dX8_still_34 : decode cX8_still 34 = .ok (.aload_n 0, 1) := by decide +kernel
theorem dX8_still_35 : decode cX8_still 35 = .ok (.iload_n 2, 1) := by decide +kernel
theorem dX8_still_36 : decode cX8_still 36 = .ok (.iconst 0, 1) := by decide +kernel
theorem dX8_still_37 : decode cX8_still 37 = .ok (.invokevirtual 133, 3) := by decide +kernel
theorem dX8_still_40 : decode cX8_still 40 = .ok (.iload_n 3, 1) := by decide +kernel
theorem dX8_still_41 : decode cX8_still 41 = .ok (.ishr, 1) := by decide +kernel
theorem dX8_still_42 : decode cX8_still 42 = .ok (.iconst 1, 1) := by decide +kernel
theorem dX8_still_43 : decode cX8_still 43 = .ok (.iand, 1) := by decide +kernel
theorem dX8_still_44 : decode cX8_still 44 = .ok (.ifCond .ne 69, 3) := by decide +kernel
theorem dX8_still_47 : decode cX8_still 47 = .ok (.aload_n 0, 1) := by decide +kernel
theorem dX8_still_48 : decode cX8_still 48 = .ok (.aload_n 0, 1) := by decide +kernel
theorem dX8_still_49 : decode cX8_still 49 = .ok (.getfield 124, 3) := by decide +kernel
theorem dX8_still_52 : decode cX8_still 52 = .ok (.invokevirtual 146, 3) := by decide +kernel
theorem dX8_still_55 : decode cX8_still 55 = .ok (.aload_n 0, 1) := by decide +kernel
theorem dX8_still_56 : decode cX8_still 56 = .ok (.getfield 31, 3) := by decide +kernel
theorem dX8_still_59 : decode cX8_still 59 = .ok (.iload_n 2, 1) := by decide +kernel
theorem dX8_still_60 : decode cX8_still 60 = .ok (.dup2, 1) := by decide +kernel
theorem dX8_still_61 : decode cX8_still 61 = .ok (.iaload, 1) := by decide +kernel
theorem dX8_still_62 : decode cX8_still 62 = .ok (.iconst 1, 1) := by decide +kernel
theorem dX8_still_63 : decode cX8_still 63 = .ok (.iload_n 3, 1) := by decide +kernel
theorem dX8_still_64 : decode cX8_still 64 = .ok (.ishl, 1) := by decide +kernel
theorem dX8_still_65 : decode cX8_still 65 = .ok (.ior, 1) := by decide +kernel
theorem dX8_still_66 : decode cX8_still 66 = .ok (.iastore, 1) := by decide +kernel
theorem dX8_still_67 : decode cX8_still 67 = .ok (.aload_n 0, 1) := by decide +kernel
theorem dX8_still_68 : decode cX8_still 68 = .ok (.getfield 31, 3) := by decide +kernel
theorem dX8_still_71 : decode cX8_still 71 = .ok (.iload_n 3, 1) := by decide +kernel
theorem dX8_still_72 : decode cX8_still 72 = .ok (.dup2, 1) := by decide +kernel
theorem dX8_still_73 : decode cX8_still 73 = .ok (.iaload, 1) := by decide +kernel
theorem dX8_still_74 : decode cX8_still 74 = .ok (.iconst 1, 1) := by decide +kernel
theorem dX8_still_75 : decode cX8_still 75 = .ok (.iload_n 2, 1) := by decide +kernel
theorem dX8_still_76 : decode cX8_still 76 = .ok (.ishl, 1) := by decide +kernel
theorem dX8_still_77 : decode cX8_still 77 = .ok (.ior, 1) := by decide +kernel
theorem dX8_still_78 : decode cX8_still 78 = .ok (.iastore, 1) := by decide +kernel
theorem dX8_still_79 : decode cX8_still 79 = .ok (.aload_n 0, 1) := by decide +kernel
theorem dX8_still_80 : decode cX8_still 80 = .ok (.aload_n 0, 1) := by decide +kernel
theorem dX8_still_81 : decode cX8_still 81 = .ok (.getfield 118, 3) := by decide +kernel
theorem dX8_still_84 : decode cX8_still 84 = .ok (.invokevirtual 164, 3) := by decide +kernel
theorem dX8_still_87 : decode cX8_still 87 = .ok (.aload_n 0, 1) := by decide +kernel
theorem dX8_still_88 : decode cX8_still 88 = .ok (.getfield 161, 3) := by decide +kernel
theorem dX8_still_91 : decode cX8_still 91 = .ok (.iconst 1, 1) := by decide +kernel
theorem dX8_still_92 : decode cX8_still 92 = .ok (.if_icmp .ne 21, 3) := by decide +kernel
theorem dX8_still_95 : decode cX8_still 95 = .ok (.iload_n 1, 1) := by decide +kernel
theorem dX8_still_96 : decode cX8_still 96 = .ok (.ifCond .ne 12, 3) := by decide +kernel
theorem dX8_still_99 : decode cX8_still 99 = .ok (.bipush 10, 2) := by decide +kernel
theorem dX8_still_101 : decode cX8_still 101 = .ok (.iload_n 2, 1) := by decide +kernel
theorem dX8_still_102 : decode cX8_still 102 = .ok (.imul, 1) := by decide +kernel
theorem dX8_still_103 : decode cX8_still 103 = .ok (.iload_n 3, 1) := by decide +kernel
theorem dX8_still_104 : decode cX8_still 104 = .ok (.iadd, 1) := by decide +kernel
theorem dX8_still_105 : decode cX8_still 105 = .ok (.goto 7, 3) := by decide +kernel
theorem dX8_still_108 : decode cX8_still 108 = .ok (.aload_n 0, 1) := by decide +kernel
theorem dX8_still_109 : decode cX8_still 109 = .ok (.getfield 158, 3) := by decide +kernel
theorem dX8_still_112 : decode cX8_still 112 = .ok (.ireturn, 1) := by decide +kernel
theorem dX8_still_113 : decode cX8_still 113 = .ok (.iinc 3 1, 3) := by decide +kernel
theorem dX8_still_116 : decode cX8_still 116 = .ok (.goto (-90), 3) := by decide +kernel
theorem dX8_still_119 : decode cX8_still 119 = .ok (.iinc 2 1, 3) := by decide +kernel
theorem dX8_still_122 : decode cX8_still 122 = .ok (.goto (-108), 3) := by decide +kernel
theorem dX8_still_125 : decode cX8_still 125 = .ok (.bipush (-9), 2) := by decide +kernel
theorem dX8_still_127 : decode cX8_still 127 = .ok (.ireturn, 1) := by decide +kernel
theorem dX8_mist_0 : decode cX8_mist 0 = .ok (.aload_n 0, 1) := by decide +kernel
theorem dX8_mist_1 : decode cX8_mist 1 = .ok (.iload_n 1, 1) := by decide +kernel
theorem dX8_mist_2 : decode cX8_mist 2 = .ok (.invokevirtual 167, 3) := by decide +kernel
theorem dX8_mist_5 : decode cX8_mist 5 = .ok (.ifCond .ne 5, 3) := by decide +kernel
theorem dX8_mist_8 : decode cX8_mist 8 = .ok (.iconst (-1), 1) := by decide +kernel
theorem dX8_mist_9 : decode cX8_mist 9 = .ok (.ireturn, 1) := by decide +kernel
theorem dX8_mist_10 : decode cX8_mist 10 = .ok (.iconst 0, 1) := by decide +kernel
theorem dX8_mist_11 : decode cX8_mist 11 = .ok (.istore_n 2, 1) := by decide +kernel
theorem dX8_mist_12 : decode cX8_mist 12 = .ok (.iconst 0, 1) := by decide +kernel
theorem dX8_mist_13 : decode cX8_mist 13 = .ok (.istore_n 3, 1) := by decide +kernel
theorem dX8_mist_14 : decode cX8_mist 14 = .ok (.iload_n 3, 1) := by decide +kernel
theorem dX8_mist_15 : decode cX8_mist 15 = .ok (.aload_n 0, 1) := by decide +kernel
theorem dX8_mist_16 : decode cX8_mist 16 = .ok (.getfield 112, 3) := by decide +kernel
theorem dX8_mist_19 : decode cX8_mist 19 = .ok (.if_icmp .ge 54, 3) := by decide +kernel
theorem dX8_mist_22 : decode cX8_mist 22 = .ok (.aload_n 0, 1) := by decide +kernel
theorem dX8_mist_23 : decode cX8_mist 23 = .ok (.aload_n 0, 1) := by decide +kernel
theorem dX8_mist_24 : decode cX8_mist 24 = .ok (.getfield 124, 3) := by decide +kernel
theorem dX8_mist_27 : decode cX8_mist 27 = .ok (.iconst 1, 1) := by decide +kernel
theorem dX8_mist_28 : decode cX8_mist 28 = .ok (.iload_n 3, 1) := by decide +kernel
theorem dX8_mist_29 : decode cX8_mist 29 = .ok (.ishl, 1) := by decide +kernel
theorem dX8_mist_30 : decode cX8_mist 30 = .ok (.ior, 1) := by decide +kernel
theorem dX8_mist_31 : decode cX8_mist 31 = .ok (.invokevirtual 146, 3) := by decide +kernel
theorem dX8_mist_34 : decode cX8_mist 34 = .ok (.iload_n 2, 1) := by decide +kernel
theorem dX8_mist_35 : decode cX8_mist 35 = .ok (.aload_n 0, 1) := by decide +kernel
theorem dX8_mist_36 : decode cX8_mist 36 = .ok (.getfield 124, 3) := by decide +kernel
theorem dX8_mist_39 : decode cX8_mist 39 = .ok (.iload_n 3, 1) := by decide +kernel
theorem dX8_mist_40 : decode cX8_mist 40 = .ok (.ishr, 1) := by decide +kernel
theorem dX8_mist_41 : decode cX8_mist 41 = .ok (.iconst 1, 1) := by decide +kernel
theorem dX8_mist_42 : decode cX8_mist 42 = .ok (.iand, 1) := by decide +kernel
theorem dX8_mist_43 : decode cX8_mist 43 = .ok (.ifCond .ne 21, 3) := by decide +kernel
theorem dX8_mist_46 : decode cX8_mist 46 = .ok (.aload_n 0, 1) := by decide +kernel
theorem dX8_mist_47 : decode cX8_mist 47 = .ok (.aload_n 0, 1) := by decide +kernel
theorem dX8_mist_48 : decode cX8_mist 48 = .ok (.getfield 118, 3) := by decide +kernel
theorem dX8_mist_51 : decode cX8_mist 51 = .ok (.invokevirtual 150, 3) := by decide +kernel
theorem dX8_mist_54 : decode cX8_mist 54 = .ok (.iload_n 1, 1) := by decide +kernel
theorem dX8_mist_55 : decode cX8_mist 55 = .ok (.if_icmp .ne 9, 3) := by decide +kernel
theorem dX8_mist_58 : decode cX8_mist 58 = .ok (.iconst 1, 1) := by decide +kernel
theorem dX8_mist_59 : decode cX8_mist 59 = .ok (.iload_n 3, 1) := by decide +kernel
theorem dX8_mist_60 : decode cX8_mist 60 = .ok (.ishl, 1) := by decide +kernel
theorem dX8_mist_61 : decode cX8_mist 61 = .ok (.goto 4, 3) := by decide +kernel
theorem dX8_mist_64 : decode cX8_mist 64 = .ok (.iconst 0, 1) := by decide +kernel
theorem dX8_mist_65 : decode cX8_mist 65 = .ok (.ior, 1) := by decide +kernel
theorem dX8_mist_66 : decode cX8_mist 66 = .ok (.istore_n 2, 1) := by decide +kernel
theorem dX8_mist_67 : decode cX8_mist 67 = .ok (.iinc 3 1, 3) := by decide +kernel
theorem dX8_mist_70 : decode cX8_mist 70 = .ok (.goto (-56), 3) := by decide +kernel
theorem dX8_mist_73 : decode cX8_mist 73 = .ok (.iload_n 2, 1) := by decide +kernel
theorem dX8_mist_74 : decode cX8_mist 74 = .ok (.ireturn, 1) := by decide +kernel
theorem dX8_changes_0 : decode cX8_changes 0 = .ok (.aload_n 0, 1) := by decide +kernel
theorem dX8_changes_1 : decode cX8_changes 1 = .ok (.getfield 118, 3) := by decide +kernel
theorem dX8_changes_4 : decode cX8_changes 4 = .ok (.istore_n 3, 1) := by decide +kernel
theorem dX8_changes_5 : decode cX8_changes 5 = .ok (.iconst 0, 1) := by decide +kernel
theorem dX8_changes_6 : decode cX8_changes 6 = .ok (.istore 4, 2) := by decide +kernel
theorem dX8_changes_8 : decode cX8_changes 8 = .ok (.iconst 0, 1) := by decide +kernel
theorem dX8_changes_9 : decode cX8_changes 9 = .ok (.istore 5, 2) := by decide +kernel
theorem dX8_changes_11 : decode cX8_changes 11 = .ok (.iload 5, 2) := by decide +kernel
theorem dX8_changes_13 : decode cX8_changes 13 = .ok (.iload_n 2, 1) := by decide +kernel
theorem dX8_changes_14 : decode cX8_changes 14 = .ok (.if_icmp .ge 32, 3) := by decide +kernel
theorem dX8_changes_17 : decode cX8_changes 17 = .ok (.aload_n 0, 1) := by decide +kernel
theorem dX8_changes_18 : decode cX8_changes 18 = .ok (.iload_n 3, 1) := by decide +kernel
theorem dX8_changes_19 : decode cX8_changes 19 = .ok (.invokevirtual 150, 3) := by decide +kernel
theorem dX8_changes_22 : decode cX8_changes 22 = .ok (.istore 6, 2) := by decide +kernel
theorem dX8_changes_24 : decode cX8_changes 24 = .ok (.iload 4, 2) := by decide +kernel
theorem dX8_changes_26 : decode cX8_changes 26 = .ok (.iload_n 3, 1) := by decide +kernel
theorem dX8_changes_27 : decode cX8_changes 27 = .ok (.iload 6, 2) := by decide +kernel
theorem dX8_changes_29 : decode cX8_changes 29 = .ok (.ixor, 1) := by decide +kernel
theorem dX8_changes_30 : decode cX8_changes 30 = .ok (.iload_n 1, 1) := by decide +kernel
theorem dX8_changes_31 : decode cX8_changes 31 = .ok (.ishr, 1) := by decide +kernel
theorem dX8_changes_32 : decode cX8_changes 32 = .ok (.iconst 1, 1) := by decide +kernel
theorem dX8_changes_33 : decode cX8_changes 33 = .ok (.iand, 1) := by decide +kernel
theorem dX8_changes_34 : decode cX8_changes 34 = .ok (.iadd, 1) := by decide +kernel
theorem dX8_changes_35 : decode cX8_changes 35 = .ok (.istore 4, 2) := by decide +kernel
theorem dX8_changes_37 : decode cX8_changes 37 = .ok (.iload 6, 2) := by decide +kernel
theorem dX8_changes_39 : decode cX8_changes 39 = .ok (.istore_n 3, 1) := by decide +kernel
theorem dX8_changes_40 : decode cX8_changes 40 = .ok (.iinc 5 1, 3) := by decide +kernel
theorem dX8_changes_43 : decode cX8_changes 43 = .ok (.goto (-32), 3) := by decide +kernel
theorem dX8_changes_46 : decode cX8_changes 46 = .ok (.iload 4, 2) := by decide +kernel
theorem dX8_changes_48 : decode cX8_changes 48 = .ok (.ireturn, 1) := by decide +kernel
theorem dX8_flickers_0 : decode cX8_flickers 0 = .ok (.iload_n 1, 1) := by decide +kernel
theorem dX8_flickers_1 : decode cX8_flickers 1 = .ok (.iconst (-1), 1) := by decide +kernel
theorem dX8_flickers_2 : decode cX8_flickers 2 = .ok (.if_icmp .eq 11, 3) := by decide +kernel
theorem dX8_flickers_5 : decode cX8_flickers 5 = .ok (.aload_n 0, 1) := by decide +kernel
theorem dX8_flickers_6 : decode cX8_flickers 6 = .ok (.iload_n 1, 1) := by decide +kernel
theorem dX8_flickers_7 : decode cX8_flickers 7 = .ok (.invokevirtual 130, 3) := by decide +kernel
theorem dX8_flickers_10 : decode cX8_flickers 10 = .ok (.ifCond .eq 15, 3) := by decide +kernel
theorem dX8_flickers_13 : decode cX8_flickers 13 = .ok (.iload_n 2, 1) := by decide +kernel
theorem dX8_flickers_14 : decode cX8_flickers 14 = .ok (.i2l, 1) := by decide +kernel
theorem dX8_flickers_15 : decode cX8_flickers 15 = .ok (.lconst 0, 1) := by decide +kernel
theorem dX8_flickers_16 : decode cX8_flickers 16 = .ok (.ldc2_w 170, 3) := by decide +kernel
theorem dX8_flickers_19 : decode cX8_flickers 19 = .ok (.invokestatic 49, 3) := by decide +kernel
theorem dX8_flickers_22 : decode cX8_flickers 22 = .ok (.ifCond .ne 5, 3) := by decide +kernel
theorem dX8_flickers_25 : decode cX8_flickers 25 = .ok (.iconst (-1), 1) := by decide +kernel
theorem dX8_flickers_26 : decode cX8_flickers 26 = .ok (.ireturn, 1) := by decide +kernel
theorem dX8_flickers_27 : decode cX8_flickers 27 = .ok (.aload_n 0, 1) := by decide +kernel
theorem dX8_flickers_28 : decode cX8_flickers 28 = .ok (.aload_n 0, 1) := by decide +kernel
theorem dX8_flickers_29 : decode cX8_flickers 29 = .ok (.getfield 124, 3) := by decide +kernel
theorem dX8_flickers_32 : decode cX8_flickers 32 = .ok (.invokevirtual 146, 3) := by decide +kernel
theorem dX8_flickers_35 : decode cX8_flickers 35 = .ok (.iload_n 1, 1) := by decide +kernel
theorem dX8_flickers_36 : decode cX8_flickers 36 = .ok (.ifCond .lt 10, 3) := by decide +kernel
theorem dX8_flickers_39 : decode cX8_flickers 39 = .ok (.aload_n 0, 1) := by decide +kernel
theorem dX8_flickers_40 : decode cX8_flickers 40 = .ok (.iload_n 1, 1) := by decide +kernel
theorem dX8_flickers_41 : decode cX8_flickers 41 = .ok (.iload_n 2, 1) := by decide +kernel
theorem dX8_flickers_42 : decode cX8_flickers 42 = .ok (.invokevirtual 176, 3) := by decide +kernel
theorem dX8_flickers_45 : decode cX8_flickers 45 = .ok (.ireturn, 1) := by decide +kernel
theorem dX8_flickers_46 : decode cX8_flickers 46 = .ok (.bipush (-9), 2) := by decide +kernel
theorem dX8_flickers_48 : decode cX8_flickers 48 = .ok (.istore_n 3, 1) := by decide +kernel
theorem dX8_flickers_49 : decode cX8_flickers 49 = .ok (.iconst (-1), 1) := by decide +kernel
theorem dX8_flickers_50 : decode cX8_flickers 50 = .ok (.istore 4, 2) := by decide +kernel
theorem dX8_flickers_52 : decode cX8_flickers 52 = .ok (.iconst 0, 1) := by decide +kernel
theorem dX8_flickers_53 : decode cX8_flickers 53 = .ok (.istore 5, 2) := by decide +kernel
theorem dX8_flickers_55 : decode cX8_flickers 55 = .ok (.iload 5, 2) := by decide +kernel
theorem dX8_flickers_57 : decode cX8_flickers 57 = .ok (.aload_n 0, 1) := by decide +kernel
theorem dX8_flickers_58 : decode cX8_flickers 58 = .ok (.getfield 43, 3) := by decide +kernel
theorem dX8_flickers_61 : decode cX8_flickers 61 = .ok (.if_icmp .ge 48, 3) := by decide +kernel
theorem dX8_flickers_64 : decode cX8_flickers 64 = .ok (.aload_n 0, 1) := by decide +kernel
theorem dX8_flickers_65 : decode cX8_flickers 65 = .ok (.iload 5, 2) := by decide +kernel
theorem dX8_flickers_67 : decode cX8_flickers 67 = .ok (.iload_n 2, 1) := by decide +kernel
theorem dX8_flickers_68 : decode cX8_flickers 68 = .ok (.invokevirtual 176, 3) := by decide +kernel
theorem dX8_flickers_71 : decode cX8_flickers 71 = .ok (.istore 6, 2) := by decide +kernel
theorem dX8_flickers_73 : decode cX8_flickers 73 = .ok (.iload 6, 2) := by decide +kernel
theorem dX8_flickers_75 : decode cX8_flickers 75 = .ok (.iload 4, 2) := by decide +kernel
theorem dX8_flickers_77 : decode cX8_flickers 77 = .ok (.if_icmp .le 8, 3) := by decide +kernel
theorem dX8_flickers_80 : decode cX8_flickers 80 = .ok (.iload 5, 2) := by decide +kernel
theorem dX8_flickers_82 : decode cX8_flickers 82 = .ok (.goto 4, 3) := by decide +kernel
theorem dX8_flickers_85 : decode cX8_flickers 85 = .ok (.iload_n 3, 1) := by decide +kernel
theorem dX8_flickers_86 : decode cX8_flickers 86 = .ok (.istore_n 3, 1) := by decide +kernel
theorem dX8_flickers_87 : decode cX8_flickers 87 = .ok (.iload 6, 2) := by decide +kernel
theorem dX8_flickers_89 : decode cX8_flickers 89 = .ok (.iload 4, 2) := by decide +kernel
theorem dX8_flickers_91 : decode cX8_flickers 91 = .ok (.if_icmp .le 8, 3) := by decide +kernel
theorem dX8_flickers_94 : decode cX8_flickers 94 = .ok (.iload 6, 2) := by decide +kernel
theorem dX8_flickers_96 : decode cX8_flickers 96 = .ok (.goto 5, 3) := by decide +kernel
theorem dX8_flickers_99 : decode cX8_flickers 99 = .ok (.iload 4, 2) := by decide +kernel
theorem dX8_flickers_101 : decode cX8_flickers 101 = .ok (.istore 4, 2) := by decide +kernel
theorem dX8_flickers_103 : decode cX8_flickers 103 = .ok (.iinc 5 1, 3) := by decide +kernel
theorem dX8_flickers_106 : decode cX8_flickers 106 = .ok (.goto (-51), 3) := by decide +kernel
theorem dX8_flickers_109 : decode cX8_flickers 109 = .ok (.iload_n 3, 1) := by decide +kernel
theorem dX8_flickers_110 : decode cX8_flickers 110 = .ok (.ireturn, 1) := by decide +kernel
theorem dX8_mark_0 : decode cX8_mark 0 = .ok (.iload_n 1, 1) := by decide +kernel
theorem dX8_mark_1 : decode cX8_mark 1 = .ok (.i2l, 1) := by decide +kernel
theorem dX8_mark_2 : decode cX8_mark 2 = .ok (.lconst 0, 1) := by decide +kernel
theorem dX8_mark_3 : decode cX8_mark 3 = .ok (.ldc2_w 179, 3) := by decide +kernel
theorem dX8_mark_6 : decode cX8_mark 6 = .ok (.invokestatic 49, 3) := by decide +kernel
theorem dX8_mark_9 : decode cX8_mark 9 = .ok (.ifCond .eq 11, 3) := by decide +kernel
theorem dX8_mark_12 : decode cX8_mark 12 = .ok (.aload_n 0, 1) := by decide +kernel
theorem dX8_mark_13 : decode cX8_mark 13 = .ok (.iload_n 2, 1) := by decide +kernel
theorem dX8_mark_14 : decode cX8_mark 14 = .ok (.invokevirtual 130, 3) := by decide +kernel
theorem dX8_mark_17 : decode cX8_mark 17 = .ok (.ifCond .ne 6, 3) := by decide +kernel
theorem dX8_mark_20 : decode cX8_mark 20 = .ok (.ldc 181, 2) := by decide +kernel
theorem dX8_mark_22 : decode cX8_mark 22 = .ok (.ireturn, 1) := by decide +kernel
theorem dX8_mark_23 : decode cX8_mark 23 = .ok (.aload_n 0, 1) := by decide +kernel
theorem dX8_mark_24 : decode cX8_mark 24 = .ok (.dup, 1) := by decide +kernel
theorem dX8_mark_25 : decode cX8_mark 25 = .ok (.getfield 182, 3) := by decide +kernel
theorem dX8_mark_28 : decode cX8_mark 28 = .ok (.iload_n 1, 1) := by decide +kernel
theorem dX8_mark_29 : decode cX8_mark 29 = .ok (.ifCond .ne 7, 3) := by decide +kernel
theorem dX8_mark_32 : decode cX8_mark 32 = .ok (.lconst 1, 1) := by decide +kernel
theorem dX8_mark_33 : decode cX8_mark 33 = .ok (.goto 50, 3) := by decide +kernel
theorem dX8_mark_36 : decode cX8_mark 36 = .ok (.iload_n 1, 1) := by decide +kernel
theorem dX8_mark_37 : decode cX8_mark 37 = .ok (.iconst 1, 1) := by decide +kernel
theorem dX8_mark_38 : decode cX8_mark 38 = .ok (.if_icmp .ne 9, 3) := by decide +kernel
theorem dX8_mark_41 : decode cX8_mark 41 = .ok (.ldc2_w 186, 3) := by decide +kernel
theorem dX8_mark_44 : decode cX8_mark 44 = .ok (.goto 39, 3) := by decide +kernel
theorem dX8_mark_47 : decode cX8_mark 47 = .ok (.iload_n 1, 1) := by decide +kernel
theorem dX8_mark_48 : decode cX8_mark 48 = .ok (.iconst 2, 1) := by decide +kernel
theorem dX8_mark_49 : decode cX8_mark 49 = .ok (.if_icmp .ne 9, 3) := by decide +kernel
theorem dX8_mark_52 : decode cX8_mark 52 = .ok (.ldc2_w 188, 3) := by decide +kernel
theorem dX8_mark_55 : decode cX8_mark 55 = .ok (.goto 28, 3) := by decide +kernel
theorem dX8_mark_58 : decode cX8_mark 58 = .ok (.iload_n 1, 1) := by decide +kernel
theorem dX8_mark_59 : decode cX8_mark 59 = .ok (.iconst 3, 1) := by decide +kernel
theorem dX8_mark_60 : decode cX8_mark 60 = .ok (.if_icmp .ne 9, 3) := by decide +kernel
theorem dX8_mark_63 : decode cX8_mark 63 = .ok (.ldc2_w 190, 3) := by decide +kernel
theorem dX8_mark_66 : decode cX8_mark 66 = .ok (.goto 17, 3) := by decide +kernel
theorem dX8_mark_69 : decode cX8_mark 69 = .ok (.iload_n 1, 1) := by decide +kernel
theorem dX8_mark_70 : decode cX8_mark 70 = .ok (.iconst 4, 1) := by decide +kernel
theorem dX8_mark_71 : decode cX8_mark 71 = .ok (.if_icmp .ne 9, 3) := by decide +kernel
theorem dX8_mark_74 : decode cX8_mark 74 = .ok (.ldc2_w 192, 3) := by decide +kernel
theorem dX8_mark_77 : decode cX8_mark 77 = .ok (.goto 6, 3) := by decide +kernel
theorem dX8_mark_80 : decode cX8_mark 80 = .ok (.ldc2_w 194, 3) := by decide +kernel
theorem dX8_mark_83 : decode cX8_mark 83 = .ok (.ladd, 1) := by decide +kernel
theorem dX8_mark_84 : decode cX8_mark 84 = .ok (.putfield 182, 3) := by decide +kernel
theorem dX8_mark_87 : decode cX8_mark 87 = .ok (.aload_n 0, 1) := by decide +kernel
theorem dX8_mark_88 : decode cX8_mark 88 = .ok (.getfield 118, 3) := by decide +kernel
theorem dX8_mark_91 : decode cX8_mark 91 = .ok (.iload_n 2, 1) := by decide +kernel
theorem dX8_mark_92 : decode cX8_mark 92 = .ok (.ishr, 1) := by decide +kernel
theorem dX8_mark_93 : decode cX8_mark 93 = .ok (.iconst 1, 1) := by decide +kernel
theorem dX8_mark_94 : decode cX8_mark 94 = .ok (.iand, 1) := by decide +kernel
theorem dX8_mark_95 : decode cX8_mark 95 = .ok (.istore_n 3, 1) := by decide +kernel
theorem dX8_mark_96 : decode cX8_mark 96 = .ok (.aload_n 0, 1) := by decide +kernel
theorem dX8_mark_97 : decode cX8_mark 97 = .ok (.iload_n 2, 1) := by decide +kernel
theorem dX8_mark_98 : decode cX8_mark 98 = .ok (.iconst 0, 1) := by decide +kernel
theorem dX8_mark_99 : decode cX8_mark 99 = .ok (.invokevirtual 133, 3) := by decide +kernel
theorem dX8_mark_102 : decode cX8_mark 102 = .ok (.invokestatic 137, 3) := by decide +kernel
theorem dX8_mark_105 : decode cX8_mark 105 = .ok (.istore 4, 2) := by decide +kernel
theorem dX8_mark_107 : decode cX8_mark 107 = .ok (.iload_n 1, 1) := by decide +kernel
theorem dX8_mark_108 : decode cX8_mark 108 = .ok (.tableswitch 70 0 4 #[36, 38, 43, 52, 59], 36) := by decide +kernel
theorem dX8_mark_144 : decode cX8_mark 144 = .ok (.iload_n 3, 1) := by decide +kernel
theorem dX8_mark_145 : decode cX8_mark 145 = .ok (.ireturn, 1) := by decide +kernel
theorem dX8_mark_146 : decode cX8_mark 146 = .ok (.iload_n 3, 1) := by decide +kernel
theorem dX8_mark_147 : decode cX8_mark 147 = .ok (.iload 4, 2) := by decide +kernel
theorem dX8_mark_149 : decode cX8_mark 149 = .ok (.iadd, 1) := by decide +kernel
theorem dX8_mark_150 : decode cX8_mark 150 = .ok (.ireturn, 1) := by decide +kernel
theorem dX8_mark_151 : decode cX8_mark 151 = .ok (.iload_n 3, 1) := by decide +kernel
theorem dX8_mark_152 : decode cX8_mark 152 = .ok (.aload_n 0, 1) := by decide +kernel
theorem dX8_mark_153 : decode cX8_mark 153 = .ok (.getfield 22, 3) := by decide +kernel
theorem dX8_mark_156 : decode cX8_mark 156 = .ok (.iload_n 2, 1) := by decide +kernel
theorem dX8_mark_157 : decode cX8_mark 157 = .ok (.iaload, 1) := by decide +kernel
theorem dX8_mark_158 : decode cX8_mark 158 = .ok (.isub, 1) := by decide +kernel
theorem dX8_mark_159 : decode cX8_mark 159 = .ok (.ireturn, 1) := by decide +kernel
theorem dX8_mark_160 : decode cX8_mark 160 = .ok (.iconst 2, 1) := by decide +kernel
theorem dX8_mark_161 : decode cX8_mark 161 = .ok (.iload_n 3, 1) := by decide +kernel
theorem dX8_mark_162 : decode cX8_mark 162 = .ok (.iload 4, 2) := by decide +kernel
theorem dX8_mark_164 : decode cX8_mark 164 = .ok (.iadd, 1) := by decide +kernel
theorem dX8_mark_165 : decode cX8_mark 165 = .ok (.imul, 1) := by decide +kernel
theorem dX8_mark_166 : decode cX8_mark 166 = .ok (.ireturn, 1) := by decide +kernel
theorem dX8_mark_167 : decode cX8_mark 167 = .ok (.iload_n 3, 1) := by decide +kernel
theorem dX8_mark_168 : decode cX8_mark 168 = .ok (.aload_n 0, 1) := by decide +kernel
theorem dX8_mark_169 : decode cX8_mark 169 = .ok (.getfield 22, 3) := by decide +kernel
theorem dX8_mark_172 : decode cX8_mark 172 = .ok (.iload_n 2, 1) := by decide +kernel
theorem dX8_mark_173 : decode cX8_mark 173 = .ok (.iaload, 1) := by decide +kernel
theorem dX8_mark_174 : decode cX8_mark 174 = .ok (.isub, 1) := by decide +kernel
theorem dX8_mark_175 : decode cX8_mark 175 = .ok (.iload_n 2, 1) := by decide +kernel
theorem dX8_mark_176 : decode cX8_mark 176 = .ok (.iadd, 1) := by decide +kernel
theorem dX8_mark_177 : decode cX8_mark 177 = .ok (.ireturn, 1) := by decide +kernel
theorem dX8_mark_178 : decode cX8_mark 178 = .ok (.iload_n 3, 1) := by decide +kernel
theorem dX8_mark_179 : decode cX8_mark 179 = .ok (.aload_n 0, 1) := by decide +kernel
theorem dX8_mark_180 : decode cX8_mark 180 = .ok (.getfield 118, 3) := by decide +kernel
theorem dX8_mark_183 : decode cX8_mark 183 = .ok (.invokestatic 137, 3) := by decide +kernel
theorem dX8_mark_186 : decode cX8_mark 186 = .ok (.iadd, 1) := by decide +kernel
theorem dX8_mark_187 : decode cX8_mark 187 = .ok (.ireturn, 1) := by decide +kernel
theorem dX8_trace_0 : decode cX8_trace 0 = .ok (.aload_n 0, 1) := by decide +kernel
theorem dX8_trace_1 : decode cX8_trace 1 = .ok (.getfield 182, 3) := by decide +kernel
theorem dX8_trace_4 : decode cX8_trace 4 = .ok (.lreturn, 1) := by decide +kernel
theorem dX8_keep_0 : decode cX8_keep 0 = .ok (.iload_n 1, 1) := by decide +kernel
theorem dX8_keep_1 : decode cX8_keep 1 = .ok (.i2l, 1) := by decide +kernel
theorem dX8_keep_2 : decode cX8_keep 2 = .ok (.lconst 0, 1) := by decide +kernel
theorem dX8_keep_3 : decode cX8_keep 3 = .ok (.lconst 1, 1) := by decide +kernel
theorem dX8_keep_4 : decode cX8_keep 4 = .ok (.invokestatic 49, 3) := by decide +kernel
theorem dX8_keep_7 : decode cX8_keep 7 = .ok (.ifCond .ne 5, 3) := by decide +kernel
theorem dX8_keep_10 : decode cX8_keep 10 = .ok (.iconst (-1), 1) := by decide +kernel
theorem dX8_keep_11 : decode cX8_keep 11 = .ok (.ireturn, 1) := by decide +kernel
theorem dX8_keep_12 : decode cX8_keep 12 = .ok (.bipush 46, 2) := by decide +kernel
theorem dX8_keep_14 : decode cX8_keep 14 = .ok (.iload_n 1, 1) := by decide +kernel
theorem dX8_keep_15 : decode cX8_keep 15 = .ok (.imul, 1) := by decide +kernel
theorem dX8_keep_16 : decode cX8_keep 16 = .ok (.istore_n 2, 1) := by decide +kernel
theorem dX8_keep_17 : decode cX8_keep 17 = .ok (.aload_n 0, 1) := by decide +kernel
theorem dX8_keep_18 : decode cX8_keep 18 = .ok (.getfield 40, 3) := by decide +kernel
theorem dX8_keep_21 : decode cX8_keep 21 = .ok (.iload_n 2, 1) := by decide +kernel
theorem dX8_keep_22 : decode cX8_keep 22 = .ok (.iconst 1, 1) := by decide +kernel
theorem dX8_keep_23 : decode cX8_keep 23 = .ok (.iastore, 1) := by decide +kernel
theorem dX8_keep_24 : decode cX8_keep 24 = .ok (.aload_n 0, 1) := by decide +kernel
theorem dX8_keep_25 : decode cX8_keep 25 = .ok (.getfield 40, 3) := by decide +kernel
theorem dX8_keep_28 : decode cX8_keep 28 = .ok (.iload_n 2, 1) := by decide +kernel
theorem dX8_keep_29 : decode cX8_keep 29 = .ok (.iconst 1, 1) := by decide +kernel
theorem dX8_keep_30 : decode cX8_keep 30 = .ok (.iadd, 1) := by decide +kernel
theorem dX8_keep_31 : decode cX8_keep 31 = .ok (.aload_n 0, 1) := by decide +kernel
theorem dX8_keep_32 : decode cX8_keep 32 = .ok (.getfield 115, 3) := by decide +kernel
theorem dX8_keep_35 : decode cX8_keep 35 = .ok (.iastore, 1) := by decide +kernel
theorem dX8_keep_36 : decode cX8_keep 36 = .ok (.aload_n 0, 1) := by decide +kernel
theorem dX8_keep_37 : decode cX8_keep 37 = .ok (.getfield 40, 3) := by decide +kernel
theorem dX8_keep_40 : decode cX8_keep 40 = .ok (.iload_n 2, 1) := by decide +kernel
theorem dX8_keep_41 : decode cX8_keep 41 = .ok (.iconst 2, 1) := by decide +kernel
theorem dX8_keep_42 : decode cX8_keep 42 = .ok (.iadd, 1) := by decide +kernel
theorem dX8_keep_43 : decode cX8_keep 43 = .ok (.aload_n 0, 1) := by decide +kernel
theorem dX8_keep_44 : decode cX8_keep 44 = .ok (.getfield 118, 3) := by decide +kernel
theorem dX8_keep_47 : decode cX8_keep 47 = .ok (.iastore, 1) := by decide +kernel
theorem dX8_keep_48 : decode cX8_keep 48 = .ok (.aload_n 0, 1) := by decide +kernel
theorem dX8_keep_49 : decode cX8_keep 49 = .ok (.getfield 40, 3) := by decide +kernel
theorem dX8_keep_52 : decode cX8_keep 52 = .ok (.iload_n 2, 1) := by decide +kernel
theorem dX8_keep_53 : decode cX8_keep 53 = .ok (.iconst 3, 1) := by decide +kernel
theorem dX8_keep_54 : decode cX8_keep 54 = .ok (.iadd, 1) := by decide +kernel
theorem dX8_keep_55 : decode cX8_keep 55 = .ok (.aload_n 0, 1) := by decide +kernel
theorem dX8_keep_56 : decode cX8_keep 56 = .ok (.getfield 121, 3) := by decide +kernel
theorem dX8_keep_59 : decode cX8_keep 59 = .ok (.iastore, 1) := by decide +kernel
theorem dX8_keep_60 : decode cX8_keep 60 = .ok (.aload_n 0, 1) := by decide +kernel
theorem dX8_keep_61 : decode cX8_keep 61 = .ok (.getfield 40, 3) := by decide +kernel
theorem dX8_keep_64 : decode cX8_keep 64 = .ok (.iload_n 2, 1) := by decide +kernel
theorem dX8_keep_65 : decode cX8_keep 65 = .ok (.iconst 4, 1) := by decide +kernel
theorem dX8_keep_66 : decode cX8_keep 66 = .ok (.iadd, 1) := by decide +kernel
theorem dX8_keep_67 : decode cX8_keep 67 = .ok (.aload_n 0, 1) := by decide +kernel
theorem dX8_keep_68 : decode cX8_keep 68 = .ok (.getfield 124, 3) := by decide +kernel
theorem dX8_keep_71 : decode cX8_keep 71 = .ok (.iastore, 1) := by decide +kernel
theorem dX8_keep_72 : decode cX8_keep 72 = .ok (.aload_n 0, 1) := by decide +kernel
theorem dX8_keep_73 : decode cX8_keep 73 = .ok (.getfield 40, 3) := by decide +kernel
theorem dX8_keep_76 : decode cX8_keep 76 = .ok (.iload_n 2, 1) := by decide +kernel
theorem dX8_keep_77 : decode cX8_keep 77 = .ok (.iconst 5, 1) := by decide +kernel
theorem dX8_keep_78 : decode cX8_keep 78 = .ok (.iadd, 1) := by decide +kernel
theorem dX8_keep_79 : decode cX8_keep 79 = .ok (.aload_n 0, 1) := by decide +kernel
theorem dX8_keep_80 : decode cX8_keep 80 = .ok (.getfield 127, 3) := by decide +kernel
theorem dX8_keep_83 : decode cX8_keep 83 = .ok (.iastore, 1) := by decide +kernel
theorem dX8_keep_84 : decode cX8_keep 84 = .ok (.iconst 0, 1) := by decide +kernel
theorem dX8_keep_85 : decode cX8_keep 85 = .ok (.istore_n 3, 1) := by decide +kernel
theorem dX8_keep_86 : decode cX8_keep 86 = .ok (.iload_n 3, 1) := by decide +kernel
theorem dX8_keep_87 : decode cX8_keep 87 = .ok (.bipush 40, 2) := by decide +kernel
theorem dX8_keep_89 : decode cX8_keep 89 = .ok (.if_icmp .ge 26, 3) := by decide +kernel
theorem dX8_keep_92 : decode cX8_keep 92 = .ok (.aload_n 0, 1) := by decide +kernel
theorem dX8_keep_93 : decode cX8_keep 93 = .ok (.getfield 40, 3) := by decide +kernel
theorem dX8_keep_96 : decode cX8_keep 96 = .ok (.iload_n 2, 1) := by decide +kernel
theorem dX8_keep_97 : decode cX8_keep 97 = .ok (.bipush 6, 2) := by decide +kernel
theorem dX8_keep_99 : decode cX8_keep 99 = .ok (.iadd, 1) := by decide +kernel
theorem dX8_keep_100 : decode cX8_keep 100 = .ok (.iload_n 3, 1) := by decide +kernel
theorem dX8_keep_101 : decode cX8_keep 101 = .ok (.iadd, 1) := by decide +kernel
theorem dX8_keep_102 : decode cX8_keep 102 = .ok (.aload_n 0, 1) := by decide +kernel
theorem dX8_keep_103 : decode cX8_keep 103 = .ok (.getfield 34, 3) := by decide +kernel
theorem dX8_keep_106 : decode cX8_keep 106 = .ok (.iload_n 3, 1) := by decide +kernel
theorem dX8_keep_107 : decode cX8_keep 107 = .ok (.iaload, 1) := by decide +kernel
theorem dX8_keep_108 : decode cX8_keep 108 = .ok (.iastore, 1) := by decide +kernel
theorem dX8_keep_109 : decode cX8_keep 109 = .ok (.iinc 3 1, 3) := by decide +kernel
theorem dX8_keep_112 : decode cX8_keep 112 = .ok (.goto (-26), 3) := by decide +kernel
theorem dX8_keep_115 : decode cX8_keep 115 = .ok (.aload_n 0, 1) := by decide +kernel
theorem dX8_keep_116 : decode cX8_keep 116 = .ok (.getfield 115, 3) := by decide +kernel
theorem dX8_keep_119 : decode cX8_keep 119 = .ok (.ireturn, 1) := by decide +kernel
theorem dX8_back_0 : decode cX8_back 0 = .ok (.iload_n 1, 1) := by decide +kernel
theorem dX8_back_1 : decode cX8_back 1 = .ok (.i2l, 1) := by decide +kernel
theorem dX8_back_2 : decode cX8_back 2 = .ok (.lconst 0, 1) := by decide +kernel
theorem dX8_back_3 : decode cX8_back 3 = .ok (.lconst 1, 1) := by decide +kernel
theorem dX8_back_4 : decode cX8_back 4 = .ok (.invokestatic 49, 3) := by decide +kernel
theorem dX8_back_7 : decode cX8_back 7 = .ok (.ifCond .ne 5, 3) := by decide +kernel
theorem dX8_back_10 : decode cX8_back 10 = .ok (.iconst (-1), 1) := by decide +kernel
theorem dX8_back_11 : decode cX8_back 11 = .ok (.ireturn, 1) := by decide +kernel
theorem dX8_back_12 : decode cX8_back 12 = .ok (.bipush 46, 2) := by decide +kernel
theorem dX8_back_14 : decode cX8_back 14 = .ok (.iload_n 1, 1) := by decide +kernel
theorem dX8_back_15 : decode cX8_back 15 = .ok (.imul, 1) := by decide +kernel
theorem dX8_back_16 : decode cX8_back 16 = .ok (.istore_n 2, 1) := by decide +kernel
theorem dX8_back_17 : decode cX8_back 17 = .ok (.aload_n 0, 1) := by decide +kernel
theorem dX8_back_18 : decode cX8_back 18 = .ok (.getfield 40, 3) := by decide +kernel
theorem dX8_back_21 : decode cX8_back 21 = .ok (.iload_n 2, 1) := by decide +kernel
theorem dX8_back_22 : decode cX8_back 22 = .ok (.iaload, 1) := by decide +kernel
theorem dX8_back_23 : decode cX8_back 23 = .ok (.ifCond .ne 6, 3) := by decide +kernel
theorem dX8_back_26 : decode cX8_back 26 = .ok (.bipush (-2), 2) := by decide +kernel
theorem dX8_back_28 : decode cX8_back 28 = .ok (.ireturn, 1) := by decide +kernel
theorem dX8_back_29 : decode cX8_back 29 = .ok (.aload_n 0, 1) := by decide +kernel
theorem dX8_back_30 : decode cX8_back 30 = .ok (.aload_n 0, 1) := by decide +kernel
theorem dX8_back_31 : decode cX8_back 31 = .ok (.getfield 40, 3) := by decide +kernel
theorem dX8_back_34 : decode cX8_back 34 = .ok (.iload_n 2, 1) := by decide +kernel
theorem dX8_back_35 : decode cX8_back 35 = .ok (.iconst 1, 1) := by decide +kernel
theorem dX8_back_36 : decode cX8_back 36 = .ok (.iadd, 1) := by decide +kernel
theorem dX8_back_37 : decode cX8_back 37 = .ok (.iaload, 1) := by decide +kernel
theorem dX8_back_38 : decode cX8_back 38 = .ok (.putfield 115, 3) := by decide +kernel
theorem dX8_back_41 : decode cX8_back 41 = .ok (.aload_n 0, 1) := by decide +kernel
theorem dX8_back_42 : decode cX8_back 42 = .ok (.aload_n 0, 1) := by decide +kernel
theorem dX8_back_43 : decode cX8_back 43 = .ok (.getfield 40, 3) := by decide +kernel
theorem dX8_back_46 : decode cX8_back 46 = .ok (.iload_n 2, 1) := by decide +kernel
theorem dX8_back_47 : decode cX8_back 47 = .ok (.iconst 2, 1) := by decide +kernel
theorem dX8_back_48 : decode cX8_back 48 = .ok (.iadd, 1) := by decide +kernel
theorem dX8_back_49 : decode cX8_back 49 = .ok (.iaload, 1) := by decide +kernel
theorem dX8_back_50 : decode cX8_back 50 = .ok (.putfield 118, 3) := by decide +kernel
theorem dX8_back_53 : decode cX8_back 53 = .ok (.aload_n 0, 1) := by decide +kernel
theorem dX8_back_54 : decode cX8_back 54 = .ok (.aload_n 0, 1) := by decide +kernel
theorem dX8_back_55 : decode cX8_back 55 = .ok (.getfield 40, 3) := by decide +kernel
theorem dX8_back_58 : decode cX8_back 58 = .ok (.iload_n 2, 1) := by decide +kernel
theorem dX8_back_59 : decode cX8_back 59 = .ok (.iconst 3, 1) := by decide +kernel
theorem dX8_back_60 : decode cX8_back 60 = .ok (.iadd, 1) := by decide +kernel
theorem dX8_back_61 : decode cX8_back 61 = .ok (.iaload, 1) := by decide +kernel
theorem dX8_back_62 : decode cX8_back 62 = .ok (.putfield 121, 3) := by decide +kernel
theorem dX8_back_65 : decode cX8_back 65 = .ok (.aload_n 0, 1) := by decide +kernel
theorem dX8_back_66 : decode cX8_back 66 = .ok (.aload_n 0, 1) := by decide +kernel
theorem dX8_back_67 : decode cX8_back 67 = .ok (.getfield 40, 3) := by decide +kernel
theorem dX8_back_70 : decode cX8_back 70 = .ok (.iload_n 2, 1) := by decide +kernel
theorem dX8_back_71 : decode cX8_back 71 = .ok (.iconst 4, 1) := by decide +kernel
theorem dX8_back_72 : decode cX8_back 72 = .ok (.iadd, 1) := by decide +kernel
theorem dX8_back_73 : decode cX8_back 73 = .ok (.iaload, 1) := by decide +kernel
theorem dX8_back_74 : decode cX8_back 74 = .ok (.putfield 124, 3) := by decide +kernel
theorem dX8_back_77 : decode cX8_back 77 = .ok (.aload_n 0, 1) := by decide +kernel
theorem dX8_back_78 : decode cX8_back 78 = .ok (.aload_n 0, 1) := by decide +kernel
theorem dX8_back_79 : decode cX8_back 79 = .ok (.getfield 40, 3) := by decide +kernel
theorem dX8_back_82 : decode cX8_back 82 = .ok (.iload_n 2, 1) := by decide +kernel
theorem dX8_back_83 : decode cX8_back 83 = .ok (.iconst 5, 1) := by decide +kernel
theorem dX8_back_84 : decode cX8_back 84 = .ok (.iadd, 1) := by decide +kernel
theorem dX8_back_85 : decode cX8_back 85 = .ok (.iaload, 1) := by decide +kernel
theorem dX8_back_86 : decode cX8_back 86 = .ok (.putfield 127, 3) := by decide +kernel
theorem dX8_back_89 : decode cX8_back 89 = .ok (.iconst 0, 1) := by decide +kernel
theorem dX8_back_90 : decode cX8_back 90 = .ok (.istore_n 3, 1) := by decide +kernel
theorem dX8_back_91 : decode cX8_back 91 = .ok (.iload_n 3, 1) := by decide +kernel
theorem dX8_back_92 : decode cX8_back 92 = .ok (.bipush 40, 2) := by decide +kernel
theorem dX8_back_94 : decode cX8_back 94 = .ok (.if_icmp .ge 26, 3) := by decide +kernel
theorem dX8_back_97 : decode cX8_back 97 = .ok (.aload_n 0, 1) := by decide +kernel
theorem dX8_back_98 : decode cX8_back 98 = .ok (.getfield 34, 3) := by decide +kernel
theorem dX8_back_101 : decode cX8_back 101 = .ok (.iload_n 3, 1) := by decide +kernel
theorem dX8_back_102 : decode cX8_back 102 = .ok (.aload_n 0, 1) := by decide +kernel
theorem dX8_back_103 : decode cX8_back 103 = .ok (.getfield 40, 3) := by decide +kernel
theorem dX8_back_106 : decode cX8_back 106 = .ok (.iload_n 2, 1) := by decide +kernel
theorem dX8_back_107 : decode cX8_back 107 = .ok (.bipush 6, 2) := by decide +kernel
theorem dX8_back_109 : decode cX8_back 109 = .ok (.iadd, 1) := by decide +kernel
theorem dX8_back_110 : decode cX8_back 110 = .ok (.iload_n 3, 1) := by decide +kernel
theorem dX8_back_111 : decode cX8_back 111 = .ok (.iadd, 1) := by decide +kernel
theorem dX8_back_112 : decode cX8_back 112 = .ok (.iaload, 1) := by decide +kernel
theorem dX8_back_113 : decode cX8_back 113 = .ok (.iastore, 1) := by decide +kernel
theorem dX8_back_114 : decode cX8_back 114 = .ok (.iinc 3 1, 3) := by decide +kernel
theorem dX8_back_117 : decode cX8_back 117 = .ok (.goto (-26), 3) := by decide +kernel
theorem dX8_back_120 : decode cX8_back 120 = .ok (.aload_n 0, 1) := by decide +kernel
theorem dX8_back_121 : decode cX8_back 121 = .ok (.getfield 115, 3) := by decide +kernel
theorem dX8_back_124 : decode cX8_back 124 = .ok (.ireturn, 1) := by decide +kernel
theorem dX8_count_0 : decode cX8_count 0 = .ok (.iload_n 1, 1) := by decide +kernel
theorem dX8_count_1 : decode cX8_count 1 = .ok (.tableswitch 51 0 3 #[31, 36, 41, 46], 31) := by decide +kernel
theorem dX8_count_32 : decode cX8_count 32 = .ok (.aload_n 0, 1) := by decide +kernel
theorem dX8_count_33 : decode cX8_count 33 = .ok (.getfield 43, 3) := by decide +kernel
theorem dX8_count_36 : decode cX8_count 36 = .ok (.ireturn, 1) := by decide +kernel
theorem dX8_count_37 : decode cX8_count 37 = .ok (.aload_n 0, 1) := by decide +kernel
theorem dX8_count_38 : decode cX8_count 38 = .ok (.getfield 112, 3) := by decide +kernel
theorem dX8_count_41 : decode cX8_count 41 = .ok (.ireturn, 1) := by decide +kernel
theorem dX8_count_42 : decode cX8_count 42 = .ok (.aload_n 0, 1) := by decide +kernel
theorem dX8_count_43 : decode cX8_count 43 = .ok (.getfield 127, 3) := by decide +kernel
theorem dX8_count_46 : decode cX8_count 46 = .ok (.ireturn, 1) := by decide +kernel
theorem dX8_count_47 : decode cX8_count 47 = .ok (.aload_n 0, 1) := by decide +kernel
theorem dX8_count_48 : decode cX8_count 48 = .ok (.getfield 53, 3) := by decide +kernel
theorem dX8_count_51 : decode cX8_count 51 = .ok (.ireturn, 1) := by decide +kernel
theorem dX8_count_52 : decode cX8_count 52 = .ok (.iconst (-1), 1) := by decide +kernel
theorem dX8_count_53 : decode cX8_count 53 = .ok (.ireturn, 1) := by decide +kernel
theorem dJ6_bitCount_0f7a4_0 : decode cJ6_bitCount_0f7a4 0 = .ok (.iload_n 0, 1) := by decide +kernel
theorem dJ6_bitCount_0f7a4_1 : decode cJ6_bitCount_0f7a4 1 = .ok (.iload_n 0, 1) := by decide +kernel
theorem dJ6_bitCount_0f7a4_2 : decode cJ6_bitCount_0f7a4 2 = .ok (.iconst 1, 1) := by decide +kernel
theorem dJ6_bitCount_0f7a4_3 : decode cJ6_bitCount_0f7a4 3 = .ok (.iushr, 1) := by decide +kernel
theorem dJ6_bitCount_0f7a4_4 : decode cJ6_bitCount_0f7a4 4 = .ok (.ldc_w 265, 3) := by decide +kernel
theorem dJ6_bitCount_0f7a4_7 : decode cJ6_bitCount_0f7a4 7 = .ok (.iand, 1) := by decide +kernel
theorem dJ6_bitCount_0f7a4_8 : decode cJ6_bitCount_0f7a4 8 = .ok (.isub, 1) := by decide +kernel
theorem dJ6_bitCount_0f7a4_9 : decode cJ6_bitCount_0f7a4 9 = .ok (.istore_n 0, 1) := by decide +kernel
theorem dJ6_bitCount_0f7a4_10 : decode cJ6_bitCount_0f7a4 10 = .ok (.iload_n 0, 1) := by decide +kernel
theorem dJ6_bitCount_0f7a4_11 : decode cJ6_bitCount_0f7a4 11 = .ok (.ldc_w 266, 3) := by decide +kernel
theorem dJ6_bitCount_0f7a4_14 : decode cJ6_bitCount_0f7a4 14 = .ok (.iand, 1) := by decide +kernel
theorem dJ6_bitCount_0f7a4_15 : decode cJ6_bitCount_0f7a4 15 = .ok (.iload_n 0, 1) := by decide +kernel
theorem dJ6_bitCount_0f7a4_16 : decode cJ6_bitCount_0f7a4 16 = .ok (.iconst 2, 1) := by decide +kernel
theorem dJ6_bitCount_0f7a4_17 : decode cJ6_bitCount_0f7a4 17 = .ok (.iushr, 1) := by decide +kernel
theorem dJ6_bitCount_0f7a4_18 : decode cJ6_bitCount_0f7a4 18 = .ok (.ldc_w 266, 3) := by decide +kernel
theorem dJ6_bitCount_0f7a4_21 : decode cJ6_bitCount_0f7a4 21 = .ok (.iand, 1) := by decide +kernel
theorem dJ6_bitCount_0f7a4_22 : decode cJ6_bitCount_0f7a4 22 = .ok (.iadd, 1) := by decide +kernel
theorem dJ6_bitCount_0f7a4_23 : decode cJ6_bitCount_0f7a4 23 = .ok (.istore_n 0, 1) := by decide +kernel
theorem dJ6_bitCount_0f7a4_24 : decode cJ6_bitCount_0f7a4 24 = .ok (.iload_n 0, 1) := by decide +kernel
theorem dJ6_bitCount_0f7a4_25 : decode cJ6_bitCount_0f7a4 25 = .ok (.iload_n 0, 1) := by decide +kernel
theorem dJ6_bitCount_0f7a4_26 : decode cJ6_bitCount_0f7a4 26 = .ok (.iconst 4, 1) := by decide +kernel
theorem dJ6_bitCount_0f7a4_27 : decode cJ6_bitCount_0f7a4 27 = .ok (.iushr, 1) := by decide +kernel
theorem dJ6_bitCount_0f7a4_28 : decode cJ6_bitCount_0f7a4 28 = .ok (.iadd, 1) := by decide +kernel
theorem dJ6_bitCount_0f7a4_29 : decode cJ6_bitCount_0f7a4 29 = .ok (.ldc_w 267, 3) := by decide +kernel
theorem dJ6_bitCount_0f7a4_32 : decode cJ6_bitCount_0f7a4 32 = .ok (.iand, 1) := by decide +kernel
theorem dJ6_bitCount_0f7a4_33 : decode cJ6_bitCount_0f7a4 33 = .ok (.istore_n 0, 1) := by decide +kernel
theorem dJ6_bitCount_0f7a4_34 : decode cJ6_bitCount_0f7a4 34 = .ok (.iload_n 0, 1) := by decide +kernel
theorem dJ6_bitCount_0f7a4_35 : decode cJ6_bitCount_0f7a4 35 = .ok (.iload_n 0, 1) := by decide +kernel
theorem dJ6_bitCount_0f7a4_36 : decode cJ6_bitCount_0f7a4 36 = .ok (.bipush 8, 2) := by decide +kernel
theorem dJ6_bitCount_0f7a4_38 : decode cJ6_bitCount_0f7a4 38 = .ok (.iushr, 1) := by decide +kernel
theorem dJ6_bitCount_0f7a4_39 : decode cJ6_bitCount_0f7a4 39 = .ok (.iadd, 1) := by decide +kernel
theorem dJ6_bitCount_0f7a4_40 : decode cJ6_bitCount_0f7a4 40 = .ok (.istore_n 0, 1) := by decide +kernel
theorem dJ6_bitCount_0f7a4_41 : decode cJ6_bitCount_0f7a4 41 = .ok (.iload_n 0, 1) := by decide +kernel
theorem dJ6_bitCount_0f7a4_42 : decode cJ6_bitCount_0f7a4 42 = .ok (.iload_n 0, 1) := by decide +kernel
theorem dJ6_bitCount_0f7a4_43 : decode cJ6_bitCount_0f7a4 43 = .ok (.bipush 16, 2) := by decide +kernel
theorem dJ6_bitCount_0f7a4_45 : decode cJ6_bitCount_0f7a4 45 = .ok (.iushr, 1) := by decide +kernel
theorem dJ6_bitCount_0f7a4_46 : decode cJ6_bitCount_0f7a4 46 = .ok (.iadd, 1) := by decide +kernel
theorem dJ6_bitCount_0f7a4_47 : decode cJ6_bitCount_0f7a4 47 = .ok (.istore_n 0, 1) := by decide +kernel
theorem dJ6_bitCount_0f7a4_48 : decode cJ6_bitCount_0f7a4 48 = .ok (.iload_n 0, 1) := by decide +kernel
theorem dJ6_bitCount_0f7a4_49 : decode cJ6_bitCount_0f7a4 49 = .ok (.bipush 63, 2) := by decide +kernel
theorem dJ6_bitCount_0f7a4_51 : decode cJ6_bitCount_0f7a4 51 = .ok (.iand, 1) := by decide +kernel
theorem dJ6_bitCount_0f7a4_52 : decode cJ6_bitCount_0f7a4 52 = .ok (.ireturn, 1) := by decide +kernel
theorem dJ9_max_7cf53_0 : decode cJ9_max_7cf53 0 = .ok (.iload_n 0, 1) := by decide +kernel
theorem dJ9_max_7cf53_1 : decode cJ9_max_7cf53 1 = .ok (.iload_n 1, 1) := by decide +kernel
theorem dJ9_max_7cf53_2 : decode cJ9_max_7cf53 2 = .ok (.if_icmp .lt 7, 3) := by decide +kernel
theorem dJ9_max_7cf53_5 : decode cJ9_max_7cf53 5 = .ok (.iload_n 0, 1) := by decide +kernel
theorem dJ9_max_7cf53_6 : decode cJ9_max_7cf53 6 = .ok (.goto 4, 3) := by decide +kernel
theorem dJ9_max_7cf53_9 : decode cJ9_max_7cf53 9 = .ok (.iload_n 1, 1) := by decide +kernel
theorem dJ9_max_7cf53_10 : decode cJ9_max_7cf53 10 = .ok (.ireturn, 1) := by decide +kernel
theorem dJ9_min_7cf53_0 : decode cJ9_min_7cf53 0 = .ok (.iload_n 0, 1) := by decide +kernel
theorem dJ9_min_7cf53_1 : decode cJ9_min_7cf53 1 = .ok (.iload_n 1, 1) := by decide +kernel
theorem dJ9_min_7cf53_2 : decode cJ9_min_7cf53 2 = .ok (.if_icmp .gt 7, 3) := by decide +kernel
theorem dJ9_min_7cf53_5 : decode cJ9_min_7cf53 5 = .ok (.iload_n 0, 1) := by decide +kernel
theorem dJ9_min_7cf53_6 : decode cJ9_min_7cf53 6 = .ok (.goto 4, 3) := by decide +kernel
theorem dJ9_min_7cf53_9 : decode cJ9_min_7cf53 9 = .ok (.iload_n 1, 1) := by decide +kernel
theorem dJ9_min_7cf53_10 : decode cJ9_min_7cf53 10 = .ok (.ireturn, 1) := by decide +kernel
theorem dJ7_fill_53178_0 : decode cJ7_fill_53178 0 = .ok (.iconst 0, 1) := by decide +kernel
theorem dJ7_fill_53178_1 : decode cJ7_fill_53178 1 = .ok (.istore_n 2, 1) := by decide +kernel
theorem dJ7_fill_53178_2 : decode cJ7_fill_53178 2 = .ok (.aload_n 0, 1) := by decide +kernel
theorem dJ7_fill_53178_3 : decode cJ7_fill_53178 3 = .ok (.arraylength, 1) := by decide +kernel
theorem dJ7_fill_53178_4 : decode cJ7_fill_53178 4 = .ok (.istore_n 3, 1) := by decide +kernel
theorem dJ7_fill_53178_5 : decode cJ7_fill_53178 5 = .ok (.iload_n 2, 1) := by decide +kernel
theorem dJ7_fill_53178_6 : decode cJ7_fill_53178 6 = .ok (.iload_n 3, 1) := by decide +kernel
theorem dJ7_fill_53178_7 : decode cJ7_fill_53178 7 = .ok (.if_icmp .ge 13, 3) := by decide +kernel
theorem dJ7_fill_53178_10 : decode cJ7_fill_53178 10 = .ok (.aload_n 0, 1) := by decide +kernel
theorem dJ7_fill_53178_11 : decode cJ7_fill_53178 11 = .ok (.iload_n 2, 1) := by decide +kernel
theorem dJ7_fill_53178_12 : decode cJ7_fill_53178 12 = .ok (.iload_n 1, 1) := by decide +kernel
theorem dJ7_fill_53178_13 : decode cJ7_fill_53178 13 = .ok (.iastore, 1) := by decide +kernel
theorem dJ7_fill_53178_14 : decode cJ7_fill_53178 14 = .ok (.iinc 2 1, 3) := by decide +kernel
theorem dJ7_fill_53178_17 : decode cJ7_fill_53178 17 = .ok (.goto (-12), 3) := by decide +kernel
theorem dJ7_fill_53178_20 : decode cJ7_fill_53178 20 = .ok (.return_, 1) := by decide +kernel
theorem dL_law_0 : decode cL_law 0 = .ok (.new 7, 3) := by decide +kernel
theorem dL_law_3 : decode cL_law 3 = .ok (.dup, 1) := by decide +kernel
theorem dL_law_4 : decode cL_law 4 = .ok (.invokespecial 9, 3) := by decide +kernel
theorem dL_law_7 : decode cL_law 7 = .ok (.astore_n 1, 1) := by decide +kernel
theorem dL_law_8 : decode cL_law 8 = .ok (.new 10, 3) := by decide +kernel
theorem dL_law_11 : decode cL_law 11 = .ok (.dup, 1) := by decide +kernel
theorem dL_law_12 : decode cL_law 12 = .ok (.invokespecial 12, 3) := by decide +kernel
theorem dL_law_15 : decode cL_law 15 = .ok (.astore_n 2, 1) := by decide +kernel
theorem dL_law_16 : decode cL_law 16 = .ok (.iconst 0, 1) := by decide +kernel
theorem dL_law_17 : decode cL_law 17 = .ok (.istore_n 3, 1) := by decide +kernel
theorem dL_law_18 : decode cL_law 18 = .ok (.iload_n 3, 1) := by decide +kernel
theorem dL_law_19 : decode cL_law 19 = .ok (.aload_n 0, 1) := by decide +kernel
theorem dL_law_20 : decode cL_law 20 = .ok (.arraylength, 1) := by decide +kernel
theorem dL_law_21 : decode cL_law 21 = .ok (.iconst 4, 1) := by decide +kernel
theorem dL_law_22 : decode cL_law 22 = .ok (.isub, 1) := by decide +kernel
theorem dL_law_23 : decode cL_law 23 = .ok (.if_icmp .gt 774, 3) := by decide +kernel
theorem dL_law_26 : decode cL_law 26 = .ok (.aload_n 0, 1) := by decide +kernel
theorem dL_law_27 : decode cL_law 27 = .ok (.iload_n 3, 1) := by decide +kernel
theorem dL_law_28 : decode cL_law 28 = .ok (.iaload, 1) := by decide +kernel
theorem dL_law_29 : decode cL_law 29 = .ok (.bipush 31, 2) := by decide +kernel
theorem dL_law_31 : decode cL_law 31 = .ok (.iand, 1) := by decide +kernel
theorem dL_law_32 : decode cL_law 32 = .ok (.tableswitch 759 0 25 #[120, 143, 156, 169, 202, 235, 248, 271, 304, 317, 340, 363, 386, 399, 432, 445, 488, 531, 564, 587, 610, 643, 676, 699, 722, 745], 120) := by decide +kernel
theorem dL_law_152 : decode cL_law 152 = .ok (.aload_n 1, 1) := by decide +kernel
theorem dL_law_153 : decode cL_law 153 = .ok (.aload_n 0, 1) := by decide +kernel
theorem dL_law_154 : decode cL_law 154 = .ok (.iload_n 3, 1) := by decide +kernel
theorem dL_law_155 : decode cL_law 155 = .ok (.iconst 1, 1) := by decide +kernel
theorem dL_law_156 : decode cL_law 156 = .ok (.iadd, 1) := by decide +kernel
theorem dL_law_157 : decode cL_law 157 = .ok (.iaload, 1) := by decide +kernel
theorem dL_law_158 : decode cL_law 158 = .ok (.invokevirtual 13, 3) := by decide +kernel
theorem dL_law_161 : decode cL_law 161 = .ok (.aload_n 2, 1) := by decide +kernel
theorem dL_law_162 : decode cL_law 162 = .ok (.aload_n 0, 1) := by decide +kernel
theorem dL_law_163 : decode cL_law 163 = .ok (.iload_n 3, 1) := by decide +kernel
theorem dL_law_164 : decode cL_law 164 = .ok (.iconst 1, 1) := by decide +kernel
theorem dL_law_165 : decode cL_law 165 = .ok (.iadd, 1) := by decide +kernel
theorem dL_law_166 : decode cL_law 166 = .ok (.iaload, 1) := by decide +kernel
theorem dL_law_167 : decode cL_law 167 = .ok (.invokevirtual 17, 3) := by decide +kernel
theorem dL_law_170 : decode cL_law 170 = .ok (.if_icmp .eq 621, 3) := by decide +kernel
theorem dL_law_173 : decode cL_law 173 = .ok (.iconst 0, 1) := by decide +kernel
theorem dL_law_174 : decode cL_law 174 = .ok (.ireturn, 1) := by decide +kernel
theorem dL_law_175 : decode cL_law 175 = .ok (.aload_n 1, 1) := by decide +kernel
theorem dL_law_176 : decode cL_law 176 = .ok (.invokevirtual 18, 3) := by decide +kernel
theorem dL_law_179 : decode cL_law 179 = .ok (.aload_n 2, 1) := by decide +kernel
theorem dL_law_180 : decode cL_law 180 = .ok (.invokevirtual 22, 3) := by decide +kernel
theorem dL_law_183 : decode cL_law 183 = .ok (.if_icmp .eq 608, 3) := by decide +kernel
theorem dL_law_186 : decode cL_law 186 = .ok (.iconst 0, 1) := by decide +kernel
theorem dL_law_187 : decode cL_law 187 = .ok (.ireturn, 1) := by decide +kernel
theorem dL_law_188 : decode cL_law 188 = .ok (.aload_n 1, 1) := by decide +kernel
theorem dL_law_189 : decode cL_law 189 = .ok (.invokevirtual 23, 3) := by decide +kernel
theorem dL_law_192 : decode cL_law 192 = .ok (.aload_n 2, 1) := by decide +kernel
theorem dL_law_193 : decode cL_law 193 = .ok (.invokevirtual 26, 3) := by decide +kernel
theorem dL_law_196 : decode cL_law 196 = .ok (.if_icmp .eq 595, 3) := by decide +kernel
theorem dL_law_199 : decode cL_law 199 = .ok (.iconst 0, 1) := by decide +kernel
theorem dL_law_200 : decode cL_law 200 = .ok (.ireturn, 1) := by decide +kernel
theorem dL_law_201 : decode cL_law 201 = .ok (.aload_n 1, 1) := by decide +kernel
theorem dL_law_202 : decode cL_law 202 = .ok (.aload_n 0, 1) := by decide +kernel
theorem dL_law_203 : decode cL_law 203 = .ok (.iload_n 3, 1) := by decide +kernel
theorem dL_law_204 : decode cL_law 204 = .ok (.iconst 1, 1) := by decide +kernel
theorem dL_law_205 : decode cL_law 205 = .ok (.iadd, 1) := by decide +kernel
theorem dL_law_206 : decode cL_law 206 = .ok (.iaload, 1) := by decide +kernel
theorem dL_law_207 : decode cL_law 207 = .ok (.aload_n 0, 1) := by decide +kernel
theorem dL_law_208 : decode cL_law 208 = .ok (.iload_n 3, 1) := by decide +kernel
theorem dL_law_209 : decode cL_law 209 = .ok (.iconst 2, 1) := by decide +kernel
theorem dL_law_210 : decode cL_law 210 = .ok (.iadd, 1) := by decide +kernel
theorem dL_law_211 : decode cL_law 211 = .ok (.iaload, 1) := by decide +kernel
theorem dL_law_212 : decode cL_law 212 = .ok (.invokevirtual 27, 3) := by decide +kernel
theorem dL_law_215 : decode cL_law 215 = .ok (.aload_n 2, 1) := by decide +kernel
theorem dL_law_216 : decode cL_law 216 = .ok (.aload_n 0, 1) := by decide +kernel
theorem dL_law_217 : decode cL_law 217 = .ok (.iload_n 3, 1) := by decide +kernel
theorem dL_law_218 : decode cL_law 218 = .ok (.iconst 1, 1) := by decide +kernel
theorem dL_law_219 : decode cL_law 219 = .ok (.iadd, 1) := by decide +kernel
theorem dL_law_220 : decode cL_law 220 = .ok (.iaload, 1) := by decide +kernel
theorem dL_law_221 : decode cL_law 221 = .ok (.aload_n 0, 1) := by decide +kernel
theorem dL_law_222 : decode cL_law 222 = .ok (.iload_n 3, 1) := by decide +kernel
theorem dL_law_223 : decode cL_law 223 = .ok (.iconst 2, 1) := by decide +kernel
theorem dL_law_224 : decode cL_law 224 = .ok (.iadd, 1) := by decide +kernel
theorem dL_law_225 : decode cL_law 225 = .ok (.iaload, 1) := by decide +kernel
theorem dL_law_226 : decode cL_law 226 = .ok (.invokevirtual 31, 3) := by decide +kernel
theorem dL_law_229 : decode cL_law 229 = .ok (.if_icmp .eq 562, 3) := by decide +kernel
theorem dL_law_232 : decode cL_law 232 = .ok (.iconst 0, 1) := by decide +kernel
theorem dL_law_233 : decode cL_law 233 = .ok (.ireturn, 1) := by decide +kernel
theorem dL_law_234 : decode cL_law 234 = .ok (.aload_n 1, 1) := by decide +kernel
theorem dL_law_235 : decode cL_law 235 = .ok (.aload_n 0, 1) := by decide +kernel
theorem dL_law_236 : decode cL_law 236 = .ok (.iload_n 3, 1) := by decide +kernel
theorem dL_law_237 : decode cL_law 237 = .ok (.iconst 1, 1) := by decide +kernel
theorem dL_law_238 : decode cL_law 238 = .ok (.iadd, 1) := by decide +kernel
theorem dL_law_239 : decode cL_law 239 = .ok (.iaload, 1) := by decide +kernel
theorem dL_law_240 : decode cL_law 240 = .ok (.aload_n 0, 1) := by decide +kernel
theorem dL_law_241 : decode cL_law 241 = .ok (.iload_n 3, 1) := by decide +kernel
theorem dL_law_242 : decode cL_law 242 = .ok (.iconst 2, 1) := by decide +kernel
theorem dL_law_243 : decode cL_law 243 = .ok (.iadd, 1) := by decide +kernel
theorem dL_law_244 : decode cL_law 244 = .ok (.iaload, 1) := by decide +kernel
theorem dL_law_245 : decode cL_law 245 = .ok (.invokevirtual 32, 3) := by decide +kernel
theorem dL_law_248 : decode cL_law 248 = .ok (.aload_n 2, 1) := by decide +kernel
theorem dL_law_249 : decode cL_law 249 = .ok (.aload_n 0, 1) := by decide +kernel
theorem dL_law_250 : decode cL_law 250 = .ok (.iload_n 3, 1) := by decide +kernel
theorem dL_law_251 : decode cL_law 251 = .ok (.iconst 1, 1) := by decide +kernel
theorem dL_law_252 : decode cL_law 252 = .ok (.iadd, 1) := by decide +kernel
theorem dL_law_253 : decode cL_law 253 = .ok (.iaload, 1) := by decide +kernel
theorem dL_law_254 : decode cL_law 254 = .ok (.aload_n 0, 1) := by decide +kernel
theorem dL_law_255 : decode cL_law 255 = .ok (.iload_n 3, 1) := by decide +kernel
theorem dL_law_256 : decode cL_law 256 = .ok (.iconst 2, 1) := by decide +kernel
theorem dL_law_257 : decode cL_law 257 = .ok (.iadd, 1) := by decide +kernel
theorem dL_law_258 : decode cL_law 258 = .ok (.iaload, 1) := by decide +kernel
theorem dL_law_259 : decode cL_law 259 = .ok (.invokevirtual 35, 3) := by decide +kernel
theorem dL_law_262 : decode cL_law 262 = .ok (.if_icmp .eq 529, 3) := by decide +kernel
theorem dL_law_265 : decode cL_law 265 = .ok (.iconst 0, 1) := by decide +kernel
theorem dL_law_266 : decode cL_law 266 = .ok (.ireturn, 1) := by decide +kernel
theorem dL_law_267 : decode cL_law 267 = .ok (.aload_n 1, 1) := by decide +kernel
theorem dL_law_268 : decode cL_law 268 = .ok (.invokevirtual 36, 3) := by decide +kernel
theorem dL_law_271 : decode cL_law 271 = .ok (.aload_n 2, 1) := by decide +kernel
theorem dL_law_272 : decode cL_law 272 = .ok (.invokevirtual 39, 3) := by decide +kernel
theorem dL_law_275 : decode cL_law 275 = .ok (.if_icmp .eq 516, 3) := by decide +kernel
theorem dL_law_278 : decode cL_law 278 = .ok (.iconst 0, 1) := by decide +kernel
theorem dL_law_279 : decode cL_law 279 = .ok (.ireturn, 1) := by decide +kernel
theorem dL_law_280 : decode cL_law 280 = .ok (.aload_n 1, 1) := by decide +kernel
theorem dL_law_281 : decode cL_law 281 = .ok (.aload_n 0, 1) := by decide +kernel
theorem dL_law_282 : decode cL_law 282 = .ok (.iload_n 3, 1) := by decide +kernel
theorem dL_law_283 : decode cL_law 283 = .ok (.iconst 1, 1) := by decide +kernel
theorem dL_law_284 : decode cL_law 284 = .ok (.iadd, 1) := by decide +kernel
theorem dL_law_285 : decode cL_law 285 = .ok (.iaload, 1) := by decide +kernel
theorem dL_law_286 : decode cL_law 286 = .ok (.invokevirtual 40, 3) := by decide +kernel
theorem dL_law_289 : decode cL_law 289 = .ok (.aload_n 2, 1) := by decide +kernel
theorem dL_law_290 : decode cL_law 290 = .ok (.aload_n 0, 1) := by decide +kernel
theorem dL_law_291 : decode cL_law 291 = .ok (.iload_n 3, 1) := by decide +kernel
theorem dL_law_292 : decode cL_law 292 = .ok (.iconst 1, 1) := by decide +kernel
theorem dL_law_293 : decode cL_law 293 = .ok (.iadd, 1) := by decide +kernel
theorem dL_law_294 : decode cL_law 294 = .ok (.iaload, 1) := by decide +kernel
theorem dL_law_295 : decode cL_law 295 = .ok (.invokevirtual 43, 3) := by decide +kernel
theorem dL_law_298 : decode cL_law 298 = .ok (.if_icmp .eq 493, 3) := by decide +kernel
theorem dL_law_301 : decode cL_law 301 = .ok (.iconst 0, 1) := by decide +kernel
theorem dL_law_302 : decode cL_law 302 = .ok (.ireturn, 1) := by decide +kernel
theorem dL_law_303 : decode cL_law 303 = .ok (.aload_n 1, 1) := by decide +kernel
theorem dL_law_304 : decode cL_law 304 = .ok (.aload_n 0, 1) := by decide +kernel
theorem dL_law_305 : decode cL_law 305 = .ok (.iload_n 3, 1) := by decide +kernel
theorem dL_law_306 : decode cL_law 306 = .ok (.iconst 1, 1) := by decide +kernel
theorem dL_law_307 : decode cL_law 307 = .ok (.iadd, 1) := by decide +kernel
theorem dL_law_308 : decode cL_law 308 = .ok (.iaload, 1) := by decide +kernel
theorem dL_law_309 : decode cL_law 309 = .ok (.aload_n 0, 1) := by decide +kernel
theorem dL_law_310 : decode cL_law 310 = .ok (.iload_n 3, 1) := by decide +kernel
theorem dL_law_311 : decode cL_law 311 = .ok (.iconst 2, 1) := by decide +kernel
theorem dL_law_312 : decode cL_law 312 = .ok (.iadd, 1) := by decide +kernel
theorem dL_law_313 : decode cL_law 313 = .ok (.iaload, 1) := by decide +kernel
theorem dL_law_314 : decode cL_law 314 = .ok (.invokevirtual 44, 3) := by decide +kernel
theorem dL_law_317 : decode cL_law 317 = .ok (.aload_n 2, 1) := by decide +kernel
theorem dL_law_318 : decode cL_law 318 = .ok (.aload_n 0, 1) := by decide +kernel
theorem dL_law_319 : decode cL_law 319 = .ok (.iload_n 3, 1) := by decide +kernel
theorem dL_law_320 : decode cL_law 320 = .ok (.iconst 1, 1) := by decide +kernel
theorem dL_law_321 : decode cL_law 321 = .ok (.iadd, 1) := by decide +kernel
theorem dL_law_322 : decode cL_law 322 = .ok (.iaload, 1) := by decide +kernel
theorem dL_law_323 : decode cL_law 323 = .ok (.aload_n 0, 1) := by decide +kernel
theorem dL_law_324 : decode cL_law 324 = .ok (.iload_n 3, 1) := by decide +kernel
theorem dL_law_325 : decode cL_law 325 = .ok (.iconst 2, 1) := by decide +kernel
theorem dL_law_326 : decode cL_law 326 = .ok (.iadd, 1) := by decide +kernel
theorem dL_law_327 : decode cL_law 327 = .ok (.iaload, 1) := by decide +kernel
theorem dL_law_328 : decode cL_law 328 = .ok (.invokevirtual 47, 3) := by decide +kernel
theorem dL_law_331 : decode cL_law 331 = .ok (.if_icmp .eq 460, 3) := by decide +kernel
theorem dL_law_334 : decode cL_law 334 = .ok (.iconst 0, 1) := by decide +kernel
theorem dL_law_335 : decode cL_law 335 = .ok (.ireturn, 1) := by decide +kernel
theorem dL_law_336 : decode cL_law 336 = .ok (.aload_n 1, 1) := by decide +kernel
theorem dL_law_337 : decode cL_law 337 = .ok (.invokevirtual 48, 3) := by decide +kernel
theorem dL_law_340 : decode cL_law 340 = .ok (.aload_n 2, 1) := by decide +kernel
theorem dL_law_341 : decode cL_law 341 = .ok (.invokevirtual 51, 3) := by decide +kernel
theorem dL_law_344 : decode cL_law 344 = .ok (.if_icmp .eq 447, 3) := by decide +kernel
theorem dL_law_347 : decode cL_law 347 = .ok (.iconst 0, 1) := by decide +kernel
theorem dL_law_348 : decode cL_law 348 = .ok (.ireturn, 1) := by decide +kernel
theorem dL_law_349 : decode cL_law 349 = .ok (.aload_n 1, 1) := by decide +kernel
theorem dL_law_350 : decode cL_law 350 = .ok (.aload_n 0, 1) := by decide +kernel
theorem dL_law_351 : decode cL_law 351 = .ok (.iload_n 3, 1) := by decide +kernel
theorem dL_law_352 : decode cL_law 352 = .ok (.iconst 1, 1) := by decide +kernel
theorem dL_law_353 : decode cL_law 353 = .ok (.iadd, 1) := by decide +kernel
theorem dL_law_354 : decode cL_law 354 = .ok (.iaload, 1) := by decide +kernel
theorem dL_law_355 : decode cL_law 355 = .ok (.invokevirtual 52, 3) := by decide +kernel
theorem dL_law_358 : decode cL_law 358 = .ok (.aload_n 2, 1) := by decide +kernel
theorem dL_law_359 : decode cL_law 359 = .ok (.aload_n 0, 1) := by decide +kernel
theorem dL_law_360 : decode cL_law 360 = .ok (.iload_n 3, 1) := by decide +kernel
theorem dL_law_361 : decode cL_law 361 = .ok (.iconst 1, 1) := by decide +kernel
theorem dL_law_362 : decode cL_law 362 = .ok (.iadd, 1) := by decide +kernel
theorem dL_law_363 : decode cL_law 363 = .ok (.iaload, 1) := by decide +kernel
theorem dL_law_364 : decode cL_law 364 = .ok (.invokevirtual 55, 3) := by decide +kernel
theorem dL_law_367 : decode cL_law 367 = .ok (.if_icmp .eq 424, 3) := by decide +kernel
theorem dL_law_370 : decode cL_law 370 = .ok (.iconst 0, 1) := by decide +kernel
theorem dL_law_371 : decode cL_law 371 = .ok (.ireturn, 1) := by decide +kernel
theorem dL_law_372 : decode cL_law 372 = .ok (.aload_n 1, 1) := by decide +kernel
theorem dL_law_373 : decode cL_law 373 = .ok (.aload_n 0, 1) := by decide +kernel
theorem dL_law_374 : decode cL_law 374 = .ok (.iload_n 3, 1) := by decide +kernel
theorem dL_law_375 : decode cL_law 375 = .ok (.iconst 1, 1) := by decide +kernel
theorem dL_law_376 : decode cL_law 376 = .ok (.iadd, 1) := by decide +kernel
theorem dL_law_377 : decode cL_law 377 = .ok (.iaload, 1) := by decide +kernel
theorem dL_law_378 : decode cL_law 378 = .ok (.invokevirtual 56, 3) := by decide +kernel
theorem dL_law_381 : decode cL_law 381 = .ok (.aload_n 2, 1) := by decide +kernel
theorem dL_law_382 : decode cL_law 382 = .ok (.aload_n 0, 1) := by decide +kernel
theorem dL_law_383 : decode cL_law 383 = .ok (.iload_n 3, 1) := by decide +kernel
theorem dL_law_384 : decode cL_law 384 = .ok (.iconst 1, 1) := by decide +kernel
theorem dL_law_385 : decode cL_law 385 = .ok (.iadd, 1) := by decide +kernel
theorem dL_law_386 : decode cL_law 386 = .ok (.iaload, 1) := by decide +kernel
theorem dL_law_387 : decode cL_law 387 = .ok (.invokevirtual 59, 3) := by decide +kernel
theorem dL_law_390 : decode cL_law 390 = .ok (.if_icmp .eq 401, 3) := by decide +kernel
theorem dL_law_393 : decode cL_law 393 = .ok (.iconst 0, 1) := by decide +kernel
theorem dL_law_394 : decode cL_law 394 = .ok (.ireturn, 1) := by decide +kernel
theorem dL_law_395 : decode cL_law 395 = .ok (.aload_n 1, 1) := by decide +kernel
theorem dL_law_396 : decode cL_law 396 = .ok (.aload_n 0, 1) := by decide +kernel
theorem dL_law_397 : decode cL_law 397 = .ok (.iload_n 3, 1) := by decide +kernel
theorem dL_law_398 : decode cL_law 398 = .ok (.iconst 1, 1) := by decide +kernel
theorem dL_law_399 : decode cL_law 399 = .ok (.iadd, 1) := by decide +kernel
theorem dL_law_400 : decode cL_law 400 = .ok (.iaload, 1) := by decide +kernel
theorem dL_law_401 : decode cL_law 401 = .ok (.invokevirtual 60, 3) := by decide +kernel
theorem dL_law_404 : decode cL_law 404 = .ok (.aload_n 2, 1) := by decide +kernel
theorem dL_law_405 : decode cL_law 405 = .ok (.aload_n 0, 1) := by decide +kernel
theorem dL_law_406 : decode cL_law 406 = .ok (.iload_n 3, 1) := by decide +kernel
theorem dL_law_407 : decode cL_law 407 = .ok (.iconst 1, 1) := by decide +kernel
theorem dL_law_408 : decode cL_law 408 = .ok (.iadd, 1) := by decide +kernel
theorem dL_law_409 : decode cL_law 409 = .ok (.iaload, 1) := by decide +kernel
theorem dL_law_410 : decode cL_law 410 = .ok (.invokevirtual 63, 3) := by decide +kernel
theorem dL_law_413 : decode cL_law 413 = .ok (.if_icmp .eq 378, 3) := by decide +kernel
theorem dL_law_416 : decode cL_law 416 = .ok (.iconst 0, 1) := by decide +kernel
theorem dL_law_417 : decode cL_law 417 = .ok (.ireturn, 1) := by decide +kernel
theorem dL_law_418 : decode cL_law 418 = .ok (.aload_n 1, 1) := by decide +kernel
theorem dL_law_419 : decode cL_law 419 = .ok (.invokevirtual 64, 3) := by decide +kernel
theorem dL_law_422 : decode cL_law 422 = .ok (.aload_n 2, 1) := by decide +kernel
theorem dL_law_423 : decode cL_law 423 = .ok (.invokevirtual 67, 3) := by decide +kernel
theorem dL_law_426 : decode cL_law 426 = .ok (.if_icmp .eq 365, 3) := by decide +kernel
theorem dL_law_429 : decode cL_law 429 = .ok (.iconst 0, 1) := by decide +kernel
theorem dL_law_430 : decode cL_law 430 = .ok (.ireturn, 1) := by decide +kernel
theorem dL_law_431 : decode cL_law 431 = .ok (.aload_n 1, 1) := by decide +kernel
theorem dL_law_432 : decode cL_law 432 = .ok (.aload_n 0, 1) := by decide +kernel
theorem dL_law_433 : decode cL_law 433 = .ok (.iload_n 3, 1) := by decide +kernel
theorem dL_law_434 : decode cL_law 434 = .ok (.iconst 1, 1) := by decide +kernel
theorem dL_law_435 : decode cL_law 435 = .ok (.iadd, 1) := by decide +kernel
theorem dL_law_436 : decode cL_law 436 = .ok (.iaload, 1) := by decide +kernel
theorem dL_law_437 : decode cL_law 437 = .ok (.aload_n 0, 1) := by decide +kernel
theorem dL_law_438 : decode cL_law 438 = .ok (.iload_n 3, 1) := by decide +kernel
theorem dL_law_439 : decode cL_law 439 = .ok (.iconst 2, 1) := by decide +kernel
theorem dL_law_440 : decode cL_law 440 = .ok (.iadd, 1) := by decide +kernel
theorem dL_law_441 : decode cL_law 441 = .ok (.iaload, 1) := by decide +kernel
theorem dL_law_442 : decode cL_law 442 = .ok (.invokevirtual 68, 3) := by decide +kernel
theorem dL_law_445 : decode cL_law 445 = .ok (.aload_n 2, 1) := by decide +kernel
theorem dL_law_446 : decode cL_law 446 = .ok (.aload_n 0, 1) := by decide +kernel
theorem dL_law_447 : decode cL_law 447 = .ok (.iload_n 3, 1) := by decide +kernel
theorem dL_law_448 : decode cL_law 448 = .ok (.iconst 1, 1) := by decide +kernel
theorem dL_law_449 : decode cL_law 449 = .ok (.iadd, 1) := by decide +kernel
theorem dL_law_450 : decode cL_law 450 = .ok (.iaload, 1) := by decide +kernel
theorem dL_law_451 : decode cL_law 451 = .ok (.aload_n 0, 1) := by decide +kernel
theorem dL_law_452 : decode cL_law 452 = .ok (.iload_n 3, 1) := by decide +kernel
theorem dL_law_453 : decode cL_law 453 = .ok (.iconst 2, 1) := by decide +kernel
theorem dL_law_454 : decode cL_law 454 = .ok (.iadd, 1) := by decide +kernel
theorem dL_law_455 : decode cL_law 455 = .ok (.iaload, 1) := by decide +kernel
theorem dL_law_456 : decode cL_law 456 = .ok (.invokevirtual 71, 3) := by decide +kernel
theorem dL_law_459 : decode cL_law 459 = .ok (.if_icmp .eq 332, 3) := by decide +kernel
theorem dL_law_462 : decode cL_law 462 = .ok (.iconst 0, 1) := by decide +kernel
theorem dL_law_463 : decode cL_law 463 = .ok (.ireturn, 1) := by decide +kernel
theorem dL_law_464 : decode cL_law 464 = .ok (.aload_n 1, 1) := by decide +kernel
theorem dL_law_465 : decode cL_law 465 = .ok (.invokevirtual 72, 3) := by decide +kernel
theorem dL_law_468 : decode cL_law 468 = .ok (.aload_n 2, 1) := by decide +kernel
theorem dL_law_469 : decode cL_law 469 = .ok (.invokevirtual 75, 3) := by decide +kernel
theorem dL_law_472 : decode cL_law 472 = .ok (.if_icmp .eq 319, 3) := by decide +kernel
theorem dL_law_475 : decode cL_law 475 = .ok (.iconst 0, 1) := by decide +kernel
theorem dL_law_476 : decode cL_law 476 = .ok (.ireturn, 1) := by decide +kernel
theorem dL_law_477 : decode cL_law 477 = .ok (.aload_n 1, 1) := by decide +kernel
theorem dL_law_478 : decode cL_law 478 = .ok (.aload_n 0, 1) := by decide +kernel
theorem dL_law_479 : decode cL_law 479 = .ok (.iload_n 3, 1) := by decide +kernel
theorem dL_law_480 : decode cL_law 480 = .ok (.iconst 1, 1) := by decide +kernel
theorem dL_law_481 : decode cL_law 481 = .ok (.iadd, 1) := by decide +kernel
theorem dL_law_482 : decode cL_law 482 = .ok (.iaload, 1) := by decide +kernel
theorem dL_law_483 : decode cL_law 483 = .ok (.aload_n 0, 1) := by decide +kernel
theorem dL_law_484 : decode cL_law 484 = .ok (.iload_n 3, 1) := by decide +kernel
theorem dL_law_485 : decode cL_law 485 = .ok (.iconst 2, 1) := by decide +kernel
theorem dL_law_486 : decode cL_law 486 = .ok (.iadd, 1) := by decide +kernel
theorem dL_law_487 : decode cL_law 487 = .ok (.iaload, 1) := by decide +kernel
theorem dL_law_488 : decode cL_law 488 = .ok (.aload_n 0, 1) := by decide +kernel
theorem dL_law_489 : decode cL_law 489 = .ok (.iload_n 3, 1) := by decide +kernel
theorem dL_law_490 : decode cL_law 490 = .ok (.iconst 3, 1) := by decide +kernel
theorem dL_law_491 : decode cL_law 491 = .ok (.iadd, 1) := by decide +kernel
theorem dL_law_492 : decode cL_law 492 = .ok (.iaload, 1) := by decide +kernel
theorem dL_law_493 : decode cL_law 493 = .ok (.invokevirtual 76, 3) := by decide +kernel
theorem dL_law_496 : decode cL_law 496 = .ok (.aload_n 2, 1) := by decide +kernel
theorem dL_law_497 : decode cL_law 497 = .ok (.aload_n 0, 1) := by decide +kernel
theorem dL_law_498 : decode cL_law 498 = .ok (.iload_n 3, 1) := by decide +kernel
theorem dL_law_499 : decode cL_law 499 = .ok (.iconst 1, 1) := by decide +kernel
theorem dL_law_500 : decode cL_law 500 = .ok (.iadd, 1) := by decide +kernel
theorem dL_law_501 : decode cL_law 501 = .ok (.iaload, 1) := by decide +kernel
theorem dL_law_502 : decode cL_law 502 = .ok (.aload_n 0, 1) := by decide +kernel
theorem dL_law_503 : decode cL_law 503 = .ok (.iload_n 3, 1) := by decide +kernel
theorem dL_law_504 : decode cL_law 504 = .ok (.iconst 2, 1) := by decide +kernel
theorem dL_law_505 : decode cL_law 505 = .ok (.iadd, 1) := by decide +kernel
theorem dL_law_506 : decode cL_law 506 = .ok (.iaload, 1) := by decide +kernel
theorem dL_law_507 : decode cL_law 507 = .ok (.aload_n 0, 1) := by decide +kernel
theorem dL_law_508 : decode cL_law 508 = .ok (.iload_n 3, 1) := by decide +kernel
theorem dL_law_509 : decode cL_law 509 = .ok (.iconst 3, 1) := by decide +kernel
theorem dL_law_510 : decode cL_law 510 = .ok (.iadd, 1) := by decide +kernel
theorem dL_law_511 : decode cL_law 511 = .ok (.iaload, 1) := by decide +kernel
theorem dL_law_512 : decode cL_law 512 = .ok (.invokevirtual 80, 3) := by decide +kernel
theorem dL_law_515 : decode cL_law 515 = .ok (.if_icmp .eq 276, 3) := by decide +kernel
theorem dL_law_518 : decode cL_law 518 = .ok (.iconst 0, 1) := by decide +kernel
theorem dL_law_519 : decode cL_law 519 = .ok (.ireturn, 1) := by decide +kernel
theorem dL_law_520 : decode cL_law 520 = .ok (.aload_n 1, 1) := by decide +kernel
theorem dL_law_521 : decode cL_law 521 = .ok (.aload_n 0, 1) := by decide +kernel
theorem dL_law_522 : decode cL_law 522 = .ok (.iload_n 3, 1) := by decide +kernel
theorem dL_law_523 : decode cL_law 523 = .ok (.iconst 1, 1) := by decide +kernel
theorem dL_law_524 : decode cL_law 524 = .ok (.iadd, 1) := by decide +kernel
theorem dL_law_525 : decode cL_law 525 = .ok (.iaload, 1) := by decide +kernel
theorem dL_law_526 : decode cL_law 526 = .ok (.aload_n 0, 1) := by decide +kernel
theorem dL_law_527 : decode cL_law 527 = .ok (.iload_n 3, 1) := by decide +kernel
theorem dL_law_528 : decode cL_law 528 = .ok (.iconst 2, 1) := by decide +kernel
theorem dL_law_529 : decode cL_law 529 = .ok (.iadd, 1) := by decide +kernel
theorem dL_law_530 : decode cL_law 530 = .ok (.iaload, 1) := by decide +kernel
theorem dL_law_531 : decode cL_law 531 = .ok (.aload_n 0, 1) := by decide +kernel
theorem dL_law_532 : decode cL_law 532 = .ok (.iload_n 3, 1) := by decide +kernel
theorem dL_law_533 : decode cL_law 533 = .ok (.iconst 3, 1) := by decide +kernel
theorem dL_law_534 : decode cL_law 534 = .ok (.iadd, 1) := by decide +kernel
theorem dL_law_535 : decode cL_law 535 = .ok (.iaload, 1) := by decide +kernel
theorem dL_law_536 : decode cL_law 536 = .ok (.invokevirtual 81, 3) := by decide +kernel
theorem dL_law_539 : decode cL_law 539 = .ok (.aload_n 2, 1) := by decide +kernel
theorem dL_law_540 : decode cL_law 540 = .ok (.aload_n 0, 1) := by decide +kernel
theorem dL_law_541 : decode cL_law 541 = .ok (.iload_n 3, 1) := by decide +kernel
theorem dL_law_542 : decode cL_law 542 = .ok (.iconst 1, 1) := by decide +kernel
theorem dL_law_543 : decode cL_law 543 = .ok (.iadd, 1) := by decide +kernel
theorem dL_law_544 : decode cL_law 544 = .ok (.iaload, 1) := by decide +kernel
theorem dL_law_545 : decode cL_law 545 = .ok (.aload_n 0, 1) := by decide +kernel
theorem dL_law_546 : decode cL_law 546 = .ok (.iload_n 3, 1) := by decide +kernel
theorem dL_law_547 : decode cL_law 547 = .ok (.iconst 2, 1) := by decide +kernel
theorem dL_law_548 : decode cL_law 548 = .ok (.iadd, 1) := by decide +kernel
theorem dL_law_549 : decode cL_law 549 = .ok (.iaload, 1) := by decide +kernel
theorem dL_law_550 : decode cL_law 550 = .ok (.aload_n 0, 1) := by decide +kernel
theorem dL_law_551 : decode cL_law 551 = .ok (.iload_n 3, 1) := by decide +kernel
theorem dL_law_552 : decode cL_law 552 = .ok (.iconst 3, 1) := by decide +kernel
theorem dL_law_553 : decode cL_law 553 = .ok (.iadd, 1) := by decide +kernel
theorem dL_law_554 : decode cL_law 554 = .ok (.iaload, 1) := by decide +kernel
theorem dL_law_555 : decode cL_law 555 = .ok (.invokevirtual 84, 3) := by decide +kernel
theorem dL_law_558 : decode cL_law 558 = .ok (.if_icmp .eq 233, 3) := by decide +kernel
theorem dL_law_561 : decode cL_law 561 = .ok (.iconst 0, 1) := by decide +kernel
theorem dL_law_562 : decode cL_law 562 = .ok (.ireturn, 1) := by decide +kernel
theorem dL_law_563 : decode cL_law 563 = .ok (.aload_n 1, 1) := by decide +kernel
theorem dL_law_564 : decode cL_law 564 = .ok (.aload_n 0, 1) := by decide +kernel
theorem dL_law_565 : decode cL_law 565 = .ok (.iload_n 3, 1) := by decide +kernel
theorem dL_law_566 : decode cL_law 566 = .ok (.iconst 1, 1) := by decide +kernel
theorem dL_law_567 : decode cL_law 567 = .ok (.iadd, 1) := by decide +kernel
theorem dL_law_568 : decode cL_law 568 = .ok (.iaload, 1) := by decide +kernel
theorem dL_law_569 : decode cL_law 569 = .ok (.aload_n 0, 1) := by decide +kernel
theorem dL_law_570 : decode cL_law 570 = .ok (.iload_n 3, 1) := by decide +kernel
theorem dL_law_571 : decode cL_law 571 = .ok (.iconst 2, 1) := by decide +kernel
theorem dL_law_572 : decode cL_law 572 = .ok (.iadd, 1) := by decide +kernel
theorem dL_law_573 : decode cL_law 573 = .ok (.iaload, 1) := by decide +kernel
theorem dL_law_574 : decode cL_law 574 = .ok (.invokevirtual 85, 3) := by decide +kernel
theorem dL_law_577 : decode cL_law 577 = .ok (.aload_n 2, 1) := by decide +kernel
theorem dL_law_578 : decode cL_law 578 = .ok (.aload_n 0, 1) := by decide +kernel
theorem dL_law_579 : decode cL_law 579 = .ok (.iload_n 3, 1) := by decide +kernel
theorem dL_law_580 : decode cL_law 580 = .ok (.iconst 1, 1) := by decide +kernel
theorem dL_law_581 : decode cL_law 581 = .ok (.iadd, 1) := by decide +kernel
theorem dL_law_582 : decode cL_law 582 = .ok (.iaload, 1) := by decide +kernel
theorem dL_law_583 : decode cL_law 583 = .ok (.aload_n 0, 1) := by decide +kernel
theorem dL_law_584 : decode cL_law 584 = .ok (.iload_n 3, 1) := by decide +kernel
theorem dL_law_585 : decode cL_law 585 = .ok (.iconst 2, 1) := by decide +kernel
theorem dL_law_586 : decode cL_law 586 = .ok (.iadd, 1) := by decide +kernel
theorem dL_law_587 : decode cL_law 587 = .ok (.iaload, 1) := by decide +kernel
theorem dL_law_588 : decode cL_law 588 = .ok (.invokevirtual 88, 3) := by decide +kernel
theorem dL_law_591 : decode cL_law 591 = .ok (.if_icmp .eq 200, 3) := by decide +kernel
theorem dL_law_594 : decode cL_law 594 = .ok (.iconst 0, 1) := by decide +kernel
theorem dL_law_595 : decode cL_law 595 = .ok (.ireturn, 1) := by decide +kernel
theorem dL_law_596 : decode cL_law 596 = .ok (.aload_n 1, 1) := by decide +kernel
theorem dL_law_597 : decode cL_law 597 = .ok (.aload_n 0, 1) := by decide +kernel
theorem dL_law_598 : decode cL_law 598 = .ok (.iload_n 3, 1) := by decide +kernel
theorem dL_law_599 : decode cL_law 599 = .ok (.iconst 1, 1) := by decide +kernel
theorem dL_law_600 : decode cL_law 600 = .ok (.iadd, 1) := by decide +kernel
theorem dL_law_601 : decode cL_law 601 = .ok (.iaload, 1) := by decide +kernel
theorem dL_law_602 : decode cL_law 602 = .ok (.invokevirtual 89, 3) := by decide +kernel
theorem dL_law_605 : decode cL_law 605 = .ok (.aload_n 2, 1) := by decide +kernel
theorem dL_law_606 : decode cL_law 606 = .ok (.aload_n 0, 1) := by decide +kernel
theorem dL_law_607 : decode cL_law 607 = .ok (.iload_n 3, 1) := by decide +kernel
theorem dL_law_608 : decode cL_law 608 = .ok (.iconst 1, 1) := by decide +kernel
theorem dL_law_609 : decode cL_law 609 = .ok (.iadd, 1) := by decide +kernel
theorem dL_law_610 : decode cL_law 610 = .ok (.iaload, 1) := by decide +kernel
theorem dL_law_611 : decode cL_law 611 = .ok (.invokevirtual 92, 3) := by decide +kernel
theorem dL_law_614 : decode cL_law 614 = .ok (.if_icmp .eq 177, 3) := by decide +kernel
theorem dL_law_617 : decode cL_law 617 = .ok (.iconst 0, 1) := by decide +kernel
theorem dL_law_618 : decode cL_law 618 = .ok (.ireturn, 1) := by decide +kernel
theorem dL_law_619 : decode cL_law 619 = .ok (.aload_n 1, 1) := by decide +kernel
theorem dL_law_620 : decode cL_law 620 = .ok (.aload_n 0, 1) := by decide +kernel
theorem dL_law_621 : decode cL_law 621 = .ok (.iload_n 3, 1) := by decide +kernel
theorem dL_law_622 : decode cL_law 622 = .ok (.iconst 1, 1) := by decide +kernel
theorem dL_law_623 : decode cL_law 623 = .ok (.iadd, 1) := by decide +kernel
theorem dL_law_624 : decode cL_law 624 = .ok (.iaload, 1) := by decide +kernel
theorem dL_law_625 : decode cL_law 625 = .ok (.invokevirtual 93, 3) := by decide +kernel
theorem dL_law_628 : decode cL_law 628 = .ok (.aload_n 2, 1) := by decide +kernel
theorem dL_law_629 : decode cL_law 629 = .ok (.aload_n 0, 1) := by decide +kernel
theorem dL_law_630 : decode cL_law 630 = .ok (.iload_n 3, 1) := by decide +kernel
theorem dL_law_631 : decode cL_law 631 = .ok (.iconst 1, 1) := by decide +kernel
theorem dL_law_632 : decode cL_law 632 = .ok (.iadd, 1) := by decide +kernel
theorem dL_law_633 : decode cL_law 633 = .ok (.iaload, 1) := by decide +kernel
theorem dL_law_634 : decode cL_law 634 = .ok (.invokevirtual 96, 3) := by decide +kernel
theorem dL_law_637 : decode cL_law 637 = .ok (.if_icmp .eq 154, 3) := by decide +kernel
theorem dL_law_640 : decode cL_law 640 = .ok (.iconst 0, 1) := by decide +kernel
theorem dL_law_641 : decode cL_law 641 = .ok (.ireturn, 1) := by decide +kernel
theorem dL_law_642 : decode cL_law 642 = .ok (.aload_n 1, 1) := by decide +kernel
theorem dL_law_643 : decode cL_law 643 = .ok (.aload_n 0, 1) := by decide +kernel
theorem dL_law_644 : decode cL_law 644 = .ok (.iload_n 3, 1) := by decide +kernel
theorem dL_law_645 : decode cL_law 645 = .ok (.iconst 1, 1) := by decide +kernel
theorem dL_law_646 : decode cL_law 646 = .ok (.iadd, 1) := by decide +kernel
theorem dL_law_647 : decode cL_law 647 = .ok (.iaload, 1) := by decide +kernel
theorem dL_law_648 : decode cL_law 648 = .ok (.aload_n 0, 1) := by decide +kernel
theorem dL_law_649 : decode cL_law 649 = .ok (.iload_n 3, 1) := by decide +kernel
theorem dL_law_650 : decode cL_law 650 = .ok (.iconst 2, 1) := by decide +kernel
theorem dL_law_651 : decode cL_law 651 = .ok (.iadd, 1) := by decide +kernel
theorem dL_law_652 : decode cL_law 652 = .ok (.iaload, 1) := by decide +kernel
theorem dL_law_653 : decode cL_law 653 = .ok (.invokevirtual 97, 3) := by decide +kernel
theorem dL_law_656 : decode cL_law 656 = .ok (.aload_n 2, 1) := by decide +kernel
theorem dL_law_657 : decode cL_law 657 = .ok (.aload_n 0, 1) := by decide +kernel
theorem dL_law_658 : decode cL_law 658 = .ok (.iload_n 3, 1) := by decide +kernel
theorem dL_law_659 : decode cL_law 659 = .ok (.iconst 1, 1) := by decide +kernel
theorem dL_law_660 : decode cL_law 660 = .ok (.iadd, 1) := by decide +kernel
theorem dL_law_661 : decode cL_law 661 = .ok (.iaload, 1) := by decide +kernel
theorem dL_law_662 : decode cL_law 662 = .ok (.aload_n 0, 1) := by decide +kernel
theorem dL_law_663 : decode cL_law 663 = .ok (.iload_n 3, 1) := by decide +kernel
theorem dL_law_664 : decode cL_law 664 = .ok (.iconst 2, 1) := by decide +kernel
theorem dL_law_665 : decode cL_law 665 = .ok (.iadd, 1) := by decide +kernel
theorem dL_law_666 : decode cL_law 666 = .ok (.iaload, 1) := by decide +kernel
theorem dL_law_667 : decode cL_law 667 = .ok (.invokevirtual 100, 3) := by decide +kernel
theorem dL_law_670 : decode cL_law 670 = .ok (.if_icmp .eq 121, 3) := by decide +kernel
theorem dL_law_673 : decode cL_law 673 = .ok (.iconst 0, 1) := by decide +kernel
theorem dL_law_674 : decode cL_law 674 = .ok (.ireturn, 1) := by decide +kernel
theorem dL_law_675 : decode cL_law 675 = .ok (.aload_n 1, 1) := by decide +kernel
theorem dL_law_676 : decode cL_law 676 = .ok (.aload_n 0, 1) := by decide +kernel
theorem dL_law_677 : decode cL_law 677 = .ok (.iload_n 3, 1) := by decide +kernel
theorem dL_law_678 : decode cL_law 678 = .ok (.iconst 1, 1) := by decide +kernel
theorem dL_law_679 : decode cL_law 679 = .ok (.iadd, 1) := by decide +kernel
theorem dL_law_680 : decode cL_law 680 = .ok (.iaload, 1) := by decide +kernel
theorem dL_law_681 : decode cL_law 681 = .ok (.aload_n 0, 1) := by decide +kernel
theorem dL_law_682 : decode cL_law 682 = .ok (.iload_n 3, 1) := by decide +kernel
theorem dL_law_683 : decode cL_law 683 = .ok (.iconst 2, 1) := by decide +kernel
theorem dL_law_684 : decode cL_law 684 = .ok (.iadd, 1) := by decide +kernel
theorem dL_law_685 : decode cL_law 685 = .ok (.iaload, 1) := by decide +kernel
theorem dL_law_686 : decode cL_law 686 = .ok (.invokevirtual 101, 3) := by decide +kernel
theorem dL_law_689 : decode cL_law 689 = .ok (.aload_n 2, 1) := by decide +kernel
theorem dL_law_690 : decode cL_law 690 = .ok (.aload_n 0, 1) := by decide +kernel
theorem dL_law_691 : decode cL_law 691 = .ok (.iload_n 3, 1) := by decide +kernel
theorem dL_law_692 : decode cL_law 692 = .ok (.iconst 1, 1) := by decide +kernel
theorem dL_law_693 : decode cL_law 693 = .ok (.iadd, 1) := by decide +kernel
theorem dL_law_694 : decode cL_law 694 = .ok (.iaload, 1) := by decide +kernel
theorem dL_law_695 : decode cL_law 695 = .ok (.aload_n 0, 1) := by decide +kernel
theorem dL_law_696 : decode cL_law 696 = .ok (.iload_n 3, 1) := by decide +kernel
theorem dL_law_697 : decode cL_law 697 = .ok (.iconst 2, 1) := by decide +kernel
theorem dL_law_698 : decode cL_law 698 = .ok (.iadd, 1) := by decide +kernel
theorem dL_law_699 : decode cL_law 699 = .ok (.iaload, 1) := by decide +kernel
theorem dL_law_700 : decode cL_law 700 = .ok (.invokevirtual 104, 3) := by decide +kernel
theorem dL_law_703 : decode cL_law 703 = .ok (.if_icmp .eq 88, 3) := by decide +kernel
theorem dL_law_706 : decode cL_law 706 = .ok (.iconst 0, 1) := by decide +kernel
theorem dL_law_707 : decode cL_law 707 = .ok (.ireturn, 1) := by decide +kernel
theorem dL_law_708 : decode cL_law 708 = .ok (.aload_n 1, 1) := by decide +kernel
theorem dL_law_709 : decode cL_law 709 = .ok (.aload_n 0, 1) := by decide +kernel
theorem dL_law_710 : decode cL_law 710 = .ok (.iload_n 3, 1) := by decide +kernel
theorem dL_law_711 : decode cL_law 711 = .ok (.iconst 1, 1) := by decide +kernel
theorem dL_law_712 : decode cL_law 712 = .ok (.iadd, 1) := by decide +kernel
theorem dL_law_713 : decode cL_law 713 = .ok (.iaload, 1) := by decide +kernel
theorem dL_law_714 : decode cL_law 714 = .ok (.invokevirtual 105, 3) := by decide +kernel
theorem dL_law_717 : decode cL_law 717 = .ok (.aload_n 2, 1) := by decide +kernel
theorem dL_law_718 : decode cL_law 718 = .ok (.aload_n 0, 1) := by decide +kernel
theorem dL_law_719 : decode cL_law 719 = .ok (.iload_n 3, 1) := by decide +kernel
theorem dL_law_720 : decode cL_law 720 = .ok (.iconst 1, 1) := by decide +kernel
theorem dL_law_721 : decode cL_law 721 = .ok (.iadd, 1) := by decide +kernel
theorem dL_law_722 : decode cL_law 722 = .ok (.iaload, 1) := by decide +kernel
theorem dL_law_723 : decode cL_law 723 = .ok (.invokevirtual 108, 3) := by decide +kernel
theorem dL_law_726 : decode cL_law 726 = .ok (.if_icmp .eq 65, 3) := by decide +kernel
theorem dL_law_729 : decode cL_law 729 = .ok (.iconst 0, 1) := by decide +kernel
theorem dL_law_730 : decode cL_law 730 = .ok (.ireturn, 1) := by decide +kernel
theorem dL_law_731 : decode cL_law 731 = .ok (.aload_n 1, 1) := by decide +kernel
theorem dL_law_732 : decode cL_law 732 = .ok (.aload_n 0, 1) := by decide +kernel
theorem dL_law_733 : decode cL_law 733 = .ok (.iload_n 3, 1) := by decide +kernel
theorem dL_law_734 : decode cL_law 734 = .ok (.iconst 1, 1) := by decide +kernel
theorem dL_law_735 : decode cL_law 735 = .ok (.iadd, 1) := by decide +kernel
theorem dL_law_736 : decode cL_law 736 = .ok (.iaload, 1) := by decide +kernel
theorem dL_law_737 : decode cL_law 737 = .ok (.invokevirtual 109, 3) := by decide +kernel
theorem dL_law_740 : decode cL_law 740 = .ok (.aload_n 2, 1) := by decide +kernel
theorem dL_law_741 : decode cL_law 741 = .ok (.aload_n 0, 1) := by decide +kernel
theorem dL_law_742 : decode cL_law 742 = .ok (.iload_n 3, 1) := by decide +kernel
theorem dL_law_743 : decode cL_law 743 = .ok (.iconst 1, 1) := by decide +kernel
theorem dL_law_744 : decode cL_law 744 = .ok (.iadd, 1) := by decide +kernel
theorem dL_law_745 : decode cL_law 745 = .ok (.iaload, 1) := by decide +kernel
theorem dL_law_746 : decode cL_law 746 = .ok (.invokevirtual 112, 3) := by decide +kernel
theorem dL_law_749 : decode cL_law 749 = .ok (.if_icmp .eq 42, 3) := by decide +kernel
theorem dL_law_752 : decode cL_law 752 = .ok (.iconst 0, 1) := by decide +kernel
theorem dL_law_753 : decode cL_law 753 = .ok (.ireturn, 1) := by decide +kernel
theorem dL_law_754 : decode cL_law 754 = .ok (.aload_n 1, 1) := by decide +kernel
theorem dL_law_755 : decode cL_law 755 = .ok (.aload_n 0, 1) := by decide +kernel
theorem dL_law_756 : decode cL_law 756 = .ok (.iload_n 3, 1) := by decide +kernel
theorem dL_law_757 : decode cL_law 757 = .ok (.iconst 1, 1) := by decide +kernel
theorem dL_law_758 : decode cL_law 758 = .ok (.iadd, 1) := by decide +kernel
theorem dL_law_759 : decode cL_law 759 = .ok (.iaload, 1) := by decide +kernel
theorem dL_law_760 : decode cL_law 760 = .ok (.invokevirtual 113, 3) := by decide +kernel
theorem dL_law_763 : decode cL_law 763 = .ok (.aload_n 2, 1) := by decide +kernel
theorem dL_law_764 : decode cL_law 764 = .ok (.aload_n 0, 1) := by decide +kernel
theorem dL_law_765 : decode cL_law 765 = .ok (.iload_n 3, 1) := by decide +kernel
theorem dL_law_766 : decode cL_law 766 = .ok (.iconst 1, 1) := by decide +kernel
theorem dL_law_767 : decode cL_law 767 = .ok (.iadd, 1) := by decide +kernel
theorem dL_law_768 : decode cL_law 768 = .ok (.iaload, 1) := by decide +kernel
theorem dL_law_769 : decode cL_law 769 = .ok (.invokevirtual 116, 3) := by decide +kernel
theorem dL_law_772 : decode cL_law 772 = .ok (.if_icmp .eq 19, 3) := by decide +kernel
theorem dL_law_775 : decode cL_law 775 = .ok (.iconst 0, 1) := by decide +kernel
theorem dL_law_776 : decode cL_law 776 = .ok (.ireturn, 1) := by decide +kernel
theorem dL_law_777 : decode cL_law 777 = .ok (.aload_n 1, 1) := by decide +kernel
theorem dL_law_778 : decode cL_law 778 = .ok (.invokevirtual 117, 3) := by decide +kernel
theorem dL_law_781 : decode cL_law 781 = .ok (.aload_n 2, 1) := by decide +kernel
theorem dL_law_782 : decode cL_law 782 = .ok (.invokevirtual 121, 3) := by decide +kernel
theorem dL_law_785 : decode cL_law 785 = .ok (.lcmp, 1) := by decide +kernel
theorem dL_law_786 : decode cL_law 786 = .ok (.ifCond .eq 5, 3) := by decide +kernel
theorem dL_law_789 : decode cL_law 789 = .ok (.iconst 0, 1) := by decide +kernel
theorem dL_law_790 : decode cL_law 790 = .ok (.ireturn, 1) := by decide +kernel
theorem dL_law_791 : decode cL_law 791 = .ok (.iinc 3 4, 3) := by decide +kernel
theorem dL_law_794 : decode cL_law 794 = .ok (.goto (-776), 3) := by decide +kernel
theorem dL_law_797 : decode cL_law 797 = .ok (.iconst 1, 1) := by decide +kernel
theorem dL_law_798 : decode cL_law 798 = .ok (.ireturn, 1) := by decide +kernel
