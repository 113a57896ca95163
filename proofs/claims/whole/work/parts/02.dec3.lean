theorem dX8_readNumber_17 : decode cX8_readNumber 17 = .ok (.aload_n 0, 1) := by decide +kernel
theorem dX8_readNumber_18 : decode cX8_readNumber 18 = .ok (.getfield 64, 3) := by decide +kernel
theorem dX8_readNumber_21 : decode cX8_readNumber 21 = .ok (.iaload, 1) := by decide +kernel
theorem dX8_readNumber_22 : decode cX8_readNumber 22 = .ok (.invokestatic 80, 3) := by decide +kernel
theorem dX8_readNumber_25 : decode cX8_readNumber 25 = .ok (.ifCond .eq 44, 3) := by decide +kernel
theorem dX8_readNumber_28 : decode cX8_readNumber 28 = .ok (.iload_n 1, 1) := by decide +kernel
theorem dX8_readNumber_29 : decode cX8_readNumber 29 = .ok (.bipush 99, 2) := by decide +kernel
theorem dX8_readNumber_31 : decode cX8_readNumber 31 = .ok (.if_icmp .le 7, 3) := by decide +kernel
theorem dX8_readNumber_34 : decode cX8_readNumber 34 = .ok (.iload_n 1, 1) := by decide +kernel
theorem dX8_readNumber_35 : decode cX8_readNumber 35 = .ok (.goto 20, 3) := by decide +kernel
theorem dX8_readNumber_38 : decode cX8_readNumber 38 = .ok (.bipush 10, 2) := by decide +kernel
theorem dX8_readNumber_40 : decode cX8_readNumber 40 = .ok (.iload_n 1, 1) := by decide +kernel
theorem dX8_readNumber_41 : decode cX8_readNumber 41 = .ok (.imul, 1) := by decide +kernel
theorem dX8_readNumber_42 : decode cX8_readNumber 42 = .ok (.aload_n 0, 1) := by decide +kernel
theorem dX8_readNumber_43 : decode cX8_readNumber 43 = .ok (.getfield 7, 3) := by decide +kernel
theorem dX8_readNumber_46 : decode cX8_readNumber 46 = .ok (.aload_n 0, 1) := by decide +kernel
theorem dX8_readNumber_47 : decode cX8_readNumber 47 = .ok (.getfield 64, 3) := by decide +kernel
theorem dX8_readNumber_50 : decode cX8_readNumber 50 = .ok (.iaload, 1) := by decide +kernel
theorem dX8_readNumber_51 : decode cX8_readNumber 51 = .ok (.iadd, 1) := by decide +kernel
theorem dX8_readNumber_52 : decode cX8_readNumber 52 = .ok (.bipush 48, 2) := by decide +kernel
theorem dX8_readNumber_54 : decode cX8_readNumber 54 = .ok (.isub, 1) := by decide +kernel
theorem dX8_readNumber_55 : decode cX8_readNumber 55 = .ok (.istore_n 1, 1) := by decide +kernel
theorem dX8_readNumber_56 : decode cX8_readNumber 56 = .ok (.aload_n 0, 1) := by decide +kernel
theorem dX8_readNumber_57 : decode cX8_readNumber 57 = .ok (.dup, 1) := by decide +kernel
theorem dX8_readNumber_58 : decode cX8_readNumber 58 = .ok (.getfield 64, 3) := by decide +kernel
theorem dX8_readNumber_61 : decode cX8_readNumber 61 = .ok (.iconst 1, 1) := by decide +kernel
theorem dX8_readNumber_62 : decode cX8_readNumber 62 = .ok (.iadd, 1) := by decide +kernel
theorem dX8_readNumber_63 : decode cX8_readNumber 63 = .ok (.putfield 64, 3) := by decide +kernel
theorem dX8_readNumber_66 : decode cX8_readNumber 66 = .ok (.goto (-64), 3) := by decide +kernel
theorem dX8_readNumber_69 : decode cX8_readNumber 69 = .ok (.aload_n 0, 1) := by decide +kernel
theorem dX8_readNumber_70 : decode cX8_readNumber 70 = .ok (.iload_n 1, 1) := by decide +kernel
theorem dX8_readNumber_71 : decode cX8_readNumber 71 = .ok (.bipush 99, 2) := by decide +kernel
theorem dX8_readNumber_73 : decode cX8_readNumber 73 = .ok (.if_icmp .gt 30, 3) := by decide +kernel
theorem dX8_readNumber_76 : decode cX8_readNumber 76 = .ok (.aload_n 0, 1) := by decide +kernel
theorem dX8_readNumber_77 : decode cX8_readNumber 77 = .ok (.getfield 64, 3) := by decide +kernel
theorem dX8_readNumber_80 : decode cX8_readNumber 80 = .ok (.aload_n 0, 1) := by decide +kernel
theorem dX8_readNumber_81 : decode cX8_readNumber 81 = .ok (.getfield 74, 3) := by decide +kernel
theorem dX8_readNumber_84 : decode cX8_readNumber 84 = .ok (.isub, 1) := by decide +kernel
theorem dX8_readNumber_85 : decode cX8_readNumber 85 = .ok (.iconst 1, 1) := by decide +kernel
theorem dX8_readNumber_86 : decode cX8_readNumber 86 = .ok (.if_icmp .le 21, 3) := by decide +kernel
theorem dX8_readNumber_89 : decode cX8_readNumber 89 = .ok (.aload_n 0, 1) := by decide +kernel
theorem dX8_readNumber_90 : decode cX8_readNumber 90 = .ok (.getfield 7, 3) := by decide +kernel
theorem dX8_readNumber_93 : decode cX8_readNumber 93 = .ok (.aload_n 0, 1) := by decide +kernel
theorem dX8_readNumber_94 : decode cX8_readNumber 94 = .ok (.getfield 74, 3) := by decide +kernel
theorem dX8_readNumber_97 : decode cX8_readNumber 97 = .ok (.iaload, 1) := by decide +kernel
theorem dX8_readNumber_98 : decode cX8_readNumber 98 = .ok (.bipush 48, 2) := by decide +kernel
theorem dX8_readNumber_100 : decode cX8_readNumber 100 = .ok (.if_icmp .ne 7, 3) := by decide +kernel
theorem dX8_readNumber_103 : decode cX8_readNumber 103 = .ok (.iconst 4, 1) := by decide +kernel
theorem dX8_readNumber_104 : decode cX8_readNumber 104 = .ok (.goto 4, 3) := by decide +kernel
theorem dX8_readNumber_107 : decode cX8_readNumber 107 = .ok (.iconst 2, 1) := by decide +kernel
theorem dX8_readNumber_108 : decode cX8_readNumber 108 = .ok (.putfield 77, 3) := by decide +kernel
theorem dX8_readNumber_111 : decode cX8_readNumber 111 = .ok (.aload_n 0, 1) := by decide +kernel
theorem dX8_readNumber_112 : decode cX8_readNumber 112 = .ok (.iload_n 1, 1) := by decide +kernel
theorem dX8_readNumber_113 : decode cX8_readNumber 113 = .ok (.putfield 67, 3) := by decide +kernel
theorem dX8_readNumber_116 : decode cX8_readNumber 116 = .ok (.return_, 1) := by decide +kernel
theorem dX8_reads_0 : decode cX8_reads 0 = .ok (.aload_n 0, 1) := by decide +kernel
theorem dX8_reads_1 : decode cX8_reads 1 = .ok (.getfield 64, 3) := by decide +kernel
theorem dX8_reads_4 : decode cX8_reads 4 = .ok (.aload_n 0, 1) := by decide +kernel
theorem dX8_reads_5 : decode cX8_reads 5 = .ok (.getfield 53, 3) := by decide +kernel
theorem dX8_reads_8 : decode cX8_reads 8 = .ok (.if_icmp .ge 30, 3) := by decide +kernel
theorem dX8_reads_11 : decode cX8_reads 11 = .ok (.aload_n 0, 1) := by decide +kernel
theorem dX8_reads_12 : decode cX8_reads 12 = .ok (.getfield 7, 3) := by decide +kernel
theorem dX8_reads_15 : decode cX8_reads 15 = .ok (.aload_n 0, 1) := by decide +kernel
theorem dX8_reads_16 : decode cX8_reads 16 = .ok (.getfield 64, 3) := by decide +kernel
theorem dX8_reads_19 : decode cX8_reads 19 = .ok (.iaload, 1) := by decide +kernel
theorem dX8_reads_20 : decode cX8_reads 20 = .ok (.bipush 32, 2) := by decide +kernel
theorem dX8_reads_22 : decode cX8_reads 22 = .ok (.if_icmp .ne 16, 3) := by decide +kernel
theorem dX8_reads_25 : decode cX8_reads 25 = .ok (.aload_n 0, 1) := by decide +kernel
theorem dX8_reads_26 : decode cX8_reads 26 = .ok (.dup, 1) := by decide +kernel
theorem dX8_reads_27 : decode cX8_reads 27 = .ok (.getfield 64, 3) := by decide +kernel
theorem dX8_reads_30 : decode cX8_reads 30 = .ok (.iconst 1, 1) := by decide +kernel
theorem dX8_reads_31 : decode cX8_reads 31 = .ok (.iadd, 1) := by decide +kernel
theorem dX8_reads_32 : decode cX8_reads 32 = .ok (.putfield 64, 3) := by decide +kernel
theorem dX8_reads_35 : decode cX8_reads 35 = .ok (.goto (-35), 3) := by decide +kernel
theorem dX8_reads_38 : decode cX8_reads 38 = .ok (.aload_n 0, 1) := by decide +kernel
theorem dX8_reads_39 : decode cX8_reads 39 = .ok (.aload_n 0, 1) := by decide +kernel
theorem dX8_reads_40 : decode cX8_reads 40 = .ok (.getfield 64, 3) := by decide +kernel
theorem dX8_reads_43 : decode cX8_reads 43 = .ok (.putfield 74, 3) := by decide +kernel
theorem dX8_reads_46 : decode cX8_reads 46 = .ok (.aload_n 0, 1) := by decide +kernel
theorem dX8_reads_47 : decode cX8_reads 47 = .ok (.getfield 64, 3) := by decide +kernel
theorem dX8_reads_50 : decode cX8_reads 50 = .ok (.aload_n 0, 1) := by decide +kernel
theorem dX8_reads_51 : decode cX8_reads 51 = .ok (.getfield 53, 3) := by decide +kernel
theorem dX8_reads_54 : decode cX8_reads 54 = .ok (.if_icmp .ne 11, 3) := by decide +kernel
theorem dX8_reads_57 : decode cX8_reads 57 = .ok (.aload_n 0, 1) := by decide +kernel
theorem dX8_reads_58 : decode cX8_reads 58 = .ok (.iconst 0, 1) := by decide +kernel
theorem dX8_reads_59 : decode cX8_reads 59 = .ok (.putfield 77, 3) := by decide +kernel
theorem dX8_reads_62 : decode cX8_reads 62 = .ok (.goto 92, 3) := by decide +kernel
theorem dX8_reads_65 : decode cX8_reads 65 = .ok (.aload_n 0, 1) := by decide +kernel
theorem dX8_reads_66 : decode cX8_reads 66 = .ok (.getfield 7, 3) := by decide +kernel
theorem dX8_reads_69 : decode cX8_reads 69 = .ok (.aload_n 0, 1) := by decide +kernel
theorem dX8_reads_70 : decode cX8_reads 70 = .ok (.getfield 64, 3) := by decide +kernel
theorem dX8_reads_73 : decode cX8_reads 73 = .ok (.iaload, 1) := by decide +kernel
theorem dX8_reads_74 : decode cX8_reads 74 = .ok (.invokestatic 70, 3) := by decide +kernel
theorem dX8_reads_77 : decode cX8_reads 77 = .ok (.ifCond .eq 10, 3) := by decide +kernel
theorem dX8_reads_80 : decode cX8_reads 80 = .ok (.aload_n 0, 1) := by decide +kernel
theorem dX8_reads_81 : decode cX8_reads 81 = .ok (.invokevirtual 83, 3) := by decide +kernel
theorem dX8_reads_84 : decode cX8_reads 84 = .ok (.goto 70, 3) := by decide +kernel
theorem dX8_reads_87 : decode cX8_reads 87 = .ok (.aload_n 0, 1) := by decide +kernel
theorem dX8_reads_88 : decode cX8_reads 88 = .ok (.getfield 7, 3) := by decide +kernel
theorem dX8_reads_91 : decode cX8_reads 91 = .ok (.aload_n 0, 1) := by decide +kernel
theorem dX8_reads_92 : decode cX8_reads 92 = .ok (.getfield 64, 3) := by decide +kernel
theorem dX8_reads_95 : decode cX8_reads 95 = .ok (.iaload, 1) := by decide +kernel
theorem dX8_reads_96 : decode cX8_reads 96 = .ok (.invokestatic 80, 3) := by decide +kernel
theorem dX8_reads_99 : decode cX8_reads 99 = .ok (.ifCond .eq 10, 3) := by decide +kernel
theorem dX8_reads_102 : decode cX8_reads 102 = .ok (.aload_n 0, 1) := by decide +kernel
theorem dX8_reads_103 : decode cX8_reads 103 = .ok (.invokevirtual 86, 3) := by decide +kernel
theorem dX8_reads_106 : decode cX8_reads 106 = .ok (.goto 48, 3) := by decide +kernel
theorem dX8_reads_109 : decode cX8_reads 109 = .ok (.aload_n 0, 1) := by decide +kernel
theorem dX8_reads_110 : decode cX8_reads 110 = .ok (.aload_n 0, 1) := by decide +kernel
theorem dX8_reads_111 : decode cX8_reads 111 = .ok (.getfield 7, 3) := by decide +kernel
theorem dX8_reads_114 : decode cX8_reads 114 = .ok (.aload_n 0, 1) := by decide +kernel
theorem dX8_reads_115 : decode cX8_reads 115 = .ok (.getfield 64, 3) := by decide +kernel
theorem dX8_reads_118 : decode cX8_reads 118 = .ok (.iaload, 1) := by decide +kernel
theorem dX8_reads_119 : decode cX8_reads 119 = .ok (.bipush 59, 2) := by decide +kernel
theorem dX8_reads_121 : decode cX8_reads 121 = .ok (.if_icmp .ne 7, 3) := by decide +kernel
theorem dX8_reads_124 : decode cX8_reads 124 = .ok (.iconst 3, 1) := by decide +kernel
theorem dX8_reads_125 : decode cX8_reads 125 = .ok (.goto 4, 3) := by decide +kernel
theorem dX8_reads_128 : decode cX8_reads 128 = .ok (.iconst 4, 1) := by decide +kernel
theorem dX8_reads_129 : decode cX8_reads 129 = .ok (.putfield 77, 3) := by decide +kernel
theorem dX8_reads_132 : decode cX8_reads 132 = .ok (.aload_n 0, 1) := by decide +kernel
theorem dX8_reads_133 : decode cX8_reads 133 = .ok (.dup, 1) := by decide +kernel
theorem dX8_reads_134 : decode cX8_reads 134 = .ok (.getfield 64, 3) := by decide +kernel
theorem dX8_reads_137 : decode cX8_reads 137 = .ok (.aload_n 0, 1) := by decide +kernel
theorem dX8_reads_138 : decode cX8_reads 138 = .ok (.getfield 77, 3) := by decide +kernel
theorem dX8_reads_141 : decode cX8_reads 141 = .ok (.iconst 3, 1) := by decide +kernel
theorem dX8_reads_142 : decode cX8_reads 142 = .ok (.if_icmp .ne 7, 3) := by decide +kernel
theorem dX8_reads_145 : decode cX8_reads 145 = .ok (.iconst 1, 1) := by decide +kernel
theorem dX8_reads_146 : decode cX8_reads 146 = .ok (.goto 4, 3) := by decide +kernel
theorem dX8_reads_149 : decode cX8_reads 149 = .ok (.iconst 0, 1) := by decide +kernel
theorem dX8_reads_150 : decode cX8_reads 150 = .ok (.iadd, 1) := by decide +kernel
theorem dX8_reads_151 : decode cX8_reads 151 = .ok (.putfield 64, 3) := by decide +kernel
theorem dX8_reads_154 : decode cX8_reads 154 = .ok (.return_, 1) := by decide +kernel
theorem dX8_number_0 : decode cX8_number 0 = .ok (.aload_n 0, 1) := by decide +kernel
theorem dX8_number_1 : decode cX8_number 1 = .ok (.invokevirtual 89, 3) := by decide +kernel
theorem dX8_number_4 : decode cX8_number 4 = .ok (.aload_n 0, 1) := by decide +kernel
theorem dX8_number_5 : decode cX8_number 5 = .ok (.getfield 77, 3) := by decide +kernel
theorem dX8_number_8 : decode cX8_number 8 = .ok (.iconst 2, 1) := by decide +kernel
theorem dX8_number_9 : decode cX8_number 9 = .ok (.if_icmp .ne 22, 3) := by decide +kernel
theorem dX8_number_12 : decode cX8_number 12 = .ok (.aload_n 0, 1) := by decide +kernel
theorem dX8_number_13 : decode cX8_number 13 = .ok (.getfield 67, 3) := by decide +kernel
theorem dX8_number_16 : decode cX8_number 16 = .ok (.i2l, 1) := by decide +kernel
theorem dX8_number_17 : decode cX8_number 17 = .ok (.iload_n 1, 1) := by decide +kernel
theorem dX8_number_18 : decode cX8_number 18 = .ok (.i2l, 1) := by decide +kernel
theorem dX8_number_19 : decode cX8_number 19 = .ok (.iload_n 2, 1) := by decide +kernel
theorem dX8_number_20 : decode cX8_number 20 = .ok (.i2l, 1) := by decide +kernel
theorem dX8_number_21 : decode cX8_number 21 = .ok (.invokestatic 49, 3) := by decide +kernel
theorem dX8_number_24 : decode cX8_number 24 = .ok (.ifCond .eq 7, 3) := by decide +kernel
theorem dX8_number_27 : decode cX8_number 27 = .ok (.iconst 1, 1) := by decide +kernel
theorem dX8_number_28 : decode cX8_number 28 = .ok (.goto 4, 3) := by decide +kernel
theorem dX8_number_31 : decode cX8_number 31 = .ok (.iconst 0, 1) := by decide +kernel
theorem dX8_number_32 : decode cX8_number 32 = .ok (.ireturn, 1) := by decide +kernel
theorem dX8_readLamp_0 : decode cX8_readLamp 0 = .ok (.aload_n 0, 1) := by decide +kernel
theorem dX8_readLamp_1 : decode cX8_readLamp 1 = .ok (.getfield 92, 3) := by decide +kernel
theorem dX8_readLamp_4 : decode cX8_readLamp 4 = .ok (.bipush 9, 2) := by decide +kernel
theorem dX8_readLamp_6 : decode cX8_readLamp 6 = .ok (.if_icmp .eq 12, 3) := by decide +kernel
theorem dX8_readLamp_9 : decode cX8_readLamp 9 = .ok (.aload_n 0, 1) := by decide +kernel
theorem dX8_readLamp_10 : decode cX8_readLamp 10 = .ok (.iconst 0, 1) := by decide +kernel
theorem dX8_readLamp_11 : decode cX8_readLamp 11 = .ok (.iconst 3, 1) := by decide +kernel
theorem dX8_readLamp_12 : decode cX8_readLamp 12 = .ok (.invokevirtual 95, 3) := by decide +kernel
theorem dX8_readLamp_15 : decode cX8_readLamp 15 = .ok (.ifCond .ne 5, 3) := by decide +kernel
theorem dX8_readLamp_18 : decode cX8_readLamp 18 = .ok (.iconst 0, 1) := by decide +kernel
theorem dX8_readLamp_19 : decode cX8_readLamp 19 = .ok (.ireturn, 1) := by decide +kernel
theorem dX8_readLamp_20 : decode cX8_readLamp 20 = .ok (.aload_n 0, 1) := by decide +kernel
theorem dX8_readLamp_21 : decode cX8_readLamp 21 = .ok (.getfield 13, 3) := by decide +kernel
theorem dX8_readLamp_24 : decode cX8_readLamp 24 = .ok (.aload_n 0, 1) := by decide +kernel
theorem dX8_readLamp_25 : decode cX8_readLamp 25 = .ok (.getfield 92, 3) := by decide +kernel
theorem dX8_readLamp_28 : decode cX8_readLamp 28 = .ok (.aload_n 0, 1) := by decide +kernel
theorem dX8_readLamp_29 : decode cX8_readLamp 29 = .ok (.getfield 67, 3) := by decide +kernel
theorem dX8_readLamp_32 : decode cX8_readLamp 32 = .ok (.iastore, 1) := by decide +kernel
theorem dX8_readLamp_33 : decode cX8_readLamp 33 = .ok (.aload_n 0, 1) := by decide +kernel
theorem dX8_readLamp_34 : decode cX8_readLamp 34 = .ok (.iconst 0, 1) := by decide +kernel
theorem dX8_readLamp_35 : decode cX8_readLamp 35 = .ok (.iconst 1, 1) := by decide +kernel
theorem dX8_readLamp_36 : decode cX8_readLamp 36 = .ok (.invokevirtual 95, 3) := by decide +kernel
theorem dX8_readLamp_39 : decode cX8_readLamp 39 = .ok (.ifCond .ne 5, 3) := by decide +kernel
theorem dX8_readLamp_42 : decode cX8_readLamp 42 = .ok (.iconst 0, 1) := by decide +kernel
theorem dX8_readLamp_43 : decode cX8_readLamp 43 = .ok (.ireturn, 1) := by decide +kernel
theorem dX8_readLamp_44 : decode cX8_readLamp 44 = .ok (.aload_n 0, 1) := by decide +kernel
theorem dX8_readLamp_45 : decode cX8_readLamp 45 = .ok (.dup, 1) := by decide +kernel
theorem dX8_readLamp_46 : decode cX8_readLamp 46 = .ok (.getfield 99, 3) := by decide +kernel
theorem dX8_readLamp_49 : decode cX8_readLamp 49 = .ok (.aload_n 0, 1) := by decide +kernel
theorem dX8_readLamp_50 : decode cX8_readLamp 50 = .ok (.getfield 67, 3) := by decide +kernel
theorem dX8_readLamp_53 : decode cX8_readLamp 53 = .ok (.aload_n 0, 1) := by decide +kernel
theorem dX8_readLamp_54 : decode cX8_readLamp 54 = .ok (.getfield 92, 3) := by decide +kernel
theorem dX8_readLamp_57 : decode cX8_readLamp 57 = .ok (.ishl, 1) := by decide +kernel
theorem dX8_readLamp_58 : decode cX8_readLamp 58 = .ok (.ior, 1) := by decide +kernel
theorem dX8_readLamp_59 : decode cX8_readLamp 59 = .ok (.putfield 99, 3) := by decide +kernel
theorem dX8_readLamp_62 : decode cX8_readLamp 62 = .ok (.aload_n 0, 1) := by decide +kernel
theorem dX8_readLamp_63 : decode cX8_readLamp 63 = .ok (.dup, 1) := by decide +kernel
theorem dX8_readLamp_64 : decode cX8_readLamp 64 = .ok (.getfield 92, 3) := by decide +kernel
theorem dX8_readLamp_67 : decode cX8_readLamp 67 = .ok (.iconst 1, 1) := by decide +kernel
theorem dX8_readLamp_68 : decode cX8_readLamp 68 = .ok (.iadd, 1) := by decide +kernel
theorem dX8_readLamp_69 : decode cX8_readLamp 69 = .ok (.putfield 92, 3) := by decide +kernel
theorem dX8_readLamp_72 : decode cX8_readLamp 72 = .ok (.aload_n 0, 1) := by decide +kernel
theorem dX8_readLamp_73 : decode cX8_readLamp 73 = .ok (.invokevirtual 89, 3) := by decide +kernel
theorem dX8_readLamp_76 : decode cX8_readLamp 76 = .ok (.aload_n 0, 1) := by decide +kernel
theorem dX8_readLamp_77 : decode cX8_readLamp 77 = .ok (.getfield 77, 3) := by decide +kernel
theorem dX8_readLamp_80 : decode cX8_readLamp 80 = .ok (.iconst 3, 1) := by decide +kernel
theorem dX8_readLamp_81 : decode cX8_readLamp 81 = .ok (.if_icmp .ne 7, 3) := by decide +kernel
theorem dX8_readLamp_84 : decode cX8_readLamp 84 = .ok (.iconst 1, 1) := by decide +kernel
theorem dX8_readLamp_85 : decode cX8_readLamp 85 = .ok (.goto 4, 3) := by decide +kernel
theorem dX8_readLamp_88 : decode cX8_readLamp 88 = .ok (.iconst 0, 1) := by decide +kernel
theorem dX8_readLamp_89 : decode cX8_readLamp 89 = .ok (.ireturn, 1) := by decide +kernel
theorem dX8_readStreet_0 : decode cX8_readStreet 0 = .ok (.aload_n 0, 1) := by decide +kernel
theorem dX8_readStreet_1 : decode cX8_readStreet 1 = .ok (.getfield 102, 3) := by decide +kernel
theorem dX8_readStreet_4 : decode cX8_readStreet 4 = .ok (.bipush 15, 2) := by decide +kernel
theorem dX8_readStreet_6 : decode cX8_readStreet 6 = .ok (.if_icmp .eq 17, 3) := by decide +kernel
theorem dX8_readStreet_9 : decode cX8_readStreet 9 = .ok (.aload_n 0, 1) := by decide +kernel
theorem dX8_readStreet_10 : decode cX8_readStreet 10 = .ok (.iconst 0, 1) := by decide +kernel
theorem dX8_readStreet_11 : decode cX8_readStreet 11 = .ok (.aload_n 0, 1) := by decide +kernel
theorem dX8_readStreet_12 : decode cX8_readStreet 12 = .ok (.getfield 92, 3) := by decide +kernel
theorem dX8_readStreet_15 : decode cX8_readStreet 15 = .ok (.iconst 1, 1) := by decide +kernel
theorem dX8_readStreet_16 : decode cX8_readStreet 16 = .ok (.isub, 1) := by decide +kernel
theorem dX8_readStreet_17 : decode cX8_readStreet 17 = .ok (.invokevirtual 95, 3) := by decide +kernel
theorem dX8_readStreet_20 : decode cX8_readStreet 20 = .ok (.ifCond .ne 5, 3) := by decide +kernel
theorem dX8_readStreet_23 : decode cX8_readStreet 23 = .ok (.iconst 0, 1) := by decide +kernel
theorem dX8_readStreet_24 : decode cX8_readStreet 24 = .ok (.ireturn, 1) := by decide +kernel
theorem dX8_readStreet_25 : decode cX8_readStreet 25 = .ok (.aload_n 0, 1) := by decide +kernel
theorem dX8_readStreet_26 : decode cX8_readStreet 26 = .ok (.getfield 67, 3) := by decide +kernel
theorem dX8_readStreet_29 : decode cX8_readStreet 29 = .ok (.istore_n 1, 1) := by decide +kernel
theorem dX8_readStreet_30 : decode cX8_readStreet 30 = .ok (.aload_n 0, 1) := by decide +kernel
theorem dX8_readStreet_31 : decode cX8_readStreet 31 = .ok (.iconst 0, 1) := by decide +kernel
theorem dX8_readStreet_32 : decode cX8_readStreet 32 = .ok (.aload_n 0, 1) := by decide +kernel
theorem dX8_readStreet_33 : decode cX8_readStreet 33 = .ok (.getfield 92, 3) := by decide +kernel
theorem dX8_readStreet_36 : decode cX8_readStreet 36 = .ok (.iconst 1, 1) := by decide +kernel
theorem dX8_readStreet_37 : decode cX8_readStreet 37 = .ok (.isub, 1) := by decide +kernel
theorem dX8_readStreet_38 : decode cX8_readStreet 38 = .ok (.invokevirtual 95, 3) := by decide +kernel
theorem dX8_readStreet_41 : decode cX8_readStreet 41 = .ok (.ifCond .eq 11, 3) := by decide +kernel
theorem dX8_readStreet_44 : decode cX8_readStreet 44 = .ok (.aload_n 0, 1) := by decide +kernel
theorem dX8_readStreet_45 : decode cX8_readStreet 45 = .ok (.getfield 67, 3) := by decide +kernel
theorem dX8_readStreet_48 : decode cX8_readStreet 48 = .ok (.iload_n 1, 1) := by decide +kernel
theorem dX8_readStreet_49 : decode cX8_readStreet 49 = .ok (.if_icmp .ne 5, 3) := by decide +kernel
theorem dX8_readStreet_52 : decode cX8_readStreet 52 = .ok (.iconst 0, 1) := by decide +kernel
theorem dX8_readStreet_53 : decode cX8_readStreet 53 = .ok (.ireturn, 1) := by decide +kernel
theorem dX8_readStreet_54 : decode cX8_readStreet 54 = .ok (.aload_n 0, 1) := by decide +kernel
theorem dX8_readStreet_55 : decode cX8_readStreet 55 = .ok (.getfield 67, 3) := by decide +kernel
theorem dX8_readStreet_58 : decode cX8_readStreet 58 = .ok (.iload_n 1, 1) := by decide +kernel
theorem dX8_readStreet_59 : decode cX8_readStreet 59 = .ok (.if_icmp .ge 10, 3) := by decide +kernel
theorem dX8_readStreet_62 : decode cX8_readStreet 62 = .ok (.aload_n 0, 1) := by decide +kernel
theorem dX8_readStreet_63 : decode cX8_readStreet 63 = .ok (.getfield 67, 3) := by decide +kernel
theorem dX8_readStreet_66 : decode cX8_readStreet 66 = .ok (.goto 4, 3) := by decide +kernel
theorem dX8_readStreet_69 : decode cX8_readStreet 69 = .ok (.iload_n 1, 1) := by decide +kernel
theorem dX8_readStreet_70 : decode cX8_readStreet 70 = .ok (.istore_n 2, 1) := by decide +kernel
theorem dX8_readStreet_71 : decode cX8_readStreet 71 = .ok (.aload_n 0, 1) := by decide +kernel
theorem dX8_readStreet_72 : decode cX8_readStreet 72 = .ok (.getfield 67, 3) := by decide +kernel
theorem dX8_readStreet_75 : decode cX8_readStreet 75 = .ok (.iload_n 1, 1) := by decide +kernel
theorem dX8_readStreet_76 : decode cX8_readStreet 76 = .ok (.if_icmp .ge 7, 3) := by decide +kernel
theorem dX8_readStreet_79 : decode cX8_readStreet 79 = .ok (.iload_n 1, 1) := by decide +kernel
theorem dX8_readStreet_80 : decode cX8_readStreet 80 = .ok (.goto 7, 3) := by decide +kernel
theorem dX8_readStreet_83 : decode cX8_readStreet 83 = .ok (.aload_n 0, 1) := by decide +kernel
theorem dX8_readStreet_84 : decode cX8_readStreet 84 = .ok (.getfield 67, 3) := by decide +kernel
theorem dX8_readStreet_87 : decode cX8_readStreet 87 = .ok (.istore_n 3, 1) := by decide +kernel
theorem dX8_readStreet_88 : decode cX8_readStreet 88 = .ok (.iconst 0, 1) := by decide +kernel
theorem dX8_readStreet_89 : decode cX8_readStreet 89 = .ok (.istore 4, 2) := by decide +kernel
theorem dX8_readStreet_91 : decode cX8_readStreet 91 = .ok (.iload 4, 2) := by decide +kernel
theorem dX8_readStreet_93 : decode cX8_readStreet 93 = .ok (.aload_n 0, 1) := by decide +kernel
theorem dX8_readStreet_94 : decode cX8_readStreet 94 = .ok (.getfield 102, 3) := by decide +kernel
theorem dX8_readStreet_97 : decode cX8_readStreet 97 = .ok (.if_icmp .ge 33, 3) := by decide +kernel
theorem dX8_readStreet_100 : decode cX8_readStreet 100 = .ok (.aload_n 0, 1) := by decide +kernel
theorem dX8_readStreet_101 : decode cX8_readStreet 101 = .ok (.getfield 16, 3) := by decide +kernel
theorem dX8_readStreet_104 : decode cX8_readStreet 104 = .ok (.iload 4, 2) := by decide +kernel
theorem dX8_readStreet_106 : decode cX8_readStreet 106 = .ok (.iaload, 1) := by decide +kernel
theorem dX8_readStreet_107 : decode cX8_readStreet 107 = .ok (.iload_n 2, 1) := by decide +kernel
theorem dX8_readStreet_108 : decode cX8_readStreet 108 = .ok (.if_icmp .ne 16, 3) := by decide +kernel
theorem dX8_readStreet_111 : decode cX8_readStreet 111 = .ok (.aload_n 0, 1) := by decide +kernel
theorem dX8_readStreet_112 : decode cX8_readStreet 112 = .ok (.getfield 19, 3) := by decide +kernel
theorem dX8_readStreet_115 : decode cX8_readStreet 115 = .ok (.iload 4, 2) := by decide +kernel
theorem dX8_readStreet_117 : decode cX8_readStreet 117 = .ok (.iaload, 1) := by decide +kernel
theorem dX8_readStreet_118 : decode cX8_readStreet 118 = .ok (.iload_n 3, 1) := by decide +kernel
theorem dX8_readStreet_119 : decode cX8_readStreet 119 = .ok (.if_icmp .ne 5, 3) := by decide +kernel
theorem dX8_readStreet_122 : decode cX8_readStreet 122 = .ok (.iconst 0, 1) := by decide +kernel
theorem dX8_readStreet_123 : decode cX8_readStreet 123 = .ok (.ireturn, 1) := by decide +kernel
theorem dX8_readStreet_124 : decode cX8_readStreet 124 = .ok (.iinc 4 1, 3) := by decide +kernel
theorem dX8_readStreet_127 : decode cX8_readStreet 127 = .ok (.goto (-36), 3) := by decide +kernel
theorem dX8_readStreet_130 : decode cX8_readStreet 130 = .ok (.aload_n 0, 1) := by decide +kernel
theorem dX8_readStreet_131 : decode cX8_readStreet 131 = .ok (.getfield 16, 3) := by decide +kernel
theorem dX8_readStreet_134 : decode cX8_readStreet 134 = .ok (.aload_n 0, 1) := by decide +kernel
theorem dX8_readStreet_135 : decode cX8_readStreet 135 = .ok (.getfield 102, 3) := by decide +kernel
theorem dX8_readStreet_138 : decode cX8_readStreet 138 = .ok (.iload_n 2, 1) := by decide +kernel
theorem dX8_readStreet_139 : decode cX8_readStreet 139 = .ok (.iastore, 1) := by decide +kernel
theorem dX8_readStreet_140 : decode cX8_readStreet 140 = .ok (.aload_n 0, 1) := by decide +kernel
theorem dX8_readStreet_141 : decode cX8_readStreet 141 = .ok (.getfield 19, 3) := by decide +kernel
theorem dX8_readStreet_144 : decode cX8_readStreet 144 = .ok (.aload_n 0, 1) := by decide +kernel
theorem dX8_readStreet_145 : decode cX8_readStreet 145 = .ok (.getfield 102, 3) := by decide +kernel
theorem dX8_readStreet_148 : decode cX8_readStreet 148 = .ok (.iload_n 3, 1) := by decide +kernel
theorem dX8_readStreet_149 : decode cX8_readStreet 149 = .ok (.iastore, 1) := by decide +kernel
theorem dX8_readStreet_150 : decode cX8_readStreet 150 = .ok (.aload_n 0, 1) := by decide +kernel
theorem dX8_readStreet_151 : decode cX8_readStreet 151 = .ok (.dup, 1) := by decide +kernel
theorem dX8_readStreet_152 : decode cX8_readStreet 152 = .ok (.getfield 102, 3) := by decide +kernel
theorem dX8_readStreet_155 : decode cX8_readStreet 155 = .ok (.iconst 1, 1) := by decide +kernel
theorem dX8_readStreet_156 : decode cX8_readStreet 156 = .ok (.iadd, 1) := by decide +kernel
theorem dX8_readStreet_157 : decode cX8_readStreet 157 = .ok (.putfield 102, 3) := by decide +kernel
theorem dX8_readStreet_160 : decode cX8_readStreet 160 = .ok (.aload_n 0, 1) := by decide +kernel
theorem dX8_readStreet_161 : decode cX8_readStreet 161 = .ok (.invokevirtual 89, 3) := by decide +kernel
theorem dX8_readStreet_164 : decode cX8_readStreet 164 = .ok (.aload_n 0, 1) := by decide +kernel
theorem dX8_readStreet_165 : decode cX8_readStreet 165 = .ok (.getfield 77, 3) := by decide +kernel
theorem dX8_readStreet_168 : decode cX8_readStreet 168 = .ok (.iconst 3, 1) := by decide +kernel
theorem dX8_readStreet_169 : decode cX8_readStreet 169 = .ok (.if_icmp .ne 7, 3) := by decide +kernel
theorem dX8_readStreet_172 : decode cX8_readStreet 172 = .ok (.iconst 1, 1) := by decide +kernel
theorem dX8_readStreet_173 : decode cX8_readStreet 173 = .ok (.goto 4, 3) := by decide +kernel
theorem dX8_readStreet_176 : decode cX8_readStreet 176 = .ok (.iconst 0, 1) := by decide +kernel
theorem dX8_readStreet_177 : decode cX8_readStreet 177 = .ok (.ireturn, 1) := by decide +kernel
theorem dX8_town_0 : decode cX8_town 0 = .ok (.aload_n 0, 1) := by decide +kernel
theorem dX8_town_1 : decode cX8_town 1 = .ok (.iconst 0, 1) := by decide +kernel
theorem dX8_town_2 : decode cX8_town 2 = .ok (.putfield 64, 3) := by decide +kernel
theorem dX8_town_5 : decode cX8_town 5 = .ok (.aload_n 0, 1) := by decide +kernel
theorem dX8_town_6 : decode cX8_town 6 = .ok (.iconst 0, 1) := by decide +kernel
theorem dX8_town_7 : decode cX8_town 7 = .ok (.putfield 92, 3) := by decide +kernel
theorem dX8_town_10 : decode cX8_town 10 = .ok (.aload_n 0, 1) := by decide +kernel
theorem dX8_town_11 : decode cX8_town 11 = .ok (.iconst 0, 1) := by decide +kernel
theorem dX8_town_12 : decode cX8_town 12 = .ok (.putfield 102, 3) := by decide +kernel
theorem dX8_town_15 : decode cX8_town 15 = .ok (.aload_n 0, 1) := by decide +kernel
theorem dX8_town_16 : decode cX8_town 16 = .ok (.iconst 0, 1) := by decide +kernel
theorem dX8_town_17 : decode cX8_town 17 = .ok (.putfield 99, 3) := by decide +kernel
theorem dX8_town_20 : decode cX8_town 20 = .ok (.iconst 0, 1) := by decide +kernel
theorem dX8_town_21 : decode cX8_town 21 = .ok (.istore_n 1, 1) := by decide +kernel
theorem dX8_town_22 : decode cX8_town 22 = .ok (.aload_n 0, 1) := by decide +kernel
theorem dX8_town_23 : decode cX8_town 23 = .ok (.invokevirtual 89, 3) := by decide +kernel
theorem dX8_town_26 : decode cX8_town 26 = .ok (.aload_n 0, 1) := by decide +kernel
theorem dX8_town_27 : decode cX8_town 27 = .ok (.getfield 77, 3) := by decide +kernel
theorem dX8_town_30 : decode cX8_town 30 = .ok (.ifCond .eq 65, 3) := by decide +kernel
theorem dX8_town_33 : decode cX8_town 33 = .ok (.aload_n 0, 1) := by decide +kernel
theorem dX8_town_34 : decode cX8_town 34 = .ok (.getfield 77, 3) := by decide +kernel
theorem dX8_town_37 : decode cX8_town 37 = .ok (.iconst 1, 1) := by decide +kernel
theorem dX8_town_38 : decode cX8_town 38 = .ok (.if_icmp .ne 33, 3) := by decide +kernel
theorem dX8_town_41 : decode cX8_town 41 = .ok (.aload_n 0, 1) := by decide +kernel
theorem dX8_town_42 : decode cX8_town 42 = .ok (.getfield 67, 3) := by decide +kernel
theorem dX8_town_45 : decode cX8_town 45 = .ok (.bipush 108, 2) := by decide +kernel
theorem dX8_town_47 : decode cX8_town 47 = .ok (.if_icmp .ne 13, 3) := by decide +kernel
theorem dX8_town_50 : decode cX8_town 50 = .ok (.aload_n 0, 1) := by decide +kernel
theorem dX8_town_51 : decode cX8_town 51 = .ok (.invokevirtual 105, 3) := by decide +kernel
theorem dX8_town_54 : decode cX8_town 54 = .ok (.ifCond .eq 17, 3) := by decide +kernel
theorem dX8_town_57 : decode cX8_town 57 = .ok (.goto 10, 3) := by decide +kernel
theorem dX8_town_60 : decode cX8_town 60 = .ok (.aload_n 0, 1) := by decide +kernel
theorem dX8_town_61 : decode cX8_town 61 = .ok (.invokevirtual 109, 3) := by decide +kernel
theorem dX8_town_64 : decode cX8_town 64 = .ok (.ifCond .eq 7, 3) := by decide +kernel
theorem dX8_town_67 : decode cX8_town 67 = .ok (.iconst 1, 1) := by decide +kernel
theorem dX8_town_68 : decode cX8_town 68 = .ok (.goto 4, 3) := by decide +kernel
theorem dX8_town_71 : decode cX8_town 71 = .ok (.iconst 0, 1) := by decide +kernel
theorem dX8_town_72 : decode cX8_town 72 = .ok (.istore_n 2, 1) := by decide +kernel
theorem dX8_town_73 : decode cX8_town 73 = .ok (.iload_n 2, 1) := by decide +kernel
theorem dX8_town_74 : decode cX8_town 74 = .ok (.ifCond .ne 11, 3) := by decide +kernel
theorem dX8_town_77 : decode cX8_town 77 = .ok (.bipush (-10), 2) := by decide +kernel
theorem dX8_town_79 : decode cX8_town 79 = .ok (.aload_n 0, 1) := by decide +kernel
theorem dX8_town_80 : decode cX8_town 80 = .ok (.getfield 74, 3) := by decide +kernel
theorem dX8_town_83 : decode cX8_town 83 = .ok (.isub, 1) := by decide +kernel
theorem dX8_town_84 : decode cX8_town 84 = .ok (.ireturn, 1) := by decide +kernel
theorem dX8_town_85 : decode cX8_town 85 = .ok (.iinc 1 1, 3) := by decide +kernel
theorem dX8_town_88 : decode cX8_town 88 = .ok (.aload_n 0, 1) := by decide +kernel
theorem dX8_town_89 : decode cX8_town 89 = .ok (.invokevirtual 89, 3) := by decide +kernel
theorem dX8_town_92 : decode cX8_town 92 = .ok (.goto (-66), 3) := by decide +kernel
theorem dX8_town_95 : decode cX8_town 95 = .ok (.aload_n 0, 1) := by decide +kernel
theorem dX8_town_96 : decode cX8_town 96 = .ok (.iconst 0, 1) := by decide +kernel
theorem dX8_town_97 : decode cX8_town 97 = .ok (.putfield 53, 3) := by decide +kernel
theorem dX8_town_100 : decode cX8_town 100 = .ok (.aload_n 0, 1) := by decide +kernel
theorem dX8_town_101 : decode cX8_town 101 = .ok (.aload_n 0, 1) := by decide +kernel
theorem dX8_town_102 : decode cX8_town 102 = .ok (.getfield 92, 3) := by decide +kernel
theorem dX8_town_105 : decode cX8_town 105 = .ok (.putfield 43, 3) := by decide +kernel
theorem dX8_town_108 : decode cX8_town 108 = .ok (.aload_n 0, 1) := by decide +kernel
theorem dX8_town_109 : decode cX8_town 109 = .ok (.aload_n 0, 1) := by decide +kernel
theorem dX8_town_110 : decode cX8_town 110 = .ok (.getfield 102, 3) := by decide +kernel
theorem dX8_town_113 : decode cX8_town 113 = .ok (.putfield 112, 3) := by decide +kernel
theorem dX8_town_116 : decode cX8_town 116 = .ok (.iconst 0, 1) := by decide +kernel
theorem dX8_town_117 : decode cX8_town 117 = .ok (.istore_n 2, 1) := by decide +kernel
theorem dX8_town_118 : decode cX8_town 118 = .ok (.iload_n 2, 1) := by decide +kernel
theorem dX8_town_119 : decode cX8_town 119 = .ok (.aload_n 0, 1) := by decide +kernel
theorem dX8_town_120 : decode cX8_town 120 = .ok (.getfield 43, 3) := by decide +kernel
theorem dX8_town_123 : decode cX8_town 123 = .ok (.if_icmp .ge 21, 3) := by decide +kernel
theorem dX8_town_126 : decode cX8_town 126 = .ok (.aload_n 0, 1) := by decide +kernel
theorem dX8_town_127 : decode cX8_town 127 = .ok (.getfield 22, 3) := by decide +kernel
theorem dX8_town_130 : decode cX8_town 130 = .ok (.iload_n 2, 1) := by decide +kernel
theorem dX8_town_131 : decode cX8_town 131 = .ok (.aload_n 0, 1) := by decide +kernel
theorem dX8_town_132 : decode cX8_town 132 = .ok (.getfield 13, 3) := by decide +kernel
theorem dX8_town_135 : decode cX8_town 135 = .ok (.iload_n 2, 1) := by decide +kernel
theorem dX8_town_136 : decode cX8_town 136 = .ok (.iaload, 1) := by decide +kernel
theorem dX8_town_137 : decode cX8_town 137 = .ok (.iastore, 1) := by decide +kernel
theorem dX8_town_138 : decode cX8_town 138 = .ok (.iinc 2 1, 3) := by decide +kernel
theorem dX8_town_141 : decode cX8_town 141 = .ok (.goto (-23), 3) := by decide +kernel
theorem dX8_town_144 : decode cX8_town 144 = .ok (.iconst 0, 1) := by decide +kernel
theorem dX8_town_145 : decode cX8_town 145 = .ok (.istore_n 2, 1) := by decide +kernel
theorem dX8_town_146 : decode cX8_town 146 = .ok (.iload_n 2, 1) := by decide +kernel
theorem dX8_town_147 : decode cX8_town 147 = .ok (.aload_n 0, 1) := by decide +kernel
theorem dX8_town_148 : decode cX8_town 148 = .ok (.getfield 112, 3) := by decide +kernel
theorem dX8_town_151 : decode cX8_town 151 = .ok (.if_icmp .ge 33, 3) := by decide +kernel
theorem dX8_town_154 : decode cX8_town 154 = .ok (.aload_n 0, 1) := by decide +kernel
theorem dX8_town_155 : decode cX8_town 155 = .ok (.getfield 25, 3) := by decide +kernel
theorem dX8_town_158 : decode cX8_town 158 = .ok (.iload_n 2, 1) := by decide +kernel
theorem dX8_town_159 : decode cX8_town 159 = .ok (.aload_n 0, 1) := by decide +kernel
theorem dX8_town_160 : decode cX8_town 160 = .ok (.getfield 16, 3) := by decide +kernel
theorem dX8_town_163 : decode cX8_town 163 = .ok (.iload_n 2, 1) := by decide +kernel
theorem dX8_town_164 : decode cX8_town 164 = .ok (.iaload, 1) := by decide +kernel
theorem dX8_town_165 : decode cX8_town 165 = .ok (.iastore, 1) := by decide +kernel
theorem dX8_town_166 : decode cX8_town 166 = .ok (.aload_n 0, 1) := by decide +kernel
theorem dX8_town_167 : decode cX8_town 167 = .ok (.getfield 28, 3) := by decide +kernel
theorem dX8_town_170 : decode cX8_town 170 = .ok (.iload_n 2, 1) := by decide +kernel
theorem dX8_town_171 : decode cX8_town 171 = .ok (.aload_n 0, 1) := by decide +kernel
theorem dX8_town_172 : decode cX8_town 172 = .ok (.getfield 19, 3) := by decide +kernel
theorem dX8_town_175 : decode cX8_town 175 = .ok (.iload_n 2, 1) := by decide +kernel
theorem dX8_town_176 : decode cX8_town 176 = .ok (.iaload, 1) := by decide +kernel
theorem dX8_town_177 : decode cX8_town 177 = .ok (.iastore, 1) := by decide +kernel
theorem dX8_town_178 : decode cX8_town 178 = .ok (.iinc 2 1, 3) := by decide +kernel
theorem dX8_town_181 : decode cX8_town 181 = .ok (.goto (-35), 3) := by decide +kernel
theorem dX8_town_184 : decode cX8_town 184 = .ok (.aload_n 0, 1) := by decide +kernel
theorem dX8_town_185 : decode cX8_town 185 = .ok (.iconst 0, 1) := by decide +kernel
theorem dX8_town_186 : decode cX8_town 186 = .ok (.putfield 115, 3) := by decide +kernel
theorem dX8_town_189 : decode cX8_town 189 = .ok (.aload_n 0, 1) := by decide +kernel
theorem dX8_town_190 : decode cX8_town 190 = .ok (.aload_n 0, 1) := by decide +kernel
theorem dX8_town_191 : decode cX8_town 191 = .ok (.getfield 99, 3) := by decide +kernel
theorem dX8_town_194 : decode cX8_town 194 = .ok (.putfield 118, 3) := by decide +kernel
theorem dX8_town_197 : decode cX8_town 197 = .ok (.aload_n 0, 1) := by decide +kernel
theorem dX8_town_198 : decode cX8_town 198 = .ok (.iconst 0, 1) := by decide +kernel
theorem dX8_town_199 : decode cX8_town 199 = .ok (.putfield 121, 3) := by decide +kernel
theorem dX8_town_202 : decode cX8_town 202 = .ok (.aload_n 0, 1) := by decide +kernel
theorem dX8_town_203 : decode cX8_town 203 = .ok (.iconst 0, 1) := by decide +kernel
theorem dX8_town_204 : decode cX8_town 204 = .ok (.putfield 124, 3) := by decide +kernel
theorem dX8_town_207 : decode cX8_town 207 = .ok (.aload_n 0, 1) := by decide +kernel
theorem dX8_town_208 : decode cX8_town 208 = .ok (.iconst 0, 1) := by decide +kernel
theorem dX8_town_209 : decode cX8_town 209 = .ok (.putfield 127, 3) := by decide +kernel
theorem dX8_town_212 : decode cX8_town 212 = .ok (.aload_n 0, 1) := by decide +kernel
theorem dX8_town_213 : decode cX8_town 213 = .ok (.getfield 40, 3) := by decide +kernel
theorem dX8_town_216 : decode cX8_town 216 = .ok (.iconst 0, 1) := by decide +kernel
theorem dX8_town_217 : decode cX8_town 217 = .ok (.iconst 0, 1) := by decide +kernel
theorem dX8_town_218 : decode cX8_town 218 = .ok (.iastore, 1) := by decide +kernel
theorem dX8_town_219 : decode cX8_town 219 = .ok (.aload_n 0, 1) := by decide +kernel
theorem dX8_town_220 : decode cX8_town 220 = .ok (.getfield 40, 3) := by decide +kernel
theorem dX8_town_223 : decode cX8_town 223 = .ok (.bipush 46, 2) := by decide +kernel
theorem dX8_town_225 : decode cX8_town 225 = .ok (.iconst 0, 1) := by decide +kernel
theorem dX8_town_226 : decode cX8_town 226 = .ok (.iastore, 1) := by decide +kernel
theorem dX8_town_227 : decode cX8_town 227 = .ok (.iload_n 1, 1) := by decide +kernel
theorem dX8_town_228 : decode cX8_town 228 = .ok (.ireturn, 1) := by decide +kernel
theorem dX8_isLamp_0 : decode cX8_isLamp 0 = .ok (.iload_n 1, 1) := by decide +kernel
theorem dX8_isLamp_1 : decode cX8_isLamp 1 = .ok (.i2l, 1) := by decide +kernel
theorem dX8_isLamp_2 : decode cX8_isLamp 2 = .ok (.lconst 0, 1) := by decide +kernel
theorem dX8_isLamp_3 : decode cX8_isLamp 3 = .ok (.aload_n 0, 1) := by decide +kernel
theorem dX8_isLamp_4 : decode cX8_isLamp 4 = .ok (.getfield 43, 3) := by decide +kernel
theorem dX8_isLamp_7 : decode cX8_isLamp 7 = .ok (.iconst 1, 1) := by decide +kernel
theorem dX8_isLamp_8 : decode cX8_isLamp 8 = .ok (.isub, 1) := by decide +kernel
theorem dX8_isLamp_9 : decode cX8_isLamp 9 = .ok (.i2l, 1) := by decide +kernel
theorem dX8_isLamp_10 : decode cX8_isLamp 10 = .ok (.invokestatic 49, 3) := by decide +kernel
theorem dX8_isLamp_13 : decode cX8_isLamp 13 = .ok (.ireturn, 1) := by decide +kernel
theorem dX8_isStand_0 : decode cX8_isStand 0 = .ok (.iload_n 1, 1) := by decide +kernel
theorem dX8_isStand_1 : decode cX8_isStand 1 = .ok (.i2l, 1) := by decide +kernel
theorem dX8_isStand_2 : decode cX8_isStand 2 = .ok (.lconst 0, 1) := by decide +kernel
theorem dX8_isStand_3 : decode cX8_isStand 3 = .ok (.iconst 1, 1) := by decide +kernel
theorem dX8_isStand_4 : decode cX8_isStand 4 = .ok (.aload_n 0, 1) := by decide +kernel
theorem dX8_isStand_5 : decode cX8_isStand 5 = .ok (.getfield 43, 3) := by decide +kernel
theorem dX8_isStand_8 : decode cX8_isStand 8 = .ok (.ishl, 1) := by decide +kernel
theorem dX8_isStand_9 : decode cX8_isStand 9 = .ok (.iconst 1, 1) := by decide +kernel
theorem dX8_isStand_10 : decode cX8_isStand 10 = .ok (.isub, 1) := by decide +kernel
theorem dX8_isStand_11 : decode cX8_isStand 11 = .ok (.i2l, 1) := by decide +kernel
theorem dX8_isStand_12 : decode cX8_isStand 12 = .ok (.invokestatic 49, 3) := by decide +kernel
theorem dX8_isStand_15 : decode cX8_isStand 15 = .ok (.ireturn, 1) := by decide +kernel
theorem dX8_many_0 : decode cX8_many 0 = .ok (.iconst 0, 1) := by decide +kernel
theorem dX8_many_1 : decode cX8_many 1 = .ok (.istore_n 1, 1) := by decide +kernel
theorem dX8_many_2 : decode cX8_many 2 = .ok (.iload_n 0, 1) := by decide +kernel
theorem dX8_many_3 : decode cX8_many 3 = .ok (.istore_n 2, 1) := by decide +kernel
theorem dX8_many_4 : decode cX8_many 4 = .ok (.iload_n 2, 1) := by decide +kernel
theorem dX8_many_5 : decode cX8_many 5 = .ok (.ifCond .eq 15, 3) := by decide +kernel
theorem dX8_many_8 : decode cX8_many 8 = .ok (.iinc 1 1, 3) := by decide +kernel
theorem dX8_many_11 : decode cX8_many 11 = .ok (.iload_n 2, 1) := by decide +kernel
theorem dX8_many_12 : decode cX8_many 12 = .ok (.iload_n 2, 1) := by decide +kernel
theorem dX8_many_13 : decode cX8_many 13 = .ok (.iconst 1, 1) := by decide +kernel
theorem dX8_many_14 : decode cX8_many 14 = .ok (.isub, 1) := by decide +kernel
theorem dX8_many_15 : decode cX8_many 15 = .ok (.iand, 1) := by decide +kernel
theorem dX8_many_16 : decode cX8_many 16 = .ok (.istore_n 2, 1) := by decide +kernel
theorem dX8_many_17 : decode cX8_many 17 = .ok (.goto (-13), 3) := by decide +kernel
theorem dX8_many_20 : decode cX8_many 20 = .ok (.iload_n 1, 1) := by decide +kernel
theorem dX8_many_21 : decode cX8_many 21 = .ok (.ireturn, 1) := by decide +kernel
theorem dX8_beside_0 : decode cX8_beside 0 = .ok (.iconst 0, 1) := by decide +kernel
theorem dX8_beside_1 : decode cX8_beside 1 = .ok (.istore_n 3, 1) := by decide +kernel
theorem dX8_beside_2 : decode cX8_beside 2 = .ok (.iconst 0, 1) := by decide +kernel
theorem dX8_beside_3 : decode cX8_beside 3 = .ok (.istore 4, 2) := by decide +kernel
theorem dX8_beside_5 : decode cX8_beside 5 = .ok (.iload 4, 2) := by decide +kernel
theorem dX8_beside_7 : decode cX8_beside 7 = .ok (.aload_n 0, 1) := by decide +kernel
theorem dX8_beside_8 : decode cX8_beside 8 = .ok (.getfield 112, 3) := by decide +kernel
theorem dX8_beside_11 : decode cX8_beside 11 = .ok (.if_icmp .ge 89, 3) := by decide +kernel
theorem dX8_beside_14 : decode cX8_beside 14 = .ok (.iload_n 2, 1) := by decide +kernel
theorem dX8_beside_15 : decode cX8_beside 15 = .ok (.iload 4, 2) := by decide +kernel
theorem dX8_beside_17 : decode cX8_beside 17 = .ok (.ishr, 1) := by decide +kernel
theorem dX8_beside_18 : decode cX8_beside 18 = .ok (.iconst 1, 1) := by decide +kernel
theorem dX8_beside_19 : decode cX8_beside 19 = .ok (.iand, 1) := by decide +kernel
theorem dX8_beside_20 : decode cX8_beside 20 = .ok (.ifCond .ne 7, 3) := by decide +kernel
theorem dX8_beside_23 : decode cX8_beside 23 = .ok (.iconst 1, 1) := by decide +kernel
theorem dX8_beside_24 : decode cX8_beside 24 = .ok (.goto 4, 3) := by decide +kernel
theorem dX8_beside_27 : decode cX8_beside 27 = .ok (.iconst 0, 1) := by decide +kernel
theorem dX8_beside_28 : decode cX8_beside 28 = .ok (.istore 5, 2) := by decide +kernel
theorem dX8_beside_30 : decode cX8_beside 30 = .ok (.iload_n 3, 1) := by decide +kernel
theorem dX8_beside_31 : decode cX8_beside 31 = .ok (.iload 5, 2) := by decide +kernel
theorem dX8_beside_33 : decode cX8_beside 33 = .ok (.ifCond .eq 26, 3) := by decide +kernel
theorem dX8_beside_36 : decode cX8_beside 36 = .ok (.aload_n 0, 1) := by decide +kernel
theorem dX8_beside_37 : decode cX8_beside 37 = .ok (.getfield 25, 3) := by decide +kernel
theorem dX8_beside_40 : decode cX8_beside 40 = .ok (.iload 4, 2) := by decide +kernel
theorem dX8_beside_42 : decode cX8_beside 42 = .ok (.iaload, 1) := by decide +kernel
theorem dX8_beside_43 : decode cX8_beside 43 = .ok (.iload_n 1, 1) := by decide +kernel
theorem dX8_beside_44 : decode cX8_beside 44 = .ok (.if_icmp .ne 15, 3) := by decide +kernel
theorem dX8_beside_47 : decode cX8_beside 47 = .ok (.iconst 1, 1) := by decide +kernel
theorem dX8_beside_48 : decode cX8_beside 48 = .ok (.aload_n 0, 1) := by decide +kernel
theorem dX8_beside_49 : decode cX8_beside 49 = .ok (.getfield 28, 3) := by decide +kernel
theorem dX8_beside_52 : decode cX8_beside 52 = .ok (.iload 4, 2) := by decide +kernel
theorem dX8_beside_54 : decode cX8_beside 54 = .ok (.iaload, 1) := by decide +kernel
theorem dX8_beside_55 : decode cX8_beside 55 = .ok (.ishl, 1) := by decide +kernel
theorem dX8_beside_56 : decode cX8_beside 56 = .ok (.goto 4, 3) := by decide +kernel
theorem dX8_beside_59 : decode cX8_beside 59 = .ok (.iconst 0, 1) := by decide +kernel
theorem dX8_beside_60 : decode cX8_beside 60 = .ok (.ior, 1) := by decide +kernel
theorem dX8_beside_61 : decode cX8_beside 61 = .ok (.istore_n 3, 1) := by decide +kernel
theorem dX8_beside_62 : decode cX8_beside 62 = .ok (.iload_n 3, 1) := by decide +kernel
theorem dX8_beside_63 : decode cX8_beside 63 = .ok (.iload 5, 2) := by decide +kernel
theorem dX8_beside_65 : decode cX8_beside 65 = .ok (.ifCond .eq 26, 3) := by decide +kernel
theorem dX8_beside_68 : decode cX8_beside 68 = .ok (.aload_n 0, 1) := by decide +kernel
theorem dX8_beside_69 : decode cX8_beside 69 = .ok (.getfield 28, 3) := by decide +kernel
theorem dX8_beside_72 : decode cX8_beside 72 = .ok (.iload 4, 2) := by decide +kernel
theorem dX8_beside_74 : decode cX8_beside 74 = .ok (.iaload, 1) := by decide +kernel
theorem dX8_beside_75 : decode cX8_beside 75 = .ok (.iload_n 1, 1) := by decide +kernel
theorem dX8_beside_76 : decode cX8_beside 76 = .ok (.if_icmp .ne 15, 3) := by decide +kernel
theorem dX8_beside_79 : decode cX8_beside 79 = .ok (.iconst 1, 1) := by decide +kernel
theorem dX8_beside_80 : decode cX8_beside 80 = .ok (.aload_n 0, 1) := by decide +kernel
theorem dX8_beside_81 : decode cX8_beside 81 = .ok (.getfield 25, 3) := by decide +kernel
theorem dX8_beside_84 : decode cX8_beside 84 = .ok (.iload 4, 2) := by decide +kernel
theorem dX8_beside_86 : decode cX8_beside 86 = .ok (.iaload, 1) := by decide +kernel
theorem dX8_beside_87 : decode cX8_beside 87 = .ok (.ishl, 1) := by decide +kernel
theorem dX8_beside_88 : decode cX8_beside 88 = .ok (.goto 4, 3) := by decide +kernel
theorem dX8_beside_91 : decode cX8_beside 91 = .ok (.iconst 0, 1) := by decide +kernel
theorem dX8_beside_92 : decode cX8_beside 92 = .ok (.ior, 1) := by decide +kernel
theorem dX8_beside_93 : decode cX8_beside 93 = .ok (.istore_n 3, 1) := by decide +kernel
theorem dX8_beside_94 : decode cX8_beside 94 = .ok (.iinc 4 1, 3) := by decide +kernel
theorem dX8_beside_97 : decode cX8_beside 97 = .ok (.goto (-92), 3) := by decide +kernel
theorem dX8_beside_100 : decode cX8_beside 100 = .ok (.iload_n 3, 1) := by decide +kernel
theorem dX8_beside_101 : decode cX8_beside 101 = .ok (.ireturn, 1) := by decide +kernel
theorem dX8_lamp_0 : decode cX8_lamp 0 = .ok (.aload_n 0, 1) := by decide +kernel
theorem dX8_lamp_1 : decode cX8_lamp 1 = .ok (.iload_n 1, 1) := by decide +kernel
theorem dX8_lamp_2 : decode cX8_lamp 2 = .ok (.invokevirtual 130, 3) := by decide +kernel
theorem dX8_lamp_5 : decode cX8_lamp 5 = .ok (.ifCond .ne 5, 3) := by decide +kernel
theorem dX8_lamp_8 : decode cX8_lamp 8 = .ok (.iconst (-1), 1) := by decide +kernel
theorem dX8_lamp_9 : decode cX8_lamp 9 = .ok (.ireturn, 1) := by decide +kernel
theorem dX8_lamp_10 : decode cX8_lamp 10 = .ok (.iload_n 2, 1) := by decide +kernel
theorem dX8_lamp_11 : decode cX8_lamp 11 = .ok (.tableswitch 97 0 4 #[33, 40, 49, 59, 77], 33) := by decide +kernel
theorem dX8_lamp_44 : decode cX8_lamp 44 = .ok (.aload_n 0, 1) := by decide +kernel
theorem dX8_lamp_45 : decode cX8_lamp 45 = .ok (.getfield 22, 3) := by decide +kernel
theorem dX8_lamp_48 : decode cX8_lamp 48 = .ok (.iload_n 1, 1) := by decide +kernel
theorem dX8_lamp_49 : decode cX8_lamp 49 = .ok (.iaload, 1) := by decide +kernel
theorem dX8_lamp_50 : decode cX8_lamp 50 = .ok (.ireturn, 1) := by decide +kernel
theorem dX8_lamp_51 : decode cX8_lamp 51 = .ok (.aload_n 0, 1) := by decide +kernel
theorem dX8_lamp_52 : decode cX8_lamp 52 = .ok (.getfield 118, 3) := by decide +kernel
theorem dX8_lamp_55 : decode cX8_lamp 55 = .ok (.iload_n 1, 1) := by decide +kernel
theorem dX8_lamp_56 : decode cX8_lamp 56 = .ok (.ishr, 1) := by decide +kernel
theorem dX8_lamp_57 : decode cX8_lamp 57 = .ok (.iconst 1, 1) := by decide +kernel
theorem dX8_lamp_58 : decode cX8_lamp 58 = .ok (.iand, 1) := by decide +kernel
theorem dX8_lamp_59 : decode cX8_lamp 59 = .ok (.ireturn, 1) := by decide +kernel
theorem dX8_lamp_60 : decode cX8_lamp 60 = .ok (.aload_n 0, 1) := by decide +kernel
theorem dX8_lamp_61 : decode cX8_lamp 61 = .ok (.iload_n 1, 1) := by decide +kernel
theorem dX8_lamp_62 : decode cX8_lamp 62 = .ok (.iconst 0, 1) := by decide +kernel
theorem dX8_lamp_63 : decode cX8_lamp 63 = .ok (.invokevirtual 133, 3) := by decide +kernel
theorem dX8_lamp_66 : decode cX8_lamp 66 = .ok (.invokestatic 137, 3) := by decide +kernel
theorem dX8_lamp_69 : decode cX8_lamp 69 = .ok (.ireturn, 1) := by decide +kernel
theorem dX8_lamp_70 : decode cX8_lamp 70 = .ok (.aload_n 0, 1) := by decide +kernel
theorem dX8_lamp_71 : decode cX8_lamp 71 = .ok (.iload_n 1, 1) := by decide +kernel
theorem dX8_lamp_72 : decode cX8_lamp 72 = .ok (.aload_n 0, 1) := by decide +kernel
theorem dX8_lamp_73 : decode cX8_lamp 73 = .ok (.getfield 124, 3) := by decide +kernel
theorem dX8_lamp_76 : decode cX8_lamp 76 = .ok (.invokevirtual 133, 3) := by decide +kernel
theorem dX8_lamp_79 : decode cX8_lamp 79 = .ok (.aload_n 0, 1) := by decide +kernel
theorem dX8_lamp_80 : decode cX8_lamp 80 = .ok (.getfield 118, 3) := by decide +kernel
theorem dX8_lamp_83 : decode cX8_lamp 83 = .ok (.iand, 1) := by decide +kernel
theorem dX8_lamp_84 : decode cX8_lamp 84 = .ok (.invokestatic 137, 3) := by decide +kernel
theorem dX8_lamp_87 : decode cX8_lamp 87 = .ok (.ireturn, 1) := by decide +kernel
theorem dX8_lamp_88 : decode cX8_lamp 88 = .ok (.aload_n 0, 1) := by decide +kernel
theorem dX8_lamp_89 : decode cX8_lamp 89 = .ok (.iload_n 1, 1) := by decide +kernel
theorem dX8_lamp_90 : decode cX8_lamp 90 = .ok (.aload_n 0, 1) := by decide +kernel
theorem dX8_lamp_91 : decode cX8_lamp 91 = .ok (.getfield 124, 3) := by decide +kernel
theorem dX8_lamp_94 : decode cX8_lamp 94 = .ok (.invokevirtual 133, 3) := by decide +kernel
theorem dX8_lamp_97 : decode cX8_lamp 97 = .ok (.aload_n 0, 1) := by decide +kernel
theorem dX8_lamp_98 : decode cX8_lamp 98 = .ok (.getfield 118, 3) := by decide +kernel
theorem dX8_lamp_101 : decode cX8_lamp 101 = .ok (.iconst (-1), 1) := by decide +kernel
theorem dX8_lamp_102 : decode cX8_lamp 102 = .ok (.ixor, 1) := by decide +kernel
theorem dX8_lamp_103 : decode cX8_lamp 103 = .ok (.iand, 1) := by decide +kernel
theorem dX8_lamp_104 : decode cX8_lamp 104 = .ok (.invokestatic 137, 3) := by decide +kernel
theorem dX8_lamp_107 : decode cX8_lamp 107 = .ok (.ireturn, 1) := by decide +kernel
theorem dX8_lamp_108 : decode cX8_lamp 108 = .ok (.iconst (-1), 1) := by decide +kernel
theorem dX8_lamp_109 : decode cX8_lamp 109 = .ok (.ireturn, 1) := by decide +kernel
theorem dX8_street_0 : decode cX8_street 0 = .ok (.iload_n 1, 1) := by decide +kernel
theorem dX8_street_1 : decode cX8_street 1 = .ok (.i2l, 1) := by decide +kernel
theorem dX8_street_2 : decode cX8_street 2 = .ok (.lconst 0, 1) := by decide +kernel
theorem dX8_street_3 : decode cX8_street 3 = .ok (.aload_n 0, 1) := by decide +kernel
theorem dX8_street_4 : decode cX8_street 4 = .ok (.getfield 112, 3) := by decide +kernel
theorem dX8_street_7 : decode cX8_street 7 = .ok (.iconst 1, 1) := by decide +kernel
theorem dX8_street_8 : decode cX8_street 8 = .ok (.isub, 1) := by decide +kernel
theorem dX8_street_9 : decode cX8_street 9 = .ok (.i2l, 1) := by decide +kernel
theorem dX8_street_10 : decode cX8_street 10 = .ok (.invokestatic 49, 3) := by decide +kernel
theorem dX8_street_13 : decode cX8_street 13 = .ok (.ifCond .eq 15, 3) := by decide +kernel
theorem dX8_street_16 : decode cX8_street 16 = .ok (.iload_n 2, 1) := by decide +kernel
theorem dX8_street_17 : decode cX8_street 17 = .ok (.i2l, 1) := by decide +kernel
theorem dX8_street_18 : decode cX8_street 18 = .ok (.lconst 0, 1) := by decide +kernel
theorem dX8_street_19 : decode cX8_street 19 = .ok (.ldc2_w 141, 3) := by decide +kernel
theorem dX8_street_22 : decode cX8_street 22 = .ok (.invokestatic 49, 3) := by decide +kernel
theorem dX8_street_25 : decode cX8_street 25 = .ok (.ifCond .ne 5, 3) := by decide +kernel
theorem dX8_street_28 : decode cX8_street 28 = .ok (.iconst (-1), 1) := by decide +kernel
theorem dX8_street_29 : decode cX8_street 29 = .ok (.ireturn, 1) := by decide +kernel
theorem dX8_street_30 : decode cX8_street 30 = .ok (.iload_n 2, 1) := by decide +kernel
theorem dX8_street_31 : decode cX8_street 31 = .ok (.ifCond .ne 12, 3) := by decide +kernel
theorem dX8_street_34 : decode cX8_street 34 = .ok (.aload_n 0, 1) := by decide +kernel
theorem dX8_street_35 : decode cX8_street 35 = .ok (.getfield 25, 3) := by decide +kernel
theorem dX8_street_38 : decode cX8_street 38 = .ok (.iload_n 1, 1) := by decide +kernel
theorem dX8_street_39 : decode cX8_street 39 = .ok (.iaload, 1) := by decide +kernel
theorem dX8_street_40 : decode cX8_street 40 = .ok (.goto 25, 3) := by decide +kernel
theorem dX8_street_43 : decode cX8_street 43 = .ok (.iload_n 2, 1) := by decide +kernel
theorem dX8_street_44 : decode cX8_street 44 = .ok (.iconst 1, 1) := by decide +kernel
theorem dX8_street_45 : decode cX8_street 45 = .ok (.if_icmp .ne 12, 3) := by decide +kernel
theorem dX8_street_48 : decode cX8_street 48 = .ok (.aload_n 0, 1) := by decide +kernel
theorem dX8_street_49 : decode cX8_street 49 = .ok (.getfield 28, 3) := by decide +kernel
theorem dX8_street_52 : decode cX8_street 52 = .ok (.iload_n 1, 1) := by decide +kernel
theorem dX8_street_53 : decode cX8_street 53 = .ok (.iaload, 1) := by decide +kernel
theorem dX8_street_54 : decode cX8_street 54 = .ok (.goto 11, 3) := by decide +kernel
theorem dX8_street_57 : decode cX8_street 57 = .ok (.aload_n 0, 1) := by decide +kernel
theorem dX8_street_58 : decode cX8_street 58 = .ok (.getfield 124, 3) := by decide +kernel
theorem dX8_street_61 : decode cX8_street 61 = .ok (.iload_n 1, 1) := by decide +kernel
theorem dX8_street_62 : decode cX8_street 62 = .ok (.ishr, 1) := by decide +kernel
theorem dX8_street_63 : decode cX8_street 63 = .ok (.iconst 1, 1) := by decide +kernel
theorem dX8_street_64 : decode cX8_street 64 = .ok (.iand, 1) := by decide +kernel
theorem dX8_street_65 : decode cX8_street 65 = .ok (.ireturn, 1) := by decide +kernel
theorem dX8_looks_0 : decode cX8_looks 0 = .ok (.iconst 0, 1) := by decide +kernel
theorem dX8_looks_1 : decode cX8_looks 1 = .ok (.istore_n 2, 1) := by decide +kernel
theorem dX8_looks_2 : decode cX8_looks 2 = .ok (.iload_n 2, 1) := by decide +kernel
theorem dX8_looks_3 : decode cX8_looks 3 = .ok (.aload_n 0, 1) := by decide +kernel
theorem dX8_looks_4 : decode cX8_looks 4 = .ok (.getfield 43, 3) := by decide +kernel
theorem dX8_looks_7 : decode cX8_looks 7 = .ok (.if_icmp .ge 21, 3) := by decide +kernel
theorem dX8_looks_10 : decode cX8_looks 10 = .ok (.aload_n 0, 1) := by decide +kernel
theorem dX8_looks_11 : decode cX8_looks 11 = .ok (.getfield 31, 3) := by decide +kernel
theorem dX8_looks_14 : decode cX8_looks 14 = .ok (.iload_n 2, 1) := by decide +kernel
theorem dX8_looks_15 : decode cX8_looks 15 = .ok (.aload_n 0, 1) := by decide +kernel
theorem dX8_looks_16 : decode cX8_looks 16 = .ok (.iload_n 2, 1) := by decide +kernel
theorem dX8_looks_17 : decode cX8_looks 17 = .ok (.iload_n 1, 1) := by decide +kernel
theorem dX8_looks_18 : decode cX8_looks 18 = .ok (.invokevirtual 133, 3) := by decide +kernel
theorem dX8_looks_21 : decode cX8_looks 21 = .ok (.iastore, 1) := by decide +kernel
theorem dX8_looks_22 : decode cX8_looks 22 = .ok (.iinc 2 1, 3) := by decide +kernel
theorem dX8_looks_25 : decode cX8_looks 25 = .ok (.goto (-23), 3) := by decide +kernel
theorem dX8_looks_28 : decode cX8_looks 28 = .ok (.return_, 1) := by decide +kernel
theorem dX8_rings_0 : decode cX8_rings 0 = .ok (.iconst 0, 1) := by decide +kernel
theorem dX8_rings_1 : decode cX8_rings 1 = .ok (.istore_n 2, 1) := by decide +kernel
theorem dX8_rings_2 : decode cX8_rings 2 = .ok (.iconst 0, 1) := by decide +kernel
theorem dX8_rings_3 : decode cX8_rings 3 = .ok (.istore_n 3, 1) := by decide +kernel
theorem dX8_rings_4 : decode cX8_rings 4 = .ok (.iload_n 3, 1) := by decide +kernel
theorem dX8_rings_5 : decode cX8_rings 5 = .ok (.aload_n 0, 1) := by decide +kernel
theorem dX8_rings_6 : decode cX8_rings 6 = .ok (.getfield 43, 3) := by decide +kernel
theorem dX8_rings_9 : decode cX8_rings 9 = .ok (.if_icmp .ge 155, 3) := by decide +kernel
theorem dX8_rings_12 : decode cX8_rings 12 = .ok (.iload_n 1, 1) := by decide +kernel
theorem dX8_rings_13 : decode cX8_rings 13 = .ok (.iload_n 3, 1) := by decide +kernel
theorem dX8_rings_14 : decode cX8_rings 14 = .ok (.ishr, 1) := by decide +kernel
theorem dX8_rings_15 : decode cX8_rings 15 = .ok (.iconst 1, 1) := by decide +kernel
theorem dX8_rings_16 : decode cX8_rings 16 = .ok (.iand, 1) := by decide +kernel
theorem dX8_rings_17 : decode cX8_rings 17 = .ok (.istore 4, 2) := by decide +kernel
theorem dX8_rings_19 : decode cX8_rings 19 = .ok (.aload_n 0, 1) := by decide +kernel
theorem dX8_rings_20 : decode cX8_rings 20 = .ok (.getfield 31, 3) := by decide +kernel
theorem dX8_rings_23 : decode cX8_rings 23 = .ok (.iload_n 3, 1) := by decide +kernel
theorem dX8_rings_24 : decode cX8_rings 24 = .ok (.iaload, 1) := by decide +kernel
theorem dX8_rings_25 : decode cX8_rings 25 = .ok (.iload_n 1, 1) := by decide +kernel
theorem dX8_rings_26 : decode cX8_rings 26 = .ok (.iand, 1) := by decide +kernel
theorem dX8_rings_27 : decode cX8_rings 27 = .ok (.invokestatic 137, 3) := by decide +kernel
theorem dX8_rings_30 : decode cX8_rings 30 = .ok (.istore 5, 2) := by decide +kernel
theorem dX8_rings_32 : decode cX8_rings 32 = .ok (.aload_n 0, 1) := by decide +kernel
theorem dX8_rings_33 : decode cX8_rings 33 = .ok (.getfield 31, 3) := by decide +kernel
theorem dX8_rings_36 : decode cX8_rings 36 = .ok (.iload_n 3, 1) := by decide +kernel
theorem dX8_rings_37 : decode cX8_rings 37 = .ok (.iaload, 1) := by decide +kernel
theorem dX8_rings_38 : decode cX8_rings 38 = .ok (.invokestatic 137, 3) := by decide +kernel
theorem dX8_rings_41 : decode cX8_rings 41 = .ok (.iload 5, 2) := by decide +kernel
theorem dX8_rings_43 : decode cX8_rings 43 = .ok (.isub, 1) := by decide +kernel
theorem dX8_rings_44 : decode cX8_rings 44 = .ok (.istore 6, 2) := by decide +kernel
theorem dX8_rings_46 : decode cX8_rings 46 = .ok (.iload 4, 2) := by decide +kernel
theorem dX8_rings_48 : decode cX8_rings 48 = .ok (.istore 7, 2) := by decide +kernel
theorem dX8_rings_50 : decode cX8_rings 50 = .ok (.aload_n 0, 1) := by decide +kernel
theorem dX8_rings_51 : decode cX8_rings 51 = .ok (.getfield 22, 3) := by decide +kernel
theorem dX8_rings_54 : decode cX8_rings 54 = .ok (.iload_n 3, 1) := by decide +kernel
theorem dX8_rings_55 : decode cX8_rings 55 = .ok (.iaload, 1) := by decide +kernel
theorem dX8_rings_56 : decode cX8_rings 56 = .ok (.tableswitch 95 0 2 #[28, 57, 86], 28) := by decide +kernel
theorem dX8_rings_84 : decode cX8_rings 84 = .ok (.iload 5, 2) := by decide +kernel
theorem dX8_rings_86 : decode cX8_rings 86 = .ok (.iload 6, 2) := by decide +kernel
theorem dX8_rings_88 : decode cX8_rings 88 = .ok (.if_icmp .ge 7, 3) := by decide +kernel
theorem dX8_rings_91 : decode cX8_rings 91 = .ok (.iconst 1, 1) := by decide +kernel
theorem dX8_rings_92 : decode cX8_rings 92 = .ok (.goto 16, 3) := by decide +kernel
theorem dX8_rings_95 : decode cX8_rings 95 = .ok (.iload 5, 2) := by decide +kernel
theorem dX8_rings_97 : decode cX8_rings 97 = .ok (.iload 6, 2) := by decide +kernel
theorem dX8_rings_99 : decode cX8_rings 99 = .ok (.if_icmp .le 7, 3) := by decide +kernel
theorem dX8_rings_102 : decode cX8_rings 102 = .ok (.iconst 0, 1) := by decide +kernel
theorem dX8_rings_103 : decode cX8_rings 103 = .ok (.goto 5, 3) := by decide +kernel
theorem dX8_rings_106 : decode cX8_rings 106 = .ok (.iload 4, 2) := by decide +kernel
theorem dX8_rings_108 : decode cX8_rings 108 = .ok (.istore 7, 2) := by decide +kernel
theorem dX8_rings_110 : decode cX8_rings 110 = .ok (.goto 41, 3) := by decide +kernel
theorem dX8_rings_113 : decode cX8_rings 113 = .ok (.iload 5, 2) := by decide +kernel
theorem dX8_rings_115 : decode cX8_rings 115 = .ok (.iload 6, 2) := by decide +kernel
theorem dX8_rings_117 : decode cX8_rings 117 = .ok (.if_icmp .le 7, 3) := by decide +kernel
theorem dX8_rings_120 : decode cX8_rings 120 = .ok (.iconst 1, 1) := by decide +kernel
theorem dX8_rings_121 : decode cX8_rings 121 = .ok (.goto 16, 3) := by decide +kernel
theorem dX8_rings_124 : decode cX8_rings 124 = .ok (.iload 5, 2) := by decide +kernel
theorem dX8_rings_126 : decode cX8_rings 126 = .ok (.iload 6, 2) := by decide +kernel
theorem dX8_rings_128 : decode cX8_rings 128 = .ok (.if_icmp .ge 7, 3) := by decide +kernel
theorem dX8_rings_131 : decode cX8_rings 131 = .ok (.iconst 0, 1) := by decide +kernel
theorem dX8_rings_132 : decode cX8_rings 132 = .ok (.goto 5, 3) := by decide +kernel
theorem dX8_rings_135 : decode cX8_rings 135 = .ok (.iload 4, 2) := by decide +kernel
theorem dX8_rings_137 : decode cX8_rings 137 = .ok (.istore 7, 2) := by decide +kernel
theorem dX8_rings_139 : decode cX8_rings 139 = .ok (.goto 12, 3) := by decide +kernel
theorem dX8_rings_142 : decode cX8_rings 142 = .ok (.iconst 1, 1) := by decide +kernel
theorem dX8_rings_143 : decode cX8_rings 143 = .ok (.iload 4, 2) := by decide +kernel
theorem dX8_rings_145 : decode cX8_rings 145 = .ok (.isub, 1) := by decide +kernel
theorem dX8_rings_146 : decode cX8_rings 146 = .ok (.istore 7, 2) := by decide +kernel
theorem dX8_rings_148 : decode cX8_rings 148 = .ok (.goto 3, 3) := by decide +kernel
theorem dX8_rings_151 : decode cX8_rings 151 = .ok (.iload_n 2, 1) := by decide +kernel
theorem dX8_rings_152 : decode cX8_rings 152 = .ok (.iload 7, 2) := by decide +kernel
theorem dX8_rings_154 : decode cX8_rings 154 = .ok (.iload_n 3, 1) := by decide +kernel
theorem dX8_rings_155 : decode cX8_rings 155 = .ok (.ishl, 1) := by decide +kernel
theorem dX8_rings_156 : decode cX8_rings 156 = .ok (.ior, 1) := by decide +kernel
theorem dX8_rings_157 : decode cX8_rings 157 = .ok (.istore_n 2, 1) := by decide +kernel
theorem dX8_rings_158 : decode cX8_rings 158 = .ok (.iinc 3 1, 3) := by decide +kernel
theorem dX8_rings_161 : decode cX8_rings 161 = .ok (.goto (-157), 3) := by decide +kernel
theorem dX8_rings_164 : decode cX8_rings 164 = .ok (.iload_n 2, 1) := by decide +kernel
theorem dX8_rings_165 : decode cX8_rings 165 = .ok (.ireturn, 1) := by decide +kernel
theorem dX8_notes_0 : decode cX8_notes 0 = .ok (.aload_n 0, 1) := by decide +kernel
theorem dX8_notes_1 : decode cX8_notes 1 = .ok (.getfield 127, 3) := by decide +kernel
theorem dX8_notes_4 : decode cX8_notes 4 = .ok (.bipush 10, 2) := by decide +kernel
theorem dX8_notes_6 : decode cX8_notes 6 = .ok (.if_icmp .ne 37, 3) := by decide +kernel
theorem dX8_notes_9 : decode cX8_notes 9 = .ok (.iconst 4, 1) := by decide +kernel
theorem dX8_notes_10 : decode cX8_notes 10 = .ok (.istore_n 1, 1) := by decide +kernel
theorem dX8_notes_11 : decode cX8_notes 11 = .ok (.iload_n 1, 1) := by decide +kernel
theorem dX8_notes_12 : decode cX8_notes 12 = .ok (.bipush 40, 2) := by decide +kernel
theorem dX8_notes_14 : decode cX8_notes 14 = .ok (.if_icmp .ge 23, 3) := by decide +kernel
theorem dX8_notes_17 : decode cX8_notes 17 = .ok (.aload_n 0, 1) := by decide +kernel
theorem dX8_notes_18 : decode cX8_notes 18 = .ok (.getfield 34, 3) := by decide +kernel
theorem dX8_notes_21 : decode cX8_notes 21 = .ok (.iload_n 1, 1) := by decide +kernel
theorem dX8_notes_22 : decode cX8_notes 22 = .ok (.iconst 4, 1) := by decide +kernel
theorem dX8_notes_23 : decode cX8_notes 23 = .ok (.isub, 1) := by decide +kernel
theorem dX8_notes_24 : decode cX8_notes 24 = .ok (.aload_n 0, 1) := by decide +kernel
theorem dX8_notes_25 : decode cX8_notes 25 = .ok (.getfield 34, 3) := by decide +kernel
theorem dX8_notes_28 : decode cX8_notes 28 = .ok (.iload_n 1, 1) := by decide +kernel
theorem dX8_notes_29 : decode cX8_notes 29 = .ok (.iaload, 1) := by decide +kernel
theorem dX8_notes_30 : decode cX8_notes 30 = .ok (.iastore, 1) := by decide +kernel
theorem dX8_notes_31 : decode cX8_notes 31 = .ok (.iinc 1 1, 3) := by decide +kernel
theorem dX8_notes_34 : decode cX8_notes 34 = .ok (.goto (-23), 3) := by decide +kernel
theorem dX8_notes_37 : decode cX8_notes 37 = .ok (.aload_n 0, 1) := by decide +kernel
theorem dX8_notes_38 : decode cX8_notes 38 = .ok (.bipush 9, 2) := by decide +kernel
theorem dX8_notes_40 : decode cX8_notes 40 = .ok (.putfield 127, 3) := by decide +kernel
theorem dX8_notes_43 : decode cX8_notes 43 = .ok (.aload_n 0, 1) := by decide +kernel
theorem dX8_notes_44 : decode cX8_notes 44 = .ok (.getfield 34, 3) := by decide +kernel
theorem dX8_notes_47 : decode cX8_notes 47 = .ok (.iconst 4, 1) := by decide +kernel
theorem dX8_notes_48 : decode cX8_notes 48 = .ok (.aload_n 0, 1) := by decide +kernel
theorem dX8_notes_49 : decode cX8_notes 49 = .ok (.getfield 127, 3) := by decide +kernel
theorem dX8_notes_52 : decode cX8_notes 52 = .ok (.imul, 1) := by decide +kernel
theorem dX8_notes_53 : decode cX8_notes 53 = .ok (.aload_n 0, 1) := by decide +kernel
theorem dX8_notes_54 : decode cX8_notes 54 = .ok (.getfield 115, 3) := by decide +kernel
theorem dX8_notes_57 : decode cX8_notes 57 = .ok (.iastore, 1) := by decide +kernel
theorem dX8_notes_58 : decode cX8_notes 58 = .ok (.aload_n 0, 1) := by decide +kernel
theorem dX8_notes_59 : decode cX8_notes 59 = .ok (.getfield 34, 3) := by decide +kernel
theorem dX8_notes_62 : decode cX8_notes 62 = .ok (.iconst 4, 1) := by decide +kernel
theorem dX8_notes_63 : decode cX8_notes 63 = .ok (.aload_n 0, 1) := by decide +kernel
theorem dX8_notes_64 : decode cX8_notes 64 = .ok (.getfield 127, 3) := by decide +kernel
theorem dX8_notes_67 : decode cX8_notes 67 = .ok (.imul, 1) := by decide +kernel
theorem dX8_notes_68 : decode cX8_notes 68 = .ok (.iconst 1, 1) := by decide +kernel
theorem dX8_notes_69 : decode cX8_notes 69 = .ok (.iadd, 1) := by decide +kernel
theorem dX8_notes_70 : decode cX8_notes 70 = .ok (.aload_n 0, 1) := by decide +kernel
theorem dX8_notes_71 : decode cX8_notes 71 = .ok (.getfield 118, 3) := by decide +kernel
theorem dX8_notes_74 : decode cX8_notes 74 = .ok (.iastore, 1) := by decide +kernel
theorem dX8_notes_75 : decode cX8_notes 75 = .ok (.aload_n 0, 1) := by decide +kernel
theorem dX8_notes_76 : decode cX8_notes 76 = .ok (.getfield 34, 3) := by decide +kernel
theorem dX8_notes_79 : decode cX8_notes 79 = .ok (.iconst 4, 1) := by decide +kernel
theorem dX8_notes_80 : decode cX8_notes 80 = .ok (.aload_n 0, 1) := by decide +kernel
theorem dX8_notes_81 : decode cX8_notes 81 = .ok (.getfield 127, 3) := by decide +kernel
theorem dX8_notes_84 : decode cX8_notes 84 = .ok (.imul, 1) := by decide +kernel
theorem dX8_notes_85 : decode cX8_notes 85 = .ok (.iconst 2, 1) := by decide +kernel
theorem dX8_notes_86 : decode cX8_notes 86 = .ok (.iadd, 1) := by decide +kernel
theorem dX8_notes_87 : decode cX8_notes 87 = .ok (.aload_n 0, 1) := by decide +kernel
theorem dX8_notes_88 : decode cX8_notes 88 = .ok (.getfield 121, 3) := by decide +kernel
theorem dX8_notes_91 : decode cX8_notes 91 = .ok (.iastore, 1) := by decide +kernel
theorem dX8_notes_92 : decode cX8_notes 92 = .ok (.aload_n 0, 1) := by decide +kernel
theorem dX8_notes_93 : decode cX8_notes 93 = .ok (.getfield 34, 3) := by decide +kernel
theorem dX8_notes_96 : decode cX8_notes 96 = .ok (.iconst 4, 1) := by decide +kernel
theorem dX8_notes_97 : decode cX8_notes 97 = .ok (.aload_n 0, 1) := by decide +kernel
theorem dX8_notes_98 : decode cX8_notes 98 = .ok (.getfield 127, 3) := by decide +kernel
theorem dX8_notes_101 : decode cX8_notes 101 = .ok (.imul, 1) := by decide +kernel
theorem dX8_notes_102 : decode cX8_notes 102 = .ok (.iconst 3, 1) := by decide +kernel
theorem dX8_notes_103 : decode cX8_notes 103 = .ok (.iadd, 1) := by decide +kernel
theorem dX8_notes_104 : decode cX8_notes 104 = .ok (.aload_n 0, 1) := by decide +kernel
theorem dX8_notes_105 : decode cX8_notes 105 = .ok (.getfield 124, 3) := by decide +kernel
theorem dX8_notes_108 : decode cX8_notes 108 = .ok (.iastore, 1) := by decide +kernel
theorem dX8_notes_109 : decode cX8_notes 109 = .ok (.aload_n 0, 1) := by decide +kernel
theorem dX8_notes_110 : decode cX8_notes 110 = .ok (.dup, 1) := by decide +kernel
theorem dX8_notes_111 : decode cX8_notes 111 = .ok (.getfield 127, 3) := by decide +kernel
theorem dX8_notes_114 : decode cX8_notes 114 = .ok (.iconst 1, 1) := by decide +kernel
theorem dX8_notes_115 : decode cX8_notes 115 = .ok (.iadd, 1) := by decide +kernel
theorem dX8_notes_116 : decode cX8_notes 116 = .ok (.putfield 127, 3) := by decide +kernel
theorem dX8_notes_119 : decode cX8_notes 119 = .ok (.return_, 1) := by decide +kernel
theorem dX8_bell_0 : decode cX8_bell 0 = .ok (.aload_n 0, 1) := by decide +kernel
theorem dX8_bell_1 : decode cX8_bell 1 = .ok (.getfield 115, 3) := by decide +kernel
theorem dX8_bell_4 : decode cX8_bell 4 = .ok (.sipush 999, 3) := by decide +kernel
theorem dX8_bell_7 : decode cX8_bell 7 = .ok (.if_icmp .ne 6, 3) := by decide +kernel
theorem dX8_bell_10 : decode cX8_bell 10 = .ok (.bipush (-2), 2) := by decide +kernel
theorem dX8_bell_12 : decode cX8_bell 12 = .ok (.ireturn, 1) := by decide +kernel
theorem dX8_bell_13 : decode cX8_bell 13 = .ok (.aload_n 0, 1) := by decide +kernel
theorem dX8_bell_14 : decode cX8_bell 14 = .ok (.invokevirtual 143, 3) := by decide +kernel
theorem dX8_bell_17 : decode cX8_bell 17 = .ok (.aload_n 0, 1) := by decide +kernel
theorem dX8_bell_18 : decode cX8_bell 18 = .ok (.aload_n 0, 1) := by decide +kernel
theorem dX8_bell_19 : decode cX8_bell 19 = .ok (.getfield 124, 3) := by decide +kernel
theorem dX8_bell_22 : decode cX8_bell 22 = .ok (.invokevirtual 146, 3) := by decide +kernel
theorem dX8_bell_25 : decode cX8_bell 25 = .ok (.aload_n 0, 1) := by decide +kernel
theorem dX8_bell_26 : decode cX8_bell 26 = .ok (.aload_n 0, 1) := by decide +kernel
theorem dX8_bell_27 : decode cX8_bell 27 = .ok (.aload_n 0, 1) := by decide +kernel
theorem dX8_bell_28 : decode cX8_bell 28 = .ok (.getfield 118, 3) := by decide +kernel
theorem dX8_bell_31 : decode cX8_bell 31 = .ok (.invokevirtual 150, 3) := by decide +kernel
theorem dX8_bell_34 : decode cX8_bell 34 = .ok (.putfield 118, 3) := by decide +kernel
theorem dX8_bell_37 : decode cX8_bell 37 = .ok (.aload_n 0, 1) := by decide +kernel
theorem dX8_bell_38 : decode cX8_bell 38 = .ok (.dup, 1) := by decide +kernel
theorem dX8_bell_39 : decode cX8_bell 39 = .ok (.getfield 115, 3) := by decide +kernel
theorem dX8_bell_42 : decode cX8_bell 42 = .ok (.iconst 1, 1) := by decide +kernel
theorem dX8_bell_43 : decode cX8_bell 43 = .ok (.iadd, 1) := by decide +kernel
theorem dX8_bell_44 : decode cX8_bell 44 = .ok (.putfield 115, 3) := by decide +kernel
theorem dX8_bell_47 : decode cX8_bell 47 = .ok (.aload_n 0, 1) := by decide +kernel
theorem dX8_bell_48 : decode cX8_bell 48 = .ok (.iconst 0, 1) := by decide +kernel
theorem dX8_bell_49 : decode cX8_bell 49 = .ok (.putfield 121, 3) := by decide +kernel
theorem dX8_bell_52 : decode cX8_bell 52 = .ok (.aload_n 0, 1) := by decide +kernel
theorem dX8_bell_53 : decode cX8_bell 53 = .ok (.getfield 118, 3) := by decide +kernel
theorem dX8_bell_56 : decode cX8_bell 56 = .ok (.ireturn, 1) := by decide +kernel
theorem dX8_turn_0 : decode cX8_turn 0 = .ok (.aload_n 0, 1) := by decide +kernel
theorem dX8_turn_1 : decode cX8_turn 1 = .ok (.iload_n 1, 1) := by decide +kernel
theorem dX8_turn_2 : decode cX8_turn 2 = .ok (.invokevirtual 130, 3) := by decide +kernel
theorem dX8_turn_5 : decode cX8_turn 5 = .ok (.ifCond .ne 5, 3) := by decide +kernel
theorem dX8_turn_8 : decode cX8_turn 8 = .ok (.iconst (-1), 1) := by decide +kernel
theorem dX8_turn_9 : decode cX8_turn 9 = .ok (.ireturn, 1) := by decide +kernel
theorem dX8_turn_10 : decode cX8_turn 10 = .ok (.aload_n 0, 1) := by decide +kernel
theorem dX8_turn_11 : decode cX8_turn 11 = .ok (.getfield 121, 3) := by decide +kernel
theorem dX8_turn_14 : decode cX8_turn 14 = .ok (.iconst 3, 1) := by decide +kernel
theorem dX8_turn_15 : decode cX8_turn 15 = .ok (.if_icmp .ne 6, 3) := by decide +kernel
theorem dX8_turn_18 : decode cX8_turn 18 = .ok (.bipush (-2), 2) := by decide +kernel
theorem dX8_turn_20 : decode cX8_turn 20 = .ok (.ireturn, 1) := by decide +kernel
theorem dX8_turn_21 : decode cX8_turn 21 = .ok (.aload_n 0, 1) := by decide +kernel
theorem dX8_turn_22 : decode cX8_turn 22 = .ok (.invokevirtual 143, 3) := by decide +kernel
theorem dX8_turn_25 : decode cX8_turn 25 = .ok (.aload_n 0, 1) := by decide +kernel
theorem dX8_turn_26 : decode cX8_turn 26 = .ok (.dup, 1) := by decide +kernel
theorem dX8_turn_27 : decode cX8_turn 27 = .ok (.getfield 121, 3) := by decide +kernel
theorem dX8_turn_30 : decode cX8_turn 30 = .ok (.iconst 1, 1) := by decide +kernel
theorem dX8_turn_31 : decode cX8_turn 31 = .ok (.iadd, 1) := by decide +kernel
theorem dX8_turn_32 : decode cX8_turn 32 = .ok (.putfield 121, 3) := by decide +kernel
theorem dX8_turn_35 : decode cX8_turn 35 = .ok (.aload_n 0, 1) := by decide +kernel
theorem dX8_turn_36 : decode cX8_turn 36 = .ok (.dup, 1) := by decide +kernel
theorem dX8_turn_37 : decode cX8_turn 37 = .ok (.getfield 118, 3) := by decide +kernel
theorem dX8_turn_40 : decode cX8_turn 40 = .ok (.iconst 1, 1) := by decide +kernel
theorem dX8_turn_41 : decode cX8_turn 41 = .ok (.iload_n 1, 1) := by decide +kernel
theorem dX8_turn_42 : decode cX8_turn 42 = .ok (.ishl, 1) := by decide +kernel
theorem dX8_turn_43 : decode cX8_turn 43 = .ok (.ixor, 1) := by decide +kernel
theorem dX8_turn_44 : decode cX8_turn 44 = .ok (.putfield 118, 3) := by decide +kernel
theorem dX8_turn_47 : decode cX8_turn 47 = .ok (.aload_n 0, 1) := by decide +kernel
theorem dX8_turn_48 : decode cX8_turn 48 = .ok (.getfield 118, 3) := by decide +kernel
theorem dX8_turn_51 : decode cX8_turn 51 = .ok (.ireturn, 1) := by decide +kernel
theorem dX8_fog_0 : decode cX8_fog 0 = .ok (.iload_n 1, 1) := by decide +kernel
theorem dX8_fog_1 : decode cX8_fog 1 = .ok (.i2l, 1) := by decide +kernel
theorem dX8_fog_2 : decode cX8_fog 2 = .ok (.lconst 0, 1) := by decide +kernel
theorem dX8_fog_3 : decode cX8_fog 3 = .ok (.aload_n 0, 1) := by decide +kernel
theorem dX8_fog_4 : decode cX8_fog 4 = .ok (.getfield 112, 3) := by decide +kernel
theorem dX8_fog_7 : decode cX8_fog 7 = .ok (.iconst 1, 1) := by decide +kernel
theorem dX8_fog_8 : decode cX8_fog 8 = .ok (.isub, 1) := by decide +kernel
theorem dX8_fog_9 : decode cX8_fog 9 = .ok (.i2l, 1) := by decide +kernel
theorem dX8_fog_10 : decode cX8_fog 10 = .ok (.invokestatic 49, 3) := by decide +kernel
theorem dX8_fog_13 : decode cX8_fog 13 = .ok (.ifCond .eq 13, 3) := by decide +kernel
theorem dX8_fog_16 : decode cX8_fog 16 = .ok (.iload_n 2, 1) := by decide +kernel
theorem dX8_fog_17 : decode cX8_fog 17 = .ok (.i2l, 1) := by decide +kernel
theorem dX8_fog_18 : decode cX8_fog 18 = .ok (.lconst 0, 1) := by decide +kernel
theorem dX8_fog_19 : decode cX8_fog 19 = .ok (.lconst 1, 1) := by decide +kernel
theorem dX8_fog_20 : decode cX8_fog 20 = .ok (.invokestatic 49, 3) := by decide +kernel
theorem dX8_fog_23 : decode cX8_fog 23 = .ok (.ifCond .ne 5, 3) := by decide +kernel
theorem dX8_fog_26 : decode cX8_fog 26 = .ok (.iconst (-1), 1) := by decide +kernel
theorem dX8_fog_27 : decode cX8_fog 27 = .ok (.ireturn, 1) := by decide +kernel
theorem dX8_fog_28 : decode cX8_fog 28 = .ok (.aload_n 0, 1) := by decide +kernel
theorem dX8_fog_29 : decode cX8_fog 29 = .ok (.getfield 124, 3) := by decide +kernel
theorem dX8_fog_32 : decode cX8_fog 32 = .ok (.iload_n 1, 1) := by decide +kernel
theorem dX8_fog_33 : decode cX8_fog 33 = .ok (.ishr, 1) := by decide +kernel
theorem dX8_fog_34 : decode cX8_fog 34 = .ok (.iconst 1, 1) := by decide +kernel
theorem dX8_fog_35 : decode cX8_fog 35 = .ok (.iand, 1) := by decide +kernel
theorem dX8_fog_36 : decode cX8_fog 36 = .ok (.iload_n 2, 1) := by decide +kernel
theorem dX8_fog_37 : decode cX8_fog 37 = .ok (.if_icmp .ne 6, 3) := by decide +kernel
theorem dX8_fog_40 : decode cX8_fog 40 = .ok (.bipush (-2), 2) := by decide +kernel
theorem dX8_fog_42 : decode cX8_fog 42 = .ok (.ireturn, 1) := by decide +kernel
theorem dX8_fog_43 : decode cX8_fog 43 = .ok (.aload_n 0, 1) := by decide +kernel
theorem dX8_fog_44 : decode cX8_fog 44 = .ok (.invokevirtual 143, 3) := by decide +kernel
theorem dX8_fog_47 : decode cX8_fog 47 = .ok (.aload_n 0, 1) := by decide +kernel
theorem dX8_fog_48 : decode cX8_fog 48 = .ok (.dup, 1) := by decide +kernel
theorem dX8_fog_49 : decode cX8_fog 49 = .ok (.getfield 124, 3) := by decide +kernel
theorem dX8_fog_52 : decode cX8_fog 52 = .ok (.iconst 1, 1) := by decide +kernel
theorem dX8_fog_53 : decode cX8_fog 53 = .ok (.iload_n 1, 1) := by decide +kernel
theorem dX8_fog_54 : decode cX8_fog 54 = .ok (.ishl, 1) := by decide +kernel
theorem dX8_fog_55 : decode cX8_fog 55 = .ok (.ixor, 1) := by decide +kernel
theorem dX8_fog_56 : decode cX8_fog 56 = .ok (.putfield 124, 3) := by decide +kernel
theorem dX8_fog_59 : decode cX8_fog 59 = .ok (.aload_n 0, 1) := by decide +kernel
theorem dX8_fog_60 : decode cX8_fog 60 = .ok (.getfield 124, 3) := by decide +kernel
theorem dX8_fog_63 : decode cX8_fog 63 = .ok (.invokestatic 137, 3) := by decide +kernel
theorem dX8_fog_66 : decode cX8_fog 66 = .ok (.ireturn, 1) := by decide +kernel
theorem dX8_undo_0 : decode cX8_undo 0 = .ok (.aload_n 0, 1) := by decide +kernel
theorem dX8_undo_1 : decode cX8_undo 1 = .ok (.getfield 127, 3) := by decide +kernel
theorem dX8_undo_4 : decode cX8_undo 4 = .ok (.ifCond .ne 6, 3) := by decide +kernel
theorem dX8_undo_7 : decode cX8_undo 7 = .ok (.bipush (-2), 2) := by decide +kernel
theorem dX8_undo_9 : decode cX8_undo 9 = .ok (.ireturn, 1) := by decide +kernel
theorem dX8_undo_10 : decode cX8_undo 10 = .ok (.aload_n 0, 1) := by decide +kernel
theorem dX8_undo_11 : decode cX8_undo 11 = .ok (.dup, 1) := by decide +kernel
theorem dX8_undo_12 : decode cX8_undo 12 = .ok (.getfield 127, 3) := by decide +kernel
theorem dX8_undo_15 : decode cX8_undo 15 = .ok (.iconst 1, 1) := by decide +kernel
theorem dX8_undo_16 : decode cX8_undo 16 = .ok (.isub, 1) := by decide +kernel
theorem dX8_undo_17 : decode cX8_undo 17 = .ok (.putfield 127, 3) := by decide +kernel
theorem dX8_undo_20 : decode cX8_undo 20 = .ok (.aload_n 0, 1) := by decide +kernel
theorem dX8_undo_21 : decode cX8_undo 21 = .ok (.aload_n 0, 1) := by decide +kernel
theorem dX8_undo_22 : decode cX8_undo 22 = .ok (.getfield 34, 3) := by decide +kernel
theorem dX8_undo_25 : decode cX8_undo 25 = .ok (.iconst 4, 1) := by decide +kernel
theorem dX8_undo_26 : decode cX8_undo 26 = .ok (.aload_n 0, 1) := by decide +kernel
theorem dX8_undo_27 : decode cX8_undo 27 = .ok (.getfield 127, 3) := by decide +kernel
theorem dX8_undo_30 : decode cX8_undo 30 = .ok (.imul, 1) := by decide +kernel
theorem dX8_undo_31 : decode cX8_undo 31 = .ok (.iaload, 1) := by decide +kernel
theorem dX8_undo_32 : decode cX8_undo 32 = .ok (.putfield 115, 3) := by decide +kernel
theorem dX8_undo_35 : decode cX8_undo 35 = .ok (.aload_n 0, 1) := by decide +kernel
theorem dX8_undo_36 : decode cX8_undo 36 = .ok (.aload_n 0, 1) := by decide +kernel
theorem dX8_undo_37 : decode cX8_undo 37 = .ok (.getfield 34, 3) := by decide +kernel
theorem dX8_undo_40 : decode cX8_undo 40 = .ok (.iconst 4, 1) := by decide +kernel
theorem dX8_undo_41 : decode cX8_undo 41 = .ok (.aload_n 0, 1) := by decide +kernel
theorem dX8_undo_42 : decode cX8_undo 42 = .ok (.getfield 127, 3) := by decide +kernel
theorem dX8_undo_45 : decode cX8_undo 45 = .ok (.imul, 1) := by decide +kernel
theorem dX8_undo_46 : decode cX8_undo 46 = .ok (.iconst 1, 1) := by decide +kernel
theorem dX8_undo_47 : decode cX8_undo 47 = .ok (.iadd, 1) := by decide +kernel
theorem dX8_undo_48 : decode cX8_undo 48 = .ok (.iaload, 1) := by decide +kernel
theorem dX8_undo_49 : decode cX8_undo 49 = .ok (.putfield 118, 3) := by decide +kernel
theorem dX8_undo_52 : decode cX8_undo 52 = .ok (.aload_n 0, 1) := by decide +kernel
theorem dX8_undo_53 : decode cX8_undo 53 = .ok (.aload_n 0, 1) := by decide +kernel
theorem dX8_undo_54 : decode cX8_undo 54 = .ok (.getfield 34, 3) := by decide +kernel
theorem dX8_undo_57 : decode cX8_undo 57 = .ok (.iconst 4, 1) := by decide +kernel
theorem dX8_undo_58 : decode cX8_undo 58 = .ok (.aload_n 0, 1) := by decide +kernel
theorem dX8_undo_59 : decode cX8_undo 59 = .ok (.getfield 127, 3) := by decide +kernel
theorem dX8_undo_62 : decode cX8_undo 62 = .ok (.imul, 1) := by decide +kernel
theorem dX8_undo_63 : decode cX8_undo 63 = .ok (.iconst 2, 1) := by decide +kernel
theorem dX8_undo_64 : decode cX8_undo 64 = .ok (.iadd, 1) := by decide +kernel
theorem dX8_undo_65 : decode cX8_undo 65 = .ok (.iaload, 1) := by decide +kernel
theorem dX8_undo_66 : decode cX8_undo 66 = .ok (.putfield 121, 3) := by decide +kernel
theorem dX8_undo_69 : decode cX8_undo 69 = .ok (.aload_n 0, 1) := by decide +kernel
theorem dX8_undo_70 : decode cX8_undo 70 = .ok (.aload_n 0, 1) := by decide +kernel
theorem dX8_undo_71 : decode cX8_undo 71 = .ok (.getfield 34, 3) := by decide +kernel
theorem dX8_undo_74 : decode cX8_undo 74 = .ok (.iconst 4, 1) := by decide +kernel
theorem dX8_undo_75 : decode cX8_undo 75 = .ok (.aload_n 0, 1) := by decide +kernel
theorem dX8_undo_76 : decode cX8_undo 76 = .ok (.getfield 127, 3) := by decide +kernel
theorem dX8_undo_79 : decode cX8_undo 79 = .ok (.imul, 1) := by decide +kernel
theorem dX8_undo_80 : decode cX8_undo 80 = .ok (.iconst 3, 1) := by decide +kernel
theorem dX8_undo_81 : decode cX8_undo 81 = .ok (.iadd, 1) := by decide +kernel
theorem dX8_undo_82 : decode cX8_undo 82 = .ok (.iaload, 1) := by decide +kernel
theorem dX8_undo_83 : decode cX8_undo 83 = .ok (.putfield 124, 3) := by decide +kernel
theorem dX8_undo_86 : decode cX8_undo 86 = .ok (.aload_n 0, 1) := by decide +kernel
theorem dX8_undo_87 : decode cX8_undo 87 = .ok (.getfield 127, 3) := by decide +kernel
theorem dX8_undo_90 : decode cX8_undo 90 = .ok (.ireturn, 1) := by decide +kernel
theorem dX8_now_0 : decode cX8_now 0 = .ok (.iload_n 1, 1) := by decide +kernel
theorem dX8_now_1 : decode cX8_now 1 = .ok (.tableswitch 65 0 4 #[35, 40, 45, 53, 58], 35) := by decide +kernel
theorem dX8_now_36 : decode cX8_now 36 = .ok (.aload_n 0, 1) := by decide +kernel
theorem dX8_now_37 : decode cX8_now 37 = .ok (.getfield 115, 3) := by decide +kernel
theorem dX8_now_40 : decode cX8_now 40 = .ok (.ireturn, 1) := by decide +kernel
theorem dX8_now_41 : decode cX8_now 41 = .ok (.aload_n 0, 1) := by decide +kernel
theorem dX8_now_42 : decode cX8_now 42 = .ok (.getfield 118, 3) := by decide +kernel
theorem dX8_now_45 : decode cX8_now 45 = .ok (.ireturn, 1) := by decide +kernel
theorem dX8_now_46 : decode cX8_now 46 = .ok (.aload_n 0, 1) := by decide +kernel
theorem dX8_now_47 : decode cX8_now 47 = .ok (.getfield 118, 3) := by decide +kernel
theorem dX8_now_50 : decode cX8_now 50 = .ok (.invokestatic 137, 3) := by decide +kernel
theorem dX8_now_53 : decode cX8_now 53 = .ok (.ireturn, 1) := by decide +kernel
theorem dX8_now_54 : decode cX8_now 54 = .ok (.aload_n 0, 1) := by decide +kernel
theorem dX8_now_55 : decode cX8_now 55 = .ok (.getfield 124, 3) := by decide +kernel
theorem dX8_now_58 : decode cX8_now 58 = .ok (.ireturn, 1) := by decide +kernel
theorem dX8_now_59 : decode cX8_now 59 = .ok (.iconst 3, 1) := by decide +kernel
theorem dX8_now_60 : decode cX8_now 60 = .ok (.aload_n 0, 1) := by decide +kernel
theorem dX8_now_61 : decode cX8_now 61 = .ok (.getfield 121, 3) := by decide +kernel
theorem dX8_now_64 : decode cX8_now 64 = .ok (.isub, 1) := by decide +kernel
theorem dX8_now_65 : decode cX8_now 65 = .ok (.ireturn, 1) := by decide +kernel
theorem dX8_now_66 : decode cX8_now 66 = .ok (.iconst (-1), 1) := by decide +kernel
theorem dX8_now_67 : decode cX8_now 67 = .ok (.ireturn, 1) := by decide +kernel
theorem dX8_goesOn_0 : decode cX8_goesOn 0 = .ok (.iload_n 1, 1) := by decide +kernel
theorem dX8_goesOn_1 : decode cX8_goesOn 1 = .ok (.istore_n 3, 1) := by decide +kernel
theorem dX8_goesOn_2 : decode cX8_goesOn 2 = .ok (.iconst 0, 1) := by decide +kernel
theorem dX8_goesOn_3 : decode cX8_goesOn 3 = .ok (.istore 4, 2) := by decide +kernel
theorem dX8_goesOn_5 : decode cX8_goesOn 5 = .ok (.iload 4, 2) := by decide +kernel
theorem dX8_goesOn_7 : decode cX8_goesOn 7 = .ok (.iload_n 2, 1) := by decide +kernel
theorem dX8_goesOn_8 : decode cX8_goesOn 8 = .ok (.if_icmp .ge 15, 3) := by decide +kernel
theorem dX8_goesOn_11 : decode cX8_goesOn 11 = .ok (.aload_n 0, 1) := by decide +kernel
theorem dX8_goesOn_12 : decode cX8_goesOn 12 = .ok (.iload_n 3, 1) := by decide +kernel
theorem dX8_goesOn_13 : decode cX8_goesOn 13 = .ok (.invokevirtual 150, 3) := by decide +kernel
theorem dX8_goesOn_16 : decode cX8_goesOn 16 = .ok (.istore_n 3, 1) := by decide +kernel
theorem dX8_goesOn_17 : decode cX8_goesOn 17 = .ok (.iinc 4 1, 3) := by decide +kernel
theorem dX8_goesOn_20 : decode cX8_goesOn 20 = .ok (.goto (-15), 3) := by decide +kernel
theorem dX8_goesOn_23 : decode cX8_goesOn 23 = .ok (.iload_n 3, 1) := by decide +kernel
theorem dX8_goesOn_24 : decode cX8_goesOn 24 = .ok (.ireturn, 1) := by decide +kernel
theorem dX8_after_0 : decode cX8_after 0 = .ok (.iload_n 1, 1) := by decide +kernel
theorem dX8_after_1 : decode cX8_after 1 = .ok (.i2l, 1) := by decide +kernel
theorem dX8_after_2 : decode cX8_after 2 = .ok (.lconst 0, 1) := by decide +kernel
theorem dX8_after_3 : decode cX8_after 3 = .ok (.ldc2_w 153, 3) := by decide +kernel
theorem dX8_after_6 : decode cX8_after 6 = .ok (.invokestatic 49, 3) := by decide +kernel
theorem dX8_after_9 : decode cX8_after 9 = .ok (.ifCond .ne 5, 3) := by decide +kernel
theorem dX8_after_12 : decode cX8_after 12 = .ok (.iconst (-1), 1) := by decide +kernel
theorem dX8_after_13 : decode cX8_after 13 = .ok (.ireturn, 1) := by decide +kernel
theorem dX8_after_14 : decode cX8_after 14 = .ok (.aload_n 0, 1) := by decide +kernel
theorem dX8_after_15 : decode cX8_after 15 = .ok (.aload_n 0, 1) := by decide +kernel
theorem dX8_after_16 : decode cX8_after 16 = .ok (.getfield 124, 3) := by decide +kernel
theorem dX8_after_19 : decode cX8_after 19 = .ok (.invokevirtual 146, 3) := by decide +kernel
theorem dX8_after_22 : decode cX8_after 22 = .ok (.aload_n 0, 1) := by decide +kernel
theorem dX8_after_23 : decode cX8_after 23 = .ok (.aload_n 0, 1) := by decide +kernel
theorem dX8_after_24 : decode cX8_after 24 = .ok (.getfield 118, 3) := by decide +kernel
theorem dX8_after_27 : decode cX8_after 27 = .ok (.iload_n 1, 1) := by decide +kernel
theorem dX8_after_28 : decode cX8_after 28 = .ok (.invokevirtual 155, 3) := by decide +kernel
theorem dX8_after_31 : decode cX8_after 31 = .ok (.ireturn, 1) := by decide +kernel
theorem dX8_rounds_0 : decode cX8_rounds 0 = .ok (.iconst 0, 1) := by decide +kernel
theorem dX8_rounds_1 : decode cX8_rounds 1 = .ok (.istore_n 2, 1) := by decide +kernel
theorem dX8_rounds_2 : decode cX8_rounds 2 = .ok (.iload_n 2, 1) := by decide +kernel
theorem dX8_rounds_3 : decode cX8_rounds 3 = .ok (.sipush 512, 3) := by decide +kernel
theorem dX8_rounds_6 : decode cX8_rounds 6 = .ok (.if_icmp .ge 16, 3) := by decide +kernel
theorem dX8_rounds_9 : decode cX8_rounds 9 = .ok (.aload_n 0, 1) := by decide +kernel
theorem dX8_rounds_10 : decode cX8_rounds 10 = .ok (.getfield 37, 3) := by decide +kernel
theorem dX8_rounds_13 : decode cX8_rounds 13 = .ok (.iload_n 2, 1) := by decide +kernel
theorem dX8_rounds_14 : decode cX8_rounds 14 = .ok (.iconst (-1), 1) := by decide +kernel
theorem dX8_rounds_15 : decode cX8_rounds 15 = .ok (.iastore, 1) := by decide +kernel
theorem dX8_rounds_16 : decode cX8_rounds 16 = .ok (.iinc 2 1, 3) := by decide +kernel
theorem dX8_rounds_19 : decode cX8_rounds 19 = .ok (.goto (-17), 3) := by decide +kernel
theorem dX8_rounds_22 : decode cX8_rounds 22 = .ok (.iload_n 1, 1) := by decide +kernel
theorem dX8_rounds_23 : decode cX8_rounds 23 = .ok (.istore_n 2, 1) := by decide +kernel
theorem dX8_rounds_24 : decode cX8_rounds 24 = .ok (.iconst 0, 1) := by decide +kernel
theorem dX8_rounds_25 : decode cX8_rounds 25 = .ok (.istore_n 3, 1) := by decide +kernel
theorem dX8_rounds_26 : decode cX8_rounds 26 = .ok (.aload_n 0, 1) := by decide +kernel
theorem dX8_rounds_27 : decode cX8_rounds 27 = .ok (.getfield 37, 3) := by decide +kernel
theorem dX8_rounds_30 : decode cX8_rounds 30 = .ok (.iload_n 2, 1) := by decide +kernel
theorem dX8_rounds_31 : decode cX8_rounds 31 = .ok (.iaload, 1) := by decide +kernel
theorem dX8_rounds_32 : decode cX8_rounds 32 = .ok (.ifCond .ge 22, 3) := by decide +kernel
theorem dX8_rounds_35 : decode cX8_rounds 35 = .ok (.aload_n 0, 1) := by decide +kernel
theorem dX8_rounds_36 : decode cX8_rounds 36 = .ok (.getfield 37, 3) := by decide +kernel
theorem dX8_rounds_39 : decode cX8_rounds 39 = .ok (.iload_n 2, 1) := by decide +kernel
theorem dX8_rounds_40 : decode cX8_rounds 40 = .ok (.iload_n 3, 1) := by decide +kernel
theorem dX8_rounds_41 : decode cX8_rounds 41 = .ok (.iastore, 1) := by decide +kernel
theorem dX8_rounds_42 : decode cX8_rounds 42 = .ok (.iinc 3 1, 3) := by decide +kernel
theorem dX8_rounds_45 : decode cX8_rounds 45 = .ok (.aload_n 0, 1) := by decide +kernel
theorem dX8_rounds_46 : decode cX8_rounds 46 = .ok (.iload_n 2, 1) := by decide +kernel
theorem dX8_rounds_47 : decode cX8_rounds 47 = .ok (.invokevirtual 150, 3) := by decide +kernel
theorem dX8_rounds_50 : decode cX8_rounds 50 = .ok (.istore_n 2, 1) := by decide +kernel
theorem dX8_rounds_51 : decode cX8_rounds 51 = .ok (.goto (-25), 3) := by decide +kernel
theorem dX8_rounds_54 : decode cX8_rounds 54 = .ok (.aload_n 0, 1) := by decide +kernel
theorem dX8_rounds_55 : decode cX8_rounds 55 = .ok (.aload_n 0, 1) := by decide +kernel
theorem dX8_rounds_56 : decode cX8_rounds 56 = .ok (.getfield 37, 3) := by decide +kernel
theorem dX8_rounds_59 : decode cX8_rounds 59 = .ok (.iload_n 2, 1) := by decide +kernel
theorem dX8_rounds_60 : decode cX8_rounds 60 = .ok (.iaload, 1) := by decide +kernel
theorem dX8_rounds_61 : decode cX8_rounds 61 = .ok (.putfield 158, 3) := by decide +kernel
theorem dX8_rounds_64 : decode cX8_rounds 64 = .ok (.aload_n 0, 1) := by decide +kernel
theorem dX8_rounds_65 : decode cX8_rounds 65 = .ok (.iload_n 3, 1) := by decide +kernel
theorem dX8_rounds_66 : decode cX8_rounds 66 = .ok (.aload_n 0, 1) := by decide +kernel
theorem dX8_rounds_67 : decode cX8_rounds 67 = .ok (.getfield 158, 3) := by decide +kernel
theorem dX8_rounds_70 : decode cX8_rounds 70 = .ok (.isub, 1) := by decide +kernel
theorem dX8_rounds_71 : decode cX8_rounds 71 = .ok (.putfield 161, 3) := by decide +kernel
theorem dX8_rounds_74 : decode cX8_rounds 74 = .ok (.return_, 1) := by decide +kernel
theorem dX8_round_0 : decode cX8_round 0 = .ok (.iload_n 1, 1) := by decide +kernel
theorem dX8_round_1 : decode cX8_round 1 = .ok (.i2l, 1) := by decide +kernel
theorem dX8_round_2 : decode cX8_round 2 = .ok (.lconst 0, 1) := by decide +kernel
theorem dX8_round_3 : decode cX8_round 3 = .ok (.lconst 1, 1) := by decide +kernel
theorem dX8_round_4 : decode cX8_round 4 = .ok (.invokestatic 49, 3) := by decide +kernel
theorem dX8_round_7 : decode cX8_round 7 = .ok (.ifCond .ne 5, 3) := by decide +kernel
theorem dX8_round_10 : decode cX8_round 10 = .ok (.iconst (-1), 1) := by decide +kernel
theorem dX8_round_11 : decode cX8_round 11 = .ok (.ireturn, 1) := by decide +kernel
theorem dX8_round_12 : decode cX8_round 12 = .ok (.aload_n 0, 1) := by decide +kernel
theorem dX8_round_13 : decode cX8_round 13 = .ok (.aload_n 0, 1) := by decide +kernel
theorem dX8_round_14 : decode cX8_round 14 = .ok (.getfield 124, 3) := by decide +kernel
theorem dX8_round_17 : decode cX8_round 17 = .ok (.invokevirtual 146, 3) := by decide +kernel
theorem dX8_round_20 : decode cX8_round 20 = .ok (.aload_n 0, 1) := by decide +kernel
theorem dX8_round_21 : decode cX8_round 21 = .ok (.aload_n 0, 1) := by decide +kernel
theorem dX8_round_22 : decode cX8_round 22 = .ok (.getfield 118, 3) := by decide +kernel
theorem dX8_round_25 : decode cX8_round 25 = .ok (.invokevirtual 164, 3) := by decide +kernel
theorem dX8_round_28 : decode cX8_round 28 = .ok (.iload_n 1, 1) := by decide +kernel
theorem dX8_round_29 : decode cX8_round 29 = .ok (.ifCond .ne 10, 3) := by decide +kernel
theorem dX8_round_32 : decode cX8_round 32 = .ok (.aload_n 0, 1) := by decide +kernel
theorem dX8_round_33 : decode cX8_round 33 = .ok (.getfield 158, 3) := by decide +kernel
theorem dX8_round_36 : decode cX8_round 36 = .ok (.goto 7, 3) := by decide +kernel
theorem dX8_round_39 : decode cX8_round 39 = .ok (.aload_n 0, 1) := by decide +kernel
theorem dX8_round_40 : decode cX8_round 40 = .ok (.getfield 161, 3) := by decide +kernel
theorem dX8_round_43 : decode cX8_round 43 = .ok (.ireturn, 1) := by decide +kernel
theorem dX8_again_0 : decode cX8_again 0 = .ok (.aload_n 0, 1) := by decide +kernel
theorem dX8_again_1 : decode cX8_again 1 = .ok (.aload_n 0, 1) := by decide +kernel
theorem dX8_again_2 : decode cX8_again 2 = .ok (.getfield 124, 3) := by decide +kernel
theorem dX8_again_5 : decode cX8_again 5 = .ok (.invokevirtual 146, 3) := by decide +kernel
theorem dX8_again_8 : decode cX8_again 8 = .ok (.aload_n 0, 1) := by decide +kernel
theorem dX8_again_9 : decode cX8_again 9 = .ok (.aload_n 0, 1) := by decide +kernel
theorem dX8_again_10 : decode cX8_again 10 = .ok (.getfield 118, 3) := by decide +kernel
theorem dX8_again_13 : decode cX8_again 13 = .ok (.invokevirtual 164, 3) := by decide +kernel
theorem dX8_again_16 : decode cX8_again 16 = .ok (.aload_n 0, 1) := by decide +kernel
theorem dX8_again_17 : decode cX8_again 17 = .ok (.getfield 158, 3) := by decide +kernel
theorem dX8_again_20 : decode cX8_again 20 = .ok (.ifCond .ne 10, 3) := by decide +kernel
theorem dX8_again_23 : decode cX8_again 23 = .ok (.aload_n 0, 1) := by decide +kernel
theorem dX8_again_24 : decode cX8_again 24 = .ok (.getfield 161, 3) := by decide +kernel
theorem dX8_again_27 : decode cX8_again 27 = .ok (.goto 5, 3) := by decide +kernel
theorem dX8_again_30 : decode cX8_again 30 = .ok (.bipush (-9), 2) := by decide +kernel
theorem dX8_again_32 : decode cX8_again 32 = .ok (.ireturn, 1) := by decide +kernel
theorem dX8_ahead_0 : decode cX8_ahead 0 = .ok (.aload_n 0, 1) := by decide +kernel
theorem dX8_ahead_1 : decode cX8_ahead 1 = .ok (.iload_n 1, 1) := by decide +kernel
theorem dX8_ahead_2 : decode cX8_ahead 2 = .ok (.invokevirtual 167, 3) := by decide +kernel
theorem dX8_ahead_5 : decode cX8_ahead 5 = .ok (.ifCond .eq 13, 3) := by decide +kernel
theorem dX8_ahead_8 : decode cX8_ahead 8 = .ok (.iload_n 2, 1) := by decide +kernel
theorem dX8_ahead_9 : decode cX8_ahead 9 = .ok (.i2l, 1) := by decide +kernel
theorem dX8_ahead_10 : decode cX8_ahead 10 = .ok (.lconst 0, 1) := by decide +kernel
theorem dX8_ahead_11 : decode cX8_ahead 11 = .ok (.lconst 1, 1) := by decide +kernel
theorem dX8_ahead_12 : decode cX8_ahead 12 = .ok (.invokestatic 49, 3) := by decide +kernel
theorem dX8_ahead_15 : decode cX8_ahead 15 = .ok (.ifCond .ne 5, 3) := by decide +kernel
theorem dX8_ahead_18 : decode cX8_ahead 18 = .ok (.iconst (-1), 1) := by decide +kernel
theorem dX8_ahead_19 : decode cX8_ahead 19 = .ok (.ireturn, 1) := by decide +kernel
theorem dX8_ahead_20 : decode cX8_ahead 20 = .ok (.aload_n 0, 1) := by decide +kernel
theorem dX8_ahead_21 : decode cX8_ahead 21 = .ok (.aload_n 0, 1) := by decide +kernel
theorem dX8_ahead_22 : decode cX8_ahead 22 = .ok (.getfield 124, 3) := by decide +kernel
theorem dX8_ahead_25 : decode cX8_ahead 25 = .ok (.invokevirtual 146, 3) := by decide +kernel
theorem dX8_ahead_28 : decode cX8_ahead 28 = .ok (.iconst 0, 1) := by decide +kernel
theorem dX8_ahead_29 : decode cX8_ahead 29 = .ok (.istore_n 3, 1) := by decide +kernel
theorem dX8_ahead_30 : decode cX8_ahead 30 = .ok (.bipush (-9), 2) := by decide +kernel
theorem dX8_ahead_32 : decode cX8_ahead 32 = .ok (.istore 4, 2) := by decide +kernel
theorem dX8_ahead_34 : decode cX8_ahead 34 = .ok (.iconst 0, 1) := by decide +kernel
theorem dX8_ahead_35 : decode cX8_ahead 35 = .ok (.istore 5, 2) := by decide +kernel
theorem dX8_ahead_37 : decode cX8_ahead 37 = .ok (.iload 5, 2) := by decide +kernel
theorem dX8_ahead_39 : decode cX8_ahead 39 = .ok (.iconst 1, 1) := by decide +kernel
theorem dX8_ahead_40 : decode cX8_ahead 40 = .ok (.aload_n 0, 1) := by decide +kernel
theorem dX8_ahead_41 : decode cX8_ahead 41 = .ok (.getfield 43, 3) := by decide +kernel
theorem dX8_ahead_44 : decode cX8_ahead 44 = .ok (.ishl, 1) := by decide +kernel
theorem dX8_ahead_45 : decode cX8_ahead 45 = .ok (.if_icmp .ge 57, 3) := by decide +kernel
theorem dX8_ahead_48 : decode cX8_ahead 48 = .ok (.aload_n 0, 1) := by decide +kernel
theorem dX8_ahead_49 : decode cX8_ahead 49 = .ok (.iload 5, 2) := by decide +kernel
theorem dX8_ahead_51 : decode cX8_ahead 51 = .ok (.invokevirtual 150, 3) := by decide +kernel
theorem dX8_ahead_54 : decode cX8_ahead 54 = .ok (.iload_n 1, 1) := by decide +kernel
theorem dX8_ahead_55 : decode cX8_ahead 55 = .ok (.if_icmp .ne 7, 3) := by decide +kernel
theorem dX8_ahead_58 : decode cX8_ahead 58 = .ok (.iconst 1, 1) := by decide +kernel
theorem dX8_ahead_59 : decode cX8_ahead 59 = .ok (.goto 4, 3) := by decide +kernel
theorem dX8_ahead_62 : decode cX8_ahead 62 = .ok (.iconst 0, 1) := by decide +kernel
theorem dX8_ahead_63 : decode cX8_ahead 63 = .ok (.istore 6, 2) := by decide +kernel
theorem dX8_ahead_65 : decode cX8_ahead 65 = .ok (.iload 6, 2) := by decide +kernel
theorem dX8_ahead_67 : decode cX8_ahead 67 = .ok (.ifCond .eq 12, 3) := by decide +kernel
theorem dX8_ahead_70 : decode cX8_ahead 70 = .ok (.iload_n 3, 1) := by decide +kernel
theorem dX8_ahead_71 : decode cX8_ahead 71 = .ok (.ifCond .ne 8, 3) := by decide +kernel
theorem dX8_ahead_74 : decode cX8_ahead 74 = .ok (.iload 5, 2) := by decide +kernel
theorem dX8_ahead_76 : decode cX8_ahead 76 = .ok (.goto 5, 3) := by decide +kernel
theorem dX8_ahead_79 : decode cX8_ahead 79 = .ok (.iload 4, 2) := by decide +kernel
theorem dX8_ahead_81 : decode cX8_ahead 81 = .ok (.istore 4, 2) := by decide +kernel
theorem dX8_ahead_83 : decode cX8_ahead 83 = .ok (.iload_n 3, 1) := by decide +kernel
theorem dX8_ahead_84 : decode cX8_ahead 84 = .ok (.iload 6, 2) := by decide +kernel
theorem dX8_ahead_86 : decode cX8_ahead 86 = .ok (.ifCond .eq 7, 3) := by decide +kernel
theorem dX8_ahead_89 : decode cX8_ahead 89 = .ok (.iconst 1, 1) := by decide +kernel
theorem dX8_ahead_90 : decode cX8_ahead 90 = .ok (.goto 4, 3) := by decide +kernel
theorem dX8_ahead_93 : decode cX8_ahead 93 = .ok (.iconst 0, 1) := by decide +kernel
theorem dX8_ahead_94 : decode cX8_ahead 94 = .ok (.iadd, 1) := by decide +kernel
theorem dX8_ahead_95 : decode cX8_ahead 95 = .ok (.istore_n 3, 1) := by decide +kernel
theorem dX8_ahead_96 : decode cX8_ahead 96 = .ok (.iinc 5 1, 3) := by decide +kernel
theorem dX8_ahead_99 : decode cX8_ahead 99 = .ok (.goto (-62), 3) := by decide +kernel
theorem dX8_ahead_102 : decode cX8_ahead 102 = .ok (.iload_n 2, 1) := by decide +kernel
theorem dX8_ahead_103 : decode cX8_ahead 103 = .ok (.ifCond .ne 7, 3) := by decide +kernel
theorem dX8_ahead_106 : decode cX8_ahead 106 = .ok (.iload_n 3, 1) := by decide +kernel
theorem dX8_ahead_107 : decode cX8_ahead 107 = .ok (.goto 5, 3) := by decide +kernel
theorem dX8_ahead_110 : decode cX8_ahead 110 = .ok (.iload 4, 2) := by decide +kernel
theorem dX8_ahead_112 : decode cX8_ahead 112 = .ok (.ireturn, 1) := by decide +kernel
theorem dX8_eden_0 : decode cX8_eden 0 = .ok (.aload_n 0, 1) := by decide +kernel
theorem dX8_eden_1 : decode cX8_eden 1 = .ok (.aload_n 0, 1) := by decide +kernel
theorem dX8_eden_2 : decode cX8_eden 2 = .ok (.getfield 124, 3) := by decide +kernel
theorem dX8_eden_5 : decode cX8_eden 5 = .ok (.invokevirtual 146, 3) := by decide +kernel
theorem dX8_eden_8 : decode cX8_eden 8 = .ok (.iconst 0, 1) := by decide +kernel
theorem dX8_eden_9 : decode cX8_eden 9 = .ok (.istore_n 1, 1) := by decide +kernel
theorem dX8_eden_10 : decode cX8_eden 10 = .ok (.iload_n 1, 1) := by decide +kernel
theorem dX8_eden_11 : decode cX8_eden 11 = .ok (.sipush 512, 3) := by decide +kernel
theorem dX8_eden_14 : decode cX8_eden 14 = .ok (.if_icmp .ge 16, 3) := by decide +kernel
theorem dX8_eden_17 : decode cX8_eden 17 = .ok (.aload_n 0, 1) := by decide +kernel
theorem dX8_eden_18 : decode cX8_eden 18 = .ok (.getfield 37, 3) := by decide +kernel
theorem dX8_eden_21 : decode cX8_eden 21 = .ok (.iload_n 1, 1) := by decide +kernel
theorem dX8_eden_22 : decode cX8_eden 22 = .ok (.iconst 0, 1) := by decide +kernel
theorem dX8_eden_23 : decode cX8_eden 23 = .ok (.iastore, 1) := by decide +kernel
theorem dX8_eden_24 : decode cX8_eden 24 = .ok (.iinc 1 1, 3) := by decide +kernel
theorem dX8_eden_27 : decode cX8_eden 27 = .ok (.goto (-17), 3) := by decide +kernel
theorem dX8_eden_30 : decode cX8_eden 30 = .ok (.iconst 0, 1) := by decide +kernel
theorem dX8_eden_31 : decode cX8_eden 31 = .ok (.istore_n 1, 1) := by decide +kernel
theorem dX8_eden_32 : decode cX8_eden 32 = .ok (.iload_n 1, 1) := by decide +kernel
theorem dX8_eden_33 : decode cX8_eden 33 = .ok (.iconst 1, 1) := by decide +kernel
theorem dX8_eden_34 : decode cX8_eden 34 = .ok (.aload_n 0, 1) := by decide +kernel
theorem dX8_eden_35 : decode cX8_eden 35 = .ok (.getfield 43, 3) := by decide +kernel
theorem dX8_eden_38 : decode cX8_eden 38 = .ok (.ishl, 1) := by decide +kernel
theorem dX8_eden_39 : decode cX8_eden 39 = .ok (.if_icmp .ge 20, 3) := by decide +kernel
theorem dX8_eden_42 : decode cX8_eden 42 = .ok (.aload_n 0, 1) := by decide +kernel
theorem dX8_eden_43 : decode cX8_eden 43 = .ok (.getfield 37, 3) := by decide +kernel
theorem dX8_eden_46 : decode cX8_eden 46 = .ok (.aload_n 0, 1) := by decide +kernel
theorem dX8_eden_47 : decode cX8_eden 47 = .ok (.iload_n 1, 1) := by decide +kernel
theorem dX8_eden_48 : decode cX8_eden 48 = .ok (.invokevirtual 150, 3) := by decide +kernel
theorem dX8_eden_51 : decode cX8_eden 51 = .ok (.iconst 1, 1) := by decide +kernel
theorem dX8_eden_52 : decode cX8_eden 52 = .ok (.iastore, 1) := by decide +kernel
theorem dX8_eden_53 : decode cX8_eden 53 = .ok (.iinc 1 1, 3) := by decide +kernel
theorem dX8_eden_56 : decode cX8_eden 56 = .ok (.goto (-24), 3) := by decide +kernel
theorem dX8_eden_59 : decode cX8_eden 59 = .ok (.iconst 0, 1) := by decide +kernel
theorem dX8_eden_60 : decode cX8_eden 60 = .ok (.istore_n 1, 1) := by decide +kernel
theorem dX8_eden_61 : decode cX8_eden 61 = .ok (.iconst 0, 1) := by decide +kernel
theorem dX8_eden_62 : decode cX8_eden 62 = .ok (.istore_n 2, 1) := by decide +kernel
theorem dX8_eden_63 : decode cX8_eden 63 = .ok (.iload_n 2, 1) := by decide +kernel
theorem dX8_eden_64 : decode cX8_eden 64 = .ok (.iconst 1, 1) := by decide +kernel
theorem dX8_eden_65 : decode cX8_eden 65 = .ok (.aload_n 0, 1) := by decide +kernel
theorem dX8_eden_66 : decode cX8_eden 66 = .ok (.getfield 43, 3) := by decide +kernel
theorem dX8_eden_69 : decode cX8_eden 69 = .ok (.ishl, 1) := by decide +kernel
theorem dX8_eden_70 : decode cX8_eden 70 = .ok (.if_icmp .ge 20, 3) := by decide +kernel
theorem dX8_eden_73 : decode cX8_eden 73 = .ok (.iload_n 1, 1) := by decide +kernel
theorem dX8_eden_74 : decode cX8_eden 74 = .ok (.iconst 1, 1) := by decide +kernel
theorem dX8_eden_75 : decode cX8_eden 75 = .ok (.aload_n 0, 1) := by decide +kernel
theorem dX8_eden_76 : decode cX8_eden 76 = .ok (.getfield 37, 3) := by decide +kernel
theorem dX8_eden_79 : decode cX8_eden 79 = .ok (.iload_n 2, 1) := by decide +kernel
theorem dX8_eden_80 : decode cX8_eden 80 = .ok (.iaload, 1) := by decide +kernel
theorem dX8_eden_81 : decode cX8_eden 81 = .ok (.isub, 1) := by decide +kernel
theorem dX8_eden_82 : decode cX8_eden 82 = .ok (.iadd, 1) := by decide +kernel
theorem dX8_eden_83 : decode cX8_eden 83 = .ok (.istore_n 1, 1) := by decide +kernel
theorem dX8_eden_84 : decode cX8_eden 84 = .ok (.iinc 2 1, 3) := by decide +kernel
theorem dX8_eden_87 : decode cX8_eden 87 = .ok (.goto (-24), 3) := by decide +kernel
theorem dX8_eden_90 : decode cX8_eden 90 = .ok (.iload_n 1, 1) := by decide +kernel
theorem dX8_eden_91 : decode cX8_eden 91 = .ok (.ireturn, 1) := by decide +kernel
theorem dX8_stays_0 : decode cX8_stays 0 = .ok (.aload_n 0, 1) := by decide +kernel
theorem dX8_stays_1 : decode cX8_stays 1 = .ok (.iload_n 1, 1) := by decide +kernel
theorem dX8_stays_2 : decode cX8_stays 2 = .ok (.iload_n 3, 1) := by decide +kernel
theorem dX8_stays_3 : decode cX8_stays 3 = .ok (.invokevirtual 155, 3) := by decide +kernel
theorem dX8_stays_6 : decode cX8_stays 6 = .ok (.istore 4, 2) := by decide +kernel
theorem dX8_stays_8 : decode cX8_stays 8 = .ok (.aload_n 0, 1) := by decide +kernel
theorem dX8_stays_9 : decode cX8_stays 9 = .ok (.iload 4, 2) := by decide +kernel
theorem dX8_stays_11 : decode cX8_stays 11 = .ok (.invokevirtual 164, 3) := by decide +kernel
theorem dX8_stays_14 : decode cX8_stays 14 = .ok (.iconst 1, 1) := by decide +kernel
theorem dX8_stays_15 : decode cX8_stays 15 = .ok (.istore 5, 2) := by decide +kernel
theorem dX8_stays_17 : decode cX8_stays 17 = .ok (.iconst 0, 1) := by decide +kernel
theorem dX8_stays_18 : decode cX8_stays 18 = .ok (.istore 6, 2) := by decide +kernel
theorem dX8_stays_20 : decode cX8_stays 20 = .ok (.iload 6, 2) := by decide +kernel
theorem dX8_stays_22 : decode cX8_stays 22 = .ok (.aload_n 0, 1) := by decide +kernel
theorem dX8_stays_23 : decode cX8_stays 23 = .ok (.getfield 158, 3) := by decide +kernel
theorem dX8_stays_26 : decode cX8_stays 26 = .ok (.aload_n 0, 1) := by decide +kernel
theorem dX8_stays_27 : decode cX8_stays 27 = .ok (.getfield 161, 3) := by decide +kernel
theorem dX8_stays_30 : decode cX8_stays 30 = .ok (.iadd, 1) := by decide +kernel
theorem dX8_stays_31 : decode cX8_stays 31 = .ok (.if_icmp .ge 37, 3) := by decide +kernel
theorem dX8_stays_34 : decode cX8_stays 34 = .ok (.iload 5, 2) := by decide +kernel
theorem dX8_stays_36 : decode cX8_stays 36 = .ok (.ifCond .eq 32, 3) := by decide +kernel
theorem dX8_stays_39 : decode cX8_stays 39 = .ok (.iload 4, 2) := by decide +kernel
theorem dX8_stays_41 : decode cX8_stays 41 = .ok (.iload_n 2, 1) := by decide +kernel
theorem dX8_stays_42 : decode cX8_stays 42 = .ok (.iand, 1) := by decide +kernel
theorem dX8_stays_43 : decode cX8_stays 43 = .ok (.iload_n 2, 1) := by decide +kernel
theorem dX8_stays_44 : decode cX8_stays 44 = .ok (.if_icmp .ne 7, 3) := by decide +kernel
theorem dX8_stays_47 : decode cX8_stays 47 = .ok (.iconst 1, 1) := by decide +kernel
theorem dX8_stays_48 : decode cX8_stays 48 = .ok (.goto 4, 3) := by decide +kernel
theorem dX8_stays_51 : decode cX8_stays 51 = .ok (.iconst 0, 1) := by decide +kernel
theorem dX8_stays_52 : decode cX8_stays 52 = .ok (.istore 5, 2) := by decide +kernel
theorem dX8_stays_54 : decode cX8_stays 54 = .ok (.aload_n 0, 1) := by decide +kernel
theorem dX8_stays_55 : decode cX8_stays 55 = .ok (.iload 4, 2) := by decide +kernel
theorem dX8_stays_57 : decode cX8_stays 57 = .ok (.invokevirtual 150, 3) := by decide +kernel
theorem dX8_stays_60 : decode cX8_stays 60 = .ok (.istore 4, 2) := by decide +kernel
theorem dX8_stays_62 : decode cX8_stays 62 = .ok (.iinc 6 1, 3) := by decide +kernel
theorem dX8_stays_65 : decode cX8_stays 65 = .ok (.goto (-45), 3) := by decide +kernel
theorem dX8_stays_68 : decode cX8_stays 68 = .ok (.iload 5, 2) := by decide +kernel
theorem dX8_stays_70 : decode cX8_stays 70 = .ok (.ireturn, 1) := by decide +kernel
theorem dX8_lit_0 : decode cX8_lit 0 = .ok (.aload_n 0, 1) := by decide +kernel
theorem dX8_lit_1 : decode cX8_lit 1 = .ok (.iload_n 1, 1) := by decide +kernel
theorem dX8_lit_2 : decode cX8_lit 2 = .ok (.invokevirtual 167, 3) := by decide +kernel
theorem dX8_lit_5 : decode cX8_lit 5 = .ok (.ifCond .eq 31, 3) := by decide +kernel
theorem dX8_lit_8 : decode cX8_lit 8 = .ok (.iload_n 1, 1) := by decide +kernel
theorem dX8_lit_9 : decode cX8_lit 9 = .ok (.ifCond .eq 27, 3) := by decide +kernel
theorem dX8_lit_12 : decode cX8_lit 12 = .ok (.iload_n 2, 1) := by decide +kernel
theorem dX8_lit_13 : decode cX8_lit 13 = .ok (.i2l, 1) := by decide +kernel
theorem dX8_lit_14 : decode cX8_lit 14 = .ok (.lconst 0, 1) := by decide +kernel
theorem dX8_lit_15 : decode cX8_lit 15 = .ok (.ldc2_w 170, 3) := by decide +kernel
theorem dX8_lit_18 : decode cX8_lit 18 = .ok (.invokestatic 49, 3) := by decide +kernel
theorem dX8_lit_21 : decode cX8_lit 21 = .ok (.ifCond .eq 15, 3) := by decide +kernel
theorem dX8_lit_24 : decode cX8_lit 24 = .ok (.iload_n 3, 1) := by decide +kernel
theorem dX8_lit_25 : decode cX8_lit 25 = .ok (.i2l, 1) := by decide +kernel
theorem dX8_lit_26 : decode cX8_lit 26 = .ok (.lconst 0, 1) := by decide +kernel
theorem dX8_lit_27 : decode cX8_lit 27 = .ok (.ldc2_w 141, 3) := by decide +kernel
theorem dX8_lit_30 : decode cX8_lit 30 = .ok (.invokestatic 49, 3) := by decide +kernel
theorem dX8_lit_33 : decode cX8_lit 33 = .ok (.ifCond .ne 5, 3) := by decide +kernel
theorem dX8_lit_36 : decode cX8_lit 36 = .ok (.iconst (-1), 1) := by decide +kernel
theorem dX8_lit_37 : decode cX8_lit 37 = .ok (.ireturn, 1) := by decide +kernel
theorem dX8_lit_38 : decode cX8_lit 38 = .ok (.aload_n 0, 1) := by decide +kernel
theorem dX8_lit_39 : decode cX8_lit 39 = .ok (.aload_n 0, 1) := by decide +kernel
theorem dX8_lit_40 : decode cX8_lit 40 = .ok (.getfield 124, 3) := by decide +kernel
theorem dX8_lit_43 : decode cX8_lit 43 = .ok (.invokevirtual 146, 3) := by decide +kernel
theorem dX8_lit_46 : decode cX8_lit 46 = .ok (.iconst 0, 1) := by decide +kernel
theorem dX8_lit_47 : decode cX8_lit 47 = .ok (.istore 4, 2) := by decide +kernel
theorem dX8_lit_49 : decode cX8_lit 49 = .ok (.iload 4, 2) := by decide +kernel
theorem dX8_lit_51 : decode cX8_lit 51 = .ok (.iconst 4, 1) := by decide +kernel
theorem dX8_lit_52 : decode cX8_lit 52 = .ok (.if_icmp .ge 130, 3) := by decide +kernel
theorem dX8_lit_55 : decode cX8_lit 55 = .ok (.iconst 0, 1) := by decide +kernel
theorem dX8_lit_56 : decode cX8_lit 56 = .ok (.istore 5, 2) := by decide +kernel
theorem dX8_lit_58 : decode cX8_lit 58 = .ok (.bipush (-9), 2) := by decide +kernel
theorem dX8_lit_60 : decode cX8_lit 60 = .ok (.istore 6, 2) := by decide +kernel
theorem dX8_lit_62 : decode cX8_lit 62 = .ok (.iconst 0, 1) := by decide +kernel
theorem dX8_lit_63 : decode cX8_lit 63 = .ok (.istore 7, 2) := by decide +kernel
theorem dX8_lit_65 : decode cX8_lit 65 = .ok (.iload 7, 2) := by decide +kernel
theorem dX8_lit_67 : decode cX8_lit 67 = .ok (.iconst 1, 1) := by decide +kernel
theorem dX8_lit_68 : decode cX8_lit 68 = .ok (.aload_n 0, 1) := by decide +kernel
theorem dX8_lit_69 : decode cX8_lit 69 = .ok (.getfield 43, 3) := by decide +kernel
theorem dX8_lit_72 : decode cX8_lit 72 = .ok (.ishl, 1) := by decide +kernel
theorem dX8_lit_73 : decode cX8_lit 73 = .ok (.if_icmp .ge 76, 3) := by decide +kernel
theorem dX8_lit_76 : decode cX8_lit 76 = .ok (.iload 7, 2) := by decide +kernel
theorem dX8_lit_78 : decode cX8_lit 78 = .ok (.invokestatic 137, 3) := by decide +kernel
theorem dX8_lit_81 : decode cX8_lit 81 = .ok (.iload 4, 2) := by decide +kernel
theorem dX8_lit_83 : decode cX8_lit 83 = .ok (.if_icmp .ne 23, 3) := by decide +kernel
theorem dX8_lit_86 : decode cX8_lit 86 = .ok (.aload_n 0, 1) := by decide +kernel
theorem dX8_lit_87 : decode cX8_lit 87 = .ok (.aload_n 0, 1) := by decide +kernel
theorem dX8_lit_88 : decode cX8_lit 88 = .ok (.getfield 118, 3) := by decide +kernel
theorem dX8_lit_91 : decode cX8_lit 91 = .ok (.iload 7, 2) := by decide +kernel
theorem dX8_lit_93 : decode cX8_lit 93 = .ok (.ixor, 1) := by decide +kernel
theorem dX8_lit_94 : decode cX8_lit 94 = .ok (.iload_n 1, 1) := by decide +kernel
theorem dX8_lit_95 : decode cX8_lit 95 = .ok (.iload_n 2, 1) := by decide +kernel
theorem dX8_lit_96 : decode cX8_lit 96 = .ok (.invokevirtual 172, 3) := by decide +kernel
theorem dX8_lit_99 : decode cX8_lit 99 = .ok (.ifCond .eq 7, 3) := by decide +kernel
theorem dX8_lit_102 : decode cX8_lit 102 = .ok (.iconst 1, 1) := by decide +kernel
theorem dX8_lit_103 : decode cX8_lit 103 = .ok (.goto 4, 3) := by decide +kernel
theorem dX8_lit_106 : decode cX8_lit 106 = .ok (.iconst 0, 1) := by decide +kernel
theorem dX8_lit_107 : decode cX8_lit 107 = .ok (.istore 8, 2) := by decide +kernel
theorem dX8_lit_109 : decode cX8_lit 109 = .ok (.iload 8, 2) := by decide +kernel
theorem dX8_lit_111 : decode cX8_lit 111 = .ok (.ifCond .eq 13, 3) := by decide +kernel
theorem dX8_lit_114 : decode cX8_lit 114 = .ok (.iload 5, 2) := by decide +kernel
