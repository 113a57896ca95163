theorem dX0_init_0 : decode cX0_init 0 = .ok (.aload_n 0, 1) := by decide +kernel
theorem dX0_init_1 : decode cX0_init 1 = .ok (.invokespecial 3, 3) := by decide +kernel
theorem dX0_init_4 : decode cX0_init 4 = .ok (.aload_n 0, 1) := by decide +kernel
theorem dX0_init_5 : decode cX0_init 5 = .ok (.bipush 9, 2) := by decide +kernel
theorem dX0_init_7 : decode cX0_init 7 = .ok (.newarray .int, 2) := by decide +kernel
theorem dX0_init_9 : decode cX0_init 9 = .ok (.putfield 9, 3) := by decide +kernel
theorem dX0_init_12 : decode cX0_init 12 = .ok (.aload_n 0, 1) := by decide +kernel
theorem dX0_init_13 : decode cX0_init 13 = .ok (.sipush 512, 3) := by decide +kernel
theorem dX0_init_16 : decode cX0_init 16 = .ok (.newarray .int, 2) := by decide +kernel
theorem dX0_init_18 : decode cX0_init 18 = .ok (.putfield 15, 3) := by decide +kernel
theorem dX0_init_21 : decode cX0_init 21 = .ok (.aload_n 0, 1) := by decide +kernel
theorem dX0_init_22 : decode cX0_init 22 = .ok (.sipush 512, 3) := by decide +kernel
theorem dX0_init_25 : decode cX0_init 25 = .ok (.newarray .int, 2) := by decide +kernel
theorem dX0_init_27 : decode cX0_init 27 = .ok (.putfield 18, 3) := by decide +kernel
theorem dX0_init_30 : decode cX0_init 30 = .ok (.aload_n 0, 1) := by decide +kernel
theorem dX0_init_31 : decode cX0_init 31 = .ok (.aload_n 1, 1) := by decide +kernel
theorem dX0_init_32 : decode cX0_init 32 = .ok (.putfield 21, 3) := by decide +kernel
theorem dX0_init_35 : decode cX0_init 35 = .ok (.return_, 1) := by decide +kernel
theorem dX0_forget_0 : decode cX0_forget 0 = .ok (.aload_n 0, 1) := by decide +kernel
theorem dX0_forget_1 : decode cX0_forget 1 = .ok (.iconst 0, 1) := by decide +kernel
theorem dX0_forget_2 : decode cX0_forget 2 = .ok (.putfield 25, 3) := by decide +kernel
theorem dX0_forget_5 : decode cX0_forget 5 = .ok (.return_, 1) := by decide +kernel
theorem dX0_lay_0 : decode cX0_lay 0 = .ok (.aload_n 0, 1) := by decide +kernel
theorem dX0_lay_1 : decode cX0_lay 1 = .ok (.getfield 25, 3) := by decide +kernel
theorem dX0_lay_4 : decode cX0_lay 4 = .ok (.ifCond .eq 12, 3) := by decide +kernel
theorem dX0_lay_7 : decode cX0_lay 7 = .ok (.aload_n 0, 1) := by decide +kernel
theorem dX0_lay_8 : decode cX0_lay 8 = .ok (.getfield 29, 3) := by decide +kernel
theorem dX0_lay_11 : decode cX0_lay 11 = .ok (.iload_n 1, 1) := by decide +kernel
theorem dX0_lay_12 : decode cX0_lay 12 = .ok (.if_icmp .ne 4, 3) := by decide +kernel
theorem dX0_lay_15 : decode cX0_lay 15 = .ok (.return_, 1) := by decide +kernel
theorem dX0_lay_16 : decode cX0_lay 16 = .ok (.aload_n 0, 1) := by decide +kernel
theorem dX0_lay_17 : decode cX0_lay 17 = .ok (.getfield 15, 3) := by decide +kernel
theorem dX0_lay_20 : decode cX0_lay 20 = .ok (.iconst (-1), 1) := by decide +kernel
theorem dX0_lay_21 : decode cX0_lay 21 = .ok (.invokestatic 33, 3) := by decide +kernel
theorem dX0_lay_24 : decode cX0_lay 24 = .ok (.aload_n 0, 1) := by decide +kernel
theorem dX0_lay_25 : decode cX0_lay 25 = .ok (.getfield 21, 3) := by decide +kernel
theorem dX0_lay_28 : decode cX0_lay 28 = .ok (.getfield 39, 3) := by decide +kernel
theorem dX0_lay_31 : decode cX0_lay 31 = .ok (.iconst 0, 1) := by decide +kernel
theorem dX0_lay_32 : decode cX0_lay 32 = .ok (.aload_n 0, 1) := by decide +kernel
theorem dX0_lay_33 : decode cX0_lay 33 = .ok (.getfield 9, 3) := by decide +kernel
theorem dX0_lay_36 : decode cX0_lay 36 = .ok (.iconst 0, 1) := by decide +kernel
theorem dX0_lay_37 : decode cX0_lay 37 = .ok (.bipush 9, 2) := by decide +kernel
theorem dX0_lay_39 : decode cX0_lay 39 = .ok (.invokestatic 44, 3) := by decide +kernel
theorem dX0_lay_42 : decode cX0_lay 42 = .ok (.iconst 0, 1) := by decide +kernel
theorem dX0_lay_43 : decode cX0_lay 43 = .ok (.istore_n 2, 1) := by decide +kernel
theorem dX0_lay_44 : decode cX0_lay 44 = .ok (.iload_n 2, 1) := by decide +kernel
theorem dX0_lay_45 : decode cX0_lay 45 = .ok (.aload_n 0, 1) := by decide +kernel
theorem dX0_lay_46 : decode cX0_lay 46 = .ok (.getfield 21, 3) := by decide +kernel
theorem dX0_lay_49 : decode cX0_lay 49 = .ok (.getfield 50, 3) := by decide +kernel
theorem dX0_lay_52 : decode cX0_lay 52 = .ok (.if_icmp .ge 78, 3) := by decide +kernel
theorem dX0_lay_55 : decode cX0_lay 55 = .ok (.iload_n 1, 1) := by decide +kernel
theorem dX0_lay_56 : decode cX0_lay 56 = .ok (.iload_n 2, 1) := by decide +kernel
theorem dX0_lay_57 : decode cX0_lay 57 = .ok (.ishr, 1) := by decide +kernel
theorem dX0_lay_58 : decode cX0_lay 58 = .ok (.iconst 1, 1) := by decide +kernel
theorem dX0_lay_59 : decode cX0_lay 59 = .ok (.iand, 1) := by decide +kernel
theorem dX0_lay_60 : decode cX0_lay 60 = .ok (.iconst 1, 1) := by decide +kernel
theorem dX0_lay_61 : decode cX0_lay 61 = .ok (.if_icmp .ne 63, 3) := by decide +kernel
theorem dX0_lay_64 : decode cX0_lay 64 = .ok (.aload_n 0, 1) := by decide +kernel
theorem dX0_lay_65 : decode cX0_lay 65 = .ok (.getfield 9, 3) := by decide +kernel
theorem dX0_lay_68 : decode cX0_lay 68 = .ok (.aload_n 0, 1) := by decide +kernel
theorem dX0_lay_69 : decode cX0_lay 69 = .ok (.getfield 21, 3) := by decide +kernel
theorem dX0_lay_72 : decode cX0_lay 72 = .ok (.getfield 53, 3) := by decide +kernel
theorem dX0_lay_75 : decode cX0_lay 75 = .ok (.iload_n 2, 1) := by decide +kernel
theorem dX0_lay_76 : decode cX0_lay 76 = .ok (.iaload, 1) := by decide +kernel
theorem dX0_lay_77 : decode cX0_lay 77 = .ok (.dup2, 1) := by decide +kernel
theorem dX0_lay_78 : decode cX0_lay 78 = .ok (.iaload, 1) := by decide +kernel
theorem dX0_lay_79 : decode cX0_lay 79 = .ok (.iconst 1, 1) := by decide +kernel
theorem dX0_lay_80 : decode cX0_lay 80 = .ok (.aload_n 0, 1) := by decide +kernel
theorem dX0_lay_81 : decode cX0_lay 81 = .ok (.getfield 21, 3) := by decide +kernel
theorem dX0_lay_84 : decode cX0_lay 84 = .ok (.getfield 56, 3) := by decide +kernel
theorem dX0_lay_87 : decode cX0_lay 87 = .ok (.iload_n 2, 1) := by decide +kernel
theorem dX0_lay_88 : decode cX0_lay 88 = .ok (.iaload, 1) := by decide +kernel
theorem dX0_lay_89 : decode cX0_lay 89 = .ok (.ishl, 1) := by decide +kernel
theorem dX0_lay_90 : decode cX0_lay 90 = .ok (.iconst (-1), 1) := by decide +kernel
theorem dX0_lay_91 : decode cX0_lay 91 = .ok (.ixor, 1) := by decide +kernel
theorem dX0_lay_92 : decode cX0_lay 92 = .ok (.iand, 1) := by decide +kernel
theorem dX0_lay_93 : decode cX0_lay 93 = .ok (.iastore, 1) := by decide +kernel
theorem dX0_lay_94 : decode cX0_lay 94 = .ok (.aload_n 0, 1) := by decide +kernel
theorem dX0_lay_95 : decode cX0_lay 95 = .ok (.getfield 9, 3) := by decide +kernel
theorem dX0_lay_98 : decode cX0_lay 98 = .ok (.aload_n 0, 1) := by decide +kernel
theorem dX0_lay_99 : decode cX0_lay 99 = .ok (.getfield 21, 3) := by decide +kernel
theorem dX0_lay_102 : decode cX0_lay 102 = .ok (.getfield 56, 3) := by decide +kernel
theorem dX0_lay_105 : decode cX0_lay 105 = .ok (.iload_n 2, 1) := by decide +kernel
theorem dX0_lay_106 : decode cX0_lay 106 = .ok (.iaload, 1) := by decide +kernel
theorem dX0_lay_107 : decode cX0_lay 107 = .ok (.dup2, 1) := by decide +kernel
theorem dX0_lay_108 : decode cX0_lay 108 = .ok (.iaload, 1) := by decide +kernel
theorem dX0_lay_109 : decode cX0_lay 109 = .ok (.iconst 1, 1) := by decide +kernel
theorem dX0_lay_110 : decode cX0_lay 110 = .ok (.aload_n 0, 1) := by decide +kernel
theorem dX0_lay_111 : decode cX0_lay 111 = .ok (.getfield 21, 3) := by decide +kernel
theorem dX0_lay_114 : decode cX0_lay 114 = .ok (.getfield 53, 3) := by decide +kernel
theorem dX0_lay_117 : decode cX0_lay 117 = .ok (.iload_n 2, 1) := by decide +kernel
theorem dX0_lay_118 : decode cX0_lay 118 = .ok (.iaload, 1) := by decide +kernel
theorem dX0_lay_119 : decode cX0_lay 119 = .ok (.ishl, 1) := by decide +kernel
theorem dX0_lay_120 : decode cX0_lay 120 = .ok (.iconst (-1), 1) := by decide +kernel
theorem dX0_lay_121 : decode cX0_lay 121 = .ok (.ixor, 1) := by decide +kernel
theorem dX0_lay_122 : decode cX0_lay 122 = .ok (.iand, 1) := by decide +kernel
theorem dX0_lay_123 : decode cX0_lay 123 = .ok (.iastore, 1) := by decide +kernel
theorem dX0_lay_124 : decode cX0_lay 124 = .ok (.iinc 2 1, 3) := by decide +kernel
theorem dX0_lay_127 : decode cX0_lay 127 = .ok (.goto (-83), 3) := by decide +kernel
theorem dX0_lay_130 : decode cX0_lay 130 = .ok (.aload_n 0, 1) := by decide +kernel
theorem dX0_lay_131 : decode cX0_lay 131 = .ok (.iconst 1, 1) := by decide +kernel
theorem dX0_lay_132 : decode cX0_lay 132 = .ok (.putfield 25, 3) := by decide +kernel
theorem dX0_lay_135 : decode cX0_lay 135 = .ok (.aload_n 0, 1) := by decide +kernel
theorem dX0_lay_136 : decode cX0_lay 136 = .ok (.iload_n 1, 1) := by decide +kernel
theorem dX0_lay_137 : decode cX0_lay 137 = .ok (.putfield 29, 3) := by decide +kernel
theorem dX0_lay_140 : decode cX0_lay 140 = .ok (.return_, 1) := by decide +kernel
theorem dX0_join_0 : decode cX0_join 0 = .ok (.aload_n 0, 1) := by decide +kernel
theorem dX0_join_1 : decode cX0_join 1 = .ok (.getfield 21, 3) := by decide +kernel
theorem dX0_join_4 : decode cX0_join 4 = .ok (.iload_n 1, 1) := by decide +kernel
theorem dX0_join_5 : decode cX0_join 5 = .ok (.invokevirtual 59, 3) := by decide +kernel
theorem dX0_join_8 : decode cX0_join 8 = .ok (.ifCond .eq 14, 3) := by decide +kernel
theorem dX0_join_11 : decode cX0_join 11 = .ok (.aload_n 0, 1) := by decide +kernel
theorem dX0_join_12 : decode cX0_join 12 = .ok (.getfield 21, 3) := by decide +kernel
theorem dX0_join_15 : decode cX0_join 15 = .ok (.iload_n 2, 1) := by decide +kernel
theorem dX0_join_16 : decode cX0_join 16 = .ok (.invokevirtual 59, 3) := by decide +kernel
theorem dX0_join_19 : decode cX0_join 19 = .ok (.ifCond .ne 4, 3) := by decide +kernel
theorem dX0_join_22 : decode cX0_join 22 = .ok (.return_, 1) := by decide +kernel
theorem dX0_join_23 : decode cX0_join 23 = .ok (.aload_n 0, 1) := by decide +kernel
theorem dX0_join_24 : decode cX0_join 24 = .ok (.getfield 9, 3) := by decide +kernel
theorem dX0_join_27 : decode cX0_join 27 = .ok (.iload_n 1, 1) := by decide +kernel
theorem dX0_join_28 : decode cX0_join 28 = .ok (.dup2, 1) := by decide +kernel
theorem dX0_join_29 : decode cX0_join 29 = .ok (.iaload, 1) := by decide +kernel
theorem dX0_join_30 : decode cX0_join 30 = .ok (.iconst 1, 1) := by decide +kernel
theorem dX0_join_31 : decode cX0_join 31 = .ok (.iload_n 2, 1) := by decide +kernel
theorem dX0_join_32 : decode cX0_join 32 = .ok (.ishl, 1) := by decide +kernel
theorem dX0_join_33 : decode cX0_join 33 = .ok (.ior, 1) := by decide +kernel
theorem dX0_join_34 : decode cX0_join 34 = .ok (.iastore, 1) := by decide +kernel
theorem dX0_join_35 : decode cX0_join 35 = .ok (.aload_n 0, 1) := by decide +kernel
theorem dX0_join_36 : decode cX0_join 36 = .ok (.getfield 9, 3) := by decide +kernel
theorem dX0_join_39 : decode cX0_join 39 = .ok (.iload_n 2, 1) := by decide +kernel
theorem dX0_join_40 : decode cX0_join 40 = .ok (.dup2, 1) := by decide +kernel
theorem dX0_join_41 : decode cX0_join 41 = .ok (.iaload, 1) := by decide +kernel
theorem dX0_join_42 : decode cX0_join 42 = .ok (.iconst 1, 1) := by decide +kernel
theorem dX0_join_43 : decode cX0_join 43 = .ok (.iload_n 1, 1) := by decide +kernel
theorem dX0_join_44 : decode cX0_join 44 = .ok (.ishl, 1) := by decide +kernel
theorem dX0_join_45 : decode cX0_join 45 = .ok (.ior, 1) := by decide +kernel
theorem dX0_join_46 : decode cX0_join 46 = .ok (.iastore, 1) := by decide +kernel
theorem dX0_join_47 : decode cX0_join 47 = .ok (.aload_n 0, 1) := by decide +kernel
theorem dX0_join_48 : decode cX0_join 48 = .ok (.getfield 15, 3) := by decide +kernel
theorem dX0_join_51 : decode cX0_join 51 = .ok (.iconst (-1), 1) := by decide +kernel
theorem dX0_join_52 : decode cX0_join 52 = .ok (.invokestatic 33, 3) := by decide +kernel
theorem dX0_join_55 : decode cX0_join 55 = .ok (.aload_n 0, 1) := by decide +kernel
theorem dX0_join_56 : decode cX0_join 56 = .ok (.iconst 0, 1) := by decide +kernel
theorem dX0_join_57 : decode cX0_join 57 = .ok (.putfield 25, 3) := by decide +kernel
theorem dX0_join_60 : decode cX0_join 60 = .ok (.return_, 1) := by decide +kernel
theorem dX0_struck_0 : decode cX0_struck 0 = .ok (.iload_n 1, 1) := by decide +kernel
theorem dX0_struck_1 : decode cX0_struck 1 = .ok (.ifCond .lt 10, 3) := by decide +kernel
theorem dX0_struck_4 : decode cX0_struck 4 = .ok (.iload_n 1, 1) := by decide +kernel
theorem dX0_struck_5 : decode cX0_struck 5 = .ok (.sipush 512, 3) := by decide +kernel
theorem dX0_struck_8 : decode cX0_struck 8 = .ok (.if_icmp .lt 5, 3) := by decide +kernel
theorem dX0_struck_11 : decode cX0_struck 11 = .ok (.iconst 0, 1) := by decide +kernel
theorem dX0_struck_12 : decode cX0_struck 12 = .ok (.ireturn, 1) := by decide +kernel
theorem dX0_struck_13 : decode cX0_struck 13 = .ok (.aload_n 0, 1) := by decide +kernel
theorem dX0_struck_14 : decode cX0_struck 14 = .ok (.getfield 15, 3) := by decide +kernel
theorem dX0_struck_17 : decode cX0_struck 17 = .ok (.iload_n 1, 1) := by decide +kernel
theorem dX0_struck_18 : decode cX0_struck 18 = .ok (.iaload, 1) := by decide +kernel
theorem dX0_struck_19 : decode cX0_struck 19 = .ok (.iconst (-1), 1) := by decide +kernel
theorem dX0_struck_20 : decode cX0_struck 20 = .ok (.if_icmp .ne 14, 3) := by decide +kernel
theorem dX0_struck_23 : decode cX0_struck 23 = .ok (.aload_n 0, 1) := by decide +kernel
theorem dX0_struck_24 : decode cX0_struck 24 = .ok (.getfield 15, 3) := by decide +kernel
theorem dX0_struck_27 : decode cX0_struck 27 = .ok (.iload_n 1, 1) := by decide +kernel
theorem dX0_struck_28 : decode cX0_struck 28 = .ok (.aload_n 0, 1) := by decide +kernel
theorem dX0_struck_29 : decode cX0_struck 29 = .ok (.iload_n 1, 1) := by decide +kernel
theorem dX0_struck_30 : decode cX0_struck 30 = .ok (.invokevirtual 63, 3) := by decide +kernel
theorem dX0_struck_33 : decode cX0_struck 33 = .ok (.iastore, 1) := by decide +kernel
theorem dX0_struck_34 : decode cX0_struck 34 = .ok (.aload_n 0, 1) := by decide +kernel
theorem dX0_struck_35 : decode cX0_struck 35 = .ok (.getfield 15, 3) := by decide +kernel
theorem dX0_struck_38 : decode cX0_struck 38 = .ok (.iload_n 1, 1) := by decide +kernel
theorem dX0_struck_39 : decode cX0_struck 39 = .ok (.iaload, 1) := by decide +kernel
theorem dX0_struck_40 : decode cX0_struck 40 = .ok (.ireturn, 1) := by decide +kernel
theorem dX0_strike_0 : decode cX0_strike 0 = .ok (.iconst 0, 1) := by decide +kernel
theorem dX0_strike_1 : decode cX0_strike 1 = .ok (.istore_n 2, 1) := by decide +kernel
theorem dX0_strike_2 : decode cX0_strike 2 = .ok (.iconst 0, 1) := by decide +kernel
theorem dX0_strike_3 : decode cX0_strike 3 = .ok (.istore_n 3, 1) := by decide +kernel
theorem dX0_strike_4 : decode cX0_strike 4 = .ok (.iload_n 3, 1) := by decide +kernel
theorem dX0_strike_5 : decode cX0_strike 5 = .ok (.aload_n 0, 1) := by decide +kernel
theorem dX0_strike_6 : decode cX0_strike 6 = .ok (.getfield 21, 3) := by decide +kernel
theorem dX0_strike_9 : decode cX0_strike 9 = .ok (.getfield 67, 3) := by decide +kernel
theorem dX0_strike_12 : decode cX0_strike 12 = .ok (.if_icmp .ge 24, 3) := by decide +kernel
theorem dX0_strike_15 : decode cX0_strike 15 = .ok (.aload_n 0, 1) := by decide +kernel
theorem dX0_strike_16 : decode cX0_strike 16 = .ok (.iload_n 3, 1) := by decide +kernel
theorem dX0_strike_17 : decode cX0_strike 17 = .ok (.iload_n 1, 1) := by decide +kernel
theorem dX0_strike_18 : decode cX0_strike 18 = .ok (.invokevirtual 70, 3) := by decide +kernel
theorem dX0_strike_21 : decode cX0_strike 21 = .ok (.ifCond .eq 9, 3) := by decide +kernel
theorem dX0_strike_24 : decode cX0_strike 24 = .ok (.iload_n 2, 1) := by decide +kernel
theorem dX0_strike_25 : decode cX0_strike 25 = .ok (.iconst 1, 1) := by decide +kernel
theorem dX0_strike_26 : decode cX0_strike 26 = .ok (.iload_n 3, 1) := by decide +kernel
theorem dX0_strike_27 : decode cX0_strike 27 = .ok (.ishl, 1) := by decide +kernel
theorem dX0_strike_28 : decode cX0_strike 28 = .ok (.ior, 1) := by decide +kernel
theorem dX0_strike_29 : decode cX0_strike 29 = .ok (.istore_n 2, 1) := by decide +kernel
theorem dX0_strike_30 : decode cX0_strike 30 = .ok (.iinc 3 1, 3) := by decide +kernel
theorem dX0_strike_33 : decode cX0_strike 33 = .ok (.goto (-29), 3) := by decide +kernel
theorem dX0_strike_36 : decode cX0_strike 36 = .ok (.iload_n 2, 1) := by decide +kernel
theorem dX0_strike_37 : decode cX0_strike 37 = .ok (.ireturn, 1) := by decide +kernel
theorem dX0_isOnBehind_0 : decode cX0_isOnBehind 0 = .ok (.iload_n 2, 1) := by decide +kernel
theorem dX0_isOnBehind_1 : decode cX0_isOnBehind 1 = .ok (.iload_n 1, 1) := by decide +kernel
theorem dX0_isOnBehind_2 : decode cX0_isOnBehind 2 = .ok (.ishr, 1) := by decide +kernel
theorem dX0_isOnBehind_3 : decode cX0_isOnBehind 3 = .ok (.iconst 1, 1) := by decide +kernel
theorem dX0_isOnBehind_4 : decode cX0_isOnBehind 4 = .ok (.iand, 1) := by decide +kernel
theorem dX0_isOnBehind_5 : decode cX0_isOnBehind 5 = .ok (.iconst 1, 1) := by decide +kernel
theorem dX0_isOnBehind_6 : decode cX0_isOnBehind 6 = .ok (.if_icmp .ne 7, 3) := by decide +kernel
theorem dX0_isOnBehind_9 : decode cX0_isOnBehind 9 = .ok (.iconst 1, 1) := by decide +kernel
theorem dX0_isOnBehind_10 : decode cX0_isOnBehind 10 = .ok (.goto 4, 3) := by decide +kernel
theorem dX0_isOnBehind_13 : decode cX0_isOnBehind 13 = .ok (.iconst 0, 1) := by decide +kernel
theorem dX0_isOnBehind_14 : decode cX0_isOnBehind 14 = .ok (.istore_n 3, 1) := by decide +kernel
theorem dX0_isOnBehind_15 : decode cX0_isOnBehind 15 = .ok (.aload_n 0, 1) := by decide +kernel
theorem dX0_isOnBehind_16 : decode cX0_isOnBehind 16 = .ok (.getfield 21, 3) := by decide +kernel
theorem dX0_isOnBehind_19 : decode cX0_isOnBehind 19 = .ok (.getfield 74, 3) := by decide +kernel
theorem dX0_isOnBehind_22 : decode cX0_isOnBehind 22 = .ok (.iload_n 1, 1) := by decide +kernel
theorem dX0_isOnBehind_23 : decode cX0_isOnBehind 23 = .ok (.iaload, 1) := by decide +kernel
theorem dX0_isOnBehind_24 : decode cX0_isOnBehind 24 = .ok (.istore 4, 2) := by decide +kernel
theorem dX0_isOnBehind_26 : decode cX0_isOnBehind 26 = .ok (.iload 4, 2) := by decide +kernel
theorem dX0_isOnBehind_28 : decode cX0_isOnBehind 28 = .ok (.iconst 2, 1) := by decide +kernel
theorem dX0_isOnBehind_29 : decode cX0_isOnBehind 29 = .ok (.if_icmp .ne 13, 3) := by decide +kernel
theorem dX0_isOnBehind_32 : decode cX0_isOnBehind 32 = .ok (.iload_n 3, 1) := by decide +kernel
theorem dX0_isOnBehind_33 : decode cX0_isOnBehind 33 = .ok (.ifCond .ne 7, 3) := by decide +kernel
theorem dX0_isOnBehind_36 : decode cX0_isOnBehind 36 = .ok (.iconst 1, 1) := by decide +kernel
theorem dX0_isOnBehind_37 : decode cX0_isOnBehind 37 = .ok (.goto 4, 3) := by decide +kernel
theorem dX0_isOnBehind_40 : decode cX0_isOnBehind 40 = .ok (.iconst 0, 1) := by decide +kernel
theorem dX0_isOnBehind_41 : decode cX0_isOnBehind 41 = .ok (.ireturn, 1) := by decide +kernel
theorem dX0_isOnBehind_42 : decode cX0_isOnBehind 42 = .ok (.aload_n 0, 1) := by decide +kernel
theorem dX0_isOnBehind_43 : decode cX0_isOnBehind 43 = .ok (.getfield 9, 3) := by decide +kernel
theorem dX0_isOnBehind_46 : decode cX0_isOnBehind 46 = .ok (.iload_n 1, 1) := by decide +kernel
theorem dX0_isOnBehind_47 : decode cX0_isOnBehind 47 = .ok (.iaload, 1) := by decide +kernel
theorem dX0_isOnBehind_48 : decode cX0_isOnBehind 48 = .ok (.iload_n 2, 1) := by decide +kernel
theorem dX0_isOnBehind_49 : decode cX0_isOnBehind 49 = .ok (.iand, 1) := by decide +kernel
theorem dX0_isOnBehind_50 : decode cX0_isOnBehind 50 = .ok (.invokestatic 77, 3) := by decide +kernel
theorem dX0_isOnBehind_53 : decode cX0_isOnBehind 53 = .ok (.istore 5, 2) := by decide +kernel
theorem dX0_isOnBehind_55 : decode cX0_isOnBehind 55 = .ok (.aload_n 0, 1) := by decide +kernel
theorem dX0_isOnBehind_56 : decode cX0_isOnBehind 56 = .ok (.getfield 9, 3) := by decide +kernel
theorem dX0_isOnBehind_59 : decode cX0_isOnBehind 59 = .ok (.iload_n 1, 1) := by decide +kernel
theorem dX0_isOnBehind_60 : decode cX0_isOnBehind 60 = .ok (.iaload, 1) := by decide +kernel
theorem dX0_isOnBehind_61 : decode cX0_isOnBehind 61 = .ok (.iload_n 2, 1) := by decide +kernel
theorem dX0_isOnBehind_62 : decode cX0_isOnBehind 62 = .ok (.iconst (-1), 1) := by decide +kernel
theorem dX0_isOnBehind_63 : decode cX0_isOnBehind 63 = .ok (.ixor, 1) := by decide +kernel
theorem dX0_isOnBehind_64 : decode cX0_isOnBehind 64 = .ok (.iand, 1) := by decide +kernel
theorem dX0_isOnBehind_65 : decode cX0_isOnBehind 65 = .ok (.invokestatic 77, 3) := by decide +kernel
theorem dX0_isOnBehind_68 : decode cX0_isOnBehind 68 = .ok (.istore 6, 2) := by decide +kernel
theorem dX0_isOnBehind_70 : decode cX0_isOnBehind 70 = .ok (.iload 4, 2) := by decide +kernel
theorem dX0_isOnBehind_72 : decode cX0_isOnBehind 72 = .ok (.iconst 3, 1) := by decide +kernel
theorem dX0_isOnBehind_73 : decode cX0_isOnBehind 73 = .ok (.if_icmp .eq 10, 3) := by decide +kernel
theorem dX0_isOnBehind_76 : decode cX0_isOnBehind 76 = .ok (.iload 5, 2) := by decide +kernel
theorem dX0_isOnBehind_78 : decode cX0_isOnBehind 78 = .ok (.iload 6, 2) := by decide +kernel
theorem dX0_isOnBehind_80 : decode cX0_isOnBehind 80 = .ok (.if_icmp .ne 5, 3) := by decide +kernel
theorem dX0_isOnBehind_83 : decode cX0_isOnBehind 83 = .ok (.iload_n 3, 1) := by decide +kernel
theorem dX0_isOnBehind_84 : decode cX0_isOnBehind 84 = .ok (.ireturn, 1) := by decide +kernel
theorem dX0_isOnBehind_85 : decode cX0_isOnBehind 85 = .ok (.iload 4, 2) := by decide +kernel
theorem dX0_isOnBehind_87 : decode cX0_isOnBehind 87 = .ok (.ifCond .ne 18, 3) := by decide +kernel
theorem dX0_isOnBehind_90 : decode cX0_isOnBehind 90 = .ok (.iload 5, 2) := by decide +kernel
theorem dX0_isOnBehind_92 : decode cX0_isOnBehind 92 = .ok (.iload 6, 2) := by decide +kernel
theorem dX0_isOnBehind_94 : decode cX0_isOnBehind 94 = .ok (.if_icmp .ge 7, 3) := by decide +kernel
theorem dX0_isOnBehind_97 : decode cX0_isOnBehind 97 = .ok (.iconst 1, 1) := by decide +kernel
theorem dX0_isOnBehind_98 : decode cX0_isOnBehind 98 = .ok (.goto 19, 3) := by decide +kernel
theorem dX0_isOnBehind_101 : decode cX0_isOnBehind 101 = .ok (.iconst 0, 1) := by decide +kernel
theorem dX0_isOnBehind_102 : decode cX0_isOnBehind 102 = .ok (.goto 15, 3) := by decide +kernel
theorem dX0_isOnBehind_105 : decode cX0_isOnBehind 105 = .ok (.iload 5, 2) := by decide +kernel
theorem dX0_isOnBehind_107 : decode cX0_isOnBehind 107 = .ok (.iload 6, 2) := by decide +kernel
theorem dX0_isOnBehind_109 : decode cX0_isOnBehind 109 = .ok (.if_icmp .le 7, 3) := by decide +kernel
theorem dX0_isOnBehind_112 : decode cX0_isOnBehind 112 = .ok (.iconst 1, 1) := by decide +kernel
theorem dX0_isOnBehind_113 : decode cX0_isOnBehind 113 = .ok (.goto 4, 3) := by decide +kernel
theorem dX0_isOnBehind_116 : decode cX0_isOnBehind 116 = .ok (.iconst 0, 1) := by decide +kernel
theorem dX0_isOnBehind_117 : decode cX0_isOnBehind 117 = .ok (.ireturn, 1) := by decide +kernel
theorem dX0_struckOften_0 : decode cX0_struckOften 0 = .ok (.iload_n 1, 1) := by decide +kernel
theorem dX0_struckOften_1 : decode cX0_struckOften 1 = .ok (.istore_n 3, 1) := by decide +kernel
theorem dX0_struckOften_2 : decode cX0_struckOften 2 = .ok (.iconst 0, 1) := by decide +kernel
theorem dX0_struckOften_3 : decode cX0_struckOften 3 = .ok (.istore 4, 2) := by decide +kernel
theorem dX0_struckOften_5 : decode cX0_struckOften 5 = .ok (.iload 4, 2) := by decide +kernel
theorem dX0_struckOften_7 : decode cX0_struckOften 7 = .ok (.iload_n 2, 1) := by decide +kernel
theorem dX0_struckOften_8 : decode cX0_struckOften 8 = .ok (.if_icmp .ge 15, 3) := by decide +kernel
theorem dX0_struckOften_11 : decode cX0_struckOften 11 = .ok (.aload_n 0, 1) := by decide +kernel
theorem dX0_struckOften_12 : decode cX0_struckOften 12 = .ok (.iload_n 3, 1) := by decide +kernel
theorem dX0_struckOften_13 : decode cX0_struckOften 13 = .ok (.invokevirtual 82, 3) := by decide +kernel
theorem dX0_struckOften_16 : decode cX0_struckOften 16 = .ok (.istore_n 3, 1) := by decide +kernel
theorem dX0_struckOften_17 : decode cX0_struckOften 17 = .ok (.iinc 4 1, 3) := by decide +kernel
theorem dX0_struckOften_20 : decode cX0_struckOften 20 = .ok (.goto (-15), 3) := by decide +kernel
theorem dX0_struckOften_23 : decode cX0_struckOften 23 = .ok (.iload_n 3, 1) := by decide +kernel
theorem dX0_struckOften_24 : decode cX0_struckOften 24 = .ok (.ireturn, 1) := by decide +kernel
theorem dX0_findRound_0 : decode cX0_findRound 0 = .ok (.aload_n 0, 1) := by decide +kernel
theorem dX0_findRound_1 : decode cX0_findRound 1 = .ok (.getfield 18, 3) := by decide +kernel
theorem dX0_findRound_4 : decode cX0_findRound 4 = .ok (.iconst (-1), 1) := by decide +kernel
theorem dX0_findRound_5 : decode cX0_findRound 5 = .ok (.invokestatic 33, 3) := by decide +kernel
theorem dX0_findRound_8 : decode cX0_findRound 8 = .ok (.iload_n 1, 1) := by decide +kernel
theorem dX0_findRound_9 : decode cX0_findRound 9 = .ok (.istore_n 2, 1) := by decide +kernel
theorem dX0_findRound_10 : decode cX0_findRound 10 = .ok (.iconst 0, 1) := by decide +kernel
theorem dX0_findRound_11 : decode cX0_findRound 11 = .ok (.istore_n 3, 1) := by decide +kernel
theorem dX0_findRound_12 : decode cX0_findRound 12 = .ok (.iload_n 3, 1) := by decide +kernel
theorem dX0_findRound_13 : decode cX0_findRound 13 = .ok (.sipush 512, 3) := by decide +kernel
theorem dX0_findRound_16 : decode cX0_findRound 16 = .ok (.if_icmp .gt 65, 3) := by decide +kernel
theorem dX0_findRound_19 : decode cX0_findRound 19 = .ok (.iload_n 2, 1) := by decide +kernel
theorem dX0_findRound_20 : decode cX0_findRound 20 = .ok (.ifCond .lt 10, 3) := by decide +kernel
theorem dX0_findRound_23 : decode cX0_findRound 23 = .ok (.iload_n 2, 1) := by decide +kernel
theorem dX0_findRound_24 : decode cX0_findRound 24 = .ok (.sipush 512, 3) := by decide +kernel
theorem dX0_findRound_27 : decode cX0_findRound 27 = .ok (.if_icmp .lt 4, 3) := by decide +kernel
theorem dX0_findRound_30 : decode cX0_findRound 30 = .ok (.return_, 1) := by decide +kernel
theorem dX0_findRound_31 : decode cX0_findRound 31 = .ok (.aload_n 0, 1) := by decide +kernel
theorem dX0_findRound_32 : decode cX0_findRound 32 = .ok (.getfield 18, 3) := by decide +kernel
theorem dX0_findRound_35 : decode cX0_findRound 35 = .ok (.iload_n 2, 1) := by decide +kernel
theorem dX0_findRound_36 : decode cX0_findRound 36 = .ok (.iaload, 1) := by decide +kernel
theorem dX0_findRound_37 : decode cX0_findRound 37 = .ok (.iconst (-1), 1) := by decide +kernel
theorem dX0_findRound_38 : decode cX0_findRound 38 = .ok (.if_icmp .eq 24, 3) := by decide +kernel
theorem dX0_findRound_41 : decode cX0_findRound 41 = .ok (.aload_n 0, 1) := by decide +kernel
theorem dX0_findRound_42 : decode cX0_findRound 42 = .ok (.aload_n 0, 1) := by decide +kernel
theorem dX0_findRound_43 : decode cX0_findRound 43 = .ok (.getfield 18, 3) := by decide +kernel
theorem dX0_findRound_46 : decode cX0_findRound 46 = .ok (.iload_n 2, 1) := by decide +kernel
theorem dX0_findRound_47 : decode cX0_findRound 47 = .ok (.iaload, 1) := by decide +kernel
theorem dX0_findRound_48 : decode cX0_findRound 48 = .ok (.putfield 85, 3) := by decide +kernel
theorem dX0_findRound_51 : decode cX0_findRound 51 = .ok (.aload_n 0, 1) := by decide +kernel
theorem dX0_findRound_52 : decode cX0_findRound 52 = .ok (.iload_n 3, 1) := by decide +kernel
theorem dX0_findRound_53 : decode cX0_findRound 53 = .ok (.aload_n 0, 1) := by decide +kernel
theorem dX0_findRound_54 : decode cX0_findRound 54 = .ok (.getfield 85, 3) := by decide +kernel
theorem dX0_findRound_57 : decode cX0_findRound 57 = .ok (.isub, 1) := by decide +kernel
theorem dX0_findRound_58 : decode cX0_findRound 58 = .ok (.putfield 88, 3) := by decide +kernel
theorem dX0_findRound_61 : decode cX0_findRound 61 = .ok (.return_, 1) := by decide +kernel
theorem dX0_findRound_62 : decode cX0_findRound 62 = .ok (.aload_n 0, 1) := by decide +kernel
theorem dX0_findRound_63 : decode cX0_findRound 63 = .ok (.getfield 18, 3) := by decide +kernel
theorem dX0_findRound_66 : decode cX0_findRound 66 = .ok (.iload_n 2, 1) := by decide +kernel
theorem dX0_findRound_67 : decode cX0_findRound 67 = .ok (.iload_n 3, 1) := by decide +kernel
theorem dX0_findRound_68 : decode cX0_findRound 68 = .ok (.iastore, 1) := by decide +kernel
theorem dX0_findRound_69 : decode cX0_findRound 69 = .ok (.aload_n 0, 1) := by decide +kernel
theorem dX0_findRound_70 : decode cX0_findRound 70 = .ok (.iload_n 2, 1) := by decide +kernel
theorem dX0_findRound_71 : decode cX0_findRound 71 = .ok (.invokevirtual 82, 3) := by decide +kernel
theorem dX0_findRound_74 : decode cX0_findRound 74 = .ok (.istore_n 2, 1) := by decide +kernel
theorem dX0_findRound_75 : decode cX0_findRound 75 = .ok (.iinc 3 1, 3) := by decide +kernel
theorem dX0_findRound_78 : decode cX0_findRound 78 = .ok (.goto (-66), 3) := by decide +kernel
theorem dX0_findRound_81 : decode cX0_findRound 81 = .ok (.return_, 1) := by decide +kernel
theorem dX0_countUnmade_0 : decode cX0_countUnmade 0 = .ok (.aload_n 0, 1) := by decide +kernel
theorem dX0_countUnmade_1 : decode cX0_countUnmade 1 = .ok (.getfield 18, 3) := by decide +kernel
theorem dX0_countUnmade_4 : decode cX0_countUnmade 4 = .ok (.iconst (-1), 1) := by decide +kernel
theorem dX0_countUnmade_5 : decode cX0_countUnmade 5 = .ok (.invokestatic 33, 3) := by decide +kernel
theorem dX0_countUnmade_8 : decode cX0_countUnmade 8 = .ok (.aload_n 0, 1) := by decide +kernel
theorem dX0_countUnmade_9 : decode cX0_countUnmade 9 = .ok (.getfield 21, 3) := by decide +kernel
theorem dX0_countUnmade_12 : decode cX0_countUnmade 12 = .ok (.invokevirtual 91, 3) := by decide +kernel
theorem dX0_countUnmade_15 : decode cX0_countUnmade 15 = .ok (.istore_n 1, 1) := by decide +kernel
theorem dX0_countUnmade_16 : decode cX0_countUnmade 16 = .ok (.iconst 0, 1) := by decide +kernel
theorem dX0_countUnmade_17 : decode cX0_countUnmade 17 = .ok (.istore_n 2, 1) := by decide +kernel
theorem dX0_countUnmade_18 : decode cX0_countUnmade 18 = .ok (.iload_n 2, 1) := by decide +kernel
theorem dX0_countUnmade_19 : decode cX0_countUnmade 19 = .ok (.aload_n 0, 1) := by decide +kernel
theorem dX0_countUnmade_20 : decode cX0_countUnmade 20 = .ok (.getfield 21, 3) := by decide +kernel
theorem dX0_countUnmade_23 : decode cX0_countUnmade 23 = .ok (.invokevirtual 91, 3) := by decide +kernel
theorem dX0_countUnmade_26 : decode cX0_countUnmade 26 = .ok (.if_icmp .ge 46, 3) := by decide +kernel
theorem dX0_countUnmade_29 : decode cX0_countUnmade 29 = .ok (.aload_n 0, 1) := by decide +kernel
theorem dX0_countUnmade_30 : decode cX0_countUnmade 30 = .ok (.iload_n 2, 1) := by decide +kernel
theorem dX0_countUnmade_31 : decode cX0_countUnmade 31 = .ok (.invokevirtual 82, 3) := by decide +kernel
theorem dX0_countUnmade_34 : decode cX0_countUnmade 34 = .ok (.istore_n 3, 1) := by decide +kernel
theorem dX0_countUnmade_35 : decode cX0_countUnmade 35 = .ok (.iload_n 3, 1) := by decide +kernel
theorem dX0_countUnmade_36 : decode cX0_countUnmade 36 = .ok (.ifCond .lt 30, 3) := by decide +kernel
theorem dX0_countUnmade_39 : decode cX0_countUnmade 39 = .ok (.iload_n 3, 1) := by decide +kernel
theorem dX0_countUnmade_40 : decode cX0_countUnmade 40 = .ok (.sipush 512, 3) := by decide +kernel
theorem dX0_countUnmade_43 : decode cX0_countUnmade 43 = .ok (.if_icmp .ge 23, 3) := by decide +kernel
theorem dX0_countUnmade_46 : decode cX0_countUnmade 46 = .ok (.aload_n 0, 1) := by decide +kernel
theorem dX0_countUnmade_47 : decode cX0_countUnmade 47 = .ok (.getfield 18, 3) := by decide +kernel
theorem dX0_countUnmade_50 : decode cX0_countUnmade 50 = .ok (.iload_n 3, 1) := by decide +kernel
theorem dX0_countUnmade_51 : decode cX0_countUnmade 51 = .ok (.iaload, 1) := by decide +kernel
theorem dX0_countUnmade_52 : decode cX0_countUnmade 52 = .ok (.iconst (-1), 1) := by decide +kernel
theorem dX0_countUnmade_53 : decode cX0_countUnmade 53 = .ok (.if_icmp .ne 13, 3) := by decide +kernel
theorem dX0_countUnmade_56 : decode cX0_countUnmade 56 = .ok (.aload_n 0, 1) := by decide +kernel
theorem dX0_countUnmade_57 : decode cX0_countUnmade 57 = .ok (.getfield 18, 3) := by decide +kernel
theorem dX0_countUnmade_60 : decode cX0_countUnmade 60 = .ok (.iload_n 3, 1) := by decide +kernel
theorem dX0_countUnmade_61 : decode cX0_countUnmade 61 = .ok (.iload_n 2, 1) := by decide +kernel
theorem dX0_countUnmade_62 : decode cX0_countUnmade 62 = .ok (.iastore, 1) := by decide +kernel
theorem dX0_countUnmade_63 : decode cX0_countUnmade 63 = .ok (.iinc 1 (-1), 3) := by decide +kernel
theorem dX0_countUnmade_66 : decode cX0_countUnmade 66 = .ok (.iinc 2 1, 3) := by decide +kernel
theorem dX0_countUnmade_69 : decode cX0_countUnmade 69 = .ok (.goto (-51), 3) := by decide +kernel
theorem dX0_countUnmade_72 : decode cX0_countUnmade 72 = .ok (.iload_n 1, 1) := by decide +kernel
theorem dX0_countUnmade_73 : decode cX0_countUnmade 73 = .ok (.ireturn, 1) := by decide +kernel
theorem dX0_isLitForEver_0 : decode cX0_isLitForEver 0 = .ok (.iload_n 1, 1) := by decide +kernel
theorem dX0_isLitForEver_1 : decode cX0_isLitForEver 1 = .ok (.istore_n 3, 1) := by decide +kernel
theorem dX0_isLitForEver_2 : decode cX0_isLitForEver 2 = .ok (.iload_n 1, 1) := by decide +kernel
theorem dX0_isLitForEver_3 : decode cX0_isLitForEver 3 = .ok (.istore 4, 2) := by decide +kernel
theorem dX0_isLitForEver_5 : decode cX0_isLitForEver 5 = .ok (.iconst 1, 1) := by decide +kernel
theorem dX0_isLitForEver_6 : decode cX0_isLitForEver 6 = .ok (.istore 5, 2) := by decide +kernel
theorem dX0_isLitForEver_8 : decode cX0_isLitForEver 8 = .ok (.iconst 1, 1) := by decide +kernel
theorem dX0_isLitForEver_9 : decode cX0_isLitForEver 9 = .ok (.istore 6, 2) := by decide +kernel
theorem dX0_isLitForEver_11 : decode cX0_isLitForEver 11 = .ok (.iload 6, 2) := by decide +kernel
theorem dX0_isLitForEver_13 : decode cX0_isLitForEver 13 = .ok (.sipush 512, 3) := by decide +kernel
theorem dX0_isLitForEver_16 : decode cX0_isLitForEver 16 = .ok (.if_icmp .gt 48, 3) := by decide +kernel
theorem dX0_isLitForEver_19 : decode cX0_isLitForEver 19 = .ok (.iload_n 3, 1) := by decide +kernel
theorem dX0_isLitForEver_20 : decode cX0_isLitForEver 20 = .ok (.iload_n 2, 1) := by decide +kernel
theorem dX0_isLitForEver_21 : decode cX0_isLitForEver 21 = .ok (.iand, 1) := by decide +kernel
theorem dX0_isLitForEver_22 : decode cX0_isLitForEver 22 = .ok (.iload_n 2, 1) := by decide +kernel
theorem dX0_isLitForEver_23 : decode cX0_isLitForEver 23 = .ok (.if_icmp .eq 5, 3) := by decide +kernel
theorem dX0_isLitForEver_26 : decode cX0_isLitForEver 26 = .ok (.iconst 0, 1) := by decide +kernel
theorem dX0_isLitForEver_27 : decode cX0_isLitForEver 27 = .ok (.ireturn, 1) := by decide +kernel
theorem dX0_isLitForEver_28 : decode cX0_isLitForEver 28 = .ok (.aload_n 0, 1) := by decide +kernel
theorem dX0_isLitForEver_29 : decode cX0_isLitForEver 29 = .ok (.iload_n 3, 1) := by decide +kernel
theorem dX0_isLitForEver_30 : decode cX0_isLitForEver 30 = .ok (.invokevirtual 82, 3) := by decide +kernel
theorem dX0_isLitForEver_33 : decode cX0_isLitForEver 33 = .ok (.istore_n 3, 1) := by decide +kernel
theorem dX0_isLitForEver_34 : decode cX0_isLitForEver 34 = .ok (.iload_n 3, 1) := by decide +kernel
theorem dX0_isLitForEver_35 : decode cX0_isLitForEver 35 = .ok (.iload 4, 2) := by decide +kernel
theorem dX0_isLitForEver_37 : decode cX0_isLitForEver 37 = .ok (.if_icmp .ne 5, 3) := by decide +kernel
theorem dX0_isLitForEver_40 : decode cX0_isLitForEver 40 = .ok (.iconst 1, 1) := by decide +kernel
theorem dX0_isLitForEver_41 : decode cX0_isLitForEver 41 = .ok (.ireturn, 1) := by decide +kernel
theorem dX0_isLitForEver_42 : decode cX0_isLitForEver 42 = .ok (.iload 6, 2) := by decide +kernel
theorem dX0_isLitForEver_44 : decode cX0_isLitForEver 44 = .ok (.iload 5, 2) := by decide +kernel
theorem dX0_isLitForEver_46 : decode cX0_isLitForEver 46 = .ok (.if_icmp .ne 12, 3) := by decide +kernel
theorem dX0_isLitForEver_49 : decode cX0_isLitForEver 49 = .ok (.iload_n 3, 1) := by decide +kernel
theorem dX0_isLitForEver_50 : decode cX0_isLitForEver 50 = .ok (.istore 4, 2) := by decide +kernel
theorem dX0_isLitForEver_52 : decode cX0_isLitForEver 52 = .ok (.iconst 2, 1) := by decide +kernel
theorem dX0_isLitForEver_53 : decode cX0_isLitForEver 53 = .ok (.iload 6, 2) := by decide +kernel
theorem dX0_isLitForEver_55 : decode cX0_isLitForEver 55 = .ok (.imul, 1) := by decide +kernel
theorem dX0_isLitForEver_56 : decode cX0_isLitForEver 56 = .ok (.istore 5, 2) := by decide +kernel
theorem dX0_isLitForEver_58 : decode cX0_isLitForEver 58 = .ok (.iinc 6 1, 3) := by decide +kernel
theorem dX0_isLitForEver_61 : decode cX0_isLitForEver 61 = .ok (.goto (-50), 3) := by decide +kernel
theorem dX0_isLitForEver_64 : decode cX0_isLitForEver 64 = .ok (.iconst 1, 1) := by decide +kernel
theorem dX0_isLitForEver_65 : decode cX0_isLitForEver 65 = .ok (.ireturn, 1) := by decide +kernel
theorem dX1_init_0 : decode cX1_init 0 = .ok (.aload_n 0, 1) := by decide +kernel
theorem dX1_init_1 : decode cX1_init 1 = .ok (.invokespecial 3, 3) := by decide +kernel
theorem dX1_init_4 : decode cX1_init 4 = .ok (.aload_n 0, 1) := by decide +kernel
theorem dX1_init_5 : decode cX1_init 5 = .ok (.bipush 9, 2) := by decide +kernel
theorem dX1_init_7 : decode cX1_init 7 = .ok (.newarray .int, 2) := by decide +kernel
theorem dX1_init_9 : decode cX1_init 9 = .ok (.putfield 9, 3) := by decide +kernel
theorem dX1_init_12 : decode cX1_init 12 = .ok (.aload_n 0, 1) := by decide +kernel
theorem dX1_init_13 : decode cX1_init 13 = .ok (.aload_n 1, 1) := by decide +kernel
theorem dX1_init_14 : decode cX1_init 14 = .ok (.putfield 15, 3) := by decide +kernel
theorem dX1_init_17 : decode cX1_init 17 = .ok (.aload_n 0, 1) := by decide +kernel
theorem dX1_init_18 : decode cX1_init 18 = .ok (.aload_n 2, 1) := by decide +kernel
theorem dX1_init_19 : decode cX1_init 19 = .ok (.putfield 19, 3) := by decide +kernel
theorem dX1_init_22 : decode cX1_init 22 = .ok (.return_, 1) := by decide +kernel
theorem dX1_findNone_0 : decode cX1_findNone 0 = .ok (.aload_n 0, 1) := by decide +kernel
theorem dX1_findNone_1 : decode cX1_findNone 1 = .ok (.iconst 3, 1) := by decide +kernel
theorem dX1_findNone_2 : decode cX1_findNone 2 = .ok (.putfield 23, 3) := by decide +kernel
theorem dX1_findNone_5 : decode cX1_findNone 5 = .ok (.aload_n 0, 1) := by decide +kernel
theorem dX1_findNone_6 : decode cX1_findNone 6 = .ok (.iconst 0, 1) := by decide +kernel
theorem dX1_findNone_7 : decode cX1_findNone 7 = .ok (.putfield 27, 3) := by decide +kernel
theorem dX1_findNone_10 : decode cX1_findNone 10 = .ok (.aload_n 0, 1) := by decide +kernel
theorem dX1_findNone_11 : decode cX1_findNone 11 = .ok (.bipush (-9), 2) := by decide +kernel
theorem dX1_findNone_13 : decode cX1_findNone 13 = .ok (.putfield 30, 3) := by decide +kernel
theorem dX1_findNone_16 : decode cX1_findNone 16 = .ok (.return_, 1) := by decide +kernel
theorem dX1_findLit_0 : decode cX1_findLit 0 = .ok (.aload_n 0, 1) := by decide +kernel
theorem dX1_findLit_1 : decode cX1_findLit 1 = .ok (.invokevirtual 33, 3) := by decide +kernel
theorem dX1_findLit_4 : decode cX1_findLit 4 = .ok (.iconst 0, 1) := by decide +kernel
theorem dX1_findLit_5 : decode cX1_findLit 5 = .ok (.istore 4, 2) := by decide +kernel
theorem dX1_findLit_7 : decode cX1_findLit 7 = .ok (.iload 4, 2) := by decide +kernel
theorem dX1_findLit_9 : decode cX1_findLit 9 = .ok (.aload_n 0, 1) := by decide +kernel
theorem dX1_findLit_10 : decode cX1_findLit 10 = .ok (.getfield 15, 3) := by decide +kernel
theorem dX1_findLit_13 : decode cX1_findLit 13 = .ok (.invokevirtual 36, 3) := by decide +kernel
theorem dX1_findLit_16 : decode cX1_findLit 16 = .ok (.if_icmp .ge 91, 3) := by decide +kernel
theorem dX1_findLit_19 : decode cX1_findLit 19 = .ok (.iload 4, 2) := by decide +kernel
theorem dX1_findLit_21 : decode cX1_findLit 21 = .ok (.invokestatic 42, 3) := by decide +kernel
theorem dX1_findLit_24 : decode cX1_findLit 24 = .ok (.istore 5, 2) := by decide +kernel
theorem dX1_findLit_26 : decode cX1_findLit 26 = .ok (.iload 5, 2) := by decide +kernel
theorem dX1_findLit_28 : decode cX1_findLit 28 = .ok (.aload_n 0, 1) := by decide +kernel
theorem dX1_findLit_29 : decode cX1_findLit 29 = .ok (.getfield 23, 3) := by decide +kernel
theorem dX1_findLit_32 : decode cX1_findLit 32 = .ok (.if_icmp .gt 69, 3) := by decide +kernel
theorem dX1_findLit_35 : decode cX1_findLit 35 = .ok (.aload_n 0, 1) := by decide +kernel
theorem dX1_findLit_36 : decode cX1_findLit 36 = .ok (.getfield 19, 3) := by decide +kernel
theorem dX1_findLit_39 : decode cX1_findLit 39 = .ok (.aload_n 0, 1) := by decide +kernel
theorem dX1_findLit_40 : decode cX1_findLit 40 = .ok (.getfield 19, 3) := by decide +kernel
theorem dX1_findLit_43 : decode cX1_findLit 43 = .ok (.iload_n 1, 1) := by decide +kernel
theorem dX1_findLit_44 : decode cX1_findLit 44 = .ok (.iload 4, 2) := by decide +kernel
theorem dX1_findLit_46 : decode cX1_findLit 46 = .ok (.ixor, 1) := by decide +kernel
theorem dX1_findLit_47 : decode cX1_findLit 47 = .ok (.iload_n 3, 1) := by decide +kernel
theorem dX1_findLit_48 : decode cX1_findLit 48 = .ok (.invokevirtual 48, 3) := by decide +kernel
theorem dX1_findLit_51 : decode cX1_findLit 51 = .ok (.iload_n 2, 1) := by decide +kernel
theorem dX1_findLit_52 : decode cX1_findLit 52 = .ok (.invokevirtual 54, 3) := by decide +kernel
theorem dX1_findLit_55 : decode cX1_findLit 55 = .ok (.ifCond .eq 46, 3) := by decide +kernel
theorem dX1_findLit_58 : decode cX1_findLit 58 = .ok (.aload_n 0, 1) := by decide +kernel
theorem dX1_findLit_59 : decode cX1_findLit 59 = .ok (.getfield 27, 3) := by decide +kernel
theorem dX1_findLit_62 : decode cX1_findLit 62 = .ok (.ifCond .eq 12, 3) := by decide +kernel
theorem dX1_findLit_65 : decode cX1_findLit 65 = .ok (.iload 5, 2) := by decide +kernel
theorem dX1_findLit_67 : decode cX1_findLit 67 = .ok (.aload_n 0, 1) := by decide +kernel
theorem dX1_findLit_68 : decode cX1_findLit 68 = .ok (.getfield 23, 3) := by decide +kernel
theorem dX1_findLit_71 : decode cX1_findLit 71 = .ok (.if_icmp .ge 20, 3) := by decide +kernel
theorem dX1_findLit_74 : decode cX1_findLit 74 = .ok (.aload_n 0, 1) := by decide +kernel
theorem dX1_findLit_75 : decode cX1_findLit 75 = .ok (.iload 5, 2) := by decide +kernel
theorem dX1_findLit_77 : decode cX1_findLit 77 = .ok (.putfield 23, 3) := by decide +kernel
theorem dX1_findLit_80 : decode cX1_findLit 80 = .ok (.aload_n 0, 1) := by decide +kernel
theorem dX1_findLit_81 : decode cX1_findLit 81 = .ok (.iconst 0, 1) := by decide +kernel
theorem dX1_findLit_82 : decode cX1_findLit 82 = .ok (.putfield 27, 3) := by decide +kernel
theorem dX1_findLit_85 : decode cX1_findLit 85 = .ok (.aload_n 0, 1) := by decide +kernel
theorem dX1_findLit_86 : decode cX1_findLit 86 = .ok (.iload 4, 2) := by decide +kernel
theorem dX1_findLit_88 : decode cX1_findLit 88 = .ok (.putfield 30, 3) := by decide +kernel
theorem dX1_findLit_91 : decode cX1_findLit 91 = .ok (.aload_n 0, 1) := by decide +kernel
theorem dX1_findLit_92 : decode cX1_findLit 92 = .ok (.dup, 1) := by decide +kernel
theorem dX1_findLit_93 : decode cX1_findLit 93 = .ok (.getfield 27, 3) := by decide +kernel
theorem dX1_findLit_96 : decode cX1_findLit 96 = .ok (.iconst 1, 1) := by decide +kernel
theorem dX1_findLit_97 : decode cX1_findLit 97 = .ok (.iadd, 1) := by decide +kernel
theorem dX1_findLit_98 : decode cX1_findLit 98 = .ok (.putfield 27, 3) := by decide +kernel
theorem dX1_findLit_101 : decode cX1_findLit 101 = .ok (.iinc 4 1, 3) := by decide +kernel
theorem dX1_findLit_104 : decode cX1_findLit 104 = .ok (.goto (-97), 3) := by decide +kernel
theorem dX1_findLit_107 : decode cX1_findLit 107 = .ok (.return_, 1) := by decide +kernel
theorem dX1_findWho_0 : decode cX1_findWho 0 = .ok (.aload_n 0, 1) := by decide +kernel
theorem dX1_findWho_1 : decode cX1_findWho 1 = .ok (.invokevirtual 33, 3) := by decide +kernel
theorem dX1_findWho_4 : decode cX1_findWho 4 = .ok (.iconst 0, 1) := by decide +kernel
theorem dX1_findWho_5 : decode cX1_findWho 5 = .ok (.istore 4, 2) := by decide +kernel
theorem dX1_findWho_7 : decode cX1_findWho 7 = .ok (.iload 4, 2) := by decide +kernel
theorem dX1_findWho_9 : decode cX1_findWho 9 = .ok (.aload_n 0, 1) := by decide +kernel
theorem dX1_findWho_10 : decode cX1_findWho 10 = .ok (.getfield 15, 3) := by decide +kernel
theorem dX1_findWho_13 : decode cX1_findWho 13 = .ok (.invokevirtual 36, 3) := by decide +kernel
theorem dX1_findWho_16 : decode cX1_findWho 16 = .ok (.if_icmp .ge 57, 3) := by decide +kernel
theorem dX1_findWho_19 : decode cX1_findWho 19 = .ok (.iload 4, 2) := by decide +kernel
theorem dX1_findWho_21 : decode cX1_findWho 21 = .ok (.invokestatic 42, 3) := by decide +kernel
theorem dX1_findWho_24 : decode cX1_findWho 24 = .ok (.iconst 3, 1) := by decide +kernel
theorem dX1_findWho_25 : decode cX1_findWho 25 = .ok (.if_icmp .gt 42, 3) := by decide +kernel
theorem dX1_findWho_28 : decode cX1_findWho 28 = .ok (.aload_n 0, 1) := by decide +kernel
theorem dX1_findWho_29 : decode cX1_findWho 29 = .ok (.getfield 19, 3) := by decide +kernel
theorem dX1_findWho_32 : decode cX1_findWho 32 = .ok (.iload_n 1, 1) := by decide +kernel
theorem dX1_findWho_33 : decode cX1_findWho 33 = .ok (.iload 4, 2) := by decide +kernel
theorem dX1_findWho_35 : decode cX1_findWho 35 = .ok (.ixor, 1) := by decide +kernel
theorem dX1_findWho_36 : decode cX1_findWho 36 = .ok (.iload_n 2, 1) := by decide +kernel
theorem dX1_findWho_37 : decode cX1_findWho 37 = .ok (.invokevirtual 48, 3) := by decide +kernel
theorem dX1_findWho_40 : decode cX1_findWho 40 = .ok (.iload_n 3, 1) := by decide +kernel
theorem dX1_findWho_41 : decode cX1_findWho 41 = .ok (.if_icmp .ne 26, 3) := by decide +kernel
theorem dX1_findWho_44 : decode cX1_findWho 44 = .ok (.aload_n 0, 1) := by decide +kernel
theorem dX1_findWho_45 : decode cX1_findWho 45 = .ok (.getfield 27, 3) := by decide +kernel
theorem dX1_findWho_48 : decode cX1_findWho 48 = .ok (.ifCond .ne 9, 3) := by decide +kernel
theorem dX1_findWho_51 : decode cX1_findWho 51 = .ok (.aload_n 0, 1) := by decide +kernel
theorem dX1_findWho_52 : decode cX1_findWho 52 = .ok (.iload 4, 2) := by decide +kernel
theorem dX1_findWho_54 : decode cX1_findWho 54 = .ok (.putfield 30, 3) := by decide +kernel
theorem dX1_findWho_57 : decode cX1_findWho 57 = .ok (.aload_n 0, 1) := by decide +kernel
theorem dX1_findWho_58 : decode cX1_findWho 58 = .ok (.dup, 1) := by decide +kernel
theorem dX1_findWho_59 : decode cX1_findWho 59 = .ok (.getfield 27, 3) := by decide +kernel
theorem dX1_findWho_62 : decode cX1_findWho 62 = .ok (.iconst 1, 1) := by decide +kernel
theorem dX1_findWho_63 : decode cX1_findWho 63 = .ok (.iadd, 1) := by decide +kernel
theorem dX1_findWho_64 : decode cX1_findWho 64 = .ok (.putfield 27, 3) := by decide +kernel
theorem dX1_findWho_67 : decode cX1_findWho 67 = .ok (.iinc 4 1, 3) := by decide +kernel
theorem dX1_findWho_70 : decode cX1_findWho 70 = .ok (.goto (-63), 3) := by decide +kernel
theorem dX1_findWho_73 : decode cX1_findWho 73 = .ok (.return_, 1) := by decide +kernel
theorem dX1_soonest_0 : decode cX1_soonest 0 = .ok (.iload_n 1, 1) := by decide +kernel
theorem dX1_soonest_1 : decode cX1_soonest 1 = .ok (.istore 4, 2) := by decide +kernel
theorem dX1_soonest_3 : decode cX1_soonest 3 = .ok (.iconst 1, 1) := by decide +kernel
theorem dX1_soonest_4 : decode cX1_soonest 4 = .ok (.iload_n 2, 1) := by decide +kernel
theorem dX1_soonest_5 : decode cX1_soonest 5 = .ok (.ishl, 1) := by decide +kernel
theorem dX1_soonest_6 : decode cX1_soonest 6 = .ok (.iload 4, 2) := by decide +kernel
theorem dX1_soonest_8 : decode cX1_soonest 8 = .ok (.iconst (-1), 1) := by decide +kernel
theorem dX1_soonest_9 : decode cX1_soonest 9 = .ok (.ixor, 1) := by decide +kernel
theorem dX1_soonest_10 : decode cX1_soonest 10 = .ok (.iand, 1) := by decide +kernel
theorem dX1_soonest_11 : decode cX1_soonest 11 = .ok (.istore 5, 2) := by decide +kernel
theorem dX1_soonest_13 : decode cX1_soonest 13 = .ok (.iconst 0, 1) := by decide +kernel
theorem dX1_soonest_14 : decode cX1_soonest 14 = .ok (.istore 6, 2) := by decide +kernel
theorem dX1_soonest_16 : decode cX1_soonest 16 = .ok (.iload 6, 2) := by decide +kernel
theorem dX1_soonest_18 : decode cX1_soonest 18 = .ok (.bipush 99, 2) := by decide +kernel
theorem dX1_soonest_20 : decode cX1_soonest 20 = .ok (.if_icmp .gt 46, 3) := by decide +kernel
theorem dX1_soonest_23 : decode cX1_soonest 23 = .ok (.iload 5, 2) := by decide +kernel
theorem dX1_soonest_25 : decode cX1_soonest 25 = .ok (.iload_n 3, 1) := by decide +kernel
theorem dX1_soonest_26 : decode cX1_soonest 26 = .ok (.ishr, 1) := by decide +kernel
theorem dX1_soonest_27 : decode cX1_soonest 27 = .ok (.iconst 1, 1) := by decide +kernel
theorem dX1_soonest_28 : decode cX1_soonest 28 = .ok (.iand, 1) := by decide +kernel
theorem dX1_soonest_29 : decode cX1_soonest 29 = .ok (.iconst 1, 1) := by decide +kernel
theorem dX1_soonest_30 : decode cX1_soonest 30 = .ok (.if_icmp .ne 6, 3) := by decide +kernel
theorem dX1_soonest_33 : decode cX1_soonest 33 = .ok (.iload 6, 2) := by decide +kernel
theorem dX1_soonest_35 : decode cX1_soonest 35 = .ok (.ireturn, 1) := by decide +kernel
theorem dX1_soonest_36 : decode cX1_soonest 36 = .ok (.aload_n 0, 1) := by decide +kernel
theorem dX1_soonest_37 : decode cX1_soonest 37 = .ok (.getfield 19, 3) := by decide +kernel
theorem dX1_soonest_40 : decode cX1_soonest 40 = .ok (.iload 4, 2) := by decide +kernel
theorem dX1_soonest_42 : decode cX1_soonest 42 = .ok (.invokevirtual 58, 3) := by decide +kernel
theorem dX1_soonest_45 : decode cX1_soonest 45 = .ok (.istore 4, 2) := by decide +kernel
theorem dX1_soonest_47 : decode cX1_soonest 47 = .ok (.aload_n 0, 1) := by decide +kernel
theorem dX1_soonest_48 : decode cX1_soonest 48 = .ok (.iload 5, 2) := by decide +kernel
theorem dX1_soonest_50 : decode cX1_soonest 50 = .ok (.invokevirtual 61, 3) := by decide +kernel
theorem dX1_soonest_53 : decode cX1_soonest 53 = .ok (.iload 4, 2) := by decide +kernel
theorem dX1_soonest_55 : decode cX1_soonest 55 = .ok (.iconst (-1), 1) := by decide +kernel
theorem dX1_soonest_56 : decode cX1_soonest 56 = .ok (.ixor, 1) := by decide +kernel
theorem dX1_soonest_57 : decode cX1_soonest 57 = .ok (.iand, 1) := by decide +kernel
theorem dX1_soonest_58 : decode cX1_soonest 58 = .ok (.istore 5, 2) := by decide +kernel
theorem dX1_soonest_60 : decode cX1_soonest 60 = .ok (.iinc 6 1, 3) := by decide +kernel
theorem dX1_soonest_63 : decode cX1_soonest 63 = .ok (.goto (-47), 3) := by decide +kernel
theorem dX1_soonest_66 : decode cX1_soonest 66 = .ok (.bipush (-9), 2) := by decide +kernel
theorem dX1_soonest_68 : decode cX1_soonest 68 = .ok (.ireturn, 1) := by decide +kernel
theorem dX1_withRoads_0 : decode cX1_withRoads 0 = .ok (.iload_n 1, 1) := by decide +kernel
theorem dX1_withRoads_1 : decode cX1_withRoads 1 = .ok (.istore_n 2, 1) := by decide +kernel
theorem dX1_withRoads_2 : decode cX1_withRoads 2 = .ok (.iconst 0, 1) := by decide +kernel
theorem dX1_withRoads_3 : decode cX1_withRoads 3 = .ok (.istore_n 3, 1) := by decide +kernel
theorem dX1_withRoads_4 : decode cX1_withRoads 4 = .ok (.iload_n 3, 1) := by decide +kernel
theorem dX1_withRoads_5 : decode cX1_withRoads 5 = .ok (.aload_n 0, 1) := by decide +kernel
theorem dX1_withRoads_6 : decode cX1_withRoads 6 = .ok (.getfield 15, 3) := by decide +kernel
theorem dX1_withRoads_9 : decode cX1_withRoads 9 = .ok (.getfield 64, 3) := by decide +kernel
theorem dX1_withRoads_12 : decode cX1_withRoads 12 = .ok (.if_icmp .ge 30, 3) := by decide +kernel
theorem dX1_withRoads_15 : decode cX1_withRoads 15 = .ok (.iload_n 1, 1) := by decide +kernel
theorem dX1_withRoads_16 : decode cX1_withRoads 16 = .ok (.iload_n 3, 1) := by decide +kernel
theorem dX1_withRoads_17 : decode cX1_withRoads 17 = .ok (.ishr, 1) := by decide +kernel
theorem dX1_withRoads_18 : decode cX1_withRoads 18 = .ok (.iconst 1, 1) := by decide +kernel
theorem dX1_withRoads_19 : decode cX1_withRoads 19 = .ok (.iand, 1) := by decide +kernel
theorem dX1_withRoads_20 : decode cX1_withRoads 20 = .ok (.iconst 1, 1) := by decide +kernel
theorem dX1_withRoads_21 : decode cX1_withRoads 21 = .ok (.if_icmp .ne 15, 3) := by decide +kernel
theorem dX1_withRoads_24 : decode cX1_withRoads 24 = .ok (.iload_n 2, 1) := by decide +kernel
theorem dX1_withRoads_25 : decode cX1_withRoads 25 = .ok (.aload_n 0, 1) := by decide +kernel
theorem dX1_withRoads_26 : decode cX1_withRoads 26 = .ok (.getfield 15, 3) := by decide +kernel
theorem dX1_withRoads_29 : decode cX1_withRoads 29 = .ok (.getfield 67, 3) := by decide +kernel
theorem dX1_withRoads_32 : decode cX1_withRoads 32 = .ok (.iload_n 3, 1) := by decide +kernel
theorem dX1_withRoads_33 : decode cX1_withRoads 33 = .ok (.iaload, 1) := by decide +kernel
theorem dX1_withRoads_34 : decode cX1_withRoads 34 = .ok (.ior, 1) := by decide +kernel
theorem dX1_withRoads_35 : decode cX1_withRoads 35 = .ok (.istore_n 2, 1) := by decide +kernel
theorem dX1_withRoads_36 : decode cX1_withRoads 36 = .ok (.iinc 3 1, 3) := by decide +kernel
theorem dX1_withRoads_39 : decode cX1_withRoads 39 = .ok (.goto (-35), 3) := by decide +kernel
theorem dX1_withRoads_42 : decode cX1_withRoads 42 = .ok (.iload_n 2, 1) := by decide +kernel
theorem dX1_withRoads_43 : decode cX1_withRoads 43 = .ok (.ireturn, 1) := by decide +kernel
theorem dX1_countFlickers_0 : decode cX1_countFlickers 0 = .ok (.aload_n 0, 1) := by decide +kernel
theorem dX1_countFlickers_1 : decode cX1_countFlickers 1 = .ok (.getfield 9, 3) := by decide +kernel
theorem dX1_countFlickers_4 : decode cX1_countFlickers 4 = .ok (.iconst 0, 1) := by decide +kernel
theorem dX1_countFlickers_5 : decode cX1_countFlickers 5 = .ok (.invokestatic 70, 3) := by decide +kernel
theorem dX1_countFlickers_8 : decode cX1_countFlickers 8 = .ok (.iload_n 1, 1) := by decide +kernel
theorem dX1_countFlickers_9 : decode cX1_countFlickers 9 = .ok (.istore_n 3, 1) := by decide +kernel
theorem dX1_countFlickers_10 : decode cX1_countFlickers 10 = .ok (.iconst 0, 1) := by decide +kernel
theorem dX1_countFlickers_11 : decode cX1_countFlickers 11 = .ok (.istore 4, 2) := by decide +kernel
theorem dX1_countFlickers_13 : decode cX1_countFlickers 13 = .ok (.iload 4, 2) := by decide +kernel
theorem dX1_countFlickers_15 : decode cX1_countFlickers 15 = .ok (.iload_n 2, 1) := by decide +kernel
theorem dX1_countFlickers_16 : decode cX1_countFlickers 16 = .ok (.if_icmp .ge 62, 3) := by decide +kernel
theorem dX1_countFlickers_19 : decode cX1_countFlickers 19 = .ok (.aload_n 0, 1) := by decide +kernel
theorem dX1_countFlickers_20 : decode cX1_countFlickers 20 = .ok (.getfield 19, 3) := by decide +kernel
theorem dX1_countFlickers_23 : decode cX1_countFlickers 23 = .ok (.iload_n 3, 1) := by decide +kernel
theorem dX1_countFlickers_24 : decode cX1_countFlickers 24 = .ok (.invokevirtual 58, 3) := by decide +kernel
theorem dX1_countFlickers_27 : decode cX1_countFlickers 27 = .ok (.istore 5, 2) := by decide +kernel
theorem dX1_countFlickers_29 : decode cX1_countFlickers 29 = .ok (.iconst 0, 1) := by decide +kernel
theorem dX1_countFlickers_30 : decode cX1_countFlickers 30 = .ok (.istore 6, 2) := by decide +kernel
theorem dX1_countFlickers_32 : decode cX1_countFlickers 32 = .ok (.iload 6, 2) := by decide +kernel
theorem dX1_countFlickers_34 : decode cX1_countFlickers 34 = .ok (.aload_n 0, 1) := by decide +kernel
theorem dX1_countFlickers_35 : decode cX1_countFlickers 35 = .ok (.getfield 15, 3) := by decide +kernel
theorem dX1_countFlickers_38 : decode cX1_countFlickers 38 = .ok (.getfield 64, 3) := by decide +kernel
theorem dX1_countFlickers_41 : decode cX1_countFlickers 41 = .ok (.if_icmp .ge 28, 3) := by decide +kernel
theorem dX1_countFlickers_44 : decode cX1_countFlickers 44 = .ok (.aload_n 0, 1) := by decide +kernel
theorem dX1_countFlickers_45 : decode cX1_countFlickers 45 = .ok (.getfield 9, 3) := by decide +kernel
theorem dX1_countFlickers_48 : decode cX1_countFlickers 48 = .ok (.iload 6, 2) := by decide +kernel
theorem dX1_countFlickers_50 : decode cX1_countFlickers 50 = .ok (.dup2, 1) := by decide +kernel
theorem dX1_countFlickers_51 : decode cX1_countFlickers 51 = .ok (.iaload, 1) := by decide +kernel
theorem dX1_countFlickers_52 : decode cX1_countFlickers 52 = .ok (.iload_n 3, 1) := by decide +kernel
theorem dX1_countFlickers_53 : decode cX1_countFlickers 53 = .ok (.iload 5, 2) := by decide +kernel
theorem dX1_countFlickers_55 : decode cX1_countFlickers 55 = .ok (.ixor, 1) := by decide +kernel
theorem dX1_countFlickers_56 : decode cX1_countFlickers 56 = .ok (.iload 6, 2) := by decide +kernel
theorem dX1_countFlickers_58 : decode cX1_countFlickers 58 = .ok (.ishr, 1) := by decide +kernel
theorem dX1_countFlickers_59 : decode cX1_countFlickers 59 = .ok (.iconst 1, 1) := by decide +kernel
theorem dX1_countFlickers_60 : decode cX1_countFlickers 60 = .ok (.iand, 1) := by decide +kernel
theorem dX1_countFlickers_61 : decode cX1_countFlickers 61 = .ok (.iadd, 1) := by decide +kernel
theorem dX1_countFlickers_62 : decode cX1_countFlickers 62 = .ok (.iastore, 1) := by decide +kernel
theorem dX1_countFlickers_63 : decode cX1_countFlickers 63 = .ok (.iinc 6 1, 3) := by decide +kernel
theorem dX1_countFlickers_66 : decode cX1_countFlickers 66 = .ok (.goto (-34), 3) := by decide +kernel
theorem dX1_countFlickers_69 : decode cX1_countFlickers 69 = .ok (.iload 5, 2) := by decide +kernel
theorem dX1_countFlickers_71 : decode cX1_countFlickers 71 = .ok (.istore_n 3, 1) := by decide +kernel
theorem dX1_countFlickers_72 : decode cX1_countFlickers 72 = .ok (.iinc 4 1, 3) := by decide +kernel
theorem dX1_countFlickers_75 : decode cX1_countFlickers 75 = .ok (.goto (-62), 3) := by decide +kernel
theorem dX1_countFlickers_78 : decode cX1_countFlickers 78 = .ok (.return_, 1) := by decide +kernel
theorem dX1_mostFlickering_0 : decode cX1_mostFlickering 0 = .ok (.bipush (-9), 2) := by decide +kernel
theorem dX1_mostFlickering_2 : decode cX1_mostFlickering 2 = .ok (.istore_n 1, 1) := by decide +kernel
theorem dX1_mostFlickering_3 : decode cX1_mostFlickering 3 = .ok (.iconst 0, 1) := by decide +kernel
theorem dX1_mostFlickering_4 : decode cX1_mostFlickering 4 = .ok (.istore_n 2, 1) := by decide +kernel
theorem dX1_mostFlickering_5 : decode cX1_mostFlickering 5 = .ok (.iload_n 2, 1) := by decide +kernel
theorem dX1_mostFlickering_6 : decode cX1_mostFlickering 6 = .ok (.aload_n 0, 1) := by decide +kernel
theorem dX1_mostFlickering_7 : decode cX1_mostFlickering 7 = .ok (.getfield 15, 3) := by decide +kernel
theorem dX1_mostFlickering_10 : decode cX1_mostFlickering 10 = .ok (.getfield 64, 3) := by decide +kernel
theorem dX1_mostFlickering_13 : decode cX1_mostFlickering 13 = .ok (.if_icmp .ge 30, 3) := by decide +kernel
theorem dX1_mostFlickering_16 : decode cX1_mostFlickering 16 = .ok (.iload_n 1, 1) := by decide +kernel
theorem dX1_mostFlickering_17 : decode cX1_mostFlickering 17 = .ok (.ifCond .lt 18, 3) := by decide +kernel
theorem dX1_mostFlickering_20 : decode cX1_mostFlickering 20 = .ok (.aload_n 0, 1) := by decide +kernel
theorem dX1_mostFlickering_21 : decode cX1_mostFlickering 21 = .ok (.getfield 9, 3) := by decide +kernel
theorem dX1_mostFlickering_24 : decode cX1_mostFlickering 24 = .ok (.iload_n 2, 1) := by decide +kernel
theorem dX1_mostFlickering_25 : decode cX1_mostFlickering 25 = .ok (.iaload, 1) := by decide +kernel
theorem dX1_mostFlickering_26 : decode cX1_mostFlickering 26 = .ok (.aload_n 0, 1) := by decide +kernel
theorem dX1_mostFlickering_27 : decode cX1_mostFlickering 27 = .ok (.getfield 9, 3) := by decide +kernel
theorem dX1_mostFlickering_30 : decode cX1_mostFlickering 30 = .ok (.iload_n 1, 1) := by decide +kernel
theorem dX1_mostFlickering_31 : decode cX1_mostFlickering 31 = .ok (.iaload, 1) := by decide +kernel
theorem dX1_mostFlickering_32 : decode cX1_mostFlickering 32 = .ok (.if_icmp .le 5, 3) := by decide +kernel
theorem dX1_mostFlickering_35 : decode cX1_mostFlickering 35 = .ok (.iload_n 2, 1) := by decide +kernel
theorem dX1_mostFlickering_36 : decode cX1_mostFlickering 36 = .ok (.istore_n 1, 1) := by decide +kernel
theorem dX1_mostFlickering_37 : decode cX1_mostFlickering 37 = .ok (.iinc 2 1, 3) := by decide +kernel
theorem dX1_mostFlickering_40 : decode cX1_mostFlickering 40 = .ok (.goto (-35), 3) := by decide +kernel
theorem dX1_mostFlickering_43 : decode cX1_mostFlickering 43 = .ok (.iload_n 1, 1) := by decide +kernel
theorem dX1_mostFlickering_44 : decode cX1_mostFlickering 44 = .ok (.ireturn, 1) := by decide +kernel
theorem dX2_init_0 : decode cX2_init 0 = .ok (.aload_n 0, 1) := by decide +kernel
theorem dX2_init_1 : decode cX2_init 1 = .ok (.invokespecial 1, 3) := by decide +kernel
theorem dX2_init_4 : decode cX2_init 4 = .ok (.aload_n 0, 1) := by decide +kernel
theorem dX2_init_5 : decode cX2_init 5 = .ok (.aload_n 1, 1) := by decide +kernel
theorem dX2_init_6 : decode cX2_init 6 = .ok (.putfield 7, 3) := by decide +kernel
theorem dX2_init_9 : decode cX2_init 9 = .ok (.aload_n 0, 1) := by decide +kernel
theorem dX2_init_10 : decode cX2_init 10 = .ok (.aload_n 2, 1) := by decide +kernel
theorem dX2_init_11 : decode cX2_init 11 = .ok (.putfield 13, 3) := by decide +kernel
theorem dX2_init_14 : decode cX2_init 14 = .ok (.return_, 1) := by decide +kernel
theorem dX2_markAs_0 : decode cX2_markAs 0 = .ok (.iload_n 1, 1) := by decide +kernel
theorem dX2_markAs_1 : decode cX2_markAs 1 = .ok (.tableswitch 65 1 5 #[35, 41, 47, 53, 59], 35) := by decide +kernel
theorem dX2_markAs_36 : decode cX2_markAs 36 = .ok (.aload_n 0, 1) := by decide +kernel
theorem dX2_markAs_37 : decode cX2_markAs 37 = .ok (.iload_n 2, 1) := by decide +kernel
theorem dX2_markAs_38 : decode cX2_markAs 38 = .ok (.invokevirtual 17, 3) := by decide +kernel
theorem dX2_markAs_41 : decode cX2_markAs 41 = .ok (.ireturn, 1) := by decide +kernel
theorem dX2_markAs_42 : decode cX2_markAs 42 = .ok (.aload_n 0, 1) := by decide +kernel
theorem dX2_markAs_43 : decode cX2_markAs 43 = .ok (.iload_n 2, 1) := by decide +kernel
theorem dX2_markAs_44 : decode cX2_markAs 44 = .ok (.invokevirtual 21, 3) := by decide +kernel
theorem dX2_markAs_47 : decode cX2_markAs 47 = .ok (.ireturn, 1) := by decide +kernel
theorem dX2_markAs_48 : decode cX2_markAs 48 = .ok (.aload_n 0, 1) := by decide +kernel
theorem dX2_markAs_49 : decode cX2_markAs 49 = .ok (.iload_n 2, 1) := by decide +kernel
theorem dX2_markAs_50 : decode cX2_markAs 50 = .ok (.invokevirtual 24, 3) := by decide +kernel
theorem dX2_markAs_53 : decode cX2_markAs 53 = .ok (.ireturn, 1) := by decide +kernel
theorem dX2_markAs_54 : decode cX2_markAs 54 = .ok (.aload_n 0, 1) := by decide +kernel
theorem dX2_markAs_55 : decode cX2_markAs 55 = .ok (.iload_n 2, 1) := by decide +kernel
theorem dX2_markAs_56 : decode cX2_markAs 56 = .ok (.invokevirtual 27, 3) := by decide +kernel
theorem dX2_markAs_59 : decode cX2_markAs 59 = .ok (.ireturn, 1) := by decide +kernel
theorem dX2_markAs_60 : decode cX2_markAs 60 = .ok (.aload_n 0, 1) := by decide +kernel
theorem dX2_markAs_61 : decode cX2_markAs 61 = .ok (.iload_n 2, 1) := by decide +kernel
theorem dX2_markAs_62 : decode cX2_markAs 62 = .ok (.invokevirtual 30, 3) := by decide +kernel
theorem dX2_markAs_65 : decode cX2_markAs 65 = .ok (.ireturn, 1) := by decide +kernel
theorem dX2_markAs_66 : decode cX2_markAs 66 = .ok (.aload_n 0, 1) := by decide +kernel
theorem dX2_markAs_67 : decode cX2_markAs 67 = .ok (.iload_n 2, 1) := by decide +kernel
theorem dX2_markAs_68 : decode cX2_markAs 68 = .ok (.invokevirtual 33, 3) := by decide +kernel
theorem dX2_markAs_71 : decode cX2_markAs 71 = .ok (.ireturn, 1) := by decide +kernel
theorem dX2_asLamp_0 : decode cX2_asLamp 0 = .ok (.aload_n 0, 1) := by decide +kernel
theorem dX2_asLamp_1 : decode cX2_asLamp 1 = .ok (.dup, 1) := by decide +kernel
theorem dX2_asLamp_2 : decode cX2_asLamp 2 = .ok (.getfield 36, 3) := by decide +kernel
theorem dX2_asLamp_5 : decode cX2_asLamp 5 = .ok (.lconst 1, 1) := by decide +kernel
theorem dX2_asLamp_6 : decode cX2_asLamp 6 = .ok (.ladd, 1) := by decide +kernel
theorem dX2_asLamp_7 : decode cX2_asLamp 7 = .ok (.putfield 36, 3) := by decide +kernel
theorem dX2_asLamp_10 : decode cX2_asLamp 10 = .ok (.aload_n 0, 1) := by decide +kernel
theorem dX2_asLamp_11 : decode cX2_asLamp 11 = .ok (.getfield 13, 3) := by decide +kernel
theorem dX2_asLamp_14 : decode cX2_asLamp 14 = .ok (.getfield 40, 3) := by decide +kernel
theorem dX2_asLamp_17 : decode cX2_asLamp 17 = .ok (.iload_n 1, 1) := by decide +kernel
theorem dX2_asLamp_18 : decode cX2_asLamp 18 = .ok (.ishr, 1) := by decide +kernel
theorem dX2_asLamp_19 : decode cX2_asLamp 19 = .ok (.iconst 1, 1) := by decide +kernel
theorem dX2_asLamp_20 : decode cX2_asLamp 20 = .ok (.iand, 1) := by decide +kernel
theorem dX2_asLamp_21 : decode cX2_asLamp 21 = .ok (.ireturn, 1) := by decide +kernel
theorem dX2_asCorner_0 : decode cX2_asCorner 0 = .ok (.aload_n 0, 1) := by decide +kernel
theorem dX2_asCorner_1 : decode cX2_asCorner 1 = .ok (.dup, 1) := by decide +kernel
theorem dX2_asCorner_2 : decode cX2_asCorner 2 = .ok (.getfield 36, 3) := by decide +kernel
theorem dX2_asCorner_5 : decode cX2_asCorner 5 = .ok (.ldc2_w 46, 3) := by decide +kernel
theorem dX2_asCorner_8 : decode cX2_asCorner 8 = .ok (.ladd, 1) := by decide +kernel
theorem dX2_asCorner_9 : decode cX2_asCorner 9 = .ok (.putfield 36, 3) := by decide +kernel
theorem dX2_asCorner_12 : decode cX2_asCorner 12 = .ok (.aload_n 0, 1) := by decide +kernel
theorem dX2_asCorner_13 : decode cX2_asCorner 13 = .ok (.iload_n 1, 1) := by decide +kernel
theorem dX2_asCorner_14 : decode cX2_asCorner 14 = .ok (.invokevirtual 33, 3) := by decide +kernel
theorem dX2_asCorner_17 : decode cX2_asCorner 17 = .ok (.aload_n 0, 1) := by decide +kernel
theorem dX2_asCorner_18 : decode cX2_asCorner 18 = .ok (.getfield 7, 3) := by decide +kernel
theorem dX2_asCorner_21 : decode cX2_asCorner 21 = .ok (.getfield 48, 3) := by decide +kernel
theorem dX2_asCorner_24 : decode cX2_asCorner 24 = .ok (.iload_n 1, 1) := by decide +kernel
theorem dX2_asCorner_25 : decode cX2_asCorner 25 = .ok (.iaload, 1) := by decide +kernel
theorem dX2_asCorner_26 : decode cX2_asCorner 26 = .ok (.invokestatic 54, 3) := by decide +kernel
theorem dX2_asCorner_29 : decode cX2_asCorner 29 = .ok (.iadd, 1) := by decide +kernel
theorem dX2_asCorner_30 : decode cX2_asCorner 30 = .ok (.ireturn, 1) := by decide +kernel
theorem dX2_asBroken_0 : decode cX2_asBroken 0 = .ok (.aload_n 0, 1) := by decide +kernel
theorem dX2_asBroken_1 : decode cX2_asBroken 1 = .ok (.dup, 1) := by decide +kernel
theorem dX2_asBroken_2 : decode cX2_asBroken 2 = .ok (.getfield 36, 3) := by decide +kernel
theorem dX2_asBroken_5 : decode cX2_asBroken 5 = .ok (.ldc2_w 59, 3) := by decide +kernel
theorem dX2_asBroken_8 : decode cX2_asBroken 8 = .ok (.ladd, 1) := by decide +kernel
theorem dX2_asBroken_9 : decode cX2_asBroken 9 = .ok (.putfield 36, 3) := by decide +kernel
theorem dX2_asBroken_12 : decode cX2_asBroken 12 = .ok (.aload_n 0, 1) := by decide +kernel
theorem dX2_asBroken_13 : decode cX2_asBroken 13 = .ok (.iload_n 1, 1) := by decide +kernel
theorem dX2_asBroken_14 : decode cX2_asBroken 14 = .ok (.invokevirtual 33, 3) := by decide +kernel
theorem dX2_asBroken_17 : decode cX2_asBroken 17 = .ok (.aload_n 0, 1) := by decide +kernel
theorem dX2_asBroken_18 : decode cX2_asBroken 18 = .ok (.getfield 7, 3) := by decide +kernel
theorem dX2_asBroken_21 : decode cX2_asBroken 21 = .ok (.getfield 61, 3) := by decide +kernel
theorem dX2_asBroken_24 : decode cX2_asBroken 24 = .ok (.iload_n 1, 1) := by decide +kernel
theorem dX2_asBroken_25 : decode cX2_asBroken 25 = .ok (.iaload, 1) := by decide +kernel
theorem dX2_asBroken_26 : decode cX2_asBroken 26 = .ok (.isub, 1) := by decide +kernel
theorem dX2_asBroken_27 : decode cX2_asBroken 27 = .ok (.ireturn, 1) := by decide +kernel
theorem dX2_asHarbour_0 : decode cX2_asHarbour 0 = .ok (.aload_n 0, 1) := by decide +kernel
theorem dX2_asHarbour_1 : decode cX2_asHarbour 1 = .ok (.dup, 1) := by decide +kernel
theorem dX2_asHarbour_2 : decode cX2_asHarbour 2 = .ok (.getfield 36, 3) := by decide +kernel
theorem dX2_asHarbour_5 : decode cX2_asHarbour 5 = .ok (.ldc2_w 64, 3) := by decide +kernel
theorem dX2_asHarbour_8 : decode cX2_asHarbour 8 = .ok (.ladd, 1) := by decide +kernel
theorem dX2_asHarbour_9 : decode cX2_asHarbour 9 = .ok (.putfield 36, 3) := by decide +kernel
theorem dX2_asHarbour_12 : decode cX2_asHarbour 12 = .ok (.aload_n 0, 1) := by decide +kernel
theorem dX2_asHarbour_13 : decode cX2_asHarbour 13 = .ok (.iload_n 1, 1) := by decide +kernel
theorem dX2_asHarbour_14 : decode cX2_asHarbour 14 = .ok (.invokevirtual 17, 3) := by decide +kernel
theorem dX2_asHarbour_17 : decode cX2_asHarbour 17 = .ok (.iconst 2, 1) := by decide +kernel
theorem dX2_asHarbour_18 : decode cX2_asHarbour 18 = .ok (.imul, 1) := by decide +kernel
theorem dX2_asHarbour_19 : decode cX2_asHarbour 19 = .ok (.ireturn, 1) := by decide +kernel
theorem dX2_asAlley_0 : decode cX2_asAlley 0 = .ok (.aload_n 0, 1) := by decide +kernel
theorem dX2_asAlley_1 : decode cX2_asAlley 1 = .ok (.dup, 1) := by decide +kernel
theorem dX2_asAlley_2 : decode cX2_asAlley 2 = .ok (.getfield 36, 3) := by decide +kernel
theorem dX2_asAlley_5 : decode cX2_asAlley 5 = .ok (.ldc2_w 66, 3) := by decide +kernel
theorem dX2_asAlley_8 : decode cX2_asAlley 8 = .ok (.ladd, 1) := by decide +kernel
theorem dX2_asAlley_9 : decode cX2_asAlley 9 = .ok (.putfield 36, 3) := by decide +kernel
theorem dX2_asAlley_12 : decode cX2_asAlley 12 = .ok (.aload_n 0, 1) := by decide +kernel
theorem dX2_asAlley_13 : decode cX2_asAlley 13 = .ok (.iload_n 1, 1) := by decide +kernel
theorem dX2_asAlley_14 : decode cX2_asAlley 14 = .ok (.invokevirtual 21, 3) := by decide +kernel
theorem dX2_asAlley_17 : decode cX2_asAlley 17 = .ok (.iload_n 1, 1) := by decide +kernel
theorem dX2_asAlley_18 : decode cX2_asAlley 18 = .ok (.iadd, 1) := by decide +kernel
theorem dX2_asAlley_19 : decode cX2_asAlley 19 = .ok (.ireturn, 1) := by decide +kernel
theorem dX2_asBrides_0 : decode cX2_asBrides 0 = .ok (.aload_n 0, 1) := by decide +kernel
theorem dX2_asBrides_1 : decode cX2_asBrides 1 = .ok (.dup, 1) := by decide +kernel
theorem dX2_asBrides_2 : decode cX2_asBrides 2 = .ok (.getfield 36, 3) := by decide +kernel
theorem dX2_asBrides_5 : decode cX2_asBrides 5 = .ok (.ldc2_w 68, 3) := by decide +kernel
theorem dX2_asBrides_8 : decode cX2_asBrides 8 = .ok (.ladd, 1) := by decide +kernel
theorem dX2_asBrides_9 : decode cX2_asBrides 9 = .ok (.putfield 36, 3) := by decide +kernel
theorem dX2_asBrides_12 : decode cX2_asBrides 12 = .ok (.aload_n 0, 1) := by decide +kernel
theorem dX2_asBrides_13 : decode cX2_asBrides 13 = .ok (.iload_n 1, 1) := by decide +kernel
theorem dX2_asBrides_14 : decode cX2_asBrides 14 = .ok (.invokevirtual 33, 3) := by decide +kernel
theorem dX2_asBrides_17 : decode cX2_asBrides 17 = .ok (.aload_n 0, 1) := by decide +kernel
theorem dX2_asBrides_18 : decode cX2_asBrides 18 = .ok (.getfield 13, 3) := by decide +kernel
theorem dX2_asBrides_21 : decode cX2_asBrides 21 = .ok (.getfield 40, 3) := by decide +kernel
theorem dX2_asBrides_24 : decode cX2_asBrides 24 = .ok (.invokestatic 54, 3) := by decide +kernel
theorem dX2_asBrides_27 : decode cX2_asBrides 27 = .ok (.iadd, 1) := by decide +kernel
theorem dX2_asBrides_28 : decode cX2_asBrides 28 = .ok (.ireturn, 1) := by decide +kernel
theorem dX3_init_0 : decode cX3_init 0 = .ok (.aload_n 0, 1) := by decide +kernel
theorem dX3_init_1 : decode cX3_init 1 = .ok (.invokespecial 3, 3) := by decide +kernel
theorem dX3_init_4 : decode cX3_init 4 = .ok (.aload_n 0, 1) := by decide +kernel
theorem dX3_init_5 : decode cX3_init 5 = .ok (.bipush 40, 2) := by decide +kernel
theorem dX3_init_7 : decode cX3_init 7 = .ok (.newarray .int, 2) := by decide +kernel
theorem dX3_init_9 : decode cX3_init 9 = .ok (.putfield 11, 3) := by decide +kernel
theorem dX3_init_12 : decode cX3_init 12 = .ok (.return_, 1) := by decide +kernel
theorem dX3_begin_0 : decode cX3_begin 0 = .ok (.aload_n 0, 1) := by decide +kernel
theorem dX3_begin_1 : decode cX3_begin 1 = .ok (.iconst 0, 1) := by decide +kernel
theorem dX3_begin_2 : decode cX3_begin 2 = .ok (.putfield 15, 3) := by decide +kernel
theorem dX3_begin_5 : decode cX3_begin 5 = .ok (.aload_n 0, 1) := by decide +kernel
theorem dX3_begin_6 : decode cX3_begin 6 = .ok (.iload_n 1, 1) := by decide +kernel
theorem dX3_begin_7 : decode cX3_begin 7 = .ok (.putfield 19, 3) := by decide +kernel
theorem dX3_begin_10 : decode cX3_begin 10 = .ok (.aload_n 0, 1) := by decide +kernel
theorem dX3_begin_11 : decode cX3_begin 11 = .ok (.iconst 0, 1) := by decide +kernel
theorem dX3_begin_12 : decode cX3_begin 12 = .ok (.putfield 22, 3) := by decide +kernel
theorem dX3_begin_15 : decode cX3_begin 15 = .ok (.aload_n 0, 1) := by decide +kernel
theorem dX3_begin_16 : decode cX3_begin 16 = .ok (.iconst 0, 1) := by decide +kernel
theorem dX3_begin_17 : decode cX3_begin 17 = .ok (.putfield 25, 3) := by decide +kernel
theorem dX3_begin_20 : decode cX3_begin 20 = .ok (.aload_n 0, 1) := by decide +kernel
theorem dX3_begin_21 : decode cX3_begin 21 = .ok (.iconst 0, 1) := by decide +kernel
theorem dX3_begin_22 : decode cX3_begin 22 = .ok (.putfield 28, 3) := by decide +kernel
theorem dX3_begin_25 : decode cX3_begin 25 = .ok (.return_, 1) := by decide +kernel
theorem dX3_remember_0 : decode cX3_remember 0 = .ok (.aload_n 0, 1) := by decide +kernel
theorem dX3_remember_1 : decode cX3_remember 1 = .ok (.getfield 28, 3) := by decide +kernel
theorem dX3_remember_4 : decode cX3_remember 4 = .ok (.bipush 10, 2) := by decide +kernel
theorem dX3_remember_6 : decode cX3_remember 6 = .ok (.if_icmp .lt 24, 3) := by decide +kernel
theorem dX3_remember_9 : decode cX3_remember 9 = .ok (.aload_n 0, 1) := by decide +kernel
theorem dX3_remember_10 : decode cX3_remember 10 = .ok (.getfield 11, 3) := by decide +kernel
theorem dX3_remember_13 : decode cX3_remember 13 = .ok (.iconst 4, 1) := by decide +kernel
theorem dX3_remember_14 : decode cX3_remember 14 = .ok (.aload_n 0, 1) := by decide +kernel
theorem dX3_remember_15 : decode cX3_remember 15 = .ok (.getfield 11, 3) := by decide +kernel
theorem dX3_remember_18 : decode cX3_remember 18 = .ok (.iconst 0, 1) := by decide +kernel
theorem dX3_remember_19 : decode cX3_remember 19 = .ok (.bipush 36, 2) := by decide +kernel
theorem dX3_remember_21 : decode cX3_remember 21 = .ok (.invokestatic 31, 3) := by decide +kernel
theorem dX3_remember_24 : decode cX3_remember 24 = .ok (.aload_n 0, 1) := by decide +kernel
theorem dX3_remember_25 : decode cX3_remember 25 = .ok (.bipush 9, 2) := by decide +kernel
theorem dX3_remember_27 : decode cX3_remember 27 = .ok (.putfield 28, 3) := by decide +kernel
theorem dX3_remember_30 : decode cX3_remember 30 = .ok (.aload_n 0, 1) := by decide +kernel
theorem dX3_remember_31 : decode cX3_remember 31 = .ok (.getfield 28, 3) := by decide +kernel
theorem dX3_remember_34 : decode cX3_remember 34 = .ok (.iconst 4, 1) := by decide +kernel
theorem dX3_remember_35 : decode cX3_remember 35 = .ok (.imul, 1) := by decide +kernel
theorem dX3_remember_36 : decode cX3_remember 36 = .ok (.istore_n 1, 1) := by decide +kernel
theorem dX3_remember_37 : decode cX3_remember 37 = .ok (.aload_n 0, 1) := by decide +kernel
theorem dX3_remember_38 : decode cX3_remember 38 = .ok (.getfield 11, 3) := by decide +kernel
theorem dX3_remember_41 : decode cX3_remember 41 = .ok (.iload_n 1, 1) := by decide +kernel
theorem dX3_remember_42 : decode cX3_remember 42 = .ok (.aload_n 0, 1) := by decide +kernel
theorem dX3_remember_43 : decode cX3_remember 43 = .ok (.getfield 15, 3) := by decide +kernel
theorem dX3_remember_46 : decode cX3_remember 46 = .ok (.iastore, 1) := by decide +kernel
theorem dX3_remember_47 : decode cX3_remember 47 = .ok (.aload_n 0, 1) := by decide +kernel
theorem dX3_remember_48 : decode cX3_remember 48 = .ok (.getfield 11, 3) := by decide +kernel
theorem dX3_remember_51 : decode cX3_remember 51 = .ok (.iload_n 1, 1) := by decide +kernel
theorem dX3_remember_52 : decode cX3_remember 52 = .ok (.iconst 1, 1) := by decide +kernel
theorem dX3_remember_53 : decode cX3_remember 53 = .ok (.iadd, 1) := by decide +kernel
theorem dX3_remember_54 : decode cX3_remember 54 = .ok (.aload_n 0, 1) := by decide +kernel
theorem dX3_remember_55 : decode cX3_remember 55 = .ok (.getfield 19, 3) := by decide +kernel
theorem dX3_remember_58 : decode cX3_remember 58 = .ok (.iastore, 1) := by decide +kernel
theorem dX3_remember_59 : decode cX3_remember 59 = .ok (.aload_n 0, 1) := by decide +kernel
theorem dX3_remember_60 : decode cX3_remember 60 = .ok (.getfield 11, 3) := by decide +kernel
theorem dX3_remember_63 : decode cX3_remember 63 = .ok (.iload_n 1, 1) := by decide +kernel
theorem dX3_remember_64 : decode cX3_remember 64 = .ok (.iconst 2, 1) := by decide +kernel
theorem dX3_remember_65 : decode cX3_remember 65 = .ok (.iadd, 1) := by decide +kernel
theorem dX3_remember_66 : decode cX3_remember 66 = .ok (.aload_n 0, 1) := by decide +kernel
theorem dX3_remember_67 : decode cX3_remember 67 = .ok (.getfield 22, 3) := by decide +kernel
theorem dX3_remember_70 : decode cX3_remember 70 = .ok (.iastore, 1) := by decide +kernel
theorem dX3_remember_71 : decode cX3_remember 71 = .ok (.aload_n 0, 1) := by decide +kernel
theorem dX3_remember_72 : decode cX3_remember 72 = .ok (.getfield 11, 3) := by decide +kernel
theorem dX3_remember_75 : decode cX3_remember 75 = .ok (.iload_n 1, 1) := by decide +kernel
theorem dX3_remember_76 : decode cX3_remember 76 = .ok (.iconst 3, 1) := by decide +kernel
theorem dX3_remember_77 : decode cX3_remember 77 = .ok (.iadd, 1) := by decide +kernel
theorem dX3_remember_78 : decode cX3_remember 78 = .ok (.aload_n 0, 1) := by decide +kernel
theorem dX3_remember_79 : decode cX3_remember 79 = .ok (.getfield 25, 3) := by decide +kernel
theorem dX3_remember_82 : decode cX3_remember 82 = .ok (.iastore, 1) := by decide +kernel
theorem dX3_remember_83 : decode cX3_remember 83 = .ok (.aload_n 0, 1) := by decide +kernel
theorem dX3_remember_84 : decode cX3_remember 84 = .ok (.dup, 1) := by decide +kernel
theorem dX3_remember_85 : decode cX3_remember 85 = .ok (.getfield 28, 3) := by decide +kernel
theorem dX3_remember_88 : decode cX3_remember 88 = .ok (.iconst 1, 1) := by decide +kernel
theorem dX3_remember_89 : decode cX3_remember 89 = .ok (.iadd, 1) := by decide +kernel
theorem dX3_remember_90 : decode cX3_remember 90 = .ok (.putfield 28, 3) := by decide +kernel
theorem dX3_remember_93 : decode cX3_remember 93 = .ok (.return_, 1) := by decide +kernel
theorem dX3_recall_0 : decode cX3_recall 0 = .ok (.aload_n 0, 1) := by decide +kernel
theorem dX3_recall_1 : decode cX3_recall 1 = .ok (.getfield 28, 3) := by decide +kernel
theorem dX3_recall_4 : decode cX3_recall 4 = .ok (.ifCond .gt 4, 3) := by decide +kernel
theorem dX3_recall_7 : decode cX3_recall 7 = .ok (.return_, 1) := by decide +kernel
theorem dX3_recall_8 : decode cX3_recall 8 = .ok (.aload_n 0, 1) := by decide +kernel
theorem dX3_recall_9 : decode cX3_recall 9 = .ok (.dup, 1) := by decide +kernel
theorem dX3_recall_10 : decode cX3_recall 10 = .ok (.getfield 28, 3) := by decide +kernel
theorem dX3_recall_13 : decode cX3_recall 13 = .ok (.iconst 1, 1) := by decide +kernel
theorem dX3_recall_14 : decode cX3_recall 14 = .ok (.isub, 1) := by decide +kernel
theorem dX3_recall_15 : decode cX3_recall 15 = .ok (.putfield 28, 3) := by decide +kernel
theorem dX3_recall_18 : decode cX3_recall 18 = .ok (.aload_n 0, 1) := by decide +kernel
theorem dX3_recall_19 : decode cX3_recall 19 = .ok (.getfield 28, 3) := by decide +kernel
theorem dX3_recall_22 : decode cX3_recall 22 = .ok (.iconst 4, 1) := by decide +kernel
theorem dX3_recall_23 : decode cX3_recall 23 = .ok (.imul, 1) := by decide +kernel
theorem dX3_recall_24 : decode cX3_recall 24 = .ok (.istore_n 1, 1) := by decide +kernel
theorem dX3_recall_25 : decode cX3_recall 25 = .ok (.aload_n 0, 1) := by decide +kernel
theorem dX3_recall_26 : decode cX3_recall 26 = .ok (.aload_n 0, 1) := by decide +kernel
theorem dX3_recall_27 : decode cX3_recall 27 = .ok (.getfield 11, 3) := by decide +kernel
theorem dX3_recall_30 : decode cX3_recall 30 = .ok (.iload_n 1, 1) := by decide +kernel
theorem dX3_recall_31 : decode cX3_recall 31 = .ok (.iaload, 1) := by decide +kernel
theorem dX3_recall_32 : decode cX3_recall 32 = .ok (.putfield 15, 3) := by decide +kernel
theorem dX3_recall_35 : decode cX3_recall 35 = .ok (.aload_n 0, 1) := by decide +kernel
theorem dX3_recall_36 : decode cX3_recall 36 = .ok (.aload_n 0, 1) := by decide +kernel
theorem dX3_recall_37 : decode cX3_recall 37 = .ok (.getfield 11, 3) := by decide +kernel
theorem dX3_recall_40 : decode cX3_recall 40 = .ok (.iload_n 1, 1) := by decide +kernel
theorem dX3_recall_41 : decode cX3_recall 41 = .ok (.iconst 1, 1) := by decide +kernel
theorem dX3_recall_42 : decode cX3_recall 42 = .ok (.iadd, 1) := by decide +kernel
theorem dX3_recall_43 : decode cX3_recall 43 = .ok (.iaload, 1) := by decide +kernel
theorem dX3_recall_44 : decode cX3_recall 44 = .ok (.putfield 19, 3) := by decide +kernel
theorem dX3_recall_47 : decode cX3_recall 47 = .ok (.aload_n 0, 1) := by decide +kernel
theorem dX3_recall_48 : decode cX3_recall 48 = .ok (.aload_n 0, 1) := by decide +kernel
theorem dX3_recall_49 : decode cX3_recall 49 = .ok (.getfield 11, 3) := by decide +kernel
theorem dX3_recall_52 : decode cX3_recall 52 = .ok (.iload_n 1, 1) := by decide +kernel
theorem dX3_recall_53 : decode cX3_recall 53 = .ok (.iconst 2, 1) := by decide +kernel
theorem dX3_recall_54 : decode cX3_recall 54 = .ok (.iadd, 1) := by decide +kernel
theorem dX3_recall_55 : decode cX3_recall 55 = .ok (.iaload, 1) := by decide +kernel
theorem dX3_recall_56 : decode cX3_recall 56 = .ok (.putfield 22, 3) := by decide +kernel
theorem dX3_recall_59 : decode cX3_recall 59 = .ok (.aload_n 0, 1) := by decide +kernel
theorem dX3_recall_60 : decode cX3_recall 60 = .ok (.aload_n 0, 1) := by decide +kernel
theorem dX3_recall_61 : decode cX3_recall 61 = .ok (.getfield 11, 3) := by decide +kernel
theorem dX3_recall_64 : decode cX3_recall 64 = .ok (.iload_n 1, 1) := by decide +kernel
theorem dX3_recall_65 : decode cX3_recall 65 = .ok (.iconst 3, 1) := by decide +kernel
theorem dX3_recall_66 : decode cX3_recall 66 = .ok (.iadd, 1) := by decide +kernel
theorem dX3_recall_67 : decode cX3_recall 67 = .ok (.iaload, 1) := by decide +kernel
theorem dX3_recall_68 : decode cX3_recall 68 = .ok (.putfield 25, 3) := by decide +kernel
theorem dX3_recall_71 : decode cX3_recall 71 = .ok (.return_, 1) := by decide +kernel
theorem dX3_take_0 : decode cX3_take 0 = .ok (.aload_n 0, 1) := by decide +kernel
theorem dX3_take_1 : decode cX3_take 1 = .ok (.aload_n 1, 1) := by decide +kernel
theorem dX3_take_2 : decode cX3_take 2 = .ok (.getfield 15, 3) := by decide +kernel
theorem dX3_take_5 : decode cX3_take 5 = .ok (.putfield 15, 3) := by decide +kernel
theorem dX3_take_8 : decode cX3_take 8 = .ok (.aload_n 0, 1) := by decide +kernel
theorem dX3_take_9 : decode cX3_take 9 = .ok (.aload_n 1, 1) := by decide +kernel
theorem dX3_take_10 : decode cX3_take 10 = .ok (.getfield 19, 3) := by decide +kernel
theorem dX3_take_13 : decode cX3_take 13 = .ok (.putfield 19, 3) := by decide +kernel
theorem dX3_take_16 : decode cX3_take 16 = .ok (.aload_n 0, 1) := by decide +kernel
theorem dX3_take_17 : decode cX3_take 17 = .ok (.aload_n 1, 1) := by decide +kernel
theorem dX3_take_18 : decode cX3_take 18 = .ok (.getfield 22, 3) := by decide +kernel
theorem dX3_take_21 : decode cX3_take 21 = .ok (.putfield 22, 3) := by decide +kernel
theorem dX3_take_24 : decode cX3_take 24 = .ok (.aload_n 0, 1) := by decide +kernel
theorem dX3_take_25 : decode cX3_take 25 = .ok (.aload_n 1, 1) := by decide +kernel
theorem dX3_take_26 : decode cX3_take 26 = .ok (.getfield 25, 3) := by decide +kernel
theorem dX3_take_29 : decode cX3_take 29 = .ok (.putfield 25, 3) := by decide +kernel
theorem dX3_take_32 : decode cX3_take 32 = .ok (.aload_n 0, 1) := by decide +kernel
theorem dX3_take_33 : decode cX3_take 33 = .ok (.aload_n 1, 1) := by decide +kernel
theorem dX3_take_34 : decode cX3_take 34 = .ok (.getfield 28, 3) := by decide +kernel
theorem dX3_take_37 : decode cX3_take 37 = .ok (.putfield 28, 3) := by decide +kernel
theorem dX3_take_40 : decode cX3_take 40 = .ok (.aload_n 1, 1) := by decide +kernel
theorem dX3_take_41 : decode cX3_take 41 = .ok (.getfield 11, 3) := by decide +kernel
theorem dX3_take_44 : decode cX3_take 44 = .ok (.iconst 0, 1) := by decide +kernel
theorem dX3_take_45 : decode cX3_take 45 = .ok (.aload_n 0, 1) := by decide +kernel
theorem dX3_take_46 : decode cX3_take 46 = .ok (.getfield 11, 3) := by decide +kernel
theorem dX3_take_49 : decode cX3_take 49 = .ok (.iconst 0, 1) := by decide +kernel
theorem dX3_take_50 : decode cX3_take 50 = .ok (.aload_n 0, 1) := by decide +kernel
theorem dX3_take_51 : decode cX3_take 51 = .ok (.getfield 11, 3) := by decide +kernel
theorem dX3_take_54 : decode cX3_take 54 = .ok (.arraylength, 1) := by decide +kernel
theorem dX3_take_55 : decode cX3_take 55 = .ok (.invokestatic 31, 3) := by decide +kernel
theorem dX3_take_58 : decode cX3_take 58 = .ok (.return_, 1) := by decide +kernel
theorem dX4_init_0 : decode cX4_init 0 = .ok (.aload_n 0, 1) := by decide +kernel
theorem dX4_init_1 : decode cX4_init 1 = .ok (.invokespecial 3, 3) := by decide +kernel
theorem dX4_init_4 : decode cX4_init 4 = .ok (.aload_n 0, 1) := by decide +kernel
theorem dX4_init_5 : decode cX4_init 5 = .ok (.new 9, 3) := by decide +kernel
theorem dX4_init_8 : decode cX4_init 8 = .ok (.dup, 1) := by decide +kernel
theorem dX4_init_9 : decode cX4_init 9 = .ok (.invokespecial 11, 3) := by decide +kernel
theorem dX4_init_12 : decode cX4_init 12 = .ok (.putfield 12, 3) := by decide +kernel
theorem dX4_init_15 : decode cX4_init 15 = .ok (.aload_n 0, 1) := by decide +kernel
theorem dX4_init_16 : decode cX4_init 16 = .ok (.aload_n 1, 1) := by decide +kernel
theorem dX4_init_17 : decode cX4_init 17 = .ok (.putfield 18, 3) := by decide +kernel
theorem dX4_init_20 : decode cX4_init 20 = .ok (.return_, 1) := by decide +kernel
theorem dX4_read_0 : decode cX4_read 0 = .ok (.aload_n 0, 1) := by decide +kernel
theorem dX4_read_1 : decode cX4_read 1 = .ok (.iconst 0, 1) := by decide +kernel
theorem dX4_read_2 : decode cX4_read 2 = .ok (.putfield 22, 3) := by decide +kernel
theorem dX4_read_5 : decode cX4_read 5 = .ok (.aload_n 0, 1) := by decide +kernel
theorem dX4_read_6 : decode cX4_read 6 = .ok (.getfield 12, 3) := by decide +kernel
theorem dX4_read_9 : decode cX4_read 9 = .ok (.invokevirtual 26, 3) := by decide +kernel
theorem dX4_read_12 : decode cX4_read 12 = .ok (.iconst 0, 1) := by decide +kernel
theorem dX4_read_13 : decode cX4_read 13 = .ok (.istore_n 1, 1) := by decide +kernel
theorem dX4_read_14 : decode cX4_read 14 = .ok (.iload_n 1, 1) := by decide +kernel
theorem dX4_read_15 : decode cX4_read 15 = .ok (.sipush 200, 3) := by decide +kernel
theorem dX4_read_18 : decode cX4_read 18 = .ok (.if_icmp .gt 31, 3) := by decide +kernel
theorem dX4_read_21 : decode cX4_read 21 = .ok (.aload_n 0, 1) := by decide +kernel
theorem dX4_read_22 : decode cX4_read 22 = .ok (.invokevirtual 29, 3) := by decide +kernel
theorem dX4_read_25 : decode cX4_read 25 = .ok (.aload_n 0, 1) := by decide +kernel
theorem dX4_read_26 : decode cX4_read 26 = .ok (.getfield 32, 3) := by decide +kernel
theorem dX4_read_29 : decode cX4_read 29 = .ok (.ifCond .ne 5, 3) := by decide +kernel
theorem dX4_read_32 : decode cX4_read 32 = .ok (.iconst 1, 1) := by decide +kernel
theorem dX4_read_33 : decode cX4_read 33 = .ok (.ireturn, 1) := by decide +kernel
theorem dX4_read_34 : decode cX4_read 34 = .ok (.aload_n 0, 1) := by decide +kernel
theorem dX4_read_35 : decode cX4_read 35 = .ok (.invokevirtual 35, 3) := by decide +kernel
theorem dX4_read_38 : decode cX4_read 38 = .ok (.ifCond .ne 5, 3) := by decide +kernel
theorem dX4_read_41 : decode cX4_read 41 = .ok (.iconst 0, 1) := by decide +kernel
theorem dX4_read_42 : decode cX4_read 42 = .ok (.ireturn, 1) := by decide +kernel
theorem dX4_read_43 : decode cX4_read 43 = .ok (.iinc 1 1, 3) := by decide +kernel
theorem dX4_read_46 : decode cX4_read 46 = .ok (.goto (-32), 3) := by decide +kernel
theorem dX4_read_49 : decode cX4_read 49 = .ok (.iconst 0, 1) := by decide +kernel
theorem dX4_read_50 : decode cX4_read 50 = .ok (.ireturn, 1) := by decide +kernel
theorem dX4_readItem_0 : decode cX4_readItem 0 = .ok (.aload_n 0, 1) := by decide +kernel
theorem dX4_readItem_1 : decode cX4_readItem 1 = .ok (.getfield 32, 3) := by decide +kernel
theorem dX4_readItem_4 : decode cX4_readItem 4 = .ok (.iconst 1, 1) := by decide +kernel
theorem dX4_readItem_5 : decode cX4_readItem 5 = .ok (.if_icmp .eq 5, 3) := by decide +kernel
theorem dX4_readItem_8 : decode cX4_readItem 8 = .ok (.iconst 0, 1) := by decide +kernel
theorem dX4_readItem_9 : decode cX4_readItem 9 = .ok (.ireturn, 1) := by decide +kernel
theorem dX4_readItem_10 : decode cX4_readItem 10 = .ok (.aload_n 0, 1) := by decide +kernel
theorem dX4_readItem_11 : decode cX4_readItem 11 = .ok (.getfield 39, 3) := by decide +kernel
theorem dX4_readItem_14 : decode cX4_readItem 14 = .ok (.bipush 108, 2) := by decide +kernel
theorem dX4_readItem_16 : decode cX4_readItem 16 = .ok (.if_icmp .ne 28, 3) := by decide +kernel
theorem dX4_readItem_19 : decode cX4_readItem 19 = .ok (.aload_n 0, 1) := by decide +kernel
theorem dX4_readItem_20 : decode cX4_readItem 20 = .ok (.getfield 12, 3) := by decide +kernel
theorem dX4_readItem_23 : decode cX4_readItem 23 = .ok (.getfield 42, 3) := by decide +kernel
theorem dX4_readItem_26 : decode cX4_readItem 26 = .ok (.bipush 9, 2) := by decide +kernel
theorem dX4_readItem_28 : decode cX4_readItem 28 = .ok (.if_icmp .ge 14, 3) := by decide +kernel
theorem dX4_readItem_31 : decode cX4_readItem 31 = .ok (.aload_n 0, 1) := by decide +kernel
theorem dX4_readItem_32 : decode cX4_readItem 32 = .ok (.invokevirtual 45, 3) := by decide +kernel
theorem dX4_readItem_35 : decode cX4_readItem 35 = .ok (.ifCond .eq 7, 3) := by decide +kernel
theorem dX4_readItem_38 : decode cX4_readItem 38 = .ok (.iconst 1, 1) := by decide +kernel
theorem dX4_readItem_39 : decode cX4_readItem 39 = .ok (.goto 4, 3) := by decide +kernel
theorem dX4_readItem_42 : decode cX4_readItem 42 = .ok (.iconst 0, 1) := by decide +kernel
theorem dX4_readItem_43 : decode cX4_readItem 43 = .ok (.ireturn, 1) := by decide +kernel
theorem dX4_readItem_44 : decode cX4_readItem 44 = .ok (.aload_n 0, 1) := by decide +kernel
theorem dX4_readItem_45 : decode cX4_readItem 45 = .ok (.getfield 39, 3) := by decide +kernel
theorem dX4_readItem_48 : decode cX4_readItem 48 = .ok (.bipush 115, 2) := by decide +kernel
theorem dX4_readItem_50 : decode cX4_readItem 50 = .ok (.if_icmp .ne 26, 3) := by decide +kernel
theorem dX4_readItem_53 : decode cX4_readItem 53 = .ok (.aload_n 0, 1) := by decide +kernel
theorem dX4_readItem_54 : decode cX4_readItem 54 = .ok (.getfield 12, 3) := by decide +kernel
theorem dX4_readItem_57 : decode cX4_readItem 57 = .ok (.getfield 48, 3) := by decide +kernel
theorem dX4_readItem_60 : decode cX4_readItem 60 = .ok (.bipush 15, 2) := by decide +kernel
theorem dX4_readItem_62 : decode cX4_readItem 62 = .ok (.if_icmp .ge 14, 3) := by decide +kernel
theorem dX4_readItem_65 : decode cX4_readItem 65 = .ok (.aload_n 0, 1) := by decide +kernel
theorem dX4_readItem_66 : decode cX4_readItem 66 = .ok (.invokevirtual 51, 3) := by decide +kernel
theorem dX4_readItem_69 : decode cX4_readItem 69 = .ok (.ifCond .eq 7, 3) := by decide +kernel
theorem dX4_readItem_72 : decode cX4_readItem 72 = .ok (.iconst 1, 1) := by decide +kernel
theorem dX4_readItem_73 : decode cX4_readItem 73 = .ok (.goto 4, 3) := by decide +kernel
theorem dX4_readItem_76 : decode cX4_readItem 76 = .ok (.iconst 0, 1) := by decide +kernel
theorem dX4_readItem_77 : decode cX4_readItem 77 = .ok (.ireturn, 1) := by decide +kernel
theorem dX4_readLamp_0 : decode cX4_readLamp 0 = .ok (.aload_n 0, 1) := by decide +kernel
theorem dX4_readLamp_1 : decode cX4_readLamp 1 = .ok (.iconst 3, 1) := by decide +kernel
theorem dX4_readLamp_2 : decode cX4_readLamp 2 = .ok (.invokevirtual 54, 3) := by decide +kernel
theorem dX4_readLamp_5 : decode cX4_readLamp 5 = .ok (.ifCond .ne 5, 3) := by decide +kernel
theorem dX4_readLamp_8 : decode cX4_readLamp 8 = .ok (.iconst 0, 1) := by decide +kernel
theorem dX4_readLamp_9 : decode cX4_readLamp 9 = .ok (.ireturn, 1) := by decide +kernel
theorem dX4_readLamp_10 : decode cX4_readLamp 10 = .ok (.aload_n 0, 1) := by decide +kernel
theorem dX4_readLamp_11 : decode cX4_readLamp 11 = .ok (.getfield 39, 3) := by decide +kernel
theorem dX4_readLamp_14 : decode cX4_readLamp 14 = .ok (.istore_n 1, 1) := by decide +kernel
theorem dX4_readLamp_15 : decode cX4_readLamp 15 = .ok (.aload_n 0, 1) := by decide +kernel
theorem dX4_readLamp_16 : decode cX4_readLamp 16 = .ok (.iconst 1, 1) := by decide +kernel
theorem dX4_readLamp_17 : decode cX4_readLamp 17 = .ok (.invokevirtual 54, 3) := by decide +kernel
theorem dX4_readLamp_20 : decode cX4_readLamp 20 = .ok (.ifCond .ne 5, 3) := by decide +kernel
theorem dX4_readLamp_23 : decode cX4_readLamp 23 = .ok (.iconst 0, 1) := by decide +kernel
theorem dX4_readLamp_24 : decode cX4_readLamp 24 = .ok (.ireturn, 1) := by decide +kernel
theorem dX4_readLamp_25 : decode cX4_readLamp 25 = .ok (.aload_n 0, 1) := by decide +kernel
theorem dX4_readLamp_26 : decode cX4_readLamp 26 = .ok (.getfield 39, 3) := by decide +kernel
theorem dX4_readLamp_29 : decode cX4_readLamp 29 = .ok (.istore_n 2, 1) := by decide +kernel
theorem dX4_readLamp_30 : decode cX4_readLamp 30 = .ok (.aload_n 0, 1) := by decide +kernel
theorem dX4_readLamp_31 : decode cX4_readLamp 31 = .ok (.invokevirtual 58, 3) := by decide +kernel
theorem dX4_readLamp_34 : decode cX4_readLamp 34 = .ok (.ifCond .ne 5, 3) := by decide +kernel
theorem dX4_readLamp_37 : decode cX4_readLamp 37 = .ok (.iconst 0, 1) := by decide +kernel
theorem dX4_readLamp_38 : decode cX4_readLamp 38 = .ok (.ireturn, 1) := by decide +kernel
theorem dX4_readLamp_39 : decode cX4_readLamp 39 = .ok (.aload_n 0, 1) := by decide +kernel
theorem dX4_readLamp_40 : decode cX4_readLamp 40 = .ok (.getfield 12, 3) := by decide +kernel
theorem dX4_readLamp_43 : decode cX4_readLamp 43 = .ok (.iload_n 1, 1) := by decide +kernel
theorem dX4_readLamp_44 : decode cX4_readLamp 44 = .ok (.iload_n 2, 1) := by decide +kernel
theorem dX4_readLamp_45 : decode cX4_readLamp 45 = .ok (.invokevirtual 61, 3) := by decide +kernel
theorem dX4_readLamp_48 : decode cX4_readLamp 48 = .ok (.iconst 1, 1) := by decide +kernel
theorem dX4_readLamp_49 : decode cX4_readLamp 49 = .ok (.ireturn, 1) := by decide +kernel
theorem dX4_readStreet_0 : decode cX4_readStreet 0 = .ok (.aload_n 0, 1) := by decide +kernel
theorem dX4_readStreet_1 : decode cX4_readStreet 1 = .ok (.aload_n 0, 1) := by decide +kernel
theorem dX4_readStreet_2 : decode cX4_readStreet 2 = .ok (.getfield 12, 3) := by decide +kernel
theorem dX4_readStreet_5 : decode cX4_readStreet 5 = .ok (.getfield 42, 3) := by decide +kernel
theorem dX4_readStreet_8 : decode cX4_readStreet 8 = .ok (.iconst 1, 1) := by decide +kernel
theorem dX4_readStreet_9 : decode cX4_readStreet 9 = .ok (.isub, 1) := by decide +kernel
theorem dX4_readStreet_10 : decode cX4_readStreet 10 = .ok (.invokevirtual 54, 3) := by decide +kernel
theorem dX4_readStreet_13 : decode cX4_readStreet 13 = .ok (.ifCond .ne 5, 3) := by decide +kernel
theorem dX4_readStreet_16 : decode cX4_readStreet 16 = .ok (.iconst 0, 1) := by decide +kernel
theorem dX4_readStreet_17 : decode cX4_readStreet 17 = .ok (.ireturn, 1) := by decide +kernel
theorem dX4_readStreet_18 : decode cX4_readStreet 18 = .ok (.aload_n 0, 1) := by decide +kernel
theorem dX4_readStreet_19 : decode cX4_readStreet 19 = .ok (.getfield 39, 3) := by decide +kernel
theorem dX4_readStreet_22 : decode cX4_readStreet 22 = .ok (.istore_n 1, 1) := by decide +kernel
theorem dX4_readStreet_23 : decode cX4_readStreet 23 = .ok (.aload_n 0, 1) := by decide +kernel
theorem dX4_readStreet_24 : decode cX4_readStreet 24 = .ok (.aload_n 0, 1) := by decide +kernel
theorem dX4_readStreet_25 : decode cX4_readStreet 25 = .ok (.getfield 12, 3) := by decide +kernel
theorem dX4_readStreet_28 : decode cX4_readStreet 28 = .ok (.getfield 42, 3) := by decide +kernel
theorem dX4_readStreet_31 : decode cX4_readStreet 31 = .ok (.iconst 1, 1) := by decide +kernel
theorem dX4_readStreet_32 : decode cX4_readStreet 32 = .ok (.isub, 1) := by decide +kernel
theorem dX4_readStreet_33 : decode cX4_readStreet 33 = .ok (.invokevirtual 54, 3) := by decide +kernel
theorem dX4_readStreet_36 : decode cX4_readStreet 36 = .ok (.ifCond .eq 26, 3) := by decide +kernel
theorem dX4_readStreet_39 : decode cX4_readStreet 39 = .ok (.aload_n 0, 1) := by decide +kernel
theorem dX4_readStreet_40 : decode cX4_readStreet 40 = .ok (.getfield 39, 3) := by decide +kernel
theorem dX4_readStreet_43 : decode cX4_readStreet 43 = .ok (.iload_n 1, 1) := by decide +kernel
theorem dX4_readStreet_44 : decode cX4_readStreet 44 = .ok (.if_icmp .eq 18, 3) := by decide +kernel
theorem dX4_readStreet_47 : decode cX4_readStreet 47 = .ok (.aload_n 0, 1) := by decide +kernel
theorem dX4_readStreet_48 : decode cX4_readStreet 48 = .ok (.getfield 12, 3) := by decide +kernel
theorem dX4_readStreet_51 : decode cX4_readStreet 51 = .ok (.iload_n 1, 1) := by decide +kernel
theorem dX4_readStreet_52 : decode cX4_readStreet 52 = .ok (.aload_n 0, 1) := by decide +kernel
theorem dX4_readStreet_53 : decode cX4_readStreet 53 = .ok (.getfield 39, 3) := by decide +kernel
theorem dX4_readStreet_56 : decode cX4_readStreet 56 = .ok (.invokevirtual 65, 3) := by decide +kernel
theorem dX4_readStreet_59 : decode cX4_readStreet 59 = .ok (.ifCond .eq 5, 3) := by decide +kernel
theorem dX4_readStreet_62 : decode cX4_readStreet 62 = .ok (.iconst 0, 1) := by decide +kernel
theorem dX4_readStreet_63 : decode cX4_readStreet 63 = .ok (.ireturn, 1) := by decide +kernel
theorem dX4_readStreet_64 : decode cX4_readStreet 64 = .ok (.aload_n 0, 1) := by decide +kernel
theorem dX4_readStreet_65 : decode cX4_readStreet 65 = .ok (.getfield 39, 3) := by decide +kernel
theorem dX4_readStreet_68 : decode cX4_readStreet 68 = .ok (.istore_n 2, 1) := by decide +kernel
theorem dX4_readStreet_69 : decode cX4_readStreet 69 = .ok (.aload_n 0, 1) := by decide +kernel
theorem dX4_readStreet_70 : decode cX4_readStreet 70 = .ok (.invokevirtual 58, 3) := by decide +kernel
theorem dX4_readStreet_73 : decode cX4_readStreet 73 = .ok (.ifCond .ne 5, 3) := by decide +kernel
theorem dX4_readStreet_76 : decode cX4_readStreet 76 = .ok (.iconst 0, 1) := by decide +kernel
theorem dX4_readStreet_77 : decode cX4_readStreet 77 = .ok (.ireturn, 1) := by decide +kernel
theorem dX4_readStreet_78 : decode cX4_readStreet 78 = .ok (.aload_n 0, 1) := by decide +kernel
theorem dX4_readStreet_79 : decode cX4_readStreet 79 = .ok (.getfield 12, 3) := by decide +kernel
theorem dX4_readStreet_82 : decode cX4_readStreet 82 = .ok (.iload_n 1, 1) := by decide +kernel
theorem dX4_readStreet_83 : decode cX4_readStreet 83 = .ok (.iload_n 2, 1) := by decide +kernel
theorem dX4_readStreet_84 : decode cX4_readStreet 84 = .ok (.invokevirtual 69, 3) := by decide +kernel
theorem dX4_readStreet_87 : decode cX4_readStreet 87 = .ok (.iconst 1, 1) := by decide +kernel
theorem dX4_readStreet_88 : decode cX4_readStreet 88 = .ok (.ireturn, 1) := by decide +kernel
theorem dX4_readNumber_0 : decode cX4_readNumber 0 = .ok (.aload_n 0, 1) := by decide +kernel
theorem dX4_readNumber_1 : decode cX4_readNumber 1 = .ok (.invokevirtual 29, 3) := by decide +kernel
theorem dX4_readNumber_4 : decode cX4_readNumber 4 = .ok (.aload_n 0, 1) := by decide +kernel
theorem dX4_readNumber_5 : decode cX4_readNumber 5 = .ok (.getfield 32, 3) := by decide +kernel
theorem dX4_readNumber_8 : decode cX4_readNumber 8 = .ok (.iconst 2, 1) := by decide +kernel
theorem dX4_readNumber_9 : decode cX4_readNumber 9 = .ok (.if_icmp .ne 15, 3) := by decide +kernel
theorem dX4_readNumber_12 : decode cX4_readNumber 12 = .ok (.aload_n 0, 1) := by decide +kernel
theorem dX4_readNumber_13 : decode cX4_readNumber 13 = .ok (.getfield 39, 3) := by decide +kernel
theorem dX4_readNumber_16 : decode cX4_readNumber 16 = .ok (.iload_n 1, 1) := by decide +kernel
theorem dX4_readNumber_17 : decode cX4_readNumber 17 = .ok (.if_icmp .gt 7, 3) := by decide +kernel
theorem dX4_readNumber_20 : decode cX4_readNumber 20 = .ok (.iconst 1, 1) := by decide +kernel
theorem dX4_readNumber_21 : decode cX4_readNumber 21 = .ok (.goto 4, 3) := by decide +kernel
theorem dX4_readNumber_24 : decode cX4_readNumber 24 = .ok (.iconst 0, 1) := by decide +kernel
theorem dX4_readNumber_25 : decode cX4_readNumber 25 = .ok (.ireturn, 1) := by decide +kernel
theorem dX4_readSemicolon_0 : decode cX4_readSemicolon 0 = .ok (.aload_n 0, 1) := by decide +kernel
theorem dX4_readSemicolon_1 : decode cX4_readSemicolon 1 = .ok (.invokevirtual 29, 3) := by decide +kernel
theorem dX4_readSemicolon_4 : decode cX4_readSemicolon 4 = .ok (.aload_n 0, 1) := by decide +kernel
theorem dX4_readSemicolon_5 : decode cX4_readSemicolon 5 = .ok (.getfield 32, 3) := by decide +kernel
theorem dX4_readSemicolon_8 : decode cX4_readSemicolon 8 = .ok (.iconst 3, 1) := by decide +kernel
theorem dX4_readSemicolon_9 : decode cX4_readSemicolon 9 = .ok (.if_icmp .ne 7, 3) := by decide +kernel
theorem dX4_readSemicolon_12 : decode cX4_readSemicolon 12 = .ok (.iconst 1, 1) := by decide +kernel
theorem dX4_readSemicolon_13 : decode cX4_readSemicolon 13 = .ok (.goto 4, 3) := by decide +kernel
theorem dX4_readSemicolon_16 : decode cX4_readSemicolon 16 = .ok (.iconst 0, 1) := by decide +kernel
theorem dX4_readSemicolon_17 : decode cX4_readSemicolon 17 = .ok (.ireturn, 1) := by decide +kernel
theorem dX4_nextToken_0 : decode cX4_nextToken 0 = .ok (.aload_n 0, 1) := by decide +kernel
theorem dX4_nextToken_1 : decode cX4_nextToken 1 = .ok (.getfield 22, 3) := by decide +kernel
theorem dX4_nextToken_4 : decode cX4_nextToken 4 = .ok (.aload_n 0, 1) := by decide +kernel
theorem dX4_nextToken_5 : decode cX4_nextToken 5 = .ok (.getfield 18, 3) := by decide +kernel
theorem dX4_nextToken_8 : decode cX4_nextToken 8 = .ok (.getfield 72, 3) := by decide +kernel
theorem dX4_nextToken_11 : decode cX4_nextToken 11 = .ok (.if_icmp .ge 32, 3) := by decide +kernel
theorem dX4_nextToken_14 : decode cX4_nextToken 14 = .ok (.aload_n 0, 1) := by decide +kernel
theorem dX4_nextToken_15 : decode cX4_nextToken 15 = .ok (.getfield 18, 3) := by decide +kernel
theorem dX4_nextToken_18 : decode cX4_nextToken 18 = .ok (.aload_n 0, 1) := by decide +kernel
theorem dX4_nextToken_19 : decode cX4_nextToken 19 = .ok (.getfield 22, 3) := by decide +kernel
theorem dX4_nextToken_22 : decode cX4_nextToken 22 = .ok (.invokevirtual 77, 3) := by decide +kernel
theorem dX4_nextToken_25 : decode cX4_nextToken 25 = .ok (.bipush 32, 2) := by decide +kernel
theorem dX4_nextToken_27 : decode cX4_nextToken 27 = .ok (.if_icmp .ne 16, 3) := by decide +kernel
theorem dX4_nextToken_30 : decode cX4_nextToken 30 = .ok (.aload_n 0, 1) := by decide +kernel
theorem dX4_nextToken_31 : decode cX4_nextToken 31 = .ok (.dup, 1) := by decide +kernel
theorem dX4_nextToken_32 : decode cX4_nextToken 32 = .ok (.getfield 22, 3) := by decide +kernel
theorem dX4_nextToken_35 : decode cX4_nextToken 35 = .ok (.iconst 1, 1) := by decide +kernel
theorem dX4_nextToken_36 : decode cX4_nextToken 36 = .ok (.iadd, 1) := by decide +kernel
theorem dX4_nextToken_37 : decode cX4_nextToken 37 = .ok (.putfield 22, 3) := by decide +kernel
theorem dX4_nextToken_40 : decode cX4_nextToken 40 = .ok (.goto (-40), 3) := by decide +kernel
theorem dX4_nextToken_43 : decode cX4_nextToken 43 = .ok (.aload_n 0, 1) := by decide +kernel
theorem dX4_nextToken_44 : decode cX4_nextToken 44 = .ok (.aload_n 0, 1) := by decide +kernel
theorem dX4_nextToken_45 : decode cX4_nextToken 45 = .ok (.getfield 22, 3) := by decide +kernel
theorem dX4_nextToken_48 : decode cX4_nextToken 48 = .ok (.putfield 81, 3) := by decide +kernel
theorem dX4_nextToken_51 : decode cX4_nextToken 51 = .ok (.aload_n 0, 1) := by decide +kernel
theorem dX4_nextToken_52 : decode cX4_nextToken 52 = .ok (.getfield 18, 3) := by decide +kernel
theorem dX4_nextToken_55 : decode cX4_nextToken 55 = .ok (.aload_n 0, 1) := by decide +kernel
theorem dX4_nextToken_56 : decode cX4_nextToken 56 = .ok (.getfield 22, 3) := by decide +kernel
theorem dX4_nextToken_59 : decode cX4_nextToken 59 = .ok (.invokevirtual 77, 3) := by decide +kernel
theorem dX4_nextToken_62 : decode cX4_nextToken 62 = .ok (.istore_n 1, 1) := by decide +kernel
theorem dX4_nextToken_63 : decode cX4_nextToken 63 = .ok (.iload_n 1, 1) := by decide +kernel
theorem dX4_nextToken_64 : decode cX4_nextToken 64 = .ok (.ifCond .ge 11, 3) := by decide +kernel
theorem dX4_nextToken_67 : decode cX4_nextToken 67 = .ok (.aload_n 0, 1) := by decide +kernel
theorem dX4_nextToken_68 : decode cX4_nextToken 68 = .ok (.iconst 0, 1) := by decide +kernel
theorem dX4_nextToken_69 : decode cX4_nextToken 69 = .ok (.putfield 32, 3) := by decide +kernel
theorem dX4_nextToken_72 : decode cX4_nextToken 72 = .ok (.goto 56, 3) := by decide +kernel
theorem dX4_nextToken_75 : decode cX4_nextToken 75 = .ok (.iload_n 1, 1) := by decide +kernel
theorem dX4_nextToken_76 : decode cX4_nextToken 76 = .ok (.invokestatic 84, 3) := by decide +kernel
theorem dX4_nextToken_79 : decode cX4_nextToken 79 = .ok (.ifCond .eq 10, 3) := by decide +kernel
theorem dX4_nextToken_82 : decode cX4_nextToken 82 = .ok (.aload_n 0, 1) := by decide +kernel
theorem dX4_nextToken_83 : decode cX4_nextToken 83 = .ok (.invokevirtual 87, 3) := by decide +kernel
theorem dX4_nextToken_86 : decode cX4_nextToken 86 = .ok (.goto 42, 3) := by decide +kernel
theorem dX4_nextToken_89 : decode cX4_nextToken 89 = .ok (.iload_n 1, 1) := by decide +kernel
theorem dX4_nextToken_90 : decode cX4_nextToken 90 = .ok (.invokestatic 90, 3) := by decide +kernel
theorem dX4_nextToken_93 : decode cX4_nextToken 93 = .ok (.ifCond .eq 10, 3) := by decide +kernel
theorem dX4_nextToken_96 : decode cX4_nextToken 96 = .ok (.aload_n 0, 1) := by decide +kernel
theorem dX4_nextToken_97 : decode cX4_nextToken 97 = .ok (.invokevirtual 93, 3) := by decide +kernel
theorem dX4_nextToken_100 : decode cX4_nextToken 100 = .ok (.goto 28, 3) := by decide +kernel
theorem dX4_nextToken_103 : decode cX4_nextToken 103 = .ok (.aload_n 0, 1) := by decide +kernel
theorem dX4_nextToken_104 : decode cX4_nextToken 104 = .ok (.iload_n 1, 1) := by decide +kernel
theorem dX4_nextToken_105 : decode cX4_nextToken 105 = .ok (.bipush 59, 2) := by decide +kernel
theorem dX4_nextToken_107 : decode cX4_nextToken 107 = .ok (.if_icmp .ne 7, 3) := by decide +kernel
theorem dX4_nextToken_110 : decode cX4_nextToken 110 = .ok (.iconst 3, 1) := by decide +kernel
theorem dX4_nextToken_111 : decode cX4_nextToken 111 = .ok (.goto 4, 3) := by decide +kernel
theorem dX4_nextToken_114 : decode cX4_nextToken 114 = .ok (.iconst 4, 1) := by decide +kernel
theorem dX4_nextToken_115 : decode cX4_nextToken 115 = .ok (.putfield 32, 3) := by decide +kernel
theorem dX4_nextToken_118 : decode cX4_nextToken 118 = .ok (.aload_n 0, 1) := by decide +kernel
theorem dX4_nextToken_119 : decode cX4_nextToken 119 = .ok (.dup, 1) := by decide +kernel
theorem dX4_nextToken_120 : decode cX4_nextToken 120 = .ok (.getfield 22, 3) := by decide +kernel
theorem dX4_nextToken_123 : decode cX4_nextToken 123 = .ok (.iconst 1, 1) := by decide +kernel
theorem dX4_nextToken_124 : decode cX4_nextToken 124 = .ok (.iadd, 1) := by decide +kernel
theorem dX4_nextToken_125 : decode cX4_nextToken 125 = .ok (.putfield 22, 3) := by decide +kernel
theorem dX4_nextToken_128 : decode cX4_nextToken 128 = .ok (.return_, 1) := by decide +kernel
theorem dX4_takeLetters_0 : decode cX4_takeLetters 0 = .ok (.aload_n 0, 1) := by decide +kernel
theorem dX4_takeLetters_1 : decode cX4_takeLetters 1 = .ok (.iconst 1, 1) := by decide +kernel
theorem dX4_takeLetters_2 : decode cX4_takeLetters 2 = .ok (.putfield 32, 3) := by decide +kernel
theorem dX4_takeLetters_5 : decode cX4_takeLetters 5 = .ok (.aload_n 0, 1) := by decide +kernel
theorem dX4_takeLetters_6 : decode cX4_takeLetters 6 = .ok (.aload_n 0, 1) := by decide +kernel
theorem dX4_takeLetters_7 : decode cX4_takeLetters 7 = .ok (.getfield 18, 3) := by decide +kernel
theorem dX4_takeLetters_10 : decode cX4_takeLetters 10 = .ok (.aload_n 0, 1) := by decide +kernel
theorem dX4_takeLetters_11 : decode cX4_takeLetters 11 = .ok (.getfield 22, 3) := by decide +kernel
theorem dX4_takeLetters_14 : decode cX4_takeLetters 14 = .ok (.invokevirtual 77, 3) := by decide +kernel
theorem dX4_takeLetters_17 : decode cX4_takeLetters 17 = .ok (.putfield 39, 3) := by decide +kernel
theorem dX4_takeLetters_20 : decode cX4_takeLetters 20 = .ok (.aload_n 0, 1) := by decide +kernel
theorem dX4_takeLetters_21 : decode cX4_takeLetters 21 = .ok (.dup, 1) := by decide +kernel
theorem dX4_takeLetters_22 : decode cX4_takeLetters 22 = .ok (.getfield 22, 3) := by decide +kernel
theorem dX4_takeLetters_25 : decode cX4_takeLetters 25 = .ok (.iconst 1, 1) := by decide +kernel
theorem dX4_takeLetters_26 : decode cX4_takeLetters 26 = .ok (.iadd, 1) := by decide +kernel
theorem dX4_takeLetters_27 : decode cX4_takeLetters 27 = .ok (.putfield 22, 3) := by decide +kernel
theorem dX4_takeLetters_30 : decode cX4_takeLetters 30 = .ok (.aload_n 0, 1) := by decide +kernel
theorem dX4_takeLetters_31 : decode cX4_takeLetters 31 = .ok (.getfield 22, 3) := by decide +kernel
theorem dX4_takeLetters_34 : decode cX4_takeLetters 34 = .ok (.aload_n 0, 1) := by decide +kernel
theorem dX4_takeLetters_35 : decode cX4_takeLetters 35 = .ok (.getfield 18, 3) := by decide +kernel
theorem dX4_takeLetters_38 : decode cX4_takeLetters 38 = .ok (.getfield 72, 3) := by decide +kernel
theorem dX4_takeLetters_41 : decode cX4_takeLetters 41 = .ok (.if_icmp .ge 38, 3) := by decide +kernel
theorem dX4_takeLetters_44 : decode cX4_takeLetters 44 = .ok (.aload_n 0, 1) := by decide +kernel
theorem dX4_takeLetters_45 : decode cX4_takeLetters 45 = .ok (.getfield 18, 3) := by decide +kernel
theorem dX4_takeLetters_48 : decode cX4_takeLetters 48 = .ok (.aload_n 0, 1) := by decide +kernel
theorem dX4_takeLetters_49 : decode cX4_takeLetters 49 = .ok (.getfield 22, 3) := by decide +kernel
theorem dX4_takeLetters_52 : decode cX4_takeLetters 52 = .ok (.invokevirtual 77, 3) := by decide +kernel
theorem dX4_takeLetters_55 : decode cX4_takeLetters 55 = .ok (.invokestatic 84, 3) := by decide +kernel
theorem dX4_takeLetters_58 : decode cX4_takeLetters 58 = .ok (.ifCond .eq 21, 3) := by decide +kernel
theorem dX4_takeLetters_61 : decode cX4_takeLetters 61 = .ok (.aload_n 0, 1) := by decide +kernel
theorem dX4_takeLetters_62 : decode cX4_takeLetters 62 = .ok (.iconst (-1), 1) := by decide +kernel
theorem dX4_takeLetters_63 : decode cX4_takeLetters 63 = .ok (.putfield 39, 3) := by decide +kernel
theorem dX4_takeLetters_66 : decode cX4_takeLetters 66 = .ok (.aload_n 0, 1) := by decide +kernel
theorem dX4_takeLetters_67 : decode cX4_takeLetters 67 = .ok (.dup, 1) := by decide +kernel
theorem dX4_takeLetters_68 : decode cX4_takeLetters 68 = .ok (.getfield 22, 3) := by decide +kernel
theorem dX4_takeLetters_71 : decode cX4_takeLetters 71 = .ok (.iconst 1, 1) := by decide +kernel
theorem dX4_takeLetters_72 : decode cX4_takeLetters 72 = .ok (.iadd, 1) := by decide +kernel
theorem dX4_takeLetters_73 : decode cX4_takeLetters 73 = .ok (.putfield 22, 3) := by decide +kernel
theorem dX4_takeLetters_76 : decode cX4_takeLetters 76 = .ok (.goto (-46), 3) := by decide +kernel
theorem dX4_takeLetters_79 : decode cX4_takeLetters 79 = .ok (.return_, 1) := by decide +kernel
theorem dX4_takeDigits_0 : decode cX4_takeDigits 0 = .ok (.aload_n 0, 1) := by decide +kernel
theorem dX4_takeDigits_1 : decode cX4_takeDigits 1 = .ok (.getfield 18, 3) := by decide +kernel
theorem dX4_takeDigits_4 : decode cX4_takeDigits 4 = .ok (.aload_n 0, 1) := by decide +kernel
theorem dX4_takeDigits_5 : decode cX4_takeDigits 5 = .ok (.getfield 22, 3) := by decide +kernel
theorem dX4_takeDigits_8 : decode cX4_takeDigits 8 = .ok (.invokevirtual 77, 3) := by decide +kernel
theorem dX4_takeDigits_11 : decode cX4_takeDigits 11 = .ok (.bipush 48, 2) := by decide +kernel
theorem dX4_takeDigits_13 : decode cX4_takeDigits 13 = .ok (.if_icmp .ne 26, 3) := by decide +kernel
theorem dX4_takeDigits_16 : decode cX4_takeDigits 16 = .ok (.aload_n 0, 1) := by decide +kernel
theorem dX4_takeDigits_17 : decode cX4_takeDigits 17 = .ok (.getfield 18, 3) := by decide +kernel
theorem dX4_takeDigits_20 : decode cX4_takeDigits 20 = .ok (.aload_n 0, 1) := by decide +kernel
theorem dX4_takeDigits_21 : decode cX4_takeDigits 21 = .ok (.getfield 22, 3) := by decide +kernel
theorem dX4_takeDigits_24 : decode cX4_takeDigits 24 = .ok (.iconst 1, 1) := by decide +kernel
theorem dX4_takeDigits_25 : decode cX4_takeDigits 25 = .ok (.iadd, 1) := by decide +kernel
theorem dX4_takeDigits_26 : decode cX4_takeDigits 26 = .ok (.invokevirtual 77, 3) := by decide +kernel
theorem dX4_takeDigits_29 : decode cX4_takeDigits 29 = .ok (.invokestatic 90, 3) := by decide +kernel
theorem dX4_takeDigits_32 : decode cX4_takeDigits 32 = .ok (.ifCond .eq 7, 3) := by decide +kernel
theorem dX4_takeDigits_35 : decode cX4_takeDigits 35 = .ok (.iconst 1, 1) := by decide +kernel
theorem dX4_takeDigits_36 : decode cX4_takeDigits 36 = .ok (.goto 4, 3) := by decide +kernel
theorem dX4_takeDigits_39 : decode cX4_takeDigits 39 = .ok (.iconst 0, 1) := by decide +kernel
theorem dX4_takeDigits_40 : decode cX4_takeDigits 40 = .ok (.istore_n 1, 1) := by decide +kernel
theorem dX4_takeDigits_41 : decode cX4_takeDigits 41 = .ok (.aload_n 0, 1) := by decide +kernel
theorem dX4_takeDigits_42 : decode cX4_takeDigits 42 = .ok (.iconst 0, 1) := by decide +kernel
theorem dX4_takeDigits_43 : decode cX4_takeDigits 43 = .ok (.putfield 39, 3) := by decide +kernel
theorem dX4_takeDigits_46 : decode cX4_takeDigits 46 = .ok (.aload_n 0, 1) := by decide +kernel
theorem dX4_takeDigits_47 : decode cX4_takeDigits 47 = .ok (.getfield 22, 3) := by decide +kernel
theorem dX4_takeDigits_50 : decode cX4_takeDigits 50 = .ok (.aload_n 0, 1) := by decide +kernel
theorem dX4_takeDigits_51 : decode cX4_takeDigits 51 = .ok (.getfield 18, 3) := by decide +kernel
theorem dX4_takeDigits_54 : decode cX4_takeDigits 54 = .ok (.getfield 72, 3) := by decide +kernel
theorem dX4_takeDigits_57 : decode cX4_takeDigits 57 = .ok (.if_icmp .ge 64, 3) := by decide +kernel
theorem dX4_takeDigits_60 : decode cX4_takeDigits 60 = .ok (.aload_n 0, 1) := by decide +kernel
theorem dX4_takeDigits_61 : decode cX4_takeDigits 61 = .ok (.getfield 18, 3) := by decide +kernel
theorem dX4_takeDigits_64 : decode cX4_takeDigits 64 = .ok (.aload_n 0, 1) := by decide +kernel
theorem dX4_takeDigits_65 : decode cX4_takeDigits 65 = .ok (.getfield 22, 3) := by decide +kernel
theorem dX4_takeDigits_68 : decode cX4_takeDigits 68 = .ok (.invokevirtual 77, 3) := by decide +kernel
theorem dX4_takeDigits_71 : decode cX4_takeDigits 71 = .ok (.invokestatic 90, 3) := by decide +kernel
theorem dX4_takeDigits_74 : decode cX4_takeDigits 74 = .ok (.ifCond .eq 47, 3) := by decide +kernel
theorem dX4_takeDigits_77 : decode cX4_takeDigits 77 = .ok (.aload_n 0, 1) := by decide +kernel
theorem dX4_takeDigits_78 : decode cX4_takeDigits 78 = .ok (.bipush 10, 2) := by decide +kernel
theorem dX4_takeDigits_80 : decode cX4_takeDigits 80 = .ok (.aload_n 0, 1) := by decide +kernel
theorem dX4_takeDigits_81 : decode cX4_takeDigits 81 = .ok (.getfield 39, 3) := by decide +kernel
theorem dX4_takeDigits_84 : decode cX4_takeDigits 84 = .ok (.imul, 1) := by decide +kernel
theorem dX4_takeDigits_85 : decode cX4_takeDigits 85 = .ok (.aload_n 0, 1) := by decide +kernel
theorem dX4_takeDigits_86 : decode cX4_takeDigits 86 = .ok (.getfield 18, 3) := by decide +kernel
theorem dX4_takeDigits_89 : decode cX4_takeDigits 89 = .ok (.aload_n 0, 1) := by decide +kernel
theorem dX4_takeDigits_90 : decode cX4_takeDigits 90 = .ok (.getfield 22, 3) := by decide +kernel
theorem dX4_takeDigits_93 : decode cX4_takeDigits 93 = .ok (.invokevirtual 77, 3) := by decide +kernel
theorem dX4_takeDigits_96 : decode cX4_takeDigits 96 = .ok (.iadd, 1) := by decide +kernel
theorem dX4_takeDigits_97 : decode cX4_takeDigits 97 = .ok (.bipush 48, 2) := by decide +kernel
theorem dX4_takeDigits_99 : decode cX4_takeDigits 99 = .ok (.isub, 1) := by decide +kernel
theorem dX4_takeDigits_100 : decode cX4_takeDigits 100 = .ok (.bipush 100, 2) := by decide +kernel
theorem dX4_takeDigits_102 : decode cX4_takeDigits 102 = .ok (.invokestatic 96, 3) := by decide +kernel
theorem dX4_takeDigits_105 : decode cX4_takeDigits 105 = .ok (.putfield 39, 3) := by decide +kernel
theorem dX4_takeDigits_108 : decode cX4_takeDigits 108 = .ok (.aload_n 0, 1) := by decide +kernel
theorem dX4_takeDigits_109 : decode cX4_takeDigits 109 = .ok (.dup, 1) := by decide +kernel
theorem dX4_takeDigits_110 : decode cX4_takeDigits 110 = .ok (.getfield 22, 3) := by decide +kernel
theorem dX4_takeDigits_113 : decode cX4_takeDigits 113 = .ok (.iconst 1, 1) := by decide +kernel
theorem dX4_takeDigits_114 : decode cX4_takeDigits 114 = .ok (.iadd, 1) := by decide +kernel
theorem dX4_takeDigits_115 : decode cX4_takeDigits 115 = .ok (.putfield 22, 3) := by decide +kernel
theorem dX4_takeDigits_118 : decode cX4_takeDigits 118 = .ok (.goto (-72), 3) := by decide +kernel
theorem dX4_takeDigits_121 : decode cX4_takeDigits 121 = .ok (.aload_n 0, 1) := by decide +kernel
theorem dX4_takeDigits_122 : decode cX4_takeDigits 122 = .ok (.iload_n 1, 1) := by decide +kernel
theorem dX4_takeDigits_123 : decode cX4_takeDigits 123 = .ok (.ifCond .ne 12, 3) := by decide +kernel
theorem dX4_takeDigits_126 : decode cX4_takeDigits 126 = .ok (.aload_n 0, 1) := by decide +kernel
theorem dX4_takeDigits_127 : decode cX4_takeDigits 127 = .ok (.getfield 39, 3) := by decide +kernel
theorem dX4_takeDigits_130 : decode cX4_takeDigits 130 = .ok (.bipush 99, 2) := by decide +kernel
theorem dX4_takeDigits_132 : decode cX4_takeDigits 132 = .ok (.if_icmp .le 7, 3) := by decide +kernel
theorem dX4_takeDigits_135 : decode cX4_takeDigits 135 = .ok (.iconst 4, 1) := by decide +kernel
theorem dX4_takeDigits_136 : decode cX4_takeDigits 136 = .ok (.goto 4, 3) := by decide +kernel
theorem dX4_takeDigits_139 : decode cX4_takeDigits 139 = .ok (.iconst 2, 1) := by decide +kernel
theorem dX4_takeDigits_140 : decode cX4_takeDigits 140 = .ok (.putfield 32, 3) := by decide +kernel
theorem dX4_takeDigits_143 : decode cX4_takeDigits 143 = .ok (.return_, 1) := by decide +kernel
theorem dX4_isLetter_0 : decode cX4_isLetter 0 = .ok (.iload_n 0, 1) := by decide +kernel
theorem dX4_isLetter_1 : decode cX4_isLetter 1 = .ok (.bipush 97, 2) := by decide +kernel
theorem dX4_isLetter_3 : decode cX4_isLetter 3 = .ok (.if_icmp .lt 13, 3) := by decide +kernel
theorem dX4_isLetter_6 : decode cX4_isLetter 6 = .ok (.iload_n 0, 1) := by decide +kernel
theorem dX4_isLetter_7 : decode cX4_isLetter 7 = .ok (.bipush 122, 2) := by decide +kernel
theorem dX4_isLetter_9 : decode cX4_isLetter 9 = .ok (.if_icmp .gt 7, 3) := by decide +kernel
theorem dX4_isLetter_12 : decode cX4_isLetter 12 = .ok (.iconst 1, 1) := by decide +kernel
theorem dX4_isLetter_13 : decode cX4_isLetter 13 = .ok (.goto 4, 3) := by decide +kernel
theorem dX4_isLetter_16 : decode cX4_isLetter 16 = .ok (.iconst 0, 1) := by decide +kernel
theorem dX4_isLetter_17 : decode cX4_isLetter 17 = .ok (.ireturn, 1) := by decide +kernel
theorem dX4_isDigit_0 : decode cX4_isDigit 0 = .ok (.iload_n 0, 1) := by decide +kernel
theorem dX4_isDigit_1 : decode cX4_isDigit 1 = .ok (.bipush 48, 2) := by decide +kernel
