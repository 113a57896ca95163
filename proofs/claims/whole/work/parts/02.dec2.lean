theorem dX4_isDigit_3 : decode cX4_isDigit 3 = .ok (.if_icmp .lt 13, 3) := by decide +kernel
theorem dX4_isDigit_6 : decode cX4_isDigit 6 = .ok (.iload_n 0, 1) := by decide +kernel
theorem dX4_isDigit_7 : decode cX4_isDigit 7 = .ok (.bipush 57, 2) := by decide +kernel
theorem dX4_isDigit_9 : decode cX4_isDigit 9 = .ok (.if_icmp .gt 7, 3) := by decide +kernel
theorem dX4_isDigit_12 : decode cX4_isDigit 12 = .ok (.iconst 1, 1) := by decide +kernel
theorem dX4_isDigit_13 : decode cX4_isDigit 13 = .ok (.goto 4, 3) := by decide +kernel
theorem dX4_isDigit_16 : decode cX4_isDigit 16 = .ok (.iconst 0, 1) := by decide +kernel
theorem dX4_isDigit_17 : decode cX4_isDigit 17 = .ok (.ireturn, 1) := by decide +kernel
theorem dX5_init_0 : decode cX5_init 0 = .ok (.aload_n 0, 1) := by decide +kernel
theorem dX5_init_1 : decode cX5_init 1 = .ok (.invokespecial 3, 3) := by decide +kernel
theorem dX5_init_4 : decode cX5_init 4 = .ok (.aload_n 0, 1) := by decide +kernel
theorem dX5_init_5 : decode cX5_init 5 = .ok (.sipush 200, 3) := by decide +kernel
theorem dX5_init_8 : decode cX5_init 8 = .ok (.newarray .int, 2) := by decide +kernel
theorem dX5_init_10 : decode cX5_init 10 = .ok (.putfield 9, 3) := by decide +kernel
theorem dX5_init_13 : decode cX5_init 13 = .ok (.return_, 1) := by decide +kernel
theorem dX5_add_0 : decode cX5_add 0 = .ok (.aload_n 0, 1) := by decide +kernel
theorem dX5_add_1 : decode cX5_add 1 = .ok (.getfield 15, 3) := by decide +kernel
theorem dX5_add_4 : decode cX5_add 4 = .ok (.sipush 200, 3) := by decide +kernel
theorem dX5_add_7 : decode cX5_add 7 = .ok (.if_icmp .lt 5, 3) := by decide +kernel
theorem dX5_add_10 : decode cX5_add 10 = .ok (.iconst 0, 1) := by decide +kernel
theorem dX5_add_11 : decode cX5_add 11 = .ok (.ireturn, 1) := by decide +kernel
theorem dX5_add_12 : decode cX5_add 12 = .ok (.aload_n 0, 1) := by decide +kernel
theorem dX5_add_13 : decode cX5_add 13 = .ok (.getfield 9, 3) := by decide +kernel
theorem dX5_add_16 : decode cX5_add 16 = .ok (.aload_n 0, 1) := by decide +kernel
theorem dX5_add_17 : decode cX5_add 17 = .ok (.getfield 15, 3) := by decide +kernel
theorem dX5_add_20 : decode cX5_add 20 = .ok (.iload_n 1, 1) := by decide +kernel
theorem dX5_add_21 : decode cX5_add 21 = .ok (.iastore, 1) := by decide +kernel
theorem dX5_add_22 : decode cX5_add 22 = .ok (.aload_n 0, 1) := by decide +kernel
theorem dX5_add_23 : decode cX5_add 23 = .ok (.dup, 1) := by decide +kernel
theorem dX5_add_24 : decode cX5_add 24 = .ok (.getfield 15, 3) := by decide +kernel
theorem dX5_add_27 : decode cX5_add 27 = .ok (.iconst 1, 1) := by decide +kernel
theorem dX5_add_28 : decode cX5_add 28 = .ok (.iadd, 1) := by decide +kernel
theorem dX5_add_29 : decode cX5_add 29 = .ok (.putfield 15, 3) := by decide +kernel
theorem dX5_add_32 : decode cX5_add 32 = .ok (.iconst 1, 1) := by decide +kernel
theorem dX5_add_33 : decode cX5_add 33 = .ok (.ireturn, 1) := by decide +kernel
theorem dX5_at_0 : decode cX5_at 0 = .ok (.iload_n 1, 1) := by decide +kernel
theorem dX5_at_1 : decode cX5_at 1 = .ok (.ifCond .lt 20, 3) := by decide +kernel
theorem dX5_at_4 : decode cX5_at 4 = .ok (.iload_n 1, 1) := by decide +kernel
theorem dX5_at_5 : decode cX5_at 5 = .ok (.aload_n 0, 1) := by decide +kernel
theorem dX5_at_6 : decode cX5_at 6 = .ok (.getfield 15, 3) := by decide +kernel
theorem dX5_at_9 : decode cX5_at 9 = .ok (.if_icmp .ge 12, 3) := by decide +kernel
theorem dX5_at_12 : decode cX5_at 12 = .ok (.aload_n 0, 1) := by decide +kernel
theorem dX5_at_13 : decode cX5_at 13 = .ok (.getfield 9, 3) := by decide +kernel
theorem dX5_at_16 : decode cX5_at 16 = .ok (.iload_n 1, 1) := by decide +kernel
theorem dX5_at_17 : decode cX5_at 17 = .ok (.iaload, 1) := by decide +kernel
theorem dX5_at_18 : decode cX5_at 18 = .ok (.goto 4, 3) := by decide +kernel
theorem dX5_at_21 : decode cX5_at 21 = .ok (.iconst (-1), 1) := by decide +kernel
theorem dX5_at_22 : decode cX5_at 22 = .ok (.ireturn, 1) := by decide +kernel
theorem dX6_init_0 : decode cX6_init 0 = .ok (.aload_n 0, 1) := by decide +kernel
theorem dX6_init_1 : decode cX6_init 1 = .ok (.invokespecial 3, 3) := by decide +kernel
theorem dX6_init_4 : decode cX6_init 4 = .ok (.aload_n 0, 1) := by decide +kernel
theorem dX6_init_5 : decode cX6_init 5 = .ok (.bipush 9, 2) := by decide +kernel
theorem dX6_init_7 : decode cX6_init 7 = .ok (.newarray .int, 2) := by decide +kernel
theorem dX6_init_9 : decode cX6_init 9 = .ok (.putfield 9, 3) := by decide +kernel
theorem dX6_init_12 : decode cX6_init 12 = .ok (.aload_n 0, 1) := by decide +kernel
theorem dX6_init_13 : decode cX6_init 13 = .ok (.bipush 15, 2) := by decide +kernel
theorem dX6_init_15 : decode cX6_init 15 = .ok (.newarray .int, 2) := by decide +kernel
theorem dX6_init_17 : decode cX6_init 17 = .ok (.putfield 15, 3) := by decide +kernel
theorem dX6_init_20 : decode cX6_init 20 = .ok (.aload_n 0, 1) := by decide +kernel
theorem dX6_init_21 : decode cX6_init 21 = .ok (.bipush 15, 2) := by decide +kernel
theorem dX6_init_23 : decode cX6_init 23 = .ok (.newarray .int, 2) := by decide +kernel
theorem dX6_init_25 : decode cX6_init 25 = .ok (.putfield 18, 3) := by decide +kernel
theorem dX6_init_28 : decode cX6_init 28 = .ok (.aload_n 0, 1) := by decide +kernel
theorem dX6_init_29 : decode cX6_init 29 = .ok (.bipush 9, 2) := by decide +kernel
theorem dX6_init_31 : decode cX6_init 31 = .ok (.newarray .int, 2) := by decide +kernel
theorem dX6_init_33 : decode cX6_init 33 = .ok (.putfield 21, 3) := by decide +kernel
theorem dX6_init_36 : decode cX6_init 36 = .ok (.return_, 1) := by decide +kernel
theorem dX6_isLamp_0 : decode cX6_isLamp 0 = .ok (.iload_n 1, 1) := by decide +kernel
theorem dX6_isLamp_1 : decode cX6_isLamp 1 = .ok (.ifCond .lt 15, 3) := by decide +kernel
theorem dX6_isLamp_4 : decode cX6_isLamp 4 = .ok (.iload_n 1, 1) := by decide +kernel
theorem dX6_isLamp_5 : decode cX6_isLamp 5 = .ok (.aload_n 0, 1) := by decide +kernel
theorem dX6_isLamp_6 : decode cX6_isLamp 6 = .ok (.getfield 24, 3) := by decide +kernel
theorem dX6_isLamp_9 : decode cX6_isLamp 9 = .ok (.if_icmp .ge 7, 3) := by decide +kernel
theorem dX6_isLamp_12 : decode cX6_isLamp 12 = .ok (.iconst 1, 1) := by decide +kernel
theorem dX6_isLamp_13 : decode cX6_isLamp 13 = .ok (.goto 4, 3) := by decide +kernel
theorem dX6_isLamp_16 : decode cX6_isLamp 16 = .ok (.iconst 0, 1) := by decide +kernel
theorem dX6_isLamp_17 : decode cX6_isLamp 17 = .ok (.ireturn, 1) := by decide +kernel
theorem dX6_isStreet_0 : decode cX6_isStreet 0 = .ok (.iload_n 1, 1) := by decide +kernel
theorem dX6_isStreet_1 : decode cX6_isStreet 1 = .ok (.ifCond .lt 15, 3) := by decide +kernel
theorem dX6_isStreet_4 : decode cX6_isStreet 4 = .ok (.iload_n 1, 1) := by decide +kernel
theorem dX6_isStreet_5 : decode cX6_isStreet 5 = .ok (.aload_n 0, 1) := by decide +kernel
theorem dX6_isStreet_6 : decode cX6_isStreet 6 = .ok (.getfield 28, 3) := by decide +kernel
theorem dX6_isStreet_9 : decode cX6_isStreet 9 = .ok (.if_icmp .ge 7, 3) := by decide +kernel
theorem dX6_isStreet_12 : decode cX6_isStreet 12 = .ok (.iconst 1, 1) := by decide +kernel
theorem dX6_isStreet_13 : decode cX6_isStreet 13 = .ok (.goto 4, 3) := by decide +kernel
theorem dX6_isStreet_16 : decode cX6_isStreet 16 = .ok (.iconst 0, 1) := by decide +kernel
theorem dX6_isStreet_17 : decode cX6_isStreet 17 = .ok (.ireturn, 1) := by decide +kernel
theorem dX6_isStand_0 : decode cX6_isStand 0 = .ok (.iload_n 1, 1) := by decide +kernel
theorem dX6_isStand_1 : decode cX6_isStand 1 = .ok (.ifCond .lt 15, 3) := by decide +kernel
theorem dX6_isStand_4 : decode cX6_isStand 4 = .ok (.iload_n 1, 1) := by decide +kernel
theorem dX6_isStand_5 : decode cX6_isStand 5 = .ok (.aload_n 0, 1) := by decide +kernel
theorem dX6_isStand_6 : decode cX6_isStand 6 = .ok (.invokevirtual 31, 3) := by decide +kernel
theorem dX6_isStand_9 : decode cX6_isStand 9 = .ok (.if_icmp .ge 7, 3) := by decide +kernel
theorem dX6_isStand_12 : decode cX6_isStand 12 = .ok (.iconst 1, 1) := by decide +kernel
theorem dX6_isStand_13 : decode cX6_isStand 13 = .ok (.goto 4, 3) := by decide +kernel
theorem dX6_isStand_16 : decode cX6_isStand 16 = .ok (.iconst 0, 1) := by decide +kernel
theorem dX6_isStand_17 : decode cX6_isStand 17 = .ok (.ireturn, 1) := by decide +kernel
theorem dX6_stands_0 : decode cX6_stands 0 = .ok (.iconst 1, 1) := by decide +kernel
theorem dX6_stands_1 : decode cX6_stands 1 = .ok (.aload_n 0, 1) := by decide +kernel
theorem dX6_stands_2 : decode cX6_stands 2 = .ok (.getfield 24, 3) := by decide +kernel
theorem dX6_stands_5 : decode cX6_stands 5 = .ok (.ishl, 1) := by decide +kernel
theorem dX6_stands_6 : decode cX6_stands 6 = .ok (.ireturn, 1) := by decide +kernel
theorem dX6_isJoined_0 : decode cX6_isJoined 0 = .ok (.aload_n 0, 1) := by decide +kernel
theorem dX6_isJoined_1 : decode cX6_isJoined 1 = .ok (.iload_n 1, 1) := by decide +kernel
theorem dX6_isJoined_2 : decode cX6_isJoined 2 = .ok (.invokevirtual 35, 3) := by decide +kernel
theorem dX6_isJoined_5 : decode cX6_isJoined 5 = .ok (.ifCond .eq 21, 3) := by decide +kernel
theorem dX6_isJoined_8 : decode cX6_isJoined 8 = .ok (.aload_n 0, 1) := by decide +kernel
theorem dX6_isJoined_9 : decode cX6_isJoined 9 = .ok (.getfield 21, 3) := by decide +kernel
theorem dX6_isJoined_12 : decode cX6_isJoined 12 = .ok (.iload_n 1, 1) := by decide +kernel
theorem dX6_isJoined_13 : decode cX6_isJoined 13 = .ok (.iaload, 1) := by decide +kernel
theorem dX6_isJoined_14 : decode cX6_isJoined 14 = .ok (.iload_n 2, 1) := by decide +kernel
theorem dX6_isJoined_15 : decode cX6_isJoined 15 = .ok (.ishr, 1) := by decide +kernel
theorem dX6_isJoined_16 : decode cX6_isJoined 16 = .ok (.iconst 1, 1) := by decide +kernel
theorem dX6_isJoined_17 : decode cX6_isJoined 17 = .ok (.iand, 1) := by decide +kernel
theorem dX6_isJoined_18 : decode cX6_isJoined 18 = .ok (.iconst 1, 1) := by decide +kernel
theorem dX6_isJoined_19 : decode cX6_isJoined 19 = .ok (.if_icmp .ne 7, 3) := by decide +kernel
theorem dX6_isJoined_22 : decode cX6_isJoined 22 = .ok (.iconst 1, 1) := by decide +kernel
theorem dX6_isJoined_23 : decode cX6_isJoined 23 = .ok (.goto 4, 3) := by decide +kernel
theorem dX6_isJoined_26 : decode cX6_isJoined 26 = .ok (.iconst 0, 1) := by decide +kernel
theorem dX6_isJoined_27 : decode cX6_isJoined 27 = .ok (.ireturn, 1) := by decide +kernel
theorem dX6_empty_0 : decode cX6_empty 0 = .ok (.aload_n 0, 1) := by decide +kernel
theorem dX6_empty_1 : decode cX6_empty 1 = .ok (.iconst 0, 1) := by decide +kernel
theorem dX6_empty_2 : decode cX6_empty 2 = .ok (.putfield 24, 3) := by decide +kernel
theorem dX6_empty_5 : decode cX6_empty 5 = .ok (.aload_n 0, 1) := by decide +kernel
theorem dX6_empty_6 : decode cX6_empty 6 = .ok (.iconst 0, 1) := by decide +kernel
theorem dX6_empty_7 : decode cX6_empty 7 = .ok (.putfield 28, 3) := by decide +kernel
theorem dX6_empty_10 : decode cX6_empty 10 = .ok (.aload_n 0, 1) := by decide +kernel
theorem dX6_empty_11 : decode cX6_empty 11 = .ok (.iconst 0, 1) := by decide +kernel
theorem dX6_empty_12 : decode cX6_empty 12 = .ok (.putfield 39, 3) := by decide +kernel
theorem dX6_empty_15 : decode cX6_empty 15 = .ok (.aload_n 0, 1) := by decide +kernel
theorem dX6_empty_16 : decode cX6_empty 16 = .ok (.getfield 21, 3) := by decide +kernel
theorem dX6_empty_19 : decode cX6_empty 19 = .ok (.iconst 0, 1) := by decide +kernel
theorem dX6_empty_20 : decode cX6_empty 20 = .ok (.invokestatic 42, 3) := by decide +kernel
theorem dX6_empty_23 : decode cX6_empty 23 = .ok (.return_, 1) := by decide +kernel
theorem dX6_addLamp_0 : decode cX6_addLamp 0 = .ok (.aload_n 0, 1) := by decide +kernel
theorem dX6_addLamp_1 : decode cX6_addLamp 1 = .ok (.getfield 24, 3) := by decide +kernel
theorem dX6_addLamp_4 : decode cX6_addLamp 4 = .ok (.bipush 9, 2) := by decide +kernel
theorem dX6_addLamp_6 : decode cX6_addLamp 6 = .ok (.if_icmp .ge 38, 3) := by decide +kernel
theorem dX6_addLamp_9 : decode cX6_addLamp 9 = .ok (.aload_n 0, 1) := by decide +kernel
theorem dX6_addLamp_10 : decode cX6_addLamp 10 = .ok (.getfield 9, 3) := by decide +kernel
theorem dX6_addLamp_13 : decode cX6_addLamp 13 = .ok (.aload_n 0, 1) := by decide +kernel
theorem dX6_addLamp_14 : decode cX6_addLamp 14 = .ok (.getfield 24, 3) := by decide +kernel
theorem dX6_addLamp_17 : decode cX6_addLamp 17 = .ok (.iload_n 1, 1) := by decide +kernel
theorem dX6_addLamp_18 : decode cX6_addLamp 18 = .ok (.iastore, 1) := by decide +kernel
theorem dX6_addLamp_19 : decode cX6_addLamp 19 = .ok (.aload_n 0, 1) := by decide +kernel
theorem dX6_addLamp_20 : decode cX6_addLamp 20 = .ok (.dup, 1) := by decide +kernel
theorem dX6_addLamp_21 : decode cX6_addLamp 21 = .ok (.getfield 39, 3) := by decide +kernel
theorem dX6_addLamp_24 : decode cX6_addLamp 24 = .ok (.iload_n 2, 1) := by decide +kernel
theorem dX6_addLamp_25 : decode cX6_addLamp 25 = .ok (.aload_n 0, 1) := by decide +kernel
theorem dX6_addLamp_26 : decode cX6_addLamp 26 = .ok (.getfield 24, 3) := by decide +kernel
theorem dX6_addLamp_29 : decode cX6_addLamp 29 = .ok (.ishl, 1) := by decide +kernel
theorem dX6_addLamp_30 : decode cX6_addLamp 30 = .ok (.ior, 1) := by decide +kernel
theorem dX6_addLamp_31 : decode cX6_addLamp 31 = .ok (.putfield 39, 3) := by decide +kernel
theorem dX6_addLamp_34 : decode cX6_addLamp 34 = .ok (.aload_n 0, 1) := by decide +kernel
theorem dX6_addLamp_35 : decode cX6_addLamp 35 = .ok (.dup, 1) := by decide +kernel
theorem dX6_addLamp_36 : decode cX6_addLamp 36 = .ok (.getfield 24, 3) := by decide +kernel
theorem dX6_addLamp_39 : decode cX6_addLamp 39 = .ok (.iconst 1, 1) := by decide +kernel
theorem dX6_addLamp_40 : decode cX6_addLamp 40 = .ok (.iadd, 1) := by decide +kernel
theorem dX6_addLamp_41 : decode cX6_addLamp 41 = .ok (.putfield 24, 3) := by decide +kernel
theorem dX6_addLamp_44 : decode cX6_addLamp 44 = .ok (.return_, 1) := by decide +kernel
theorem dX6_addStreet_0 : decode cX6_addStreet 0 = .ok (.aload_n 0, 1) := by decide +kernel
theorem dX6_addStreet_1 : decode cX6_addStreet 1 = .ok (.getfield 28, 3) := by decide +kernel
theorem dX6_addStreet_4 : decode cX6_addStreet 4 = .ok (.bipush 15, 2) := by decide +kernel
theorem dX6_addStreet_6 : decode cX6_addStreet 6 = .ok (.if_icmp .ge 81, 3) := by decide +kernel
theorem dX6_addStreet_9 : decode cX6_addStreet 9 = .ok (.aload_n 0, 1) := by decide +kernel
theorem dX6_addStreet_10 : decode cX6_addStreet 10 = .ok (.iload_n 1, 1) := by decide +kernel
theorem dX6_addStreet_11 : decode cX6_addStreet 11 = .ok (.invokevirtual 35, 3) := by decide +kernel
theorem dX6_addStreet_14 : decode cX6_addStreet 14 = .ok (.ifCond .eq 73, 3) := by decide +kernel
theorem dX6_addStreet_17 : decode cX6_addStreet 17 = .ok (.aload_n 0, 1) := by decide +kernel
theorem dX6_addStreet_18 : decode cX6_addStreet 18 = .ok (.iload_n 2, 1) := by decide +kernel
theorem dX6_addStreet_19 : decode cX6_addStreet 19 = .ok (.invokevirtual 35, 3) := by decide +kernel
theorem dX6_addStreet_22 : decode cX6_addStreet 22 = .ok (.ifCond .eq 65, 3) := by decide +kernel
theorem dX6_addStreet_25 : decode cX6_addStreet 25 = .ok (.aload_n 0, 1) := by decide +kernel
theorem dX6_addStreet_26 : decode cX6_addStreet 26 = .ok (.getfield 15, 3) := by decide +kernel
theorem dX6_addStreet_29 : decode cX6_addStreet 29 = .ok (.aload_n 0, 1) := by decide +kernel
theorem dX6_addStreet_30 : decode cX6_addStreet 30 = .ok (.getfield 28, 3) := by decide +kernel
theorem dX6_addStreet_33 : decode cX6_addStreet 33 = .ok (.iload_n 1, 1) := by decide +kernel
theorem dX6_addStreet_34 : decode cX6_addStreet 34 = .ok (.iload_n 2, 1) := by decide +kernel
theorem dX6_addStreet_35 : decode cX6_addStreet 35 = .ok (.invokestatic 48, 3) := by decide +kernel
theorem dX6_addStreet_38 : decode cX6_addStreet 38 = .ok (.iastore, 1) := by decide +kernel
theorem dX6_addStreet_39 : decode cX6_addStreet 39 = .ok (.aload_n 0, 1) := by decide +kernel
theorem dX6_addStreet_40 : decode cX6_addStreet 40 = .ok (.getfield 18, 3) := by decide +kernel
theorem dX6_addStreet_43 : decode cX6_addStreet 43 = .ok (.aload_n 0, 1) := by decide +kernel
theorem dX6_addStreet_44 : decode cX6_addStreet 44 = .ok (.getfield 28, 3) := by decide +kernel
theorem dX6_addStreet_47 : decode cX6_addStreet 47 = .ok (.iload_n 1, 1) := by decide +kernel
theorem dX6_addStreet_48 : decode cX6_addStreet 48 = .ok (.iload_n 2, 1) := by decide +kernel
theorem dX6_addStreet_49 : decode cX6_addStreet 49 = .ok (.invokestatic 54, 3) := by decide +kernel
theorem dX6_addStreet_52 : decode cX6_addStreet 52 = .ok (.iastore, 1) := by decide +kernel
theorem dX6_addStreet_53 : decode cX6_addStreet 53 = .ok (.aload_n 0, 1) := by decide +kernel
theorem dX6_addStreet_54 : decode cX6_addStreet 54 = .ok (.getfield 21, 3) := by decide +kernel
theorem dX6_addStreet_57 : decode cX6_addStreet 57 = .ok (.iload_n 1, 1) := by decide +kernel
theorem dX6_addStreet_58 : decode cX6_addStreet 58 = .ok (.dup2, 1) := by decide +kernel
theorem dX6_addStreet_59 : decode cX6_addStreet 59 = .ok (.iaload, 1) := by decide +kernel
theorem dX6_addStreet_60 : decode cX6_addStreet 60 = .ok (.iconst 1, 1) := by decide +kernel
theorem dX6_addStreet_61 : decode cX6_addStreet 61 = .ok (.iload_n 2, 1) := by decide +kernel
theorem dX6_addStreet_62 : decode cX6_addStreet 62 = .ok (.ishl, 1) := by decide +kernel
theorem dX6_addStreet_63 : decode cX6_addStreet 63 = .ok (.ior, 1) := by decide +kernel
theorem dX6_addStreet_64 : decode cX6_addStreet 64 = .ok (.iastore, 1) := by decide +kernel
theorem dX6_addStreet_65 : decode cX6_addStreet 65 = .ok (.aload_n 0, 1) := by decide +kernel
theorem dX6_addStreet_66 : decode cX6_addStreet 66 = .ok (.getfield 21, 3) := by decide +kernel
theorem dX6_addStreet_69 : decode cX6_addStreet 69 = .ok (.iload_n 2, 1) := by decide +kernel
theorem dX6_addStreet_70 : decode cX6_addStreet 70 = .ok (.dup2, 1) := by decide +kernel
theorem dX6_addStreet_71 : decode cX6_addStreet 71 = .ok (.iaload, 1) := by decide +kernel
theorem dX6_addStreet_72 : decode cX6_addStreet 72 = .ok (.iconst 1, 1) := by decide +kernel
theorem dX6_addStreet_73 : decode cX6_addStreet 73 = .ok (.iload_n 1, 1) := by decide +kernel
theorem dX6_addStreet_74 : decode cX6_addStreet 74 = .ok (.ishl, 1) := by decide +kernel
theorem dX6_addStreet_75 : decode cX6_addStreet 75 = .ok (.ior, 1) := by decide +kernel
theorem dX6_addStreet_76 : decode cX6_addStreet 76 = .ok (.iastore, 1) := by decide +kernel
theorem dX6_addStreet_77 : decode cX6_addStreet 77 = .ok (.aload_n 0, 1) := by decide +kernel
theorem dX6_addStreet_78 : decode cX6_addStreet 78 = .ok (.dup, 1) := by decide +kernel
theorem dX6_addStreet_79 : decode cX6_addStreet 79 = .ok (.getfield 28, 3) := by decide +kernel
theorem dX6_addStreet_82 : decode cX6_addStreet 82 = .ok (.iconst 1, 1) := by decide +kernel
theorem dX6_addStreet_83 : decode cX6_addStreet 83 = .ok (.iadd, 1) := by decide +kernel
theorem dX6_addStreet_84 : decode cX6_addStreet 84 = .ok (.putfield 28, 3) := by decide +kernel
theorem dX6_addStreet_87 : decode cX6_addStreet 87 = .ok (.return_, 1) := by decide +kernel
theorem dX6_take_0 : decode cX6_take 0 = .ok (.aload_n 0, 1) := by decide +kernel
theorem dX6_take_1 : decode cX6_take 1 = .ok (.aload_n 1, 1) := by decide +kernel
theorem dX6_take_2 : decode cX6_take 2 = .ok (.getfield 24, 3) := by decide +kernel
theorem dX6_take_5 : decode cX6_take 5 = .ok (.putfield 24, 3) := by decide +kernel
theorem dX6_take_8 : decode cX6_take 8 = .ok (.aload_n 0, 1) := by decide +kernel
theorem dX6_take_9 : decode cX6_take 9 = .ok (.aload_n 1, 1) := by decide +kernel
theorem dX6_take_10 : decode cX6_take 10 = .ok (.getfield 28, 3) := by decide +kernel
theorem dX6_take_13 : decode cX6_take 13 = .ok (.putfield 28, 3) := by decide +kernel
theorem dX6_take_16 : decode cX6_take 16 = .ok (.aload_n 0, 1) := by decide +kernel
theorem dX6_take_17 : decode cX6_take 17 = .ok (.aload_n 1, 1) := by decide +kernel
theorem dX6_take_18 : decode cX6_take 18 = .ok (.getfield 39, 3) := by decide +kernel
theorem dX6_take_21 : decode cX6_take 21 = .ok (.putfield 39, 3) := by decide +kernel
theorem dX6_take_24 : decode cX6_take 24 = .ok (.aload_n 1, 1) := by decide +kernel
theorem dX6_take_25 : decode cX6_take 25 = .ok (.getfield 9, 3) := by decide +kernel
theorem dX6_take_28 : decode cX6_take 28 = .ok (.iconst 0, 1) := by decide +kernel
theorem dX6_take_29 : decode cX6_take 29 = .ok (.aload_n 0, 1) := by decide +kernel
theorem dX6_take_30 : decode cX6_take 30 = .ok (.getfield 9, 3) := by decide +kernel
theorem dX6_take_33 : decode cX6_take 33 = .ok (.iconst 0, 1) := by decide +kernel
theorem dX6_take_34 : decode cX6_take 34 = .ok (.bipush 9, 2) := by decide +kernel
theorem dX6_take_36 : decode cX6_take 36 = .ok (.invokestatic 57, 3) := by decide +kernel
theorem dX6_take_39 : decode cX6_take 39 = .ok (.aload_n 1, 1) := by decide +kernel
theorem dX6_take_40 : decode cX6_take 40 = .ok (.getfield 15, 3) := by decide +kernel
theorem dX6_take_43 : decode cX6_take 43 = .ok (.iconst 0, 1) := by decide +kernel
theorem dX6_take_44 : decode cX6_take 44 = .ok (.aload_n 0, 1) := by decide +kernel
theorem dX6_take_45 : decode cX6_take 45 = .ok (.getfield 15, 3) := by decide +kernel
theorem dX6_take_48 : decode cX6_take 48 = .ok (.iconst 0, 1) := by decide +kernel
theorem dX6_take_49 : decode cX6_take 49 = .ok (.bipush 15, 2) := by decide +kernel
theorem dX6_take_51 : decode cX6_take 51 = .ok (.invokestatic 57, 3) := by decide +kernel
theorem dX6_take_54 : decode cX6_take 54 = .ok (.aload_n 1, 1) := by decide +kernel
theorem dX6_take_55 : decode cX6_take 55 = .ok (.getfield 18, 3) := by decide +kernel
theorem dX6_take_58 : decode cX6_take 58 = .ok (.iconst 0, 1) := by decide +kernel
theorem dX6_take_59 : decode cX6_take 59 = .ok (.aload_n 0, 1) := by decide +kernel
theorem dX6_take_60 : decode cX6_take 60 = .ok (.getfield 18, 3) := by decide +kernel
theorem dX6_take_63 : decode cX6_take 63 = .ok (.iconst 0, 1) := by decide +kernel
theorem dX6_take_64 : decode cX6_take 64 = .ok (.bipush 15, 2) := by decide +kernel
theorem dX6_take_66 : decode cX6_take 66 = .ok (.invokestatic 57, 3) := by decide +kernel
theorem dX6_take_69 : decode cX6_take 69 = .ok (.aload_n 1, 1) := by decide +kernel
theorem dX6_take_70 : decode cX6_take 70 = .ok (.getfield 21, 3) := by decide +kernel
theorem dX6_take_73 : decode cX6_take 73 = .ok (.iconst 0, 1) := by decide +kernel
theorem dX6_take_74 : decode cX6_take 74 = .ok (.aload_n 0, 1) := by decide +kernel
theorem dX6_take_75 : decode cX6_take 75 = .ok (.getfield 21, 3) := by decide +kernel
theorem dX6_take_78 : decode cX6_take 78 = .ok (.iconst 0, 1) := by decide +kernel
theorem dX6_take_79 : decode cX6_take 79 = .ok (.bipush 9, 2) := by decide +kernel
theorem dX6_take_81 : decode cX6_take 81 = .ok (.invokestatic 57, 3) := by decide +kernel
theorem dX6_take_84 : decode cX6_take 84 = .ok (.return_, 1) := by decide +kernel
theorem dX7_init_0 : decode cX7_init 0 = .ok (.aload_n 0, 1) := by decide +kernel
theorem dX7_init_1 : decode cX7_init 1 = .ok (.invokespecial 1, 3) := by decide +kernel
theorem dX7_init_4 : decode cX7_init 4 = .ok (.aload_n 0, 1) := by decide +kernel
theorem dX7_init_5 : decode cX7_init 5 = .ok (.new 7, 3) := by decide +kernel
theorem dX7_init_8 : decode cX7_init 8 = .ok (.dup, 1) := by decide +kernel
theorem dX7_init_9 : decode cX7_init 9 = .ok (.invokespecial 9, 3) := by decide +kernel
theorem dX7_init_12 : decode cX7_init 12 = .ok (.putfield 10, 3) := by decide +kernel
theorem dX7_init_15 : decode cX7_init 15 = .ok (.aload_n 0, 1) := by decide +kernel
theorem dX7_init_16 : decode cX7_init 16 = .ok (.new 16, 3) := by decide +kernel
theorem dX7_init_19 : decode cX7_init 19 = .ok (.dup, 1) := by decide +kernel
theorem dX7_init_20 : decode cX7_init 20 = .ok (.aload_n 0, 1) := by decide +kernel
theorem dX7_init_21 : decode cX7_init 21 = .ok (.getfield 10, 3) := by decide +kernel
theorem dX7_init_24 : decode cX7_init 24 = .ok (.invokespecial 18, 3) := by decide +kernel
theorem dX7_init_27 : decode cX7_init 27 = .ok (.putfield 21, 3) := by decide +kernel
theorem dX7_init_30 : decode cX7_init 30 = .ok (.aload_n 0, 1) := by decide +kernel
theorem dX7_init_31 : decode cX7_init 31 = .ok (.new 25, 3) := by decide +kernel
theorem dX7_init_34 : decode cX7_init 34 = .ok (.dup, 1) := by decide +kernel
theorem dX7_init_35 : decode cX7_init 35 = .ok (.invokespecial 27, 3) := by decide +kernel
theorem dX7_init_38 : decode cX7_init 38 = .ok (.putfield 28, 3) := by decide +kernel
theorem dX7_init_41 : decode cX7_init 41 = .ok (.aload_n 0, 1) := by decide +kernel
theorem dX7_init_42 : decode cX7_init 42 = .ok (.new 32, 3) := by decide +kernel
theorem dX7_init_45 : decode cX7_init 45 = .ok (.dup, 1) := by decide +kernel
theorem dX7_init_46 : decode cX7_init 46 = .ok (.invokespecial 34, 3) := by decide +kernel
theorem dX7_init_49 : decode cX7_init 49 = .ok (.putfield 35, 3) := by decide +kernel
theorem dX7_init_52 : decode cX7_init 52 = .ok (.aload_n 0, 1) := by decide +kernel
theorem dX7_init_53 : decode cX7_init 53 = .ok (.iconst 2, 1) := by decide +kernel
theorem dX7_init_54 : decode cX7_init 54 = .ok (.anewarray 32, 3) := by decide +kernel
theorem dX7_init_57 : decode cX7_init 57 = .ok (.dup, 1) := by decide +kernel
theorem dX7_init_58 : decode cX7_init 58 = .ok (.iconst 0, 1) := by decide +kernel
theorem dX7_init_59 : decode cX7_init 59 = .ok (.new 32, 3) := by decide +kernel
theorem dX7_init_62 : decode cX7_init 62 = .ok (.dup, 1) := by decide +kernel
theorem dX7_init_63 : decode cX7_init 63 = .ok (.invokespecial 34, 3) := by decide +kernel
theorem dX7_init_66 : decode cX7_init 66 = .ok (.aastore, 1) := by decide +kernel
theorem dX7_init_67 : decode cX7_init 67 = .ok (.dup, 1) := by decide +kernel
theorem dX7_init_68 : decode cX7_init 68 = .ok (.iconst 1, 1) := by decide +kernel
theorem dX7_init_69 : decode cX7_init 69 = .ok (.new 32, 3) := by decide +kernel
theorem dX7_init_72 : decode cX7_init 72 = .ok (.dup, 1) := by decide +kernel
theorem dX7_init_73 : decode cX7_init 73 = .ok (.invokespecial 34, 3) := by decide +kernel
theorem dX7_init_76 : decode cX7_init 76 = .ok (.aastore, 1) := by decide +kernel
theorem dX7_init_77 : decode cX7_init 77 = .ok (.putfield 39, 3) := by decide +kernel
theorem dX7_init_80 : decode cX7_init 80 = .ok (.aload_n 0, 1) := by decide +kernel
theorem dX7_init_81 : decode cX7_init 81 = .ok (.new 43, 3) := by decide +kernel
theorem dX7_init_84 : decode cX7_init 84 = .ok (.dup, 1) := by decide +kernel
theorem dX7_init_85 : decode cX7_init 85 = .ok (.aload_n 0, 1) := by decide +kernel
theorem dX7_init_86 : decode cX7_init 86 = .ok (.getfield 28, 3) := by decide +kernel
theorem dX7_init_89 : decode cX7_init 89 = .ok (.invokespecial 45, 3) := by decide +kernel
theorem dX7_init_92 : decode cX7_init 92 = .ok (.putfield 48, 3) := by decide +kernel
theorem dX7_init_95 : decode cX7_init 95 = .ok (.aload_n 0, 1) := by decide +kernel
theorem dX7_init_96 : decode cX7_init 96 = .ok (.new 43, 3) := by decide +kernel
theorem dX7_init_99 : decode cX7_init 99 = .ok (.dup, 1) := by decide +kernel
theorem dX7_init_100 : decode cX7_init 100 = .ok (.aload_n 0, 1) := by decide +kernel
theorem dX7_init_101 : decode cX7_init 101 = .ok (.getfield 28, 3) := by decide +kernel
theorem dX7_init_104 : decode cX7_init 104 = .ok (.invokespecial 45, 3) := by decide +kernel
theorem dX7_init_107 : decode cX7_init 107 = .ok (.putfield 52, 3) := by decide +kernel
theorem dX7_init_110 : decode cX7_init 110 = .ok (.aload_n 0, 1) := by decide +kernel
theorem dX7_init_111 : decode cX7_init 111 = .ok (.new 55, 3) := by decide +kernel
theorem dX7_init_114 : decode cX7_init 114 = .ok (.dup, 1) := by decide +kernel
theorem dX7_init_115 : decode cX7_init 115 = .ok (.aload_n 0, 1) := by decide +kernel
theorem dX7_init_116 : decode cX7_init 116 = .ok (.getfield 28, 3) := by decide +kernel
theorem dX7_init_119 : decode cX7_init 119 = .ok (.aload_n 0, 1) := by decide +kernel
theorem dX7_init_120 : decode cX7_init 120 = .ok (.getfield 48, 3) := by decide +kernel
theorem dX7_init_123 : decode cX7_init 123 = .ok (.invokespecial 57, 3) := by decide +kernel
theorem dX7_init_126 : decode cX7_init 126 = .ok (.putfield 60, 3) := by decide +kernel
theorem dX7_init_129 : decode cX7_init 129 = .ok (.aload_n 0, 1) := by decide +kernel
theorem dX7_init_130 : decode cX7_init 130 = .ok (.new 64, 3) := by decide +kernel
theorem dX7_init_133 : decode cX7_init 133 = .ok (.dup, 1) := by decide +kernel
theorem dX7_init_134 : decode cX7_init 134 = .ok (.aload_n 0, 1) := by decide +kernel
theorem dX7_init_135 : decode cX7_init 135 = .ok (.getfield 28, 3) := by decide +kernel
theorem dX7_init_138 : decode cX7_init 138 = .ok (.aload_n 0, 1) := by decide +kernel
theorem dX7_init_139 : decode cX7_init 139 = .ok (.getfield 35, 3) := by decide +kernel
theorem dX7_init_142 : decode cX7_init 142 = .ok (.invokespecial 66, 3) := by decide +kernel
theorem dX7_init_145 : decode cX7_init 145 = .ok (.putfield 69, 3) := by decide +kernel
theorem dX7_init_148 : decode cX7_init 148 = .ok (.return_, 1) := by decide +kernel
theorem dX7_type_0 : decode cX7_type 0 = .ok (.iload_n 1, 1) := by decide +kernel
theorem dX7_type_1 : decode cX7_type 1 = .ok (.ifCond .lt 10, 3) := by decide +kernel
theorem dX7_type_4 : decode cX7_type 4 = .ok (.iload_n 1, 1) := by decide +kernel
theorem dX7_type_5 : decode cX7_type 5 = .ok (.sipush 255, 3) := by decide +kernel
theorem dX7_type_8 : decode cX7_type 8 = .ok (.if_icmp .le 5, 3) := by decide +kernel
theorem dX7_type_11 : decode cX7_type 11 = .ok (.iconst (-1), 1) := by decide +kernel
theorem dX7_type_12 : decode cX7_type 12 = .ok (.ireturn, 1) := by decide +kernel
theorem dX7_type_13 : decode cX7_type 13 = .ok (.aload_n 0, 1) := by decide +kernel
theorem dX7_type_14 : decode cX7_type 14 = .ok (.getfield 10, 3) := by decide +kernel
theorem dX7_type_17 : decode cX7_type 17 = .ok (.iload_n 1, 1) := by decide +kernel
theorem dX7_type_18 : decode cX7_type 18 = .ok (.invokevirtual 73, 3) := by decide +kernel
theorem dX7_type_21 : decode cX7_type 21 = .ok (.ifCond .eq 13, 3) := by decide +kernel
theorem dX7_type_24 : decode cX7_type 24 = .ok (.aload_n 0, 1) := by decide +kernel
theorem dX7_type_25 : decode cX7_type 25 = .ok (.getfield 10, 3) := by decide +kernel
theorem dX7_type_28 : decode cX7_type 28 = .ok (.getfield 77, 3) := by decide +kernel
theorem dX7_type_31 : decode cX7_type 31 = .ok (.goto 5, 3) := by decide +kernel
theorem dX7_type_34 : decode cX7_type 34 = .ok (.bipush (-3), 2) := by decide +kernel
theorem dX7_type_36 : decode cX7_type 36 = .ok (.ireturn, 1) := by decide +kernel
theorem dX7_clear_0 : decode cX7_clear 0 = .ok (.aload_n 0, 1) := by decide +kernel
theorem dX7_clear_1 : decode cX7_clear 1 = .ok (.getfield 10, 3) := by decide +kernel
theorem dX7_clear_4 : decode cX7_clear 4 = .ok (.getfield 77, 3) := by decide +kernel
theorem dX7_clear_7 : decode cX7_clear 7 = .ok (.istore_n 1, 1) := by decide +kernel
theorem dX7_clear_8 : decode cX7_clear 8 = .ok (.aload_n 0, 1) := by decide +kernel
theorem dX7_clear_9 : decode cX7_clear 9 = .ok (.getfield 10, 3) := by decide +kernel
theorem dX7_clear_12 : decode cX7_clear 12 = .ok (.iconst 0, 1) := by decide +kernel
theorem dX7_clear_13 : decode cX7_clear 13 = .ok (.putfield 77, 3) := by decide +kernel
theorem dX7_clear_16 : decode cX7_clear 16 = .ok (.iload_n 1, 1) := by decide +kernel
theorem dX7_clear_17 : decode cX7_clear 17 = .ok (.ireturn, 1) := by decide +kernel
theorem dX7_town_0 : decode cX7_town 0 = .ok (.aload_n 0, 1) := by decide +kernel
theorem dX7_town_1 : decode cX7_town 1 = .ok (.getfield 21, 3) := by decide +kernel
theorem dX7_town_4 : decode cX7_town 4 = .ok (.invokevirtual 81, 3) := by decide +kernel
theorem dX7_town_7 : decode cX7_town 7 = .ok (.ifCond .ne 14, 3) := by decide +kernel
theorem dX7_town_10 : decode cX7_town 10 = .ok (.bipush (-10), 2) := by decide +kernel
theorem dX7_town_12 : decode cX7_town 12 = .ok (.aload_n 0, 1) := by decide +kernel
theorem dX7_town_13 : decode cX7_town 13 = .ok (.getfield 21, 3) := by decide +kernel
theorem dX7_town_16 : decode cX7_town 16 = .ok (.getfield 85, 3) := by decide +kernel
theorem dX7_town_19 : decode cX7_town 19 = .ok (.isub, 1) := by decide +kernel
theorem dX7_town_20 : decode cX7_town 20 = .ok (.ireturn, 1) := by decide +kernel
theorem dX7_town_21 : decode cX7_town 21 = .ok (.aload_n 0, 1) := by decide +kernel
theorem dX7_town_22 : decode cX7_town 22 = .ok (.getfield 28, 3) := by decide +kernel
theorem dX7_town_25 : decode cX7_town 25 = .ok (.aload_n 0, 1) := by decide +kernel
theorem dX7_town_26 : decode cX7_town 26 = .ok (.getfield 21, 3) := by decide +kernel
theorem dX7_town_29 : decode cX7_town 29 = .ok (.getfield 88, 3) := by decide +kernel
theorem dX7_town_32 : decode cX7_town 32 = .ok (.invokevirtual 91, 3) := by decide +kernel
theorem dX7_town_35 : decode cX7_town 35 = .ok (.aload_n 0, 1) := by decide +kernel
theorem dX7_town_36 : decode cX7_town 36 = .ok (.getfield 48, 3) := by decide +kernel
theorem dX7_town_39 : decode cX7_town 39 = .ok (.invokevirtual 94, 3) := by decide +kernel
theorem dX7_town_42 : decode cX7_town 42 = .ok (.aload_n 0, 1) := by decide +kernel
theorem dX7_town_43 : decode cX7_town 43 = .ok (.getfield 52, 3) := by decide +kernel
theorem dX7_town_46 : decode cX7_town 46 = .ok (.invokevirtual 94, 3) := by decide +kernel
theorem dX7_town_49 : decode cX7_town 49 = .ok (.aload_n 0, 1) := by decide +kernel
theorem dX7_town_50 : decode cX7_town 50 = .ok (.getfield 35, 3) := by decide +kernel
theorem dX7_town_53 : decode cX7_town 53 = .ok (.aload_n 0, 1) := by decide +kernel
theorem dX7_town_54 : decode cX7_town 54 = .ok (.getfield 28, 3) := by decide +kernel
theorem dX7_town_57 : decode cX7_town 57 = .ok (.getfield 97, 3) := by decide +kernel
theorem dX7_town_60 : decode cX7_town 60 = .ok (.invokevirtual 100, 3) := by decide +kernel
theorem dX7_town_63 : decode cX7_town 63 = .ok (.aload_n 0, 1) := by decide +kernel
theorem dX7_town_64 : decode cX7_town 64 = .ok (.iconst 0, 1) := by decide +kernel
theorem dX7_town_65 : decode cX7_town 65 = .ok (.putfield 104, 3) := by decide +kernel
theorem dX7_town_68 : decode cX7_town 68 = .ok (.aload_n 0, 1) := by decide +kernel
theorem dX7_town_69 : decode cX7_town 69 = .ok (.getfield 10, 3) := by decide +kernel
theorem dX7_town_72 : decode cX7_town 72 = .ok (.iconst 0, 1) := by decide +kernel
theorem dX7_town_73 : decode cX7_town 73 = .ok (.putfield 77, 3) := by decide +kernel
theorem dX7_town_76 : decode cX7_town 76 = .ok (.aload_n 0, 1) := by decide +kernel
theorem dX7_town_77 : decode cX7_town 77 = .ok (.getfield 28, 3) := by decide +kernel
theorem dX7_town_80 : decode cX7_town 80 = .ok (.getfield 107, 3) := by decide +kernel
theorem dX7_town_83 : decode cX7_town 83 = .ok (.aload_n 0, 1) := by decide +kernel
theorem dX7_town_84 : decode cX7_town 84 = .ok (.getfield 28, 3) := by decide +kernel
theorem dX7_town_87 : decode cX7_town 87 = .ok (.getfield 110, 3) := by decide +kernel
theorem dX7_town_90 : decode cX7_town 90 = .ok (.iadd, 1) := by decide +kernel
theorem dX7_town_91 : decode cX7_town 91 = .ok (.ireturn, 1) := by decide +kernel
theorem dX7_lamp_0 : decode cX7_lamp 0 = .ok (.aload_n 0, 1) := by decide +kernel
theorem dX7_lamp_1 : decode cX7_lamp 1 = .ok (.getfield 28, 3) := by decide +kernel
theorem dX7_lamp_4 : decode cX7_lamp 4 = .ok (.iload_n 1, 1) := by decide +kernel
theorem dX7_lamp_5 : decode cX7_lamp 5 = .ok (.invokevirtual 113, 3) := by decide +kernel
theorem dX7_lamp_8 : decode cX7_lamp 8 = .ok (.ifCond .ne 5, 3) := by decide +kernel
theorem dX7_lamp_11 : decode cX7_lamp 11 = .ok (.iconst (-1), 1) := by decide +kernel
theorem dX7_lamp_12 : decode cX7_lamp 12 = .ok (.ireturn, 1) := by decide +kernel
theorem dX7_lamp_13 : decode cX7_lamp 13 = .ok (.iload_n 2, 1) := by decide +kernel
theorem dX7_lamp_14 : decode cX7_lamp 14 = .ok (.tableswitch 113 0 4 #[34, 44, 56, 69, 90], 34) := by decide +kernel
theorem dX7_lamp_48 : decode cX7_lamp 48 = .ok (.aload_n 0, 1) := by decide +kernel
theorem dX7_lamp_49 : decode cX7_lamp 49 = .ok (.getfield 28, 3) := by decide +kernel
theorem dX7_lamp_52 : decode cX7_lamp 52 = .ok (.getfield 116, 3) := by decide +kernel
theorem dX7_lamp_55 : decode cX7_lamp 55 = .ok (.iload_n 1, 1) := by decide +kernel
theorem dX7_lamp_56 : decode cX7_lamp 56 = .ok (.iaload, 1) := by decide +kernel
theorem dX7_lamp_57 : decode cX7_lamp 57 = .ok (.ireturn, 1) := by decide +kernel
theorem dX7_lamp_58 : decode cX7_lamp 58 = .ok (.aload_n 0, 1) := by decide +kernel
theorem dX7_lamp_59 : decode cX7_lamp 59 = .ok (.getfield 35, 3) := by decide +kernel
theorem dX7_lamp_62 : decode cX7_lamp 62 = .ok (.getfield 120, 3) := by decide +kernel
theorem dX7_lamp_65 : decode cX7_lamp 65 = .ok (.iload_n 1, 1) := by decide +kernel
theorem dX7_lamp_66 : decode cX7_lamp 66 = .ok (.ishr, 1) := by decide +kernel
theorem dX7_lamp_67 : decode cX7_lamp 67 = .ok (.iconst 1, 1) := by decide +kernel
theorem dX7_lamp_68 : decode cX7_lamp 68 = .ok (.iand, 1) := by decide +kernel
theorem dX7_lamp_69 : decode cX7_lamp 69 = .ok (.ireturn, 1) := by decide +kernel
theorem dX7_lamp_70 : decode cX7_lamp 70 = .ok (.aload_n 0, 1) := by decide +kernel
theorem dX7_lamp_71 : decode cX7_lamp 71 = .ok (.getfield 28, 3) := by decide +kernel
theorem dX7_lamp_74 : decode cX7_lamp 74 = .ok (.getfield 123, 3) := by decide +kernel
theorem dX7_lamp_77 : decode cX7_lamp 77 = .ok (.iload_n 1, 1) := by decide +kernel
theorem dX7_lamp_78 : decode cX7_lamp 78 = .ok (.iaload, 1) := by decide +kernel
theorem dX7_lamp_79 : decode cX7_lamp 79 = .ok (.invokestatic 126, 3) := by decide +kernel
theorem dX7_lamp_82 : decode cX7_lamp 82 = .ok (.ireturn, 1) := by decide +kernel
theorem dX7_lamp_83 : decode cX7_lamp 83 = .ok (.aload_n 0, 1) := by decide +kernel
theorem dX7_lamp_84 : decode cX7_lamp 84 = .ok (.invokevirtual 132, 3) := by decide +kernel
theorem dX7_lamp_87 : decode cX7_lamp 87 = .ok (.getfield 136, 3) := by decide +kernel
theorem dX7_lamp_90 : decode cX7_lamp 90 = .ok (.iload_n 1, 1) := by decide +kernel
theorem dX7_lamp_91 : decode cX7_lamp 91 = .ok (.iaload, 1) := by decide +kernel
theorem dX7_lamp_92 : decode cX7_lamp 92 = .ok (.aload_n 0, 1) := by decide +kernel
theorem dX7_lamp_93 : decode cX7_lamp 93 = .ok (.getfield 35, 3) := by decide +kernel
theorem dX7_lamp_96 : decode cX7_lamp 96 = .ok (.getfield 120, 3) := by decide +kernel
theorem dX7_lamp_99 : decode cX7_lamp 99 = .ok (.iand, 1) := by decide +kernel
theorem dX7_lamp_100 : decode cX7_lamp 100 = .ok (.invokestatic 126, 3) := by decide +kernel
theorem dX7_lamp_103 : decode cX7_lamp 103 = .ok (.ireturn, 1) := by decide +kernel
theorem dX7_lamp_104 : decode cX7_lamp 104 = .ok (.aload_n 0, 1) := by decide +kernel
theorem dX7_lamp_105 : decode cX7_lamp 105 = .ok (.invokevirtual 132, 3) := by decide +kernel
theorem dX7_lamp_108 : decode cX7_lamp 108 = .ok (.getfield 136, 3) := by decide +kernel
theorem dX7_lamp_111 : decode cX7_lamp 111 = .ok (.iload_n 1, 1) := by decide +kernel
theorem dX7_lamp_112 : decode cX7_lamp 112 = .ok (.iaload, 1) := by decide +kernel
theorem dX7_lamp_113 : decode cX7_lamp 113 = .ok (.aload_n 0, 1) := by decide +kernel
theorem dX7_lamp_114 : decode cX7_lamp 114 = .ok (.getfield 35, 3) := by decide +kernel
theorem dX7_lamp_117 : decode cX7_lamp 117 = .ok (.getfield 120, 3) := by decide +kernel
theorem dX7_lamp_120 : decode cX7_lamp 120 = .ok (.iconst (-1), 1) := by decide +kernel
theorem dX7_lamp_121 : decode cX7_lamp 121 = .ok (.ixor, 1) := by decide +kernel
theorem dX7_lamp_122 : decode cX7_lamp 122 = .ok (.iand, 1) := by decide +kernel
theorem dX7_lamp_123 : decode cX7_lamp 123 = .ok (.invokestatic 126, 3) := by decide +kernel
theorem dX7_lamp_126 : decode cX7_lamp 126 = .ok (.ireturn, 1) := by decide +kernel
theorem dX7_lamp_127 : decode cX7_lamp 127 = .ok (.iconst (-1), 1) := by decide +kernel
theorem dX7_lamp_128 : decode cX7_lamp 128 = .ok (.ireturn, 1) := by decide +kernel
theorem dX7_street_0 : decode cX7_street 0 = .ok (.aload_n 0, 1) := by decide +kernel
theorem dX7_street_1 : decode cX7_street 1 = .ok (.getfield 28, 3) := by decide +kernel
theorem dX7_street_4 : decode cX7_street 4 = .ok (.iload_n 1, 1) := by decide +kernel
theorem dX7_street_5 : decode cX7_street 5 = .ok (.invokevirtual 139, 3) := by decide +kernel
theorem dX7_street_8 : decode cX7_street 8 = .ok (.ifCond .ne 5, 3) := by decide +kernel
theorem dX7_street_11 : decode cX7_street 11 = .ok (.iconst (-1), 1) := by decide +kernel
theorem dX7_street_12 : decode cX7_street 12 = .ok (.ireturn, 1) := by decide +kernel
theorem dX7_street_13 : decode cX7_street 13 = .ok (.iload_n 2, 1) := by decide +kernel
theorem dX7_street_14 : decode cX7_street 14 = .ok (.tableswitch 58 0 2 #[26, 36, 46], 26) := by decide +kernel
theorem dX7_street_40 : decode cX7_street 40 = .ok (.aload_n 0, 1) := by decide +kernel
theorem dX7_street_41 : decode cX7_street 41 = .ok (.getfield 28, 3) := by decide +kernel
theorem dX7_street_44 : decode cX7_street 44 = .ok (.getfield 142, 3) := by decide +kernel
theorem dX7_street_47 : decode cX7_street 47 = .ok (.iload_n 1, 1) := by decide +kernel
theorem dX7_street_48 : decode cX7_street 48 = .ok (.iaload, 1) := by decide +kernel
theorem dX7_street_49 : decode cX7_street 49 = .ok (.ireturn, 1) := by decide +kernel
theorem dX7_street_50 : decode cX7_street 50 = .ok (.aload_n 0, 1) := by decide +kernel
theorem dX7_street_51 : decode cX7_street 51 = .ok (.getfield 28, 3) := by decide +kernel
theorem dX7_street_54 : decode cX7_street 54 = .ok (.getfield 145, 3) := by decide +kernel
theorem dX7_street_57 : decode cX7_street 57 = .ok (.iload_n 1, 1) := by decide +kernel
theorem dX7_street_58 : decode cX7_street 58 = .ok (.iaload, 1) := by decide +kernel
theorem dX7_street_59 : decode cX7_street 59 = .ok (.ireturn, 1) := by decide +kernel
theorem dX7_street_60 : decode cX7_street 60 = .ok (.aload_n 0, 1) := by decide +kernel
theorem dX7_street_61 : decode cX7_street 61 = .ok (.getfield 35, 3) := by decide +kernel
theorem dX7_street_64 : decode cX7_street 64 = .ok (.getfield 148, 3) := by decide +kernel
theorem dX7_street_67 : decode cX7_street 67 = .ok (.iload_n 1, 1) := by decide +kernel
theorem dX7_street_68 : decode cX7_street 68 = .ok (.ishr, 1) := by decide +kernel
theorem dX7_street_69 : decode cX7_street 69 = .ok (.iconst 1, 1) := by decide +kernel
theorem dX7_street_70 : decode cX7_street 70 = .ok (.iand, 1) := by decide +kernel
theorem dX7_street_71 : decode cX7_street 71 = .ok (.ireturn, 1) := by decide +kernel
theorem dX7_street_72 : decode cX7_street 72 = .ok (.iconst (-1), 1) := by decide +kernel
theorem dX7_street_73 : decode cX7_street 73 = .ok (.ireturn, 1) := by decide +kernel
theorem dX7_bell_0 : decode cX7_bell 0 = .ok (.aload_n 0, 1) := by decide +kernel
theorem dX7_bell_1 : decode cX7_bell 1 = .ok (.getfield 35, 3) := by decide +kernel
theorem dX7_bell_4 : decode cX7_bell 4 = .ok (.getfield 151, 3) := by decide +kernel
theorem dX7_bell_7 : decode cX7_bell 7 = .ok (.sipush 999, 3) := by decide +kernel
theorem dX7_bell_10 : decode cX7_bell 10 = .ok (.if_icmp .lt 6, 3) := by decide +kernel
theorem dX7_bell_13 : decode cX7_bell 13 = .ok (.bipush (-2), 2) := by decide +kernel
theorem dX7_bell_15 : decode cX7_bell 15 = .ok (.ireturn, 1) := by decide +kernel
theorem dX7_bell_16 : decode cX7_bell 16 = .ok (.aload_n 0, 1) := by decide +kernel
theorem dX7_bell_17 : decode cX7_bell 17 = .ok (.getfield 35, 3) := by decide +kernel
theorem dX7_bell_20 : decode cX7_bell 20 = .ok (.invokevirtual 154, 3) := by decide +kernel
theorem dX7_bell_23 : decode cX7_bell 23 = .ok (.aload_n 0, 1) := by decide +kernel
theorem dX7_bell_24 : decode cX7_bell 24 = .ok (.getfield 35, 3) := by decide +kernel
theorem dX7_bell_27 : decode cX7_bell 27 = .ok (.aload_n 0, 1) := by decide +kernel
theorem dX7_bell_28 : decode cX7_bell 28 = .ok (.invokevirtual 132, 3) := by decide +kernel
theorem dX7_bell_31 : decode cX7_bell 31 = .ok (.aload_n 0, 1) := by decide +kernel
theorem dX7_bell_32 : decode cX7_bell 32 = .ok (.getfield 35, 3) := by decide +kernel
theorem dX7_bell_35 : decode cX7_bell 35 = .ok (.getfield 120, 3) := by decide +kernel
theorem dX7_bell_38 : decode cX7_bell 38 = .ok (.invokevirtual 157, 3) := by decide +kernel
theorem dX7_bell_41 : decode cX7_bell 41 = .ok (.putfield 120, 3) := by decide +kernel
theorem dX7_bell_44 : decode cX7_bell 44 = .ok (.aload_n 0, 1) := by decide +kernel
theorem dX7_bell_45 : decode cX7_bell 45 = .ok (.getfield 35, 3) := by decide +kernel
theorem dX7_bell_48 : decode cX7_bell 48 = .ok (.dup, 1) := by decide +kernel
theorem dX7_bell_49 : decode cX7_bell 49 = .ok (.getfield 151, 3) := by decide +kernel
theorem dX7_bell_52 : decode cX7_bell 52 = .ok (.iconst 1, 1) := by decide +kernel
theorem dX7_bell_53 : decode cX7_bell 53 = .ok (.iadd, 1) := by decide +kernel
theorem dX7_bell_54 : decode cX7_bell 54 = .ok (.putfield 151, 3) := by decide +kernel
theorem dX7_bell_57 : decode cX7_bell 57 = .ok (.aload_n 0, 1) := by decide +kernel
theorem dX7_bell_58 : decode cX7_bell 58 = .ok (.getfield 35, 3) := by decide +kernel
theorem dX7_bell_61 : decode cX7_bell 61 = .ok (.iconst 0, 1) := by decide +kernel
theorem dX7_bell_62 : decode cX7_bell 62 = .ok (.putfield 160, 3) := by decide +kernel
theorem dX7_bell_65 : decode cX7_bell 65 = .ok (.aload_n 0, 1) := by decide +kernel
theorem dX7_bell_66 : decode cX7_bell 66 = .ok (.getfield 35, 3) := by decide +kernel
theorem dX7_bell_69 : decode cX7_bell 69 = .ok (.getfield 120, 3) := by decide +kernel
theorem dX7_bell_72 : decode cX7_bell 72 = .ok (.ireturn, 1) := by decide +kernel
theorem dX7_turn_0 : decode cX7_turn 0 = .ok (.aload_n 0, 1) := by decide +kernel
theorem dX7_turn_1 : decode cX7_turn 1 = .ok (.getfield 28, 3) := by decide +kernel
theorem dX7_turn_4 : decode cX7_turn 4 = .ok (.iload_n 1, 1) := by decide +kernel
theorem dX7_turn_5 : decode cX7_turn 5 = .ok (.invokevirtual 113, 3) := by decide +kernel
theorem dX7_turn_8 : decode cX7_turn 8 = .ok (.ifCond .ne 5, 3) := by decide +kernel
theorem dX7_turn_11 : decode cX7_turn 11 = .ok (.iconst (-1), 1) := by decide +kernel
theorem dX7_turn_12 : decode cX7_turn 12 = .ok (.ireturn, 1) := by decide +kernel
theorem dX7_turn_13 : decode cX7_turn 13 = .ok (.aload_n 0, 1) := by decide +kernel
theorem dX7_turn_14 : decode cX7_turn 14 = .ok (.getfield 35, 3) := by decide +kernel
theorem dX7_turn_17 : decode cX7_turn 17 = .ok (.getfield 160, 3) := by decide +kernel
theorem dX7_turn_20 : decode cX7_turn 20 = .ok (.iconst 3, 1) := by decide +kernel
theorem dX7_turn_21 : decode cX7_turn 21 = .ok (.if_icmp .lt 6, 3) := by decide +kernel
theorem dX7_turn_24 : decode cX7_turn 24 = .ok (.bipush (-2), 2) := by decide +kernel
theorem dX7_turn_26 : decode cX7_turn 26 = .ok (.ireturn, 1) := by decide +kernel
theorem dX7_turn_27 : decode cX7_turn 27 = .ok (.aload_n 0, 1) := by decide +kernel
theorem dX7_turn_28 : decode cX7_turn 28 = .ok (.getfield 35, 3) := by decide +kernel
theorem dX7_turn_31 : decode cX7_turn 31 = .ok (.invokevirtual 154, 3) := by decide +kernel
theorem dX7_turn_34 : decode cX7_turn 34 = .ok (.aload_n 0, 1) := by decide +kernel
theorem dX7_turn_35 : decode cX7_turn 35 = .ok (.getfield 35, 3) := by decide +kernel
theorem dX7_turn_38 : decode cX7_turn 38 = .ok (.dup, 1) := by decide +kernel
theorem dX7_turn_39 : decode cX7_turn 39 = .ok (.getfield 120, 3) := by decide +kernel
theorem dX7_turn_42 : decode cX7_turn 42 = .ok (.iconst 1, 1) := by decide +kernel
theorem dX7_turn_43 : decode cX7_turn 43 = .ok (.iload_n 1, 1) := by decide +kernel
theorem dX7_turn_44 : decode cX7_turn 44 = .ok (.ishl, 1) := by decide +kernel
theorem dX7_turn_45 : decode cX7_turn 45 = .ok (.ixor, 1) := by decide +kernel
theorem dX7_turn_46 : decode cX7_turn 46 = .ok (.putfield 120, 3) := by decide +kernel
theorem dX7_turn_49 : decode cX7_turn 49 = .ok (.aload_n 0, 1) := by decide +kernel
theorem dX7_turn_50 : decode cX7_turn 50 = .ok (.getfield 35, 3) := by decide +kernel
theorem dX7_turn_53 : decode cX7_turn 53 = .ok (.dup, 1) := by decide +kernel
theorem dX7_turn_54 : decode cX7_turn 54 = .ok (.getfield 160, 3) := by decide +kernel
theorem dX7_turn_57 : decode cX7_turn 57 = .ok (.iconst 1, 1) := by decide +kernel
theorem dX7_turn_58 : decode cX7_turn 58 = .ok (.iadd, 1) := by decide +kernel
theorem dX7_turn_59 : decode cX7_turn 59 = .ok (.putfield 160, 3) := by decide +kernel
theorem dX7_turn_62 : decode cX7_turn 62 = .ok (.aload_n 0, 1) := by decide +kernel
theorem dX7_turn_63 : decode cX7_turn 63 = .ok (.getfield 35, 3) := by decide +kernel
theorem dX7_turn_66 : decode cX7_turn 66 = .ok (.getfield 120, 3) := by decide +kernel
theorem dX7_turn_69 : decode cX7_turn 69 = .ok (.ireturn, 1) := by decide +kernel
theorem dX7_fog_0 : decode cX7_fog 0 = .ok (.aload_n 0, 1) := by decide +kernel
theorem dX7_fog_1 : decode cX7_fog 1 = .ok (.getfield 28, 3) := by decide +kernel
theorem dX7_fog_4 : decode cX7_fog 4 = .ok (.iload_n 1, 1) := by decide +kernel
theorem dX7_fog_5 : decode cX7_fog 5 = .ok (.invokevirtual 139, 3) := by decide +kernel
theorem dX7_fog_8 : decode cX7_fog 8 = .ok (.ifCond .eq 12, 3) := by decide +kernel
theorem dX7_fog_11 : decode cX7_fog 11 = .ok (.iload_n 2, 1) := by decide +kernel
theorem dX7_fog_12 : decode cX7_fog 12 = .ok (.ifCond .lt 8, 3) := by decide +kernel
theorem dX7_fog_15 : decode cX7_fog 15 = .ok (.iload_n 2, 1) := by decide +kernel
theorem dX7_fog_16 : decode cX7_fog 16 = .ok (.iconst 1, 1) := by decide +kernel
theorem dX7_fog_17 : decode cX7_fog 17 = .ok (.if_icmp .le 5, 3) := by decide +kernel
theorem dX7_fog_20 : decode cX7_fog 20 = .ok (.iconst (-1), 1) := by decide +kernel
theorem dX7_fog_21 : decode cX7_fog 21 = .ok (.ireturn, 1) := by decide +kernel
theorem dX7_fog_22 : decode cX7_fog 22 = .ok (.aload_n 0, 1) := by decide +kernel
theorem dX7_fog_23 : decode cX7_fog 23 = .ok (.getfield 35, 3) := by decide +kernel
theorem dX7_fog_26 : decode cX7_fog 26 = .ok (.getfield 148, 3) := by decide +kernel
theorem dX7_fog_29 : decode cX7_fog 29 = .ok (.iload_n 1, 1) := by decide +kernel
theorem dX7_fog_30 : decode cX7_fog 30 = .ok (.ishr, 1) := by decide +kernel
theorem dX7_fog_31 : decode cX7_fog 31 = .ok (.iconst 1, 1) := by decide +kernel
theorem dX7_fog_32 : decode cX7_fog 32 = .ok (.iand, 1) := by decide +kernel
theorem dX7_fog_33 : decode cX7_fog 33 = .ok (.iload_n 2, 1) := by decide +kernel
theorem dX7_fog_34 : decode cX7_fog 34 = .ok (.if_icmp .ne 6, 3) := by decide +kernel
theorem dX7_fog_37 : decode cX7_fog 37 = .ok (.bipush (-2), 2) := by decide +kernel
theorem dX7_fog_39 : decode cX7_fog 39 = .ok (.ireturn, 1) := by decide +kernel
theorem dX7_fog_40 : decode cX7_fog 40 = .ok (.aload_n 0, 1) := by decide +kernel
theorem dX7_fog_41 : decode cX7_fog 41 = .ok (.getfield 35, 3) := by decide +kernel
theorem dX7_fog_44 : decode cX7_fog 44 = .ok (.invokevirtual 154, 3) := by decide +kernel
theorem dX7_fog_47 : decode cX7_fog 47 = .ok (.aload_n 0, 1) := by decide +kernel
theorem dX7_fog_48 : decode cX7_fog 48 = .ok (.getfield 35, 3) := by decide +kernel
theorem dX7_fog_51 : decode cX7_fog 51 = .ok (.dup, 1) := by decide +kernel
theorem dX7_fog_52 : decode cX7_fog 52 = .ok (.getfield 148, 3) := by decide +kernel
theorem dX7_fog_55 : decode cX7_fog 55 = .ok (.iconst 1, 1) := by decide +kernel
theorem dX7_fog_56 : decode cX7_fog 56 = .ok (.iload_n 1, 1) := by decide +kernel
theorem dX7_fog_57 : decode cX7_fog 57 = .ok (.ishl, 1) := by decide +kernel
theorem dX7_fog_58 : decode cX7_fog 58 = .ok (.ixor, 1) := by decide +kernel
theorem dX7_fog_59 : decode cX7_fog 59 = .ok (.putfield 148, 3) := by decide +kernel
theorem dX7_fog_62 : decode cX7_fog 62 = .ok (.aload_n 0, 1) := by decide +kernel
theorem dX7_fog_63 : decode cX7_fog 63 = .ok (.getfield 35, 3) := by decide +kernel
theorem dX7_fog_66 : decode cX7_fog 66 = .ok (.getfield 148, 3) := by decide +kernel
theorem dX7_fog_69 : decode cX7_fog 69 = .ok (.invokestatic 126, 3) := by decide +kernel
theorem dX7_fog_72 : decode cX7_fog 72 = .ok (.ireturn, 1) := by decide +kernel
theorem dX7_undo_0 : decode cX7_undo 0 = .ok (.aload_n 0, 1) := by decide +kernel
theorem dX7_undo_1 : decode cX7_undo 1 = .ok (.getfield 35, 3) := by decide +kernel
theorem dX7_undo_4 : decode cX7_undo 4 = .ok (.getfield 163, 3) := by decide +kernel
theorem dX7_undo_7 : decode cX7_undo 7 = .ok (.ifCond .ne 6, 3) := by decide +kernel
theorem dX7_undo_10 : decode cX7_undo 10 = .ok (.bipush (-2), 2) := by decide +kernel
theorem dX7_undo_12 : decode cX7_undo 12 = .ok (.ireturn, 1) := by decide +kernel
theorem dX7_undo_13 : decode cX7_undo 13 = .ok (.aload_n 0, 1) := by decide +kernel
theorem dX7_undo_14 : decode cX7_undo 14 = .ok (.getfield 35, 3) := by decide +kernel
theorem dX7_undo_17 : decode cX7_undo 17 = .ok (.invokevirtual 166, 3) := by decide +kernel
theorem dX7_undo_20 : decode cX7_undo 20 = .ok (.aload_n 0, 1) := by decide +kernel
theorem dX7_undo_21 : decode cX7_undo 21 = .ok (.getfield 35, 3) := by decide +kernel
theorem dX7_undo_24 : decode cX7_undo 24 = .ok (.getfield 163, 3) := by decide +kernel
theorem dX7_undo_27 : decode cX7_undo 27 = .ok (.ireturn, 1) := by decide +kernel
theorem dX7_now_0 : decode cX7_now 0 = .ok (.iload_n 1, 1) := by decide +kernel
theorem dX7_now_1 : decode cX7_now 1 = .ok (.tableswitch 80 0 4 #[35, 43, 51, 62, 70], 35) := by decide +kernel
theorem dX7_now_36 : decode cX7_now 36 = .ok (.aload_n 0, 1) := by decide +kernel
theorem dX7_now_37 : decode cX7_now 37 = .ok (.getfield 35, 3) := by decide +kernel
theorem dX7_now_40 : decode cX7_now 40 = .ok (.getfield 151, 3) := by decide +kernel
theorem dX7_now_43 : decode cX7_now 43 = .ok (.ireturn, 1) := by decide +kernel
theorem dX7_now_44 : decode cX7_now 44 = .ok (.aload_n 0, 1) := by decide +kernel
theorem dX7_now_45 : decode cX7_now 45 = .ok (.getfield 35, 3) := by decide +kernel
theorem dX7_now_48 : decode cX7_now 48 = .ok (.getfield 120, 3) := by decide +kernel
theorem dX7_now_51 : decode cX7_now 51 = .ok (.ireturn, 1) := by decide +kernel
theorem dX7_now_52 : decode cX7_now 52 = .ok (.aload_n 0, 1) := by decide +kernel
theorem dX7_now_53 : decode cX7_now 53 = .ok (.getfield 35, 3) := by decide +kernel
theorem dX7_now_56 : decode cX7_now 56 = .ok (.getfield 120, 3) := by decide +kernel
theorem dX7_now_59 : decode cX7_now 59 = .ok (.invokestatic 126, 3) := by decide +kernel
theorem dX7_now_62 : decode cX7_now 62 = .ok (.ireturn, 1) := by decide +kernel
theorem dX7_now_63 : decode cX7_now 63 = .ok (.aload_n 0, 1) := by decide +kernel
theorem dX7_now_64 : decode cX7_now 64 = .ok (.getfield 35, 3) := by decide +kernel
theorem dX7_now_67 : decode cX7_now 67 = .ok (.getfield 148, 3) := by decide +kernel
theorem dX7_now_70 : decode cX7_now 70 = .ok (.ireturn, 1) := by decide +kernel
theorem dX7_now_71 : decode cX7_now 71 = .ok (.iconst 3, 1) := by decide +kernel
theorem dX7_now_72 : decode cX7_now 72 = .ok (.aload_n 0, 1) := by decide +kernel
theorem dX7_now_73 : decode cX7_now 73 = .ok (.getfield 35, 3) := by decide +kernel
theorem dX7_now_76 : decode cX7_now 76 = .ok (.getfield 160, 3) := by decide +kernel
theorem dX7_now_79 : decode cX7_now 79 = .ok (.isub, 1) := by decide +kernel
theorem dX7_now_80 : decode cX7_now 80 = .ok (.ireturn, 1) := by decide +kernel
theorem dX7_now_81 : decode cX7_now 81 = .ok (.iconst (-1), 1) := by decide +kernel
theorem dX7_now_82 : decode cX7_now 82 = .ok (.ireturn, 1) := by decide +kernel
theorem dX7_after_0 : decode cX7_after 0 = .ok (.iload_n 1, 1) := by decide +kernel
theorem dX7_after_1 : decode cX7_after 1 = .ok (.ifCond .lt 10, 3) := by decide +kernel
theorem dX7_after_4 : decode cX7_after 4 = .ok (.iload_n 1, 1) := by decide +kernel
theorem dX7_after_5 : decode cX7_after 5 = .ok (.sipush 600, 3) := by decide +kernel
theorem dX7_after_8 : decode cX7_after 8 = .ok (.if_icmp .le 5, 3) := by decide +kernel
theorem dX7_after_11 : decode cX7_after 11 = .ok (.iconst (-1), 1) := by decide +kernel
theorem dX7_after_12 : decode cX7_after 12 = .ok (.ireturn, 1) := by decide +kernel
theorem dX7_after_13 : decode cX7_after 13 = .ok (.aload_n 0, 1) := by decide +kernel
theorem dX7_after_14 : decode cX7_after 14 = .ok (.invokevirtual 132, 3) := by decide +kernel
theorem dX7_after_17 : decode cX7_after 17 = .ok (.aload_n 0, 1) := by decide +kernel
theorem dX7_after_18 : decode cX7_after 18 = .ok (.getfield 35, 3) := by decide +kernel
theorem dX7_after_21 : decode cX7_after 21 = .ok (.getfield 120, 3) := by decide +kernel
theorem dX7_after_24 : decode cX7_after 24 = .ok (.iload_n 1, 1) := by decide +kernel
theorem dX7_after_25 : decode cX7_after 25 = .ok (.invokevirtual 169, 3) := by decide +kernel
theorem dX7_after_28 : decode cX7_after 28 = .ok (.ireturn, 1) := by decide +kernel
theorem dX7_round_0 : decode cX7_round 0 = .ok (.iload_n 1, 1) := by decide +kernel
theorem dX7_round_1 : decode cX7_round 1 = .ok (.ifCond .lt 8, 3) := by decide +kernel
theorem dX7_round_4 : decode cX7_round 4 = .ok (.iload_n 1, 1) := by decide +kernel
theorem dX7_round_5 : decode cX7_round 5 = .ok (.iconst 1, 1) := by decide +kernel
theorem dX7_round_6 : decode cX7_round 6 = .ok (.if_icmp .le 5, 3) := by decide +kernel
theorem dX7_round_9 : decode cX7_round 9 = .ok (.iconst (-1), 1) := by decide +kernel
theorem dX7_round_10 : decode cX7_round 10 = .ok (.ireturn, 1) := by decide +kernel
theorem dX7_round_11 : decode cX7_round 11 = .ok (.aload_n 0, 1) := by decide +kernel
theorem dX7_round_12 : decode cX7_round 12 = .ok (.invokevirtual 132, 3) := by decide +kernel
theorem dX7_round_15 : decode cX7_round 15 = .ok (.aload_n 0, 1) := by decide +kernel
theorem dX7_round_16 : decode cX7_round 16 = .ok (.getfield 35, 3) := by decide +kernel
theorem dX7_round_19 : decode cX7_round 19 = .ok (.getfield 120, 3) := by decide +kernel
theorem dX7_round_22 : decode cX7_round 22 = .ok (.invokevirtual 173, 3) := by decide +kernel
theorem dX7_round_25 : decode cX7_round 25 = .ok (.iload_n 1, 1) := by decide +kernel
theorem dX7_round_26 : decode cX7_round 26 = .ok (.ifCond .ne 13, 3) := by decide +kernel
theorem dX7_round_29 : decode cX7_round 29 = .ok (.aload_n 0, 1) := by decide +kernel
theorem dX7_round_30 : decode cX7_round 30 = .ok (.getfield 48, 3) := by decide +kernel
theorem dX7_round_33 : decode cX7_round 33 = .ok (.getfield 176, 3) := by decide +kernel
theorem dX7_round_36 : decode cX7_round 36 = .ok (.goto 10, 3) := by decide +kernel
theorem dX7_round_39 : decode cX7_round 39 = .ok (.aload_n 0, 1) := by decide +kernel
theorem dX7_round_40 : decode cX7_round 40 = .ok (.getfield 48, 3) := by decide +kernel
theorem dX7_round_43 : decode cX7_round 43 = .ok (.getfield 179, 3) := by decide +kernel
theorem dX7_round_46 : decode cX7_round 46 = .ok (.ireturn, 1) := by decide +kernel
theorem dX7_again_0 : decode cX7_again 0 = .ok (.aload_n 0, 1) := by decide +kernel
theorem dX7_again_1 : decode cX7_again 1 = .ok (.invokevirtual 132, 3) := by decide +kernel
theorem dX7_again_4 : decode cX7_again 4 = .ok (.aload_n 0, 1) := by decide +kernel
theorem dX7_again_5 : decode cX7_again 5 = .ok (.getfield 35, 3) := by decide +kernel
theorem dX7_again_8 : decode cX7_again 8 = .ok (.getfield 120, 3) := by decide +kernel
theorem dX7_again_11 : decode cX7_again 11 = .ok (.invokevirtual 173, 3) := by decide +kernel
theorem dX7_again_14 : decode cX7_again 14 = .ok (.aload_n 0, 1) := by decide +kernel
theorem dX7_again_15 : decode cX7_again 15 = .ok (.getfield 48, 3) := by decide +kernel
theorem dX7_again_18 : decode cX7_again 18 = .ok (.getfield 176, 3) := by decide +kernel
theorem dX7_again_21 : decode cX7_again 21 = .ok (.ifCond .ne 13, 3) := by decide +kernel
theorem dX7_again_24 : decode cX7_again 24 = .ok (.aload_n 0, 1) := by decide +kernel
theorem dX7_again_25 : decode cX7_again 25 = .ok (.getfield 48, 3) := by decide +kernel
theorem dX7_again_28 : decode cX7_again 28 = .ok (.getfield 179, 3) := by decide +kernel
theorem dX7_again_31 : decode cX7_again 31 = .ok (.goto 5, 3) := by decide +kernel
theorem dX7_again_34 : decode cX7_again 34 = .ok (.bipush (-9), 2) := by decide +kernel
theorem dX7_again_36 : decode cX7_again 36 = .ok (.ireturn, 1) := by decide +kernel
theorem dX7_ahead_0 : decode cX7_ahead 0 = .ok (.aload_n 0, 1) := by decide +kernel
theorem dX7_ahead_1 : decode cX7_ahead 1 = .ok (.getfield 28, 3) := by decide +kernel
theorem dX7_ahead_4 : decode cX7_ahead 4 = .ok (.iload_n 1, 1) := by decide +kernel
theorem dX7_ahead_5 : decode cX7_ahead 5 = .ok (.invokevirtual 180, 3) := by decide +kernel
theorem dX7_ahead_8 : decode cX7_ahead 8 = .ok (.ifCond .eq 12, 3) := by decide +kernel
theorem dX7_ahead_11 : decode cX7_ahead 11 = .ok (.iload_n 2, 1) := by decide +kernel
theorem dX7_ahead_12 : decode cX7_ahead 12 = .ok (.ifCond .lt 8, 3) := by decide +kernel
theorem dX7_ahead_15 : decode cX7_ahead 15 = .ok (.iload_n 2, 1) := by decide +kernel
theorem dX7_ahead_16 : decode cX7_ahead 16 = .ok (.iconst 1, 1) := by decide +kernel
theorem dX7_ahead_17 : decode cX7_ahead 17 = .ok (.if_icmp .le 5, 3) := by decide +kernel
theorem dX7_ahead_20 : decode cX7_ahead 20 = .ok (.iconst (-1), 1) := by decide +kernel
theorem dX7_ahead_21 : decode cX7_ahead 21 = .ok (.ireturn, 1) := by decide +kernel
theorem dX7_ahead_22 : decode cX7_ahead 22 = .ok (.aload_n 0, 1) := by decide +kernel
theorem dX7_ahead_23 : decode cX7_ahead 23 = .ok (.invokevirtual 132, 3) := by decide +kernel
theorem dX7_ahead_26 : decode cX7_ahead 26 = .ok (.pop, 1) := by decide +kernel
theorem dX7_ahead_27 : decode cX7_ahead 27 = .ok (.iconst 0, 1) := by decide +kernel
theorem dX7_ahead_28 : decode cX7_ahead 28 = .ok (.istore_n 3, 1) := by decide +kernel
theorem dX7_ahead_29 : decode cX7_ahead 29 = .ok (.bipush (-9), 2) := by decide +kernel
theorem dX7_ahead_31 : decode cX7_ahead 31 = .ok (.istore 4, 2) := by decide +kernel
theorem dX7_ahead_33 : decode cX7_ahead 33 = .ok (.aload_n 0, 1) := by decide +kernel
theorem dX7_ahead_34 : decode cX7_ahead 34 = .ok (.getfield 28, 3) := by decide +kernel
theorem dX7_ahead_37 : decode cX7_ahead 37 = .ok (.invokevirtual 183, 3) := by decide +kernel
theorem dX7_ahead_40 : decode cX7_ahead 40 = .ok (.iconst 1, 1) := by decide +kernel
theorem dX7_ahead_41 : decode cX7_ahead 41 = .ok (.isub, 1) := by decide +kernel
theorem dX7_ahead_42 : decode cX7_ahead 42 = .ok (.istore 5, 2) := by decide +kernel
theorem dX7_ahead_44 : decode cX7_ahead 44 = .ok (.iload 5, 2) := by decide +kernel
theorem dX7_ahead_46 : decode cX7_ahead 46 = .ok (.ifCond .lt 29, 3) := by decide +kernel
theorem dX7_ahead_49 : decode cX7_ahead 49 = .ok (.aload_n 0, 1) := by decide +kernel
theorem dX7_ahead_50 : decode cX7_ahead 50 = .ok (.getfield 48, 3) := by decide +kernel
theorem dX7_ahead_53 : decode cX7_ahead 53 = .ok (.iload 5, 2) := by decide +kernel
theorem dX7_ahead_55 : decode cX7_ahead 55 = .ok (.invokevirtual 157, 3) := by decide +kernel
theorem dX7_ahead_58 : decode cX7_ahead 58 = .ok (.iload_n 1, 1) := by decide +kernel
theorem dX7_ahead_59 : decode cX7_ahead 59 = .ok (.if_icmp .ne 10, 3) := by decide +kernel
theorem dX7_ahead_62 : decode cX7_ahead 62 = .ok (.iinc 3 1, 3) := by decide +kernel
theorem dX7_ahead_65 : decode cX7_ahead 65 = .ok (.iload 5, 2) := by decide +kernel
theorem dX7_ahead_67 : decode cX7_ahead 67 = .ok (.istore 4, 2) := by decide +kernel
theorem dX7_ahead_69 : decode cX7_ahead 69 = .ok (.iinc 5 (-1), 3) := by decide +kernel
theorem dX7_ahead_72 : decode cX7_ahead 72 = .ok (.goto (-28), 3) := by decide +kernel
theorem dX7_ahead_75 : decode cX7_ahead 75 = .ok (.iload_n 2, 1) := by decide +kernel
theorem dX7_ahead_76 : decode cX7_ahead 76 = .ok (.ifCond .ne 7, 3) := by decide +kernel
theorem dX7_ahead_79 : decode cX7_ahead 79 = .ok (.iload_n 3, 1) := by decide +kernel
theorem dX7_ahead_80 : decode cX7_ahead 80 = .ok (.goto 5, 3) := by decide +kernel
theorem dX7_ahead_83 : decode cX7_ahead 83 = .ok (.iload 4, 2) := by decide +kernel
theorem dX7_ahead_85 : decode cX7_ahead 85 = .ok (.ireturn, 1) := by decide +kernel
theorem dX7_eden_0 : decode cX7_eden 0 = .ok (.aload_n 0, 1) := by decide +kernel
theorem dX7_eden_1 : decode cX7_eden 1 = .ok (.invokevirtual 132, 3) := by decide +kernel
theorem dX7_eden_4 : decode cX7_eden 4 = .ok (.invokevirtual 187, 3) := by decide +kernel
theorem dX7_eden_7 : decode cX7_eden 7 = .ok (.ireturn, 1) := by decide +kernel
theorem dX7_lit_0 : decode cX7_lit 0 = .ok (.aload_n 0, 1) := by decide +kernel
theorem dX7_lit_1 : decode cX7_lit 1 = .ok (.getfield 28, 3) := by decide +kernel
theorem dX7_lit_4 : decode cX7_lit 4 = .ok (.iload_n 1, 1) := by decide +kernel
theorem dX7_lit_5 : decode cX7_lit 5 = .ok (.invokevirtual 180, 3) := by decide +kernel
theorem dX7_lit_8 : decode cX7_lit 8 = .ok (.ifCond .eq 23, 3) := by decide +kernel
theorem dX7_lit_11 : decode cX7_lit 11 = .ok (.iload_n 1, 1) := by decide +kernel
theorem dX7_lit_12 : decode cX7_lit 12 = .ok (.ifCond .eq 19, 3) := by decide +kernel
theorem dX7_lit_15 : decode cX7_lit 15 = .ok (.iload_n 2, 1) := by decide +kernel
theorem dX7_lit_16 : decode cX7_lit 16 = .ok (.invokestatic 190, 3) := by decide +kernel
theorem dX7_lit_19 : decode cX7_lit 19 = .ok (.ifCond .eq 12, 3) := by decide +kernel
theorem dX7_lit_22 : decode cX7_lit 22 = .ok (.iload_n 3, 1) := by decide +kernel
theorem dX7_lit_23 : decode cX7_lit 23 = .ok (.ifCond .lt 8, 3) := by decide +kernel
theorem dX7_lit_26 : decode cX7_lit 26 = .ok (.iload_n 3, 1) := by decide +kernel
theorem dX7_lit_27 : decode cX7_lit 27 = .ok (.iconst 2, 1) := by decide +kernel
theorem dX7_lit_28 : decode cX7_lit 28 = .ok (.if_icmp .le 5, 3) := by decide +kernel
theorem dX7_lit_31 : decode cX7_lit 31 = .ok (.iconst (-1), 1) := by decide +kernel
theorem dX7_lit_32 : decode cX7_lit 32 = .ok (.ireturn, 1) := by decide +kernel
theorem dX7_lit_33 : decode cX7_lit 33 = .ok (.aload_n 0, 1) := by decide +kernel
theorem dX7_lit_34 : decode cX7_lit 34 = .ok (.invokevirtual 132, 3) := by decide +kernel
theorem dX7_lit_37 : decode cX7_lit 37 = .ok (.pop, 1) := by decide +kernel
theorem dX7_lit_38 : decode cX7_lit 38 = .ok (.aload_n 0, 1) := by decide +kernel
theorem dX7_lit_39 : decode cX7_lit 39 = .ok (.getfield 60, 3) := by decide +kernel
theorem dX7_lit_42 : decode cX7_lit 42 = .ok (.aload_n 0, 1) := by decide +kernel
theorem dX7_lit_43 : decode cX7_lit 43 = .ok (.getfield 35, 3) := by decide +kernel
theorem dX7_lit_46 : decode cX7_lit 46 = .ok (.getfield 120, 3) := by decide +kernel
theorem dX7_lit_49 : decode cX7_lit 49 = .ok (.iload_n 1, 1) := by decide +kernel
theorem dX7_lit_50 : decode cX7_lit 50 = .ok (.iload_n 2, 1) := by decide +kernel
theorem dX7_lit_51 : decode cX7_lit 51 = .ok (.invokevirtual 193, 3) := by decide +kernel
theorem dX7_lit_54 : decode cX7_lit 54 = .ok (.aload_n 0, 1) := by decide +kernel
theorem dX7_lit_55 : decode cX7_lit 55 = .ok (.getfield 60, 3) := by decide +kernel
theorem dX7_lit_58 : decode cX7_lit 58 = .ok (.getfield 197, 3) := by decide +kernel
theorem dX7_lit_61 : decode cX7_lit 61 = .ok (.ifCond .ne 6, 3) := by decide +kernel
theorem dX7_lit_64 : decode cX7_lit 64 = .ok (.bipush (-9), 2) := by decide +kernel
theorem dX7_lit_66 : decode cX7_lit 66 = .ok (.ireturn, 1) := by decide +kernel
theorem dX7_lit_67 : decode cX7_lit 67 = .ok (.iload_n 3, 1) := by decide +kernel
theorem dX7_lit_68 : decode cX7_lit 68 = .ok (.lookupswitch 44 #[(0, 28), (1, 36)], 28) := by decide +kernel
theorem dX7_lit_96 : decode cX7_lit 96 = .ok (.aload_n 0, 1) := by decide +kernel
theorem dX7_lit_97 : decode cX7_lit 97 = .ok (.getfield 60, 3) := by decide +kernel
theorem dX7_lit_100 : decode cX7_lit 100 = .ok (.getfield 200, 3) := by decide +kernel
theorem dX7_lit_103 : decode cX7_lit 103 = .ok (.ireturn, 1) := by decide +kernel
theorem dX7_lit_104 : decode cX7_lit 104 = .ok (.aload_n 0, 1) := by decide +kernel
theorem dX7_lit_105 : decode cX7_lit 105 = .ok (.getfield 60, 3) := by decide +kernel
theorem dX7_lit_108 : decode cX7_lit 108 = .ok (.getfield 197, 3) := by decide +kernel
theorem dX7_lit_111 : decode cX7_lit 111 = .ok (.ireturn, 1) := by decide +kernel
theorem dX7_lit_112 : decode cX7_lit 112 = .ok (.aload_n 0, 1) := by decide +kernel
theorem dX7_lit_113 : decode cX7_lit 113 = .ok (.getfield 60, 3) := by decide +kernel
theorem dX7_lit_116 : decode cX7_lit 116 = .ok (.getfield 203, 3) := by decide +kernel
theorem dX7_lit_119 : decode cX7_lit 119 = .ok (.ireturn, 1) := by decide +kernel
theorem dX7_who_0 : decode cX7_who 0 = .ok (.iload_n 1, 1) := by decide +kernel
theorem dX7_who_1 : decode cX7_who 1 = .ok (.invokestatic 190, 3) := by decide +kernel
theorem dX7_who_4 : decode cX7_who 4 = .ok (.ifCond .eq 23, 3) := by decide +kernel
theorem dX7_who_7 : decode cX7_who 7 = .ok (.aload_n 0, 1) := by decide +kernel
theorem dX7_who_8 : decode cX7_who 8 = .ok (.getfield 28, 3) := by decide +kernel
theorem dX7_who_11 : decode cX7_who 11 = .ok (.iload_n 2, 1) := by decide +kernel
theorem dX7_who_12 : decode cX7_who 12 = .ok (.invokevirtual 180, 3) := by decide +kernel
theorem dX7_who_15 : decode cX7_who 15 = .ok (.ifCond .eq 12, 3) := by decide +kernel
theorem dX7_who_18 : decode cX7_who 18 = .ok (.iload_n 3, 1) := by decide +kernel
theorem dX7_who_19 : decode cX7_who 19 = .ok (.ifCond .lt 8, 3) := by decide +kernel
theorem dX7_who_22 : decode cX7_who 22 = .ok (.iload_n 3, 1) := by decide +kernel
theorem dX7_who_23 : decode cX7_who 23 = .ok (.iconst 1, 1) := by decide +kernel
theorem dX7_who_24 : decode cX7_who 24 = .ok (.if_icmp .le 5, 3) := by decide +kernel
theorem dX7_who_27 : decode cX7_who 27 = .ok (.iconst (-1), 1) := by decide +kernel
theorem dX7_who_28 : decode cX7_who 28 = .ok (.ireturn, 1) := by decide +kernel
theorem dX7_who_29 : decode cX7_who 29 = .ok (.aload_n 0, 1) := by decide +kernel
theorem dX7_who_30 : decode cX7_who 30 = .ok (.invokevirtual 132, 3) := by decide +kernel
theorem dX7_who_33 : decode cX7_who 33 = .ok (.pop, 1) := by decide +kernel
theorem dX7_who_34 : decode cX7_who 34 = .ok (.aload_n 0, 1) := by decide +kernel
theorem dX7_who_35 : decode cX7_who 35 = .ok (.getfield 60, 3) := by decide +kernel
theorem dX7_who_38 : decode cX7_who 38 = .ok (.aload_n 0, 1) := by decide +kernel
theorem dX7_who_39 : decode cX7_who 39 = .ok (.getfield 35, 3) := by decide +kernel
theorem dX7_who_42 : decode cX7_who 42 = .ok (.getfield 120, 3) := by decide +kernel
theorem dX7_who_45 : decode cX7_who 45 = .ok (.iload_n 1, 1) := by decide +kernel
theorem dX7_who_46 : decode cX7_who 46 = .ok (.iload_n 2, 1) := by decide +kernel
theorem dX7_who_47 : decode cX7_who 47 = .ok (.invokevirtual 206, 3) := by decide +kernel
theorem dX7_who_50 : decode cX7_who 50 = .ok (.iload_n 3, 1) := by decide +kernel
theorem dX7_who_51 : decode cX7_who 51 = .ok (.ifCond .ne 13, 3) := by decide +kernel
theorem dX7_who_54 : decode cX7_who 54 = .ok (.aload_n 0, 1) := by decide +kernel
theorem dX7_who_55 : decode cX7_who 55 = .ok (.getfield 60, 3) := by decide +kernel
theorem dX7_who_58 : decode cX7_who 58 = .ok (.getfield 197, 3) := by decide +kernel
theorem dX7_who_61 : decode cX7_who 61 = .ok (.goto 10, 3) := by decide +kernel
theorem dX7_who_64 : decode cX7_who 64 = .ok (.aload_n 0, 1) := by decide +kernel
theorem dX7_who_65 : decode cX7_who 65 = .ok (.getfield 60, 3) := by decide +kernel
theorem dX7_who_68 : decode cX7_who 68 = .ok (.getfield 203, 3) := by decide +kernel
theorem dX7_who_71 : decode cX7_who 71 = .ok (.ireturn, 1) := by decide +kernel
theorem dX7_thief_0 : decode cX7_thief 0 = .ok (.aload_n 0, 1) := by decide +kernel
theorem dX7_thief_1 : decode cX7_thief 1 = .ok (.getfield 28, 3) := by decide +kernel
theorem dX7_thief_4 : decode cX7_thief 4 = .ok (.iload_n 1, 1) := by decide +kernel
theorem dX7_thief_5 : decode cX7_thief 5 = .ok (.invokevirtual 113, 3) := by decide +kernel
theorem dX7_thief_8 : decode cX7_thief 8 = .ok (.ifCond .eq 14, 3) := by decide +kernel
theorem dX7_thief_11 : decode cX7_thief 11 = .ok (.aload_n 0, 1) := by decide +kernel
theorem dX7_thief_12 : decode cX7_thief 12 = .ok (.getfield 28, 3) := by decide +kernel
theorem dX7_thief_15 : decode cX7_thief 15 = .ok (.iload_n 2, 1) := by decide +kernel
theorem dX7_thief_16 : decode cX7_thief 16 = .ok (.invokevirtual 113, 3) := by decide +kernel
theorem dX7_thief_19 : decode cX7_thief 19 = .ok (.ifCond .ne 5, 3) := by decide +kernel
theorem dX7_thief_22 : decode cX7_thief 22 = .ok (.iconst (-1), 1) := by decide +kernel
theorem dX7_thief_23 : decode cX7_thief 23 = .ok (.ireturn, 1) := by decide +kernel
theorem dX7_thief_24 : decode cX7_thief 24 = .ok (.aload_n 0, 1) := by decide +kernel
theorem dX7_thief_25 : decode cX7_thief 25 = .ok (.invokevirtual 132, 3) := by decide +kernel
theorem dX7_thief_28 : decode cX7_thief 28 = .ok (.pop, 1) := by decide +kernel
theorem dX7_thief_29 : decode cX7_thief 29 = .ok (.aload_n 0, 1) := by decide +kernel
theorem dX7_thief_30 : decode cX7_thief 30 = .ok (.getfield 60, 3) := by decide +kernel
theorem dX7_thief_33 : decode cX7_thief 33 = .ok (.aload_n 0, 1) := by decide +kernel
theorem dX7_thief_34 : decode cX7_thief 34 = .ok (.getfield 35, 3) := by decide +kernel
theorem dX7_thief_37 : decode cX7_thief 37 = .ok (.getfield 120, 3) := by decide +kernel
theorem dX7_thief_40 : decode cX7_thief 40 = .ok (.iload_n 1, 1) := by decide +kernel
theorem dX7_thief_41 : decode cX7_thief 41 = .ok (.iload_n 2, 1) := by decide +kernel
theorem dX7_thief_42 : decode cX7_thief 42 = .ok (.invokevirtual 209, 3) := by decide +kernel
theorem dX7_thief_45 : decode cX7_thief 45 = .ok (.ireturn, 1) := by decide +kernel
theorem dX7_still_0 : decode cX7_still 0 = .ok (.iload_n 1, 1) := by decide +kernel
theorem dX7_still_1 : decode cX7_still 1 = .ok (.ifCond .lt 8, 3) := by decide +kernel
theorem dX7_still_4 : decode cX7_still 4 = .ok (.iload_n 1, 1) := by decide +kernel
theorem dX7_still_5 : decode cX7_still 5 = .ok (.iconst 1, 1) := by decide +kernel
theorem dX7_still_6 : decode cX7_still 6 = .ok (.if_icmp .le 5, 3) := by decide +kernel
theorem dX7_still_9 : decode cX7_still 9 = .ok (.iconst (-1), 1) := by decide +kernel
theorem dX7_still_10 : decode cX7_still 10 = .ok (.ireturn, 1) := by decide +kernel
theorem dX7_still_11 : decode cX7_still 11 = .ok (.iconst 0, 1) := by decide +kernel
theorem dX7_still_12 : decode cX7_still 12 = .ok (.istore_n 2, 1) := by decide +kernel
theorem dX7_still_13 : decode cX7_still 13 = .ok (.iload_n 2, 1) := by decide +kernel
theorem dX7_still_14 : decode cX7_still 14 = .ok (.aload_n 0, 1) := by decide +kernel
theorem dX7_still_15 : decode cX7_still 15 = .ok (.getfield 28, 3) := by decide +kernel
theorem dX7_still_18 : decode cX7_still 18 = .ok (.getfield 107, 3) := by decide +kernel
theorem dX7_still_21 : decode cX7_still 21 = .ok (.if_icmp .ge 72, 3) := by decide +kernel
theorem dX7_still_24 : decode cX7_still 24 = .ok (.iload_n 2, 1) := by decide +kernel
theorem dX7_still_25 : decode cX7_still 25 = .ok (.iconst 1, 1) := by decide +kernel
theorem dX7_still_26 : decode cX7_still 26 = .ok (.iadd, 1) := by decide +kernel
theorem dX7_still_27 : decode cX7_still 27 = .ok (.istore_n 3, 1) := by decide +kernel
theorem dX7_still_28 : decode cX7_still 28 = .ok (.iload_n 3, 1) := by decide +kernel
theorem dX7_still_29 : decode cX7_still 29 = .ok (.aload_n 0, 1) := by decide +kernel
theorem dX7_still_30 : decode cX7_still 30 = .ok (.getfield 28, 3) := by decide +kernel
theorem dX7_still_33 : decode cX7_still 33 = .ok (.getfield 107, 3) := by decide +kernel
theorem dX7_still_36 : decode cX7_still 36 = .ok (.if_icmp .ge 51, 3) := by decide +kernel
theorem dX7_still_39 : decode cX7_still 39 = .ok (.aload_n 0, 1) := by decide +kernel
theorem dX7_still_40 : decode cX7_still 40 = .ok (.getfield 28, 3) := by decide +kernel
theorem dX7_still_43 : decode cX7_still 43 = .ok (.iload_n 2, 1) := by decide +kernel
theorem dX7_still_44 : decode cX7_still 44 = .ok (.iload_n 3, 1) := by decide +kernel
theorem dX7_still_45 : decode cX7_still 45 = .ok (.invokevirtual 213, 3) := by decide +kernel
theorem dX7_still_48 : decode cX7_still 48 = .ok (.ifCond .ne 33, 3) := by decide +kernel
theorem dX7_still_51 : decode cX7_still 51 = .ok (.aload_n 0, 1) := by decide +kernel
theorem dX7_still_52 : decode cX7_still 52 = .ok (.iload_n 2, 1) := by decide +kernel
theorem dX7_still_53 : decode cX7_still 53 = .ok (.iload_n 3, 1) := by decide +kernel
theorem dX7_still_54 : decode cX7_still 54 = .ok (.invokevirtual 217, 3) := by decide +kernel
theorem dX7_still_57 : decode cX7_still 57 = .ok (.ifCond .eq 24, 3) := by decide +kernel
theorem dX7_still_60 : decode cX7_still 60 = .ok (.iload_n 1, 1) := by decide +kernel
theorem dX7_still_61 : decode cX7_still 61 = .ok (.ifCond .ne 12, 3) := by decide +kernel
theorem dX7_still_64 : decode cX7_still 64 = .ok (.bipush 10, 2) := by decide +kernel
theorem dX7_still_66 : decode cX7_still 66 = .ok (.iload_n 2, 1) := by decide +kernel
theorem dX7_still_67 : decode cX7_still 67 = .ok (.imul, 1) := by decide +kernel
theorem dX7_still_68 : decode cX7_still 68 = .ok (.iload_n 3, 1) := by decide +kernel
theorem dX7_still_69 : decode cX7_still 69 = .ok (.iadd, 1) := by decide +kernel
theorem dX7_still_70 : decode cX7_still 70 = .ok (.goto 10, 3) := by decide +kernel
theorem dX7_still_73 : decode cX7_still 73 = .ok (.aload_n 0, 1) := by decide +kernel
theorem dX7_still_74 : decode cX7_still 74 = .ok (.getfield 52, 3) := by decide +kernel
theorem dX7_still_77 : decode cX7_still 77 = .ok (.getfield 176, 3) := by decide +kernel
theorem dX7_still_80 : decode cX7_still 80 = .ok (.ireturn, 1) := by decide +kernel
theorem dX7_still_81 : decode cX7_still 81 = .ok (.iinc 3 1, 3) := by decide +kernel
theorem dX7_still_84 : decode cX7_still 84 = .ok (.goto (-56), 3) := by decide +kernel
theorem dX7_still_87 : decode cX7_still 87 = .ok (.iinc 2 1, 3) := by decide +kernel
theorem dX7_still_90 : decode cX7_still 90 = .ok (.goto (-77), 3) := by decide +kernel
theorem dX7_still_93 : decode cX7_still 93 = .ok (.bipush (-9), 2) := by decide +kernel
theorem dX7_still_95 : decode cX7_still 95 = .ok (.ireturn, 1) := by decide +kernel
theorem dX7_mist_0 : decode cX7_mist 0 = .ok (.aload_n 0, 1) := by decide +kernel
theorem dX7_mist_1 : decode cX7_mist 1 = .ok (.getfield 28, 3) := by decide +kernel
theorem dX7_mist_4 : decode cX7_mist 4 = .ok (.iload_n 1, 1) := by decide +kernel
theorem dX7_mist_5 : decode cX7_mist 5 = .ok (.invokevirtual 180, 3) := by decide +kernel
theorem dX7_mist_8 : decode cX7_mist 8 = .ok (.ifCond .ne 5, 3) := by decide +kernel
theorem dX7_mist_11 : decode cX7_mist 11 = .ok (.iconst (-1), 1) := by decide +kernel
theorem dX7_mist_12 : decode cX7_mist 12 = .ok (.ireturn, 1) := by decide +kernel
theorem dX7_mist_13 : decode cX7_mist 13 = .ok (.iconst 0, 1) := by decide +kernel
theorem dX7_mist_14 : decode cX7_mist 14 = .ok (.istore_n 2, 1) := by decide +kernel
theorem dX7_mist_15 : decode cX7_mist 15 = .ok (.iconst 0, 1) := by decide +kernel
theorem dX7_mist_16 : decode cX7_mist 16 = .ok (.istore_n 3, 1) := by decide +kernel
theorem dX7_mist_17 : decode cX7_mist 17 = .ok (.iload_n 3, 1) := by decide +kernel
theorem dX7_mist_18 : decode cX7_mist 18 = .ok (.aload_n 0, 1) := by decide +kernel
theorem dX7_mist_19 : decode cX7_mist 19 = .ok (.getfield 28, 3) := by decide +kernel
theorem dX7_mist_22 : decode cX7_mist 22 = .ok (.getfield 110, 3) := by decide +kernel
theorem dX7_mist_25 : decode cX7_mist 25 = .ok (.if_icmp .ge 50, 3) := by decide +kernel
theorem dX7_mist_28 : decode cX7_mist 28 = .ok (.iconst 1, 1) := by decide +kernel
theorem dX7_mist_29 : decode cX7_mist 29 = .ok (.iload_n 3, 1) := by decide +kernel
theorem dX7_mist_30 : decode cX7_mist 30 = .ok (.ishl, 1) := by decide +kernel
theorem dX7_mist_31 : decode cX7_mist 31 = .ok (.istore 4, 2) := by decide +kernel
theorem dX7_mist_33 : decode cX7_mist 33 = .ok (.aload_n 0, 1) := by decide +kernel
theorem dX7_mist_34 : decode cX7_mist 34 = .ok (.getfield 35, 3) := by decide +kernel
theorem dX7_mist_37 : decode cX7_mist 37 = .ok (.getfield 148, 3) := by decide +kernel
theorem dX7_mist_40 : decode cX7_mist 40 = .ok (.iload 4, 2) := by decide +kernel
theorem dX7_mist_42 : decode cX7_mist 42 = .ok (.iand, 1) := by decide +kernel
theorem dX7_mist_43 : decode cX7_mist 43 = .ok (.ifCond .ne 26, 3) := by decide +kernel
theorem dX7_mist_46 : decode cX7_mist 46 = .ok (.aload_n 0, 1) := by decide +kernel
theorem dX7_mist_47 : decode cX7_mist 47 = .ok (.aload_n 0, 1) := by decide +kernel
theorem dX7_mist_48 : decode cX7_mist 48 = .ok (.getfield 35, 3) := by decide +kernel
theorem dX7_mist_51 : decode cX7_mist 51 = .ok (.getfield 148, 3) := by decide +kernel
theorem dX7_mist_54 : decode cX7_mist 54 = .ok (.iload 4, 2) := by decide +kernel
theorem dX7_mist_56 : decode cX7_mist 56 = .ok (.ior, 1) := by decide +kernel
theorem dX7_mist_57 : decode cX7_mist 57 = .ok (.invokevirtual 220, 3) := by decide +kernel
theorem dX7_mist_60 : decode cX7_mist 60 = .ok (.iload_n 1, 1) := by decide +kernel
theorem dX7_mist_61 : decode cX7_mist 61 = .ok (.if_icmp .ne 8, 3) := by decide +kernel
theorem dX7_mist_64 : decode cX7_mist 64 = .ok (.iload_n 2, 1) := by decide +kernel
theorem dX7_mist_65 : decode cX7_mist 65 = .ok (.iload 4, 2) := by decide +kernel
theorem dX7_mist_67 : decode cX7_mist 67 = .ok (.ior, 1) := by decide +kernel
theorem dX7_mist_68 : decode cX7_mist 68 = .ok (.istore_n 2, 1) := by decide +kernel
theorem dX7_mist_69 : decode cX7_mist 69 = .ok (.iinc 3 1, 3) := by decide +kernel
theorem dX7_mist_72 : decode cX7_mist 72 = .ok (.goto (-55), 3) := by decide +kernel
theorem dX7_mist_75 : decode cX7_mist 75 = .ok (.iload_n 2, 1) := by decide +kernel
theorem dX7_mist_76 : decode cX7_mist 76 = .ok (.ireturn, 1) := by decide +kernel
theorem dX7_flickers_0 : decode cX7_flickers 0 = .ok (.iload_n 1, 1) := by decide +kernel
theorem dX7_flickers_1 : decode cX7_flickers 1 = .ok (.iconst (-1), 1) := by decide +kernel
theorem dX7_flickers_2 : decode cX7_flickers 2 = .ok (.if_icmp .eq 14, 3) := by decide +kernel
theorem dX7_flickers_5 : decode cX7_flickers 5 = .ok (.aload_n 0, 1) := by decide +kernel
theorem dX7_flickers_6 : decode cX7_flickers 6 = .ok (.getfield 28, 3) := by decide +kernel
theorem dX7_flickers_9 : decode cX7_flickers 9 = .ok (.iload_n 1, 1) := by decide +kernel
theorem dX7_flickers_10 : decode cX7_flickers 10 = .ok (.invokevirtual 113, 3) := by decide +kernel
theorem dX7_flickers_13 : decode cX7_flickers 13 = .ok (.ifCond .eq 10, 3) := by decide +kernel
theorem dX7_flickers_16 : decode cX7_flickers 16 = .ok (.iload_n 2, 1) := by decide +kernel
theorem dX7_flickers_17 : decode cX7_flickers 17 = .ok (.invokestatic 190, 3) := by decide +kernel
theorem dX7_flickers_20 : decode cX7_flickers 20 = .ok (.ifCond .ne 5, 3) := by decide +kernel
theorem dX7_flickers_23 : decode cX7_flickers 23 = .ok (.iconst (-1), 1) := by decide +kernel
theorem dX7_flickers_24 : decode cX7_flickers 24 = .ok (.ireturn, 1) := by decide +kernel
theorem dX7_flickers_25 : decode cX7_flickers 25 = .ok (.aload_n 0, 1) := by decide +kernel
theorem dX7_flickers_26 : decode cX7_flickers 26 = .ok (.invokevirtual 132, 3) := by decide +kernel
theorem dX7_flickers_29 : decode cX7_flickers 29 = .ok (.pop, 1) := by decide +kernel
theorem dX7_flickers_30 : decode cX7_flickers 30 = .ok (.aload_n 0, 1) := by decide +kernel
theorem dX7_flickers_31 : decode cX7_flickers 31 = .ok (.getfield 60, 3) := by decide +kernel
theorem dX7_flickers_34 : decode cX7_flickers 34 = .ok (.aload_n 0, 1) := by decide +kernel
theorem dX7_flickers_35 : decode cX7_flickers 35 = .ok (.getfield 35, 3) := by decide +kernel
theorem dX7_flickers_38 : decode cX7_flickers 38 = .ok (.getfield 120, 3) := by decide +kernel
theorem dX7_flickers_41 : decode cX7_flickers 41 = .ok (.iload_n 2, 1) := by decide +kernel
theorem dX7_flickers_42 : decode cX7_flickers 42 = .ok (.invokevirtual 223, 3) := by decide +kernel
theorem dX7_flickers_45 : decode cX7_flickers 45 = .ok (.iload_n 1, 1) := by decide +kernel
theorem dX7_flickers_46 : decode cX7_flickers 46 = .ok (.iconst (-1), 1) := by decide +kernel
theorem dX7_flickers_47 : decode cX7_flickers 47 = .ok (.if_icmp .ne 13, 3) := by decide +kernel
theorem dX7_flickers_50 : decode cX7_flickers 50 = .ok (.aload_n 0, 1) := by decide +kernel
theorem dX7_flickers_51 : decode cX7_flickers 51 = .ok (.getfield 60, 3) := by decide +kernel
theorem dX7_flickers_54 : decode cX7_flickers 54 = .ok (.invokevirtual 227, 3) := by decide +kernel
theorem dX7_flickers_57 : decode cX7_flickers 57 = .ok (.goto 12, 3) := by decide +kernel
theorem dX7_flickers_60 : decode cX7_flickers 60 = .ok (.aload_n 0, 1) := by decide +kernel
theorem dX7_flickers_61 : decode cX7_flickers 61 = .ok (.getfield 60, 3) := by decide +kernel
theorem dX7_flickers_64 : decode cX7_flickers 64 = .ok (.getfield 230, 3) := by decide +kernel
theorem dX7_flickers_67 : decode cX7_flickers 67 = .ok (.iload_n 1, 1) := by decide +kernel
theorem dX7_flickers_68 : decode cX7_flickers 68 = .ok (.iaload, 1) := by decide +kernel
theorem dX7_flickers_69 : decode cX7_flickers 69 = .ok (.ireturn, 1) := by decide +kernel
theorem dX7_mark_0 : decode cX7_mark 0 = .ok (.iload_n 1, 1) := by decide +kernel
theorem dX7_mark_1 : decode cX7_mark 1 = .ok (.ifCond .lt 20, 3) := by decide +kernel
theorem dX7_mark_4 : decode cX7_mark 4 = .ok (.iload_n 1, 1) := by decide +kernel
theorem dX7_mark_5 : decode cX7_mark 5 = .ok (.bipush 6, 2) := by decide +kernel
theorem dX7_mark_7 : decode cX7_mark 7 = .ok (.if_icmp .ge 14, 3) := by decide +kernel
theorem dX7_mark_10 : decode cX7_mark 10 = .ok (.aload_n 0, 1) := by decide +kernel
theorem dX7_mark_11 : decode cX7_mark 11 = .ok (.getfield 28, 3) := by decide +kernel
theorem dX7_mark_14 : decode cX7_mark 14 = .ok (.iload_n 2, 1) := by decide +kernel
theorem dX7_mark_15 : decode cX7_mark 15 = .ok (.invokevirtual 113, 3) := by decide +kernel
theorem dX7_mark_18 : decode cX7_mark 18 = .ok (.ifCond .ne 6, 3) := by decide +kernel
theorem dX7_mark_21 : decode cX7_mark 21 = .ok (.ldc 233, 2) := by decide +kernel
theorem dX7_mark_23 : decode cX7_mark 23 = .ok (.ireturn, 1) := by decide +kernel
theorem dX7_mark_24 : decode cX7_mark 24 = .ok (.aload_n 0, 1) := by decide +kernel
theorem dX7_mark_25 : decode cX7_mark 25 = .ok (.getfield 69, 3) := by decide +kernel
theorem dX7_mark_28 : decode cX7_mark 28 = .ok (.iload_n 1, 1) := by decide +kernel
theorem dX7_mark_29 : decode cX7_mark 29 = .ok (.iload_n 2, 1) := by decide +kernel
theorem dX7_mark_30 : decode cX7_mark 30 = .ok (.invokevirtual 234, 3) := by decide +kernel
theorem dX7_mark_33 : decode cX7_mark 33 = .ok (.ireturn, 1) := by decide +kernel
theorem dX7_keep_0 : decode cX7_keep 0 = .ok (.iload_n 1, 1) := by decide +kernel
theorem dX7_keep_1 : decode cX7_keep 1 = .ok (.ifCond .lt 8, 3) := by decide +kernel
theorem dX7_keep_4 : decode cX7_keep 4 = .ok (.iload_n 1, 1) := by decide +kernel
theorem dX7_keep_5 : decode cX7_keep 5 = .ok (.iconst 2, 1) := by decide +kernel
theorem dX7_keep_6 : decode cX7_keep 6 = .ok (.if_icmp .lt 5, 3) := by decide +kernel
theorem dX7_keep_9 : decode cX7_keep 9 = .ok (.iconst (-1), 1) := by decide +kernel
theorem dX7_keep_10 : decode cX7_keep 10 = .ok (.ireturn, 1) := by decide +kernel
theorem dX7_keep_11 : decode cX7_keep 11 = .ok (.aload_n 0, 1) := by decide +kernel
theorem dX7_keep_12 : decode cX7_keep 12 = .ok (.getfield 39, 3) := by decide +kernel
theorem dX7_keep_15 : decode cX7_keep 15 = .ok (.iload_n 1, 1) := by decide +kernel
theorem dX7_keep_16 : decode cX7_keep 16 = .ok (.aaload, 1) := by decide +kernel
theorem dX7_keep_17 : decode cX7_keep 17 = .ok (.aload_n 0, 1) := by decide +kernel
theorem dX7_keep_18 : decode cX7_keep 18 = .ok (.getfield 35, 3) := by decide +kernel
theorem dX7_keep_21 : decode cX7_keep 21 = .ok (.invokevirtual 237, 3) := by decide +kernel
theorem dX7_keep_24 : decode cX7_keep 24 = .ok (.aload_n 0, 1) := by decide +kernel
theorem dX7_keep_25 : decode cX7_keep 25 = .ok (.dup, 1) := by decide +kernel
theorem dX7_keep_26 : decode cX7_keep 26 = .ok (.getfield 104, 3) := by decide +kernel
theorem dX7_keep_29 : decode cX7_keep 29 = .ok (.iconst 1, 1) := by decide +kernel
theorem dX7_keep_30 : decode cX7_keep 30 = .ok (.iload_n 1, 1) := by decide +kernel
theorem dX7_keep_31 : decode cX7_keep 31 = .ok (.ishl, 1) := by decide +kernel
theorem dX7_keep_32 : decode cX7_keep 32 = .ok (.ior, 1) := by decide +kernel
theorem dX7_keep_33 : decode cX7_keep 33 = .ok (.putfield 104, 3) := by decide +kernel
theorem dX7_keep_36 : decode cX7_keep 36 = .ok (.aload_n 0, 1) := by decide +kernel
theorem dX7_keep_37 : decode cX7_keep 37 = .ok (.getfield 35, 3) := by decide +kernel
theorem dX7_keep_40 : decode cX7_keep 40 = .ok (.getfield 151, 3) := by decide +kernel
theorem dX7_keep_43 : decode cX7_keep 43 = .ok (.ireturn, 1) := by decide +kernel
theorem dX7_back_0 : decode cX7_back 0 = .ok (.iload_n 1, 1) := by decide +kernel
theorem dX7_back_1 : decode cX7_back 1 = .ok (.ifCond .lt 8, 3) := by decide +kernel
theorem dX7_back_4 : decode cX7_back 4 = .ok (.iload_n 1, 1) := by decide +kernel
theorem dX7_back_5 : decode cX7_back 5 = .ok (.iconst 2, 1) := by decide +kernel
theorem dX7_back_6 : decode cX7_back 6 = .ok (.if_icmp .lt 5, 3) := by decide +kernel
theorem dX7_back_9 : decode cX7_back 9 = .ok (.iconst (-1), 1) := by decide +kernel
theorem dX7_back_10 : decode cX7_back 10 = .ok (.ireturn, 1) := by decide +kernel
theorem dX7_back_11 : decode cX7_back 11 = .ok (.aload_n 0, 1) := by decide +kernel
theorem dX7_back_12 : decode cX7_back 12 = .ok (.getfield 104, 3) := by decide +kernel
theorem dX7_back_15 : decode cX7_back 15 = .ok (.iload_n 1, 1) := by decide +kernel
theorem dX7_back_16 : decode cX7_back 16 = .ok (.ishr, 1) := by decide +kernel
theorem dX7_back_17 : decode cX7_back 17 = .ok (.iconst 1, 1) := by decide +kernel
theorem dX7_back_18 : decode cX7_back 18 = .ok (.iand, 1) := by decide +kernel
theorem dX7_back_19 : decode cX7_back 19 = .ok (.ifCond .ne 6, 3) := by decide +kernel
theorem dX7_back_22 : decode cX7_back 22 = .ok (.bipush (-2), 2) := by decide +kernel
theorem dX7_back_24 : decode cX7_back 24 = .ok (.ireturn, 1) := by decide +kernel
theorem dX7_back_25 : decode cX7_back 25 = .ok (.aload_n 0, 1) := by decide +kernel
theorem dX7_back_26 : decode cX7_back 26 = .ok (.getfield 35, 3) := by decide +kernel
theorem dX7_back_29 : decode cX7_back 29 = .ok (.aload_n 0, 1) := by decide +kernel
theorem dX7_back_30 : decode cX7_back 30 = .ok (.getfield 39, 3) := by decide +kernel
theorem dX7_back_33 : decode cX7_back 33 = .ok (.iload_n 1, 1) := by decide +kernel
theorem dX7_back_34 : decode cX7_back 34 = .ok (.aaload, 1) := by decide +kernel
theorem dX7_back_35 : decode cX7_back 35 = .ok (.invokevirtual 237, 3) := by decide +kernel
theorem dX7_back_38 : decode cX7_back 38 = .ok (.aload_n 0, 1) := by decide +kernel
theorem dX7_back_39 : decode cX7_back 39 = .ok (.getfield 35, 3) := by decide +kernel
theorem dX7_back_42 : decode cX7_back 42 = .ok (.getfield 151, 3) := by decide +kernel
theorem dX7_back_45 : decode cX7_back 45 = .ok (.ireturn, 1) := by decide +kernel
theorem dX7_count_0 : decode cX7_count 0 = .ok (.iload_n 1, 1) := by decide +kernel
theorem dX7_count_1 : decode cX7_count 1 = .ok (.tableswitch 63 0 3 #[31, 39, 47, 55], 31) := by decide +kernel
theorem dX7_count_32 : decode cX7_count 32 = .ok (.aload_n 0, 1) := by decide +kernel
theorem dX7_count_33 : decode cX7_count 33 = .ok (.getfield 28, 3) := by decide +kernel
theorem dX7_count_36 : decode cX7_count 36 = .ok (.getfield 107, 3) := by decide +kernel
theorem dX7_count_39 : decode cX7_count 39 = .ok (.ireturn, 1) := by decide +kernel
theorem dX7_count_40 : decode cX7_count 40 = .ok (.aload_n 0, 1) := by decide +kernel
theorem dX7_count_41 : decode cX7_count 41 = .ok (.getfield 28, 3) := by decide +kernel
theorem dX7_count_44 : decode cX7_count 44 = .ok (.getfield 110, 3) := by decide +kernel
theorem dX7_count_47 : decode cX7_count 47 = .ok (.ireturn, 1) := by decide +kernel
theorem dX7_count_48 : decode cX7_count 48 = .ok (.aload_n 0, 1) := by decide +kernel
theorem dX7_count_49 : decode cX7_count 49 = .ok (.getfield 35, 3) := by decide +kernel
theorem dX7_count_52 : decode cX7_count 52 = .ok (.getfield 163, 3) := by decide +kernel
theorem dX7_count_55 : decode cX7_count 55 = .ok (.ireturn, 1) := by decide +kernel
theorem dX7_count_56 : decode cX7_count 56 = .ok (.aload_n 0, 1) := by decide +kernel
theorem dX7_count_57 : decode cX7_count 57 = .ok (.getfield 10, 3) := by decide +kernel
theorem dX7_count_60 : decode cX7_count 60 = .ok (.getfield 77, 3) := by decide +kernel
theorem dX7_count_63 : decode cX7_count 63 = .ok (.ireturn, 1) := by decide +kernel
theorem dX7_count_64 : decode cX7_count 64 = .ok (.iconst (-1), 1) := by decide +kernel
theorem dX7_count_65 : decode cX7_count 65 = .ok (.ireturn, 1) := by decide +kernel
theorem dX7_trace_0 : decode cX7_trace 0 = .ok (.aload_n 0, 1) := by decide +kernel
theorem dX7_trace_1 : decode cX7_trace 1 = .ok (.getfield 69, 3) := by decide +kernel
theorem dX7_trace_4 : decode cX7_trace 4 = .ok (.getfield 240, 3) := by decide +kernel
theorem dX7_trace_7 : decode cX7_trace 7 = .ok (.lreturn, 1) := by decide +kernel
theorem dX7_isSeen_0 : decode cX7_isSeen 0 = .ok (.iload_n 0, 1) := by decide +kernel
theorem dX7_isSeen_1 : decode cX7_isSeen 1 = .ok (.ifCond .lt 13, 3) := by decide +kernel
theorem dX7_isSeen_4 : decode cX7_isSeen 4 = .ok (.iload_n 0, 1) := by decide +kernel
theorem dX7_isSeen_5 : decode cX7_isSeen 5 = .ok (.bipush 60, 2) := by decide +kernel
theorem dX7_isSeen_7 : decode cX7_isSeen 7 = .ok (.if_icmp .gt 7, 3) := by decide +kernel
theorem dX7_isSeen_10 : decode cX7_isSeen 10 = .ok (.iconst 1, 1) := by decide +kernel
theorem dX7_isSeen_11 : decode cX7_isSeen 11 = .ok (.goto 4, 3) := by decide +kernel
theorem dX7_isSeen_14 : decode cX7_isSeen 14 = .ok (.iconst 0, 1) := by decide +kernel
theorem dX7_isSeen_15 : decode cX7_isSeen 15 = .ok (.ireturn, 1) := by decide +kernel
theorem dX7_workNow_0 : decode cX7_workNow 0 = .ok (.aload_n 0, 1) := by decide +kernel
theorem dX7_workNow_1 : decode cX7_workNow 1 = .ok (.getfield 48, 3) := by decide +kernel
theorem dX7_workNow_4 : decode cX7_workNow 4 = .ok (.aload_n 0, 1) := by decide +kernel
theorem dX7_workNow_5 : decode cX7_workNow 5 = .ok (.getfield 35, 3) := by decide +kernel
theorem dX7_workNow_8 : decode cX7_workNow 8 = .ok (.getfield 148, 3) := by decide +kernel
theorem dX7_workNow_11 : decode cX7_workNow 11 = .ok (.invokevirtual 244, 3) := by decide +kernel
theorem dX7_workNow_14 : decode cX7_workNow 14 = .ok (.aload_n 0, 1) := by decide +kernel
theorem dX7_workNow_15 : decode cX7_workNow 15 = .ok (.getfield 48, 3) := by decide +kernel
theorem dX7_workNow_18 : decode cX7_workNow 18 = .ok (.areturn, 1) := by decide +kernel
theorem dX7_stillsBy_0 : decode cX7_stillsBy 0 = .ok (.aload_n 0, 1) := by decide +kernel
theorem dX7_stillsBy_1 : decode cX7_stillsBy 1 = .ok (.getfield 52, 3) := by decide +kernel
theorem dX7_stillsBy_4 : decode cX7_stillsBy 4 = .ok (.aload_n 0, 1) := by decide +kernel
theorem dX7_stillsBy_5 : decode cX7_stillsBy 5 = .ok (.getfield 35, 3) := by decide +kernel
theorem dX7_stillsBy_8 : decode cX7_stillsBy 8 = .ok (.getfield 148, 3) := by decide +kernel
theorem dX7_stillsBy_11 : decode cX7_stillsBy 11 = .ok (.invokevirtual 244, 3) := by decide +kernel
theorem dX7_stillsBy_14 : decode cX7_stillsBy 14 = .ok (.aload_n 0, 1) := by decide +kernel
theorem dX7_stillsBy_15 : decode cX7_stillsBy 15 = .ok (.getfield 52, 3) := by decide +kernel
theorem dX7_stillsBy_18 : decode cX7_stillsBy 18 = .ok (.iload_n 1, 1) := by decide +kernel
theorem dX7_stillsBy_19 : decode cX7_stillsBy 19 = .ok (.iload_n 2, 1) := by decide +kernel
theorem dX7_stillsBy_20 : decode cX7_stillsBy 20 = .ok (.invokevirtual 247, 3) := by decide +kernel
theorem dX7_stillsBy_23 : decode cX7_stillsBy 23 = .ok (.aload_n 0, 1) := by decide +kernel
theorem dX7_stillsBy_24 : decode cX7_stillsBy 24 = .ok (.getfield 52, 3) := by decide +kernel
theorem dX7_stillsBy_27 : decode cX7_stillsBy 27 = .ok (.aload_n 0, 1) := by decide +kernel
theorem dX7_stillsBy_28 : decode cX7_stillsBy 28 = .ok (.getfield 35, 3) := by decide +kernel
theorem dX7_stillsBy_31 : decode cX7_stillsBy 31 = .ok (.getfield 120, 3) := by decide +kernel
theorem dX7_stillsBy_34 : decode cX7_stillsBy 34 = .ok (.invokevirtual 173, 3) := by decide +kernel
theorem dX7_stillsBy_37 : decode cX7_stillsBy 37 = .ok (.aload_n 0, 1) := by decide +kernel
theorem dX7_stillsBy_38 : decode cX7_stillsBy 38 = .ok (.getfield 52, 3) := by decide +kernel
theorem dX7_stillsBy_41 : decode cX7_stillsBy 41 = .ok (.getfield 179, 3) := by decide +kernel
theorem dX7_stillsBy_44 : decode cX7_stillsBy 44 = .ok (.iconst 1, 1) := by decide +kernel
theorem dX7_stillsBy_45 : decode cX7_stillsBy 45 = .ok (.if_icmp .ne 7, 3) := by decide +kernel
theorem dX7_stillsBy_48 : decode cX7_stillsBy 48 = .ok (.iconst 1, 1) := by decide +kernel
theorem dX7_stillsBy_49 : decode cX7_stillsBy 49 = .ok (.goto 4, 3) := by decide +kernel
theorem dX7_stillsBy_52 : decode cX7_stillsBy 52 = .ok (.iconst 0, 1) := by decide +kernel
theorem dX7_stillsBy_53 : decode cX7_stillsBy 53 = .ok (.ireturn, 1) := by decide +kernel
theorem dX7_standsInFog_0 : decode cX7_standsInFog 0 = .ok (.aload_n 0, 1) := by decide +kernel
theorem dX7_standsInFog_1 : decode cX7_standsInFog 1 = .ok (.getfield 52, 3) := by decide +kernel
theorem dX7_standsInFog_4 : decode cX7_standsInFog 4 = .ok (.iload_n 1, 1) := by decide +kernel
theorem dX7_standsInFog_5 : decode cX7_standsInFog 5 = .ok (.invokevirtual 244, 3) := by decide +kernel
theorem dX7_standsInFog_8 : decode cX7_standsInFog 8 = .ok (.aload_n 0, 1) := by decide +kernel
theorem dX7_standsInFog_9 : decode cX7_standsInFog 9 = .ok (.getfield 52, 3) := by decide +kernel
theorem dX7_standsInFog_12 : decode cX7_standsInFog 12 = .ok (.aload_n 0, 1) := by decide +kernel
theorem dX7_standsInFog_13 : decode cX7_standsInFog 13 = .ok (.getfield 35, 3) := by decide +kernel
theorem dX7_standsInFog_16 : decode cX7_standsInFog 16 = .ok (.getfield 120, 3) := by decide +kernel
theorem dX7_standsInFog_19 : decode cX7_standsInFog 19 = .ok (.invokevirtual 157, 3) := by decide +kernel
theorem dX7_standsInFog_22 : decode cX7_standsInFog 22 = .ok (.ireturn, 1) := by decide +kernel
theorem dX8_in_0 : decode cX8_in 0 = .ok (.lload_n 0, 1) := by decide +kernel
theorem dX8_in_1 : decode cX8_in 1 = .ok (.lload_n 2, 1) := by decide +kernel
theorem dX8_in_2 : decode cX8_in 2 = .ok (.lcmp, 1) := by decide +kernel
theorem dX8_in_3 : decode cX8_in 3 = .ok (.ifCond .lt 14, 3) := by decide +kernel
theorem dX8_in_6 : decode cX8_in 6 = .ok (.lload_n 0, 1) := by decide +kernel
theorem dX8_in_7 : decode cX8_in 7 = .ok (.lload 4, 2) := by decide +kernel
theorem dX8_in_9 : decode cX8_in 9 = .ok (.lcmp, 1) := by decide +kernel
theorem dX8_in_10 : decode cX8_in 10 = .ok (.ifCond .gt 7, 3) := by decide +kernel
theorem dX8_in_13 : decode cX8_in 13 = .ok (.iconst 1, 1) := by decide +kernel
theorem dX8_in_14 : decode cX8_in 14 = .ok (.goto 4, 3) := by decide +kernel
theorem dX8_in_17 : decode cX8_in 17 = .ok (.iconst 0, 1) := by decide +kernel
theorem dX8_in_18 : decode cX8_in 18 = .ok (.ireturn, 1) := by decide +kernel
theorem dX8_init_0 : decode cX8_init 0 = .ok (.aload_n 0, 1) := by decide +kernel
theorem dX8_init_1 : decode cX8_init 1 = .ok (.invokespecial 1, 3) := by decide +kernel
theorem dX8_init_4 : decode cX8_init 4 = .ok (.aload_n 0, 1) := by decide +kernel
theorem dX8_init_5 : decode cX8_init 5 = .ok (.sipush 200, 3) := by decide +kernel
theorem dX8_init_8 : decode cX8_init 8 = .ok (.newarray .int, 2) := by decide +kernel
theorem dX8_init_10 : decode cX8_init 10 = .ok (.putfield 7, 3) := by decide +kernel
theorem dX8_init_13 : decode cX8_init 13 = .ok (.aload_n 0, 1) := by decide +kernel
theorem dX8_init_14 : decode cX8_init 14 = .ok (.bipush 9, 2) := by decide +kernel
theorem dX8_init_16 : decode cX8_init 16 = .ok (.newarray .int, 2) := by decide +kernel
theorem dX8_init_18 : decode cX8_init 18 = .ok (.putfield 13, 3) := by decide +kernel
theorem dX8_init_21 : decode cX8_init 21 = .ok (.aload_n 0, 1) := by decide +kernel
theorem dX8_init_22 : decode cX8_init 22 = .ok (.bipush 15, 2) := by decide +kernel
theorem dX8_init_24 : decode cX8_init 24 = .ok (.newarray .int, 2) := by decide +kernel
theorem dX8_init_26 : decode cX8_init 26 = .ok (.putfield 16, 3) := by decide +kernel
theorem dX8_init_29 : decode cX8_init 29 = .ok (.aload_n 0, 1) := by decide +kernel
theorem dX8_init_30 : decode cX8_init 30 = .ok (.bipush 15, 2) := by decide +kernel
theorem dX8_init_32 : decode cX8_init 32 = .ok (.newarray .int, 2) := by decide +kernel
theorem dX8_init_34 : decode cX8_init 34 = .ok (.putfield 19, 3) := by decide +kernel
theorem dX8_init_37 : decode cX8_init 37 = .ok (.aload_n 0, 1) := by decide +kernel
theorem dX8_init_38 : decode cX8_init 38 = .ok (.bipush 9, 2) := by decide +kernel
theorem dX8_init_40 : decode cX8_init 40 = .ok (.newarray .int, 2) := by decide +kernel
theorem dX8_init_42 : decode cX8_init 42 = .ok (.putfield 22, 3) := by decide +kernel
theorem dX8_init_45 : decode cX8_init 45 = .ok (.aload_n 0, 1) := by decide +kernel
theorem dX8_init_46 : decode cX8_init 46 = .ok (.bipush 15, 2) := by decide +kernel
theorem dX8_init_48 : decode cX8_init 48 = .ok (.newarray .int, 2) := by decide +kernel
theorem dX8_init_50 : decode cX8_init 50 = .ok (.putfield 25, 3) := by decide +kernel
theorem dX8_init_53 : decode cX8_init 53 = .ok (.aload_n 0, 1) := by decide +kernel
theorem dX8_init_54 : decode cX8_init 54 = .ok (.bipush 15, 2) := by decide +kernel
theorem dX8_init_56 : decode cX8_init 56 = .ok (.newarray .int, 2) := by decide +kernel
theorem dX8_init_58 : decode cX8_init 58 = .ok (.putfield 28, 3) := by decide +kernel
theorem dX8_init_61 : decode cX8_init 61 = .ok (.aload_n 0, 1) := by decide +kernel
theorem dX8_init_62 : decode cX8_init 62 = .ok (.bipush 9, 2) := by decide +kernel
theorem dX8_init_64 : decode cX8_init 64 = .ok (.newarray .int, 2) := by decide +kernel
theorem dX8_init_66 : decode cX8_init 66 = .ok (.putfield 31, 3) := by decide +kernel
theorem dX8_init_69 : decode cX8_init 69 = .ok (.aload_n 0, 1) := by decide +kernel
theorem dX8_init_70 : decode cX8_init 70 = .ok (.bipush 40, 2) := by decide +kernel
theorem dX8_init_72 : decode cX8_init 72 = .ok (.newarray .int, 2) := by decide +kernel
theorem dX8_init_74 : decode cX8_init 74 = .ok (.putfield 34, 3) := by decide +kernel
theorem dX8_init_77 : decode cX8_init 77 = .ok (.aload_n 0, 1) := by decide +kernel
theorem dX8_init_78 : decode cX8_init 78 = .ok (.sipush 512, 3) := by decide +kernel
theorem dX8_init_81 : decode cX8_init 81 = .ok (.newarray .int, 2) := by decide +kernel
theorem dX8_init_83 : decode cX8_init 83 = .ok (.putfield 37, 3) := by decide +kernel
theorem dX8_init_86 : decode cX8_init 86 = .ok (.aload_n 0, 1) := by decide +kernel
theorem dX8_init_87 : decode cX8_init 87 = .ok (.bipush 92, 2) := by decide +kernel
theorem dX8_init_89 : decode cX8_init 89 = .ok (.newarray .int, 2) := by decide +kernel
theorem dX8_init_91 : decode cX8_init 91 = .ok (.putfield 40, 3) := by decide +kernel
theorem dX8_init_94 : decode cX8_init 94 = .ok (.aload_n 0, 1) := by decide +kernel
theorem dX8_init_95 : decode cX8_init 95 = .ok (.iconst 0, 1) := by decide +kernel
theorem dX8_init_96 : decode cX8_init 96 = .ok (.putfield 43, 3) := by decide +kernel
theorem dX8_init_99 : decode cX8_init 99 = .ok (.return_, 1) := by decide +kernel
theorem dX8_type_0 : decode cX8_type 0 = .ok (.iload_n 1, 1) := by decide +kernel
theorem dX8_type_1 : decode cX8_type 1 = .ok (.i2l, 1) := by decide +kernel
theorem dX8_type_2 : decode cX8_type 2 = .ok (.lconst 0, 1) := by decide +kernel
theorem dX8_type_3 : decode cX8_type 3 = .ok (.ldc2_w 47, 3) := by decide +kernel
theorem dX8_type_6 : decode cX8_type 6 = .ok (.invokestatic 49, 3) := by decide +kernel
theorem dX8_type_9 : decode cX8_type 9 = .ok (.ifCond .ne 5, 3) := by decide +kernel
theorem dX8_type_12 : decode cX8_type 12 = .ok (.iconst (-1), 1) := by decide +kernel
theorem dX8_type_13 : decode cX8_type 13 = .ok (.ireturn, 1) := by decide +kernel
theorem dX8_type_14 : decode cX8_type 14 = .ok (.aload_n 0, 1) := by decide +kernel
theorem dX8_type_15 : decode cX8_type 15 = .ok (.getfield 53, 3) := by decide +kernel
theorem dX8_type_18 : decode cX8_type 18 = .ok (.sipush 200, 3) := by decide +kernel
theorem dX8_type_21 : decode cX8_type 21 = .ok (.if_icmp .ne 6, 3) := by decide +kernel
theorem dX8_type_24 : decode cX8_type 24 = .ok (.bipush (-3), 2) := by decide +kernel
theorem dX8_type_26 : decode cX8_type 26 = .ok (.ireturn, 1) := by decide +kernel
theorem dX8_type_27 : decode cX8_type 27 = .ok (.aload_n 0, 1) := by decide +kernel
theorem dX8_type_28 : decode cX8_type 28 = .ok (.getfield 7, 3) := by decide +kernel
theorem dX8_type_31 : decode cX8_type 31 = .ok (.aload_n 0, 1) := by decide +kernel
theorem dX8_type_32 : decode cX8_type 32 = .ok (.getfield 53, 3) := by decide +kernel
theorem dX8_type_35 : decode cX8_type 35 = .ok (.iload_n 1, 1) := by decide +kernel
theorem dX8_type_36 : decode cX8_type 36 = .ok (.iastore, 1) := by decide +kernel
theorem dX8_type_37 : decode cX8_type 37 = .ok (.aload_n 0, 1) := by decide +kernel
theorem dX8_type_38 : decode cX8_type 38 = .ok (.dup, 1) := by decide +kernel
theorem dX8_type_39 : decode cX8_type 39 = .ok (.getfield 53, 3) := by decide +kernel
theorem dX8_type_42 : decode cX8_type 42 = .ok (.iconst 1, 1) := by decide +kernel
theorem dX8_type_43 : decode cX8_type 43 = .ok (.iadd, 1) := by decide +kernel
theorem dX8_type_44 : decode cX8_type 44 = .ok (.putfield 53, 3) := by decide +kernel
theorem dX8_type_47 : decode cX8_type 47 = .ok (.aload_n 0, 1) := by decide +kernel
theorem dX8_type_48 : decode cX8_type 48 = .ok (.getfield 53, 3) := by decide +kernel
theorem dX8_type_51 : decode cX8_type 51 = .ok (.ireturn, 1) := by decide +kernel
theorem dX8_clear_0 : decode cX8_clear 0 = .ok (.aload_n 0, 1) := by decide +kernel
theorem dX8_clear_1 : decode cX8_clear 1 = .ok (.getfield 53, 3) := by decide +kernel
theorem dX8_clear_4 : decode cX8_clear 4 = .ok (.istore_n 1, 1) := by decide +kernel
theorem dX8_clear_5 : decode cX8_clear 5 = .ok (.aload_n 0, 1) := by decide +kernel
theorem dX8_clear_6 : decode cX8_clear 6 = .ok (.iconst 0, 1) := by decide +kernel
theorem dX8_clear_7 : decode cX8_clear 7 = .ok (.putfield 53, 3) := by decide +kernel
theorem dX8_clear_10 : decode cX8_clear 10 = .ok (.iload_n 1, 1) := by decide +kernel
theorem dX8_clear_11 : decode cX8_clear 11 = .ok (.ireturn, 1) := by decide +kernel
theorem dX8_isLetter_0 : decode cX8_isLetter 0 = .ok (.iload_n 0, 1) := by decide +kernel
theorem dX8_isLetter_1 : decode cX8_isLetter 1 = .ok (.i2l, 1) := by decide +kernel
theorem dX8_isLetter_2 : decode cX8_isLetter 2 = .ok (.ldc2_w 56, 3) := by decide +kernel
theorem dX8_isLetter_5 : decode cX8_isLetter 5 = .ok (.ldc2_w 58, 3) := by decide +kernel
theorem dX8_isLetter_8 : decode cX8_isLetter 8 = .ok (.invokestatic 49, 3) := by decide +kernel
theorem dX8_isLetter_11 : decode cX8_isLetter 11 = .ok (.ireturn, 1) := by decide +kernel
theorem dX8_isFigure_0 : decode cX8_isFigure 0 = .ok (.iload_n 0, 1) := by decide +kernel
theorem dX8_isFigure_1 : decode cX8_isFigure 1 = .ok (.i2l, 1) := by decide +kernel
theorem dX8_isFigure_2 : decode cX8_isFigure 2 = .ok (.ldc2_w 60, 3) := by decide +kernel
theorem dX8_isFigure_5 : decode cX8_isFigure 5 = .ok (.ldc2_w 62, 3) := by decide +kernel
theorem dX8_isFigure_8 : decode cX8_isFigure 8 = .ok (.invokestatic 49, 3) := by decide +kernel
theorem dX8_isFigure_11 : decode cX8_isFigure 11 = .ok (.ireturn, 1) := by decide +kernel
theorem dX8_readLetters_0 : decode cX8_readLetters 0 = .ok (.aload_n 0, 1) := by decide +kernel
theorem dX8_readLetters_1 : decode cX8_readLetters 1 = .ok (.aload_n 0, 1) := by decide +kernel
theorem dX8_readLetters_2 : decode cX8_readLetters 2 = .ok (.getfield 7, 3) := by decide +kernel
theorem dX8_readLetters_5 : decode cX8_readLetters 5 = .ok (.aload_n 0, 1) := by decide +kernel
theorem dX8_readLetters_6 : decode cX8_readLetters 6 = .ok (.getfield 64, 3) := by decide +kernel
theorem dX8_readLetters_9 : decode cX8_readLetters 9 = .ok (.iaload, 1) := by decide +kernel
theorem dX8_readLetters_10 : decode cX8_readLetters 10 = .ok (.putfield 67, 3) := by decide +kernel
theorem dX8_readLetters_13 : decode cX8_readLetters 13 = .ok (.aload_n 0, 1) := by decide +kernel
theorem dX8_readLetters_14 : decode cX8_readLetters 14 = .ok (.getfield 64, 3) := by decide +kernel
theorem dX8_readLetters_17 : decode cX8_readLetters 17 = .ok (.aload_n 0, 1) := by decide +kernel
theorem dX8_readLetters_18 : decode cX8_readLetters 18 = .ok (.getfield 53, 3) := by decide +kernel
theorem dX8_readLetters_21 : decode cX8_readLetters 21 = .ok (.if_icmp .ge 31, 3) := by decide +kernel
theorem dX8_readLetters_24 : decode cX8_readLetters 24 = .ok (.aload_n 0, 1) := by decide +kernel
theorem dX8_readLetters_25 : decode cX8_readLetters 25 = .ok (.getfield 7, 3) := by decide +kernel
theorem dX8_readLetters_28 : decode cX8_readLetters 28 = .ok (.aload_n 0, 1) := by decide +kernel
theorem dX8_readLetters_29 : decode cX8_readLetters 29 = .ok (.getfield 64, 3) := by decide +kernel
theorem dX8_readLetters_32 : decode cX8_readLetters 32 = .ok (.iaload, 1) := by decide +kernel
theorem dX8_readLetters_33 : decode cX8_readLetters 33 = .ok (.invokestatic 70, 3) := by decide +kernel
theorem dX8_readLetters_36 : decode cX8_readLetters 36 = .ok (.ifCond .eq 16, 3) := by decide +kernel
theorem dX8_readLetters_39 : decode cX8_readLetters 39 = .ok (.aload_n 0, 1) := by decide +kernel
theorem dX8_readLetters_40 : decode cX8_readLetters 40 = .ok (.dup, 1) := by decide +kernel
theorem dX8_readLetters_41 : decode cX8_readLetters 41 = .ok (.getfield 64, 3) := by decide +kernel
theorem dX8_readLetters_44 : decode cX8_readLetters 44 = .ok (.iconst 1, 1) := by decide +kernel
theorem dX8_readLetters_45 : decode cX8_readLetters 45 = .ok (.iadd, 1) := by decide +kernel
theorem dX8_readLetters_46 : decode cX8_readLetters 46 = .ok (.putfield 64, 3) := by decide +kernel
theorem dX8_readLetters_49 : decode cX8_readLetters 49 = .ok (.goto (-36), 3) := by decide +kernel
theorem dX8_readLetters_52 : decode cX8_readLetters 52 = .ok (.aload_n 0, 1) := by decide +kernel
theorem dX8_readLetters_53 : decode cX8_readLetters 53 = .ok (.aload_n 0, 1) := by decide +kernel
theorem dX8_readLetters_54 : decode cX8_readLetters 54 = .ok (.getfield 64, 3) := by decide +kernel
theorem dX8_readLetters_57 : decode cX8_readLetters 57 = .ok (.aload_n 0, 1) := by decide +kernel
theorem dX8_readLetters_58 : decode cX8_readLetters 58 = .ok (.getfield 74, 3) := by decide +kernel
theorem dX8_readLetters_61 : decode cX8_readLetters 61 = .ok (.isub, 1) := by decide +kernel
theorem dX8_readLetters_62 : decode cX8_readLetters 62 = .ok (.iconst 1, 1) := by decide +kernel
theorem dX8_readLetters_63 : decode cX8_readLetters 63 = .ok (.if_icmp .ne 25, 3) := by decide +kernel
theorem dX8_readLetters_66 : decode cX8_readLetters 66 = .ok (.aload_n 0, 1) := by decide +kernel
theorem dX8_readLetters_67 : decode cX8_readLetters 67 = .ok (.getfield 67, 3) := by decide +kernel
theorem dX8_readLetters_70 : decode cX8_readLetters 70 = .ok (.bipush 108, 2) := by decide +kernel
theorem dX8_readLetters_72 : decode cX8_readLetters 72 = .ok (.if_icmp .eq 12, 3) := by decide +kernel
theorem dX8_readLetters_75 : decode cX8_readLetters 75 = .ok (.aload_n 0, 1) := by decide +kernel
theorem dX8_readLetters_76 : decode cX8_readLetters 76 = .ok (.getfield 67, 3) := by decide +kernel
theorem dX8_readLetters_79 : decode cX8_readLetters 79 = .ok (.bipush 115, 2) := by decide +kernel
theorem dX8_readLetters_81 : decode cX8_readLetters 81 = .ok (.if_icmp .ne 7, 3) := by decide +kernel
theorem dX8_readLetters_84 : decode cX8_readLetters 84 = .ok (.iconst 1, 1) := by decide +kernel
theorem dX8_readLetters_85 : decode cX8_readLetters 85 = .ok (.goto 4, 3) := by decide +kernel
theorem dX8_readLetters_88 : decode cX8_readLetters 88 = .ok (.iconst 4, 1) := by decide +kernel
theorem dX8_readLetters_89 : decode cX8_readLetters 89 = .ok (.putfield 77, 3) := by decide +kernel
theorem dX8_readLetters_92 : decode cX8_readLetters 92 = .ok (.return_, 1) := by decide +kernel
theorem dX8_readNumber_0 : decode cX8_readNumber 0 = .ok (.iconst 0, 1) := by decide +kernel
theorem dX8_readNumber_1 : decode cX8_readNumber 1 = .ok (.istore_n 1, 1) := by decide +kernel
theorem dX8_readNumber_2 : decode cX8_readNumber 2 = .ok (.aload_n 0, 1) := by decide +kernel
theorem dX8_readNumber_3 : decode cX8_readNumber 3 = .ok (.getfield 64, 3) := by decide +kernel
theorem dX8_readNumber_6 : decode cX8_readNumber 6 = .ok (.aload_n 0, 1) := by decide +kernel
theorem dX8_readNumber_7 : decode cX8_readNumber 7 = .ok (.getfield 53, 3) := by decide +kernel
theorem dX8_readNumber_10 : decode cX8_readNumber 10 = .ok (.if_icmp .ge 59, 3) := by decide +kernel
theorem dX8_readNumber_13 : decode cX8_readNumber 13 = .ok (.aload_n 0, 1) := by decide +kernel
theorem dX8_readNumber_14 : decode cX8_readNumber 14 = .ok (.getfield 7, 3) := by decide +kernel
