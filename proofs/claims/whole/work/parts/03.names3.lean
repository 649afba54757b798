theorem dX5_observe_5 : decode cX5_observe 5 = .ok (.iload_n 1, 1) := by decide +kernel
theorem dX5_observe_6 : decode cX5_observe 6 = .ok (.invokestatic 94, 3) := by decide +kernel
theorem dX5_observe_9 : decode cX5_observe 9 = .ok (.ifCond .eq 19, 3) := by decide +kernel
theorem dX5_observe_12 : decode cX5_observe 12 = .ok (.iload_n 2, 1) := by decide +kernel
theorem dX5_observe_13 : decode cX5_observe 13 = .ok (.iconst 0, 1) := by decide +kernel
theorem dX5_observe_14 : decode cX5_observe 14 = .ok (.iconst 3, 1) := by decide +kernel
theorem dX5_observe_15 : decode cX5_observe 15 = .ok (.invokestatic 86, 3) := by decide +kernel
theorem dX5_observe_18 : decode cX5_observe 18 = .ok (.ifCond .eq 10, 3) := by decide +kernel
theorem dX5_observe_21 : decode cX5_observe 21 = .ok (.iload_n 3, 1) := by decide +kernel
theorem dX5_observe_22 : decode cX5_observe 22 = .ok (.invokestatic 94, 3) := by decide +kernel
theorem dX5_observe_25 : decode cX5_observe 25 = .ok (.ifCond .ne 5, 3) := by decide +kernel
theorem dX5_observe_28 : decode cX5_observe 28 = .ok (.iconst (-1), 1) := by decide +kernel
theorem dX5_observe_29 : decode cX5_observe 29 = .ok (.ireturn, 1) := by decide +kernel
theorem dX5_observe_30 : decode cX5_observe 30 = .ok (.aload_n 0, 1) := by decide +kernel
theorem dX5_observe_31 : decode cX5_observe 31 = .ok (.getfield 73, 3) := by decide +kernel
theorem dX5_observe_34 : decode cX5_observe 34 = .ok (.bipush 30, 2) := by decide +kernel
theorem dX5_observe_36 : decode cX5_observe 36 = .ok (.if_icmp .ne 8, 3) := by decide +kernel
theorem dX5_observe_39 : decode cX5_observe 39 = .ok (.bipush (-2), 2) := by decide +kernel
theorem dX5_observe_41 : decode cX5_observe 41 = .ok (.goto 12, 3) := by decide +kernel
theorem dX5_observe_44 : decode cX5_observe 44 = .ok (.aload_n 0, 1) := by decide +kernel
theorem dX5_observe_45 : decode cX5_observe 45 = .ok (.iconst 2, 1) := by decide +kernel
theorem dX5_observe_46 : decode cX5_observe 46 = .ok (.iconst 0, 1) := by decide +kernel
theorem dX5_observe_47 : decode cX5_observe 47 = .ok (.iload_n 2, 1) := by decide +kernel
theorem dX5_observe_48 : decode cX5_observe 48 = .ok (.iload_n 1, 1) := by decide +kernel
theorem dX5_observe_49 : decode cX5_observe 49 = .ok (.iload_n 3, 1) := by decide +kernel
theorem dX5_observe_50 : decode cX5_observe 50 = .ok (.invokevirtual 90, 3) := by decide +kernel
theorem dX5_observe_53 : decode cX5_observe 53 = .ok (.ireturn, 1) := by decide +kernel
theorem dX5_weigh_0 : decode cX5_weigh 0 = .ok (.aload_n 0, 1) := by decide +kernel
theorem dX5_weigh_1 : decode cX5_weigh 1 = .ok (.iconst 0, 1) := by decide +kernel
theorem dX5_weigh_2 : decode cX5_weigh 2 = .ok (.putfield 69, 3) := by decide +kernel
theorem dX5_weigh_5 : decode cX5_weigh 5 = .ok (.iload_n 1, 1) := by decide +kernel
theorem dX5_weigh_6 : decode cX5_weigh 6 = .ok (.invokestatic 94, 3) := by decide +kernel
theorem dX5_weigh_9 : decode cX5_weigh 9 = .ok (.ifCond .ne 5, 3) := by decide +kernel
theorem dX5_weigh_12 : decode cX5_weigh 12 = .ok (.iconst (-1), 1) := by decide +kernel
theorem dX5_weigh_13 : decode cX5_weigh 13 = .ok (.ireturn, 1) := by decide +kernel
theorem dX5_weigh_14 : decode cX5_weigh 14 = .ok (.aload_n 0, 1) := by decide +kernel
theorem dX5_weigh_15 : decode cX5_weigh 15 = .ok (.getfield 73, 3) := by decide +kernel
theorem dX5_weigh_18 : decode cX5_weigh 18 = .ok (.bipush 30, 2) := by decide +kernel
theorem dX5_weigh_20 : decode cX5_weigh 20 = .ok (.if_icmp .eq 11, 3) := by decide +kernel
theorem dX5_weigh_23 : decode cX5_weigh 23 = .ok (.aload_n 0, 1) := by decide +kernel
theorem dX5_weigh_24 : decode cX5_weigh 24 = .ok (.getfield 79, 3) := by decide +kernel
theorem dX5_weigh_27 : decode cX5_weigh 27 = .ok (.iconst 3, 1) := by decide +kernel
theorem dX5_weigh_28 : decode cX5_weigh 28 = .ok (.if_icmp .ne 6, 3) := by decide +kernel
theorem dX5_weigh_31 : decode cX5_weigh 31 = .ok (.bipush (-2), 2) := by decide +kernel
theorem dX5_weigh_33 : decode cX5_weigh 33 = .ok (.ireturn, 1) := by decide +kernel
theorem dX5_weigh_34 : decode cX5_weigh 34 = .ok (.aload_n 0, 1) := by decide +kernel
theorem dX5_weigh_35 : decode cX5_weigh 35 = .ok (.dup, 1) := by decide +kernel
theorem dX5_weigh_36 : decode cX5_weigh 36 = .ok (.getfield 79, 3) := by decide +kernel
theorem dX5_weigh_39 : decode cX5_weigh 39 = .ok (.iconst 1, 1) := by decide +kernel
theorem dX5_weigh_40 : decode cX5_weigh 40 = .ok (.iadd, 1) := by decide +kernel
theorem dX5_weigh_41 : decode cX5_weigh 41 = .ok (.putfield 79, 3) := by decide +kernel
theorem dX5_weigh_44 : decode cX5_weigh 44 = .ok (.aload_n 0, 1) := by decide +kernel
theorem dX5_weigh_45 : decode cX5_weigh 45 = .ok (.iconst 3, 1) := by decide +kernel
theorem dX5_weigh_46 : decode cX5_weigh 46 = .ok (.iconst 0, 1) := by decide +kernel
theorem dX5_weigh_47 : decode cX5_weigh 47 = .ok (.iconst 0, 1) := by decide +kernel
theorem dX5_weigh_48 : decode cX5_weigh 48 = .ok (.iload_n 1, 1) := by decide +kernel
theorem dX5_weigh_49 : decode cX5_weigh 49 = .ok (.bipush 10, 2) := by decide +kernel
theorem dX5_weigh_51 : decode cX5_weigh 51 = .ok (.invokevirtual 90, 3) := by decide +kernel
theorem dX5_weigh_54 : decode cX5_weigh 54 = .ok (.ireturn, 1) := by decide +kernel
theorem dX5_skip_0 : decode cX5_skip 0 = .ok (.aload_n 0, 1) := by decide +kernel
theorem dX5_skip_1 : decode cX5_skip 1 = .ok (.iconst 0, 1) := by decide +kernel
theorem dX5_skip_2 : decode cX5_skip 2 = .ok (.putfield 69, 3) := by decide +kernel
theorem dX5_skip_5 : decode cX5_skip 5 = .ok (.iload_n 1, 1) := by decide +kernel
theorem dX5_skip_6 : decode cX5_skip 6 = .ok (.invokestatic 94, 3) := by decide +kernel
theorem dX5_skip_9 : decode cX5_skip 9 = .ok (.ifCond .eq 13, 3) := by decide +kernel
theorem dX5_skip_12 : decode cX5_skip 12 = .ok (.iload_n 2, 1) := by decide +kernel
theorem dX5_skip_13 : decode cX5_skip 13 = .ok (.iconst 1, 1) := by decide +kernel
theorem dX5_skip_14 : decode cX5_skip 14 = .ok (.bipush 9, 2) := by decide +kernel
theorem dX5_skip_16 : decode cX5_skip 16 = .ok (.invokestatic 86, 3) := by decide +kernel
theorem dX5_skip_19 : decode cX5_skip 19 = .ok (.ifCond .ne 5, 3) := by decide +kernel
theorem dX5_skip_22 : decode cX5_skip 22 = .ok (.iconst (-1), 1) := by decide +kernel
theorem dX5_skip_23 : decode cX5_skip 23 = .ok (.ireturn, 1) := by decide +kernel
theorem dX5_skip_24 : decode cX5_skip 24 = .ok (.aload_n 0, 1) := by decide +kernel
theorem dX5_skip_25 : decode cX5_skip 25 = .ok (.getfield 73, 3) := by decide +kernel
theorem dX5_skip_28 : decode cX5_skip 28 = .ok (.bipush 30, 2) := by decide +kernel
theorem dX5_skip_30 : decode cX5_skip 30 = .ok (.if_icmp .ne 8, 3) := by decide +kernel
theorem dX5_skip_33 : decode cX5_skip 33 = .ok (.bipush (-2), 2) := by decide +kernel
theorem dX5_skip_35 : decode cX5_skip 35 = .ok (.goto 13, 3) := by decide +kernel
theorem dX5_skip_38 : decode cX5_skip 38 = .ok (.aload_n 0, 1) := by decide +kernel
theorem dX5_skip_39 : decode cX5_skip 39 = .ok (.iconst 4, 1) := by decide +kernel
theorem dX5_skip_40 : decode cX5_skip 40 = .ok (.iconst 0, 1) := by decide +kernel
theorem dX5_skip_41 : decode cX5_skip 41 = .ok (.iload_n 2, 1) := by decide +kernel
theorem dX5_skip_42 : decode cX5_skip 42 = .ok (.iload_n 1, 1) := by decide +kernel
theorem dX5_skip_43 : decode cX5_skip 43 = .ok (.bipush 10, 2) := by decide +kernel
theorem dX5_skip_45 : decode cX5_skip 45 = .ok (.invokevirtual 90, 3) := by decide +kernel
theorem dX5_skip_48 : decode cX5_skip 48 = .ok (.ireturn, 1) := by decide +kernel
theorem dX5_drop_0 : decode cX5_drop 0 = .ok (.aload_n 0, 1) := by decide +kernel
theorem dX5_drop_1 : decode cX5_drop 1 = .ok (.iconst 0, 1) := by decide +kernel
theorem dX5_drop_2 : decode cX5_drop 2 = .ok (.putfield 69, 3) := by decide +kernel
theorem dX5_drop_5 : decode cX5_drop 5 = .ok (.aload_n 0, 1) := by decide +kernel
theorem dX5_drop_6 : decode cX5_drop 6 = .ok (.getfield 73, 3) := by decide +kernel
theorem dX5_drop_9 : decode cX5_drop 9 = .ok (.ifCond .ne 6, 3) := by decide +kernel
theorem dX5_drop_12 : decode cX5_drop 12 = .ok (.bipush (-3), 2) := by decide +kernel
theorem dX5_drop_14 : decode cX5_drop 14 = .ok (.ireturn, 1) := by decide +kernel
theorem dX5_drop_15 : decode cX5_drop 15 = .ok (.aload_n 0, 1) := by decide +kernel
theorem dX5_drop_16 : decode cX5_drop 16 = .ok (.dup, 1) := by decide +kernel
theorem dX5_drop_17 : decode cX5_drop 17 = .ok (.getfield 73, 3) := by decide +kernel
theorem dX5_drop_20 : decode cX5_drop 20 = .ok (.iconst 1, 1) := by decide +kernel
theorem dX5_drop_21 : decode cX5_drop 21 = .ok (.isub, 1) := by decide +kernel
theorem dX5_drop_22 : decode cX5_drop 22 = .ok (.putfield 73, 3) := by decide +kernel
theorem dX5_drop_25 : decode cX5_drop 25 = .ok (.aload_n 0, 1) := by decide +kernel
theorem dX5_drop_26 : decode cX5_drop 26 = .ok (.dup, 1) := by decide +kernel
theorem dX5_drop_27 : decode cX5_drop 27 = .ok (.getfield 76, 3) := by decide +kernel
theorem dX5_drop_30 : decode cX5_drop 30 = .ok (.aload_n 0, 1) := by decide +kernel
theorem dX5_drop_31 : decode cX5_drop 31 = .ok (.getfield 7, 3) := by decide +kernel
theorem dX5_drop_34 : decode cX5_drop 34 = .ok (.aload_n 0, 1) := by decide +kernel
theorem dX5_drop_35 : decode cX5_drop 35 = .ok (.getfield 73, 3) := by decide +kernel
theorem dX5_drop_38 : decode cX5_drop 38 = .ok (.iaload, 1) := by decide +kernel
theorem dX5_drop_39 : decode cX5_drop 39 = .ok (.ifCond .ne 7, 3) := by decide +kernel
theorem dX5_drop_42 : decode cX5_drop 42 = .ok (.iconst 1, 1) := by decide +kernel
theorem dX5_drop_43 : decode cX5_drop 43 = .ok (.goto 4, 3) := by decide +kernel
theorem dX5_drop_46 : decode cX5_drop 46 = .ok (.iconst 0, 1) := by decide +kernel
theorem dX5_drop_47 : decode cX5_drop 47 = .ok (.isub, 1) := by decide +kernel
theorem dX5_drop_48 : decode cX5_drop 48 = .ok (.putfield 76, 3) := by decide +kernel
theorem dX5_drop_51 : decode cX5_drop 51 = .ok (.aload_n 0, 1) := by decide +kernel
theorem dX5_drop_52 : decode cX5_drop 52 = .ok (.dup, 1) := by decide +kernel
theorem dX5_drop_53 : decode cX5_drop 53 = .ok (.getfield 79, 3) := by decide +kernel
theorem dX5_drop_56 : decode cX5_drop 56 = .ok (.aload_n 0, 1) := by decide +kernel
theorem dX5_drop_57 : decode cX5_drop 57 = .ok (.getfield 7, 3) := by decide +kernel
theorem dX5_drop_60 : decode cX5_drop 60 = .ok (.aload_n 0, 1) := by decide +kernel
theorem dX5_drop_61 : decode cX5_drop 61 = .ok (.getfield 73, 3) := by decide +kernel
theorem dX5_drop_64 : decode cX5_drop 64 = .ok (.iaload, 1) := by decide +kernel
theorem dX5_drop_65 : decode cX5_drop 65 = .ok (.iconst 3, 1) := by decide +kernel
theorem dX5_drop_66 : decode cX5_drop 66 = .ok (.if_icmp .ne 7, 3) := by decide +kernel
theorem dX5_drop_69 : decode cX5_drop 69 = .ok (.iconst 1, 1) := by decide +kernel
theorem dX5_drop_70 : decode cX5_drop 70 = .ok (.goto 4, 3) := by decide +kernel
theorem dX5_drop_73 : decode cX5_drop 73 = .ok (.iconst 0, 1) := by decide +kernel
theorem dX5_drop_74 : decode cX5_drop 74 = .ok (.isub, 1) := by decide +kernel
theorem dX5_drop_75 : decode cX5_drop 75 = .ok (.putfield 79, 3) := by decide +kernel
theorem dX5_drop_78 : decode cX5_drop 78 = .ok (.aload_n 0, 1) := by decide +kernel
theorem dX5_drop_79 : decode cX5_drop 79 = .ok (.iconst 0, 1) := by decide +kernel
theorem dX5_drop_80 : decode cX5_drop 80 = .ok (.putfield 82, 3) := by decide +kernel
theorem dX5_drop_83 : decode cX5_drop 83 = .ok (.aload_n 0, 1) := by decide +kernel
theorem dX5_drop_84 : decode cX5_drop 84 = .ok (.getfield 73, 3) := by decide +kernel
theorem dX5_drop_87 : decode cX5_drop 87 = .ok (.ireturn, 1) := by decide +kernel
theorem dX5_ask_0 : decode cX5_ask 0 = .ok (.aload_n 0, 1) := by decide +kernel
theorem dX5_ask_1 : decode cX5_ask 1 = .ok (.iconst 0, 1) := by decide +kernel
theorem dX5_ask_2 : decode cX5_ask 2 = .ok (.putfield 69, 3) := by decide +kernel
theorem dX5_ask_5 : decode cX5_ask 5 = .ok (.iload_n 1, 1) := by decide +kernel
theorem dX5_ask_6 : decode cX5_ask 6 = .ok (.iconst 0, 1) := by decide +kernel
theorem dX5_ask_7 : decode cX5_ask 7 = .ok (.iconst 5, 1) := by decide +kernel
theorem dX5_ask_8 : decode cX5_ask 8 = .ok (.invokestatic 86, 3) := by decide +kernel
theorem dX5_ask_11 : decode cX5_ask 11 = .ok (.ifCond .ne 5, 3) := by decide +kernel
theorem dX5_ask_14 : decode cX5_ask 14 = .ok (.iconst (-1), 1) := by decide +kernel
theorem dX5_ask_15 : decode cX5_ask 15 = .ok (.ireturn, 1) := by decide +kernel
theorem dX5_ask_16 : decode cX5_ask 16 = .ok (.aload_n 0, 1) := by decide +kernel
theorem dX5_ask_17 : decode cX5_ask 17 = .ok (.getfield 28, 3) := by decide +kernel
theorem dX5_ask_20 : decode cX5_ask 20 = .ok (.iload_n 1, 1) := by decide +kernel
theorem dX5_ask_21 : decode cX5_ask 21 = .ok (.baload, 1) := by decide +kernel
theorem dX5_ask_22 : decode cX5_ask 22 = .ok (.ifCond .eq 7, 3) := by decide +kernel
theorem dX5_ask_25 : decode cX5_ask 25 = .ok (.iconst 1, 1) := by decide +kernel
theorem dX5_ask_26 : decode cX5_ask 26 = .ok (.goto 4, 3) := by decide +kernel
theorem dX5_ask_29 : decode cX5_ask 29 = .ok (.iconst 0, 1) := by decide +kernel
theorem dX5_ask_30 : decode cX5_ask 30 = .ok (.istore_n 3, 1) := by decide +kernel
theorem dX5_ask_31 : decode cX5_ask 31 = .ok (.aload_n 0, 1) := by decide +kernel
theorem dX5_ask_32 : decode cX5_ask 32 = .ok (.getfield 28, 3) := by decide +kernel
theorem dX5_ask_35 : decode cX5_ask 35 = .ok (.iload_n 1, 1) := by decide +kernel
theorem dX5_ask_36 : decode cX5_ask 36 = .ok (.iload_n 2, 1) := by decide +kernel
theorem dX5_ask_37 : decode cX5_ask 37 = .ok (.bastore, 1) := by decide +kernel
theorem dX5_ask_38 : decode cX5_ask 38 = .ok (.aload_n 0, 1) := by decide +kernel
theorem dX5_ask_39 : decode cX5_ask 39 = .ok (.iconst 0, 1) := by decide +kernel
theorem dX5_ask_40 : decode cX5_ask 40 = .ok (.putfield 82, 3) := by decide +kernel
theorem dX5_ask_43 : decode cX5_ask 43 = .ok (.iload_n 3, 1) := by decide +kernel
theorem dX5_ask_44 : decode cX5_ask 44 = .ok (.ireturn, 1) := by decide +kernel
theorem dX5_bit_0 : decode cX5_bit 0 = .ok (.iload_n 0, 1) := by decide +kernel
theorem dX5_bit_1 : decode cX5_bit 1 = .ok (.bipush 6, 2) := by decide +kernel
theorem dX5_bit_3 : decode cX5_bit 3 = .ok (.if_icmp .ge 9, 3) := by decide +kernel
theorem dX5_bit_6 : decode cX5_bit 6 = .ok (.iconst 1, 1) := by decide +kernel
theorem dX5_bit_7 : decode cX5_bit 7 = .ok (.iload_n 0, 1) := by decide +kernel
theorem dX5_bit_8 : decode cX5_bit 8 = .ok (.ishl, 1) := by decide +kernel
theorem dX5_bit_9 : decode cX5_bit 9 = .ok (.goto 4, 3) := by decide +kernel
theorem dX5_bit_12 : decode cX5_bit 12 = .ok (.iconst 0, 1) := by decide +kernel
theorem dX5_bit_13 : decode cX5_bit 13 = .ok (.ireturn, 1) := by decide +kernel
theorem dX5_passed_0 : decode cX5_passed 0 = .ok (.iload_n 1, 1) := by decide +kernel
theorem dX5_passed_1 : decode cX5_passed 1 = .ok (.iconst 1, 1) := by decide +kernel
theorem dX5_passed_2 : decode cX5_passed 2 = .ok (.iadd, 1) := by decide +kernel
theorem dX5_passed_3 : decode cX5_passed 3 = .ok (.aload_n 0, 1) := by decide +kernel
theorem dX5_passed_4 : decode cX5_passed 4 = .ok (.getfield 16, 3) := by decide +kernel
theorem dX5_passed_7 : decode cX5_passed 7 = .ok (.iload_n 1, 1) := by decide +kernel
theorem dX5_passed_8 : decode cX5_passed 8 = .ok (.iaload, 1) := by decide +kernel
theorem dX5_passed_9 : decode cX5_passed 9 = .ok (.iadd, 1) := by decide +kernel
theorem dX5_passed_10 : decode cX5_passed 10 = .ok (.istore_n 2, 1) := by decide +kernel
theorem dX5_passed_11 : decode cX5_passed 11 = .ok (.iload_n 2, 1) := by decide +kernel
theorem dX5_passed_12 : decode cX5_passed 12 = .ok (.aload_n 0, 1) := by decide +kernel
theorem dX5_passed_13 : decode cX5_passed 13 = .ok (.getfield 73, 3) := by decide +kernel
theorem dX5_passed_16 : decode cX5_passed 16 = .ok (.if_icmp .le 10, 3) := by decide +kernel
theorem dX5_passed_19 : decode cX5_passed 19 = .ok (.aload_n 0, 1) := by decide +kernel
theorem dX5_passed_20 : decode cX5_passed 20 = .ok (.getfield 73, 3) := by decide +kernel
theorem dX5_passed_23 : decode cX5_passed 23 = .ok (.goto 4, 3) := by decide +kernel
theorem dX5_passed_26 : decode cX5_passed 26 = .ok (.iload_n 2, 1) := by decide +kernel
theorem dX5_passed_27 : decode cX5_passed 27 = .ok (.ireturn, 1) := by decide +kernel
theorem dX5_liven_0 : decode cX5_liven 0 = .ok (.aload_n 0, 1) := by decide +kernel
theorem dX5_liven_1 : decode cX5_liven 1 = .ok (.getfield 48, 3) := by decide +kernel
theorem dX5_liven_4 : decode cX5_liven 4 = .ok (.aload_n 0, 1) := by decide +kernel
theorem dX5_liven_5 : decode cX5_liven 5 = .ok (.getfield 73, 3) := by decide +kernel
theorem dX5_liven_8 : decode cX5_liven 8 = .ok (.iconst 0, 1) := by decide +kernel
theorem dX5_liven_9 : decode cX5_liven 9 = .ok (.iastore, 1) := by decide +kernel
theorem dX5_liven_10 : decode cX5_liven 10 = .ok (.iconst 0, 1) := by decide +kernel
theorem dX5_liven_11 : decode cX5_liven 11 = .ok (.istore_n 1, 1) := by decide +kernel
theorem dX5_liven_12 : decode cX5_liven 12 = .ok (.iload_n 1, 1) := by decide +kernel
theorem dX5_liven_13 : decode cX5_liven 13 = .ok (.bipush 6, 2) := by decide +kernel
theorem dX5_liven_15 : decode cX5_liven 15 = .ok (.if_icmp .ge 37, 3) := by decide +kernel
theorem dX5_liven_18 : decode cX5_liven 18 = .ok (.aload_n 0, 1) := by decide +kernel
theorem dX5_liven_19 : decode cX5_liven 19 = .ok (.getfield 48, 3) := by decide +kernel
theorem dX5_liven_22 : decode cX5_liven 22 = .ok (.aload_n 0, 1) := by decide +kernel
theorem dX5_liven_23 : decode cX5_liven 23 = .ok (.getfield 73, 3) := by decide +kernel
theorem dX5_liven_26 : decode cX5_liven 26 = .ok (.dup2, 1) := by decide +kernel
theorem dX5_liven_27 : decode cX5_liven 27 = .ok (.iaload, 1) := by decide +kernel
theorem dX5_liven_28 : decode cX5_liven 28 = .ok (.aload_n 0, 1) := by decide +kernel
theorem dX5_liven_29 : decode cX5_liven 29 = .ok (.getfield 28, 3) := by decide +kernel
theorem dX5_liven_32 : decode cX5_liven 32 = .ok (.iload_n 1, 1) := by decide +kernel
theorem dX5_liven_33 : decode cX5_liven 33 = .ok (.baload, 1) := by decide +kernel
theorem dX5_liven_34 : decode cX5_liven 34 = .ok (.ifCond .eq 9, 3) := by decide +kernel
theorem dX5_liven_37 : decode cX5_liven 37 = .ok (.iconst 1, 1) := by decide +kernel
theorem dX5_liven_38 : decode cX5_liven 38 = .ok (.iload_n 1, 1) := by decide +kernel
theorem dX5_liven_39 : decode cX5_liven 39 = .ok (.ishl, 1) := by decide +kernel
theorem dX5_liven_40 : decode cX5_liven 40 = .ok (.goto 4, 3) := by decide +kernel
theorem dX5_liven_43 : decode cX5_liven 43 = .ok (.iconst 0, 1) := by decide +kernel
theorem dX5_liven_44 : decode cX5_liven 44 = .ok (.ior, 1) := by decide +kernel
theorem dX5_liven_45 : decode cX5_liven 45 = .ok (.iastore, 1) := by decide +kernel
theorem dX5_liven_46 : decode cX5_liven 46 = .ok (.iinc 1 1, 3) := by decide +kernel
theorem dX5_liven_49 : decode cX5_liven 49 = .ok (.goto (-37), 3) := by decide +kernel
theorem dX5_liven_52 : decode cX5_liven 52 = .ok (.aload_n 0, 1) := by decide +kernel
theorem dX5_liven_53 : decode cX5_liven 53 = .ok (.getfield 73, 3) := by decide +kernel
theorem dX5_liven_56 : decode cX5_liven 56 = .ok (.iconst 1, 1) := by decide +kernel
theorem dX5_liven_57 : decode cX5_liven 57 = .ok (.isub, 1) := by decide +kernel
theorem dX5_liven_58 : decode cX5_liven 58 = .ok (.istore_n 1, 1) := by decide +kernel
theorem dX5_liven_59 : decode cX5_liven 59 = .ok (.iload_n 1, 1) := by decide +kernel
theorem dX5_liven_60 : decode cX5_liven 60 = .ok (.ifCond .lt 202, 3) := by decide +kernel
theorem dX5_liven_63 : decode cX5_liven 63 = .ok (.aload_n 0, 1) := by decide +kernel
theorem dX5_liven_64 : decode cX5_liven 64 = .ok (.getfield 48, 3) := by decide +kernel
theorem dX5_liven_67 : decode cX5_liven 67 = .ok (.iload_n 1, 1) := by decide +kernel
theorem dX5_liven_68 : decode cX5_liven 68 = .ok (.iconst 1, 1) := by decide +kernel
theorem dX5_liven_69 : decode cX5_liven 69 = .ok (.iadd, 1) := by decide +kernel
theorem dX5_liven_70 : decode cX5_liven 70 = .ok (.iaload, 1) := by decide +kernel
theorem dX5_liven_71 : decode cX5_liven 71 = .ok (.istore_n 2, 1) := by decide +kernel
theorem dX5_liven_72 : decode cX5_liven 72 = .ok (.aload_n 0, 1) := by decide +kernel
theorem dX5_liven_73 : decode cX5_liven 73 = .ok (.getfield 7, 3) := by decide +kernel
theorem dX5_liven_76 : decode cX5_liven 76 = .ok (.iload_n 1, 1) := by decide +kernel
theorem dX5_liven_77 : decode cX5_liven 77 = .ok (.iaload, 1) := by decide +kernel
theorem dX5_liven_78 : decode cX5_liven 78 = .ok (.tableswitch 151 0 4 #[34, 55, 151, 151, 120], 34) := by decide +kernel
theorem dX5_liven_112 : decode cX5_liven 112 = .ok (.aload_n 0, 1) := by decide +kernel
theorem dX5_liven_113 : decode cX5_liven 113 = .ok (.getfield 48, 3) := by decide +kernel
theorem dX5_liven_116 : decode cX5_liven 116 = .ok (.iload_n 1, 1) := by decide +kernel
theorem dX5_liven_117 : decode cX5_liven 117 = .ok (.iload_n 2, 1) := by decide +kernel
theorem dX5_liven_118 : decode cX5_liven 118 = .ok (.iconst 1, 1) := by decide +kernel
theorem dX5_liven_119 : decode cX5_liven 119 = .ok (.aload_n 0, 1) := by decide +kernel
theorem dX5_liven_120 : decode cX5_liven 120 = .ok (.getfield 13, 3) := by decide +kernel
theorem dX5_liven_123 : decode cX5_liven 123 = .ok (.iload_n 1, 1) := by decide +kernel
theorem dX5_liven_124 : decode cX5_liven 124 = .ok (.iaload, 1) := by decide +kernel
theorem dX5_liven_125 : decode cX5_liven 125 = .ok (.ishl, 1) := by decide +kernel
theorem dX5_liven_126 : decode cX5_liven 126 = .ok (.iconst (-1), 1) := by decide +kernel
theorem dX5_liven_127 : decode cX5_liven 127 = .ok (.ixor, 1) := by decide +kernel
theorem dX5_liven_128 : decode cX5_liven 128 = .ok (.iand, 1) := by decide +kernel
theorem dX5_liven_129 : decode cX5_liven 129 = .ok (.iastore, 1) := by decide +kernel
theorem dX5_liven_130 : decode cX5_liven 130 = .ok (.goto 126, 3) := by decide +kernel
theorem dX5_liven_133 : decode cX5_liven 133 = .ok (.aload_n 0, 1) := by decide +kernel
theorem dX5_liven_134 : decode cX5_liven 134 = .ok (.getfield 48, 3) := by decide +kernel
theorem dX5_liven_137 : decode cX5_liven 137 = .ok (.iload_n 1, 1) := by decide +kernel
theorem dX5_liven_138 : decode cX5_liven 138 = .ok (.aload_n 0, 1) := by decide +kernel
theorem dX5_liven_139 : decode cX5_liven 139 = .ok (.getfield 16, 3) := by decide +kernel
theorem dX5_liven_142 : decode cX5_liven 142 = .ok (.iload_n 1, 1) := by decide +kernel
theorem dX5_liven_143 : decode cX5_liven 143 = .ok (.iaload, 1) := by decide +kernel
theorem dX5_liven_144 : decode cX5_liven 144 = .ok (.bipush 6, 2) := by decide +kernel
theorem dX5_liven_146 : decode cX5_liven 146 = .ok (.if_icmp .ne 16, 3) := by decide +kernel
theorem dX5_liven_149 : decode cX5_liven 149 = .ok (.iload_n 2, 1) := by decide +kernel
theorem dX5_liven_150 : decode cX5_liven 150 = .ok (.iconst 1, 1) := by decide +kernel
theorem dX5_liven_151 : decode cX5_liven 151 = .ok (.aload_n 0, 1) := by decide +kernel
theorem dX5_liven_152 : decode cX5_liven 152 = .ok (.getfield 13, 3) := by decide +kernel
theorem dX5_liven_155 : decode cX5_liven 155 = .ok (.iload_n 1, 1) := by decide +kernel
theorem dX5_liven_156 : decode cX5_liven 156 = .ok (.iaload, 1) := by decide +kernel
theorem dX5_liven_157 : decode cX5_liven 157 = .ok (.ishl, 1) := by decide +kernel
theorem dX5_liven_158 : decode cX5_liven 158 = .ok (.ior, 1) := by decide +kernel
theorem dX5_liven_159 : decode cX5_liven 159 = .ok (.goto 15, 3) := by decide +kernel
theorem dX5_liven_162 : decode cX5_liven 162 = .ok (.iload_n 2, 1) := by decide +kernel
theorem dX5_liven_163 : decode cX5_liven 163 = .ok (.iconst 1, 1) := by decide +kernel
theorem dX5_liven_164 : decode cX5_liven 164 = .ok (.aload_n 0, 1) := by decide +kernel
theorem dX5_liven_165 : decode cX5_liven 165 = .ok (.getfield 13, 3) := by decide +kernel
theorem dX5_liven_168 : decode cX5_liven 168 = .ok (.iload_n 1, 1) := by decide +kernel
theorem dX5_liven_169 : decode cX5_liven 169 = .ok (.iaload, 1) := by decide +kernel
theorem dX5_liven_170 : decode cX5_liven 170 = .ok (.ishl, 1) := by decide +kernel
theorem dX5_liven_171 : decode cX5_liven 171 = .ok (.iconst (-1), 1) := by decide +kernel
theorem dX5_liven_172 : decode cX5_liven 172 = .ok (.ixor, 1) := by decide +kernel
theorem dX5_liven_173 : decode cX5_liven 173 = .ok (.iand, 1) := by decide +kernel
theorem dX5_liven_174 : decode cX5_liven 174 = .ok (.aload_n 0, 1) := by decide +kernel
theorem dX5_liven_175 : decode cX5_liven 175 = .ok (.getfield 19, 3) := by decide +kernel
theorem dX5_liven_178 : decode cX5_liven 178 = .ok (.iload_n 1, 1) := by decide +kernel
theorem dX5_liven_179 : decode cX5_liven 179 = .ok (.iaload, 1) := by decide +kernel
theorem dX5_liven_180 : decode cX5_liven 180 = .ok (.invokestatic 98, 3) := by decide +kernel
theorem dX5_liven_183 : decode cX5_liven 183 = .ok (.ior, 1) := by decide +kernel
theorem dX5_liven_184 : decode cX5_liven 184 = .ok (.aload_n 0, 1) := by decide +kernel
theorem dX5_liven_185 : decode cX5_liven 185 = .ok (.getfield 22, 3) := by decide +kernel
theorem dX5_liven_188 : decode cX5_liven 188 = .ok (.iload_n 1, 1) := by decide +kernel
theorem dX5_liven_189 : decode cX5_liven 189 = .ok (.iaload, 1) := by decide +kernel
theorem dX5_liven_190 : decode cX5_liven 190 = .ok (.invokestatic 98, 3) := by decide +kernel
theorem dX5_liven_193 : decode cX5_liven 193 = .ok (.ior, 1) := by decide +kernel
theorem dX5_liven_194 : decode cX5_liven 194 = .ok (.iastore, 1) := by decide +kernel
theorem dX5_liven_195 : decode cX5_liven 195 = .ok (.goto 61, 3) := by decide +kernel
theorem dX5_liven_198 : decode cX5_liven 198 = .ok (.aload_n 0, 1) := by decide +kernel
theorem dX5_liven_199 : decode cX5_liven 199 = .ok (.getfield 48, 3) := by decide +kernel
theorem dX5_liven_202 : decode cX5_liven 202 = .ok (.iload_n 1, 1) := by decide +kernel
theorem dX5_liven_203 : decode cX5_liven 203 = .ok (.iload_n 2, 1) := by decide +kernel
theorem dX5_liven_204 : decode cX5_liven 204 = .ok (.aload_n 0, 1) := by decide +kernel
theorem dX5_liven_205 : decode cX5_liven 205 = .ok (.getfield 48, 3) := by decide +kernel
theorem dX5_liven_208 : decode cX5_liven 208 = .ok (.aload_n 0, 1) := by decide +kernel
theorem dX5_liven_209 : decode cX5_liven 209 = .ok (.iload_n 1, 1) := by decide +kernel
theorem dX5_liven_210 : decode cX5_liven 210 = .ok (.invokevirtual 102, 3) := by decide +kernel
theorem dX5_liven_213 : decode cX5_liven 213 = .ok (.iaload, 1) := by decide +kernel
theorem dX5_liven_214 : decode cX5_liven 214 = .ok (.ior, 1) := by decide +kernel
theorem dX5_liven_215 : decode cX5_liven 215 = .ok (.aload_n 0, 1) := by decide +kernel
theorem dX5_liven_216 : decode cX5_liven 216 = .ok (.getfield 19, 3) := by decide +kernel
theorem dX5_liven_219 : decode cX5_liven 219 = .ok (.iload_n 1, 1) := by decide +kernel
theorem dX5_liven_220 : decode cX5_liven 220 = .ok (.iaload, 1) := by decide +kernel
theorem dX5_liven_221 : decode cX5_liven 221 = .ok (.invokestatic 98, 3) := by decide +kernel
theorem dX5_liven_224 : decode cX5_liven 224 = .ok (.ior, 1) := by decide +kernel
theorem dX5_liven_225 : decode cX5_liven 225 = .ok (.iastore, 1) := by decide +kernel
theorem dX5_liven_226 : decode cX5_liven 226 = .ok (.goto 30, 3) := by decide +kernel
theorem dX5_liven_229 : decode cX5_liven 229 = .ok (.aload_n 0, 1) := by decide +kernel
theorem dX5_liven_230 : decode cX5_liven 230 = .ok (.getfield 48, 3) := by decide +kernel
theorem dX5_liven_233 : decode cX5_liven 233 = .ok (.iload_n 1, 1) := by decide +kernel
theorem dX5_liven_234 : decode cX5_liven 234 = .ok (.iload_n 2, 1) := by decide +kernel
theorem dX5_liven_235 : decode cX5_liven 235 = .ok (.aload_n 0, 1) := by decide +kernel
theorem dX5_liven_236 : decode cX5_liven 236 = .ok (.getfield 19, 3) := by decide +kernel
theorem dX5_liven_239 : decode cX5_liven 239 = .ok (.iload_n 1, 1) := by decide +kernel
theorem dX5_liven_240 : decode cX5_liven 240 = .ok (.iaload, 1) := by decide +kernel
theorem dX5_liven_241 : decode cX5_liven 241 = .ok (.invokestatic 98, 3) := by decide +kernel
theorem dX5_liven_244 : decode cX5_liven 244 = .ok (.ior, 1) := by decide +kernel
theorem dX5_liven_245 : decode cX5_liven 245 = .ok (.aload_n 0, 1) := by decide +kernel
theorem dX5_liven_246 : decode cX5_liven 246 = .ok (.getfield 22, 3) := by decide +kernel
theorem dX5_liven_249 : decode cX5_liven 249 = .ok (.iload_n 1, 1) := by decide +kernel
theorem dX5_liven_250 : decode cX5_liven 250 = .ok (.iaload, 1) := by decide +kernel
theorem dX5_liven_251 : decode cX5_liven 251 = .ok (.invokestatic 98, 3) := by decide +kernel
theorem dX5_liven_254 : decode cX5_liven 254 = .ok (.ior, 1) := by decide +kernel
theorem dX5_liven_255 : decode cX5_liven 255 = .ok (.iastore, 1) := by decide +kernel
theorem dX5_liven_256 : decode cX5_liven 256 = .ok (.iinc 1 (-1), 3) := by decide +kernel
theorem dX5_liven_259 : decode cX5_liven 259 = .ok (.goto (-200), 3) := by decide +kernel
theorem dX5_liven_262 : decode cX5_liven 262 = .ok (.return_, 1) := by decide +kernel
theorem dX5_live_0 : decode cX5_live 0 = .ok (.aload_n 0, 1) := by decide +kernel
theorem dX5_live_1 : decode cX5_live 1 = .ok (.iconst 0, 1) := by decide +kernel
theorem dX5_live_2 : decode cX5_live 2 = .ok (.putfield 69, 3) := by decide +kernel
theorem dX5_live_5 : decode cX5_live 5 = .ok (.iload_n 1, 1) := by decide +kernel
theorem dX5_live_6 : decode cX5_live 6 = .ok (.iconst 0, 1) := by decide +kernel
theorem dX5_live_7 : decode cX5_live 7 = .ok (.aload_n 0, 1) := by decide +kernel
theorem dX5_live_8 : decode cX5_live 8 = .ok (.getfield 73, 3) := by decide +kernel
theorem dX5_live_11 : decode cX5_live 11 = .ok (.invokestatic 86, 3) := by decide +kernel
theorem dX5_live_14 : decode cX5_live 14 = .ok (.ifCond .ne 5, 3) := by decide +kernel
theorem dX5_live_17 : decode cX5_live 17 = .ok (.iconst (-1), 1) := by decide +kernel
theorem dX5_live_18 : decode cX5_live 18 = .ok (.ireturn, 1) := by decide +kernel
theorem dX5_live_19 : decode cX5_live 19 = .ok (.aload_n 0, 1) := by decide +kernel
theorem dX5_live_20 : decode cX5_live 20 = .ok (.invokevirtual 105, 3) := by decide +kernel
theorem dX5_live_23 : decode cX5_live 23 = .ok (.aload_n 0, 1) := by decide +kernel
theorem dX5_live_24 : decode cX5_live 24 = .ok (.getfield 48, 3) := by decide +kernel
theorem dX5_live_27 : decode cX5_live 27 = .ok (.iload_n 1, 1) := by decide +kernel
theorem dX5_live_28 : decode cX5_live 28 = .ok (.iaload, 1) := by decide +kernel
theorem dX5_live_29 : decode cX5_live 29 = .ok (.ireturn, 1) := by decide +kernel
theorem dX5_digit_0 : decode cX5_digit 0 = .ok (.iload_n 0, 1) := by decide +kernel
theorem dX5_digit_1 : decode cX5_digit 1 = .ok (.istore_n 2, 1) := by decide +kernel
theorem dX5_digit_2 : decode cX5_digit 2 = .ok (.iload_n 1, 1) := by decide +kernel
theorem dX5_digit_3 : decode cX5_digit 3 = .ok (.istore_n 3, 1) := by decide +kernel
theorem dX5_digit_4 : decode cX5_digit 4 = .ok (.iload_n 3, 1) := by decide +kernel
theorem dX5_digit_5 : decode cX5_digit 5 = .ok (.iconst 5, 1) := by decide +kernel
theorem dX5_digit_6 : decode cX5_digit 6 = .ok (.if_icmp .ge 14, 3) := by decide +kernel
theorem dX5_digit_9 : decode cX5_digit 9 = .ok (.iload_n 2, 1) := by decide +kernel
theorem dX5_digit_10 : decode cX5_digit 10 = .ok (.bipush 10, 2) := by decide +kernel
theorem dX5_digit_12 : decode cX5_digit 12 = .ok (.idiv, 1) := by decide +kernel
theorem dX5_digit_13 : decode cX5_digit 13 = .ok (.istore_n 2, 1) := by decide +kernel
theorem dX5_digit_14 : decode cX5_digit 14 = .ok (.iinc 3 1, 3) := by decide +kernel
theorem dX5_digit_17 : decode cX5_digit 17 = .ok (.goto (-13), 3) := by decide +kernel
theorem dX5_digit_20 : decode cX5_digit 20 = .ok (.iload_n 2, 1) := by decide +kernel
theorem dX5_digit_21 : decode cX5_digit 21 = .ok (.bipush 10, 2) := by decide +kernel
theorem dX5_digit_23 : decode cX5_digit 23 = .ok (.irem, 1) := by decide +kernel
theorem dX5_digit_24 : decode cX5_digit 24 = .ok (.ireturn, 1) := by decide +kernel
theorem dX5_with_0 : decode cX5_with 0 = .ok (.iconst 1, 1) := by decide +kernel
theorem dX5_with_1 : decode cX5_with 1 = .ok (.istore_n 3, 1) := by decide +kernel
theorem dX5_with_2 : decode cX5_with 2 = .ok (.iload_n 1, 1) := by decide +kernel
theorem dX5_with_3 : decode cX5_with 3 = .ok (.istore 4, 2) := by decide +kernel
theorem dX5_with_5 : decode cX5_with 5 = .ok (.iload 4, 2) := by decide +kernel
theorem dX5_with_7 : decode cX5_with 7 = .ok (.iconst 5, 1) := by decide +kernel
theorem dX5_with_8 : decode cX5_with 8 = .ok (.if_icmp .ge 14, 3) := by decide +kernel
theorem dX5_with_11 : decode cX5_with 11 = .ok (.iload_n 3, 1) := by decide +kernel
theorem dX5_with_12 : decode cX5_with 12 = .ok (.bipush 10, 2) := by decide +kernel
theorem dX5_with_14 : decode cX5_with 14 = .ok (.imul, 1) := by decide +kernel
theorem dX5_with_15 : decode cX5_with 15 = .ok (.istore_n 3, 1) := by decide +kernel
theorem dX5_with_16 : decode cX5_with 16 = .ok (.iinc 4 1, 3) := by decide +kernel
theorem dX5_with_19 : decode cX5_with 19 = .ok (.goto (-14), 3) := by decide +kernel
theorem dX5_with_22 : decode cX5_with 22 = .ok (.iload_n 0, 1) := by decide +kernel
theorem dX5_with_23 : decode cX5_with 23 = .ok (.iload_n 2, 1) := by decide +kernel
theorem dX5_with_24 : decode cX5_with 24 = .ok (.iload_n 0, 1) := by decide +kernel
theorem dX5_with_25 : decode cX5_with 25 = .ok (.iload_n 1, 1) := by decide +kernel
theorem dX5_with_26 : decode cX5_with 26 = .ok (.invokestatic 108, 3) := by decide +kernel
theorem dX5_with_29 : decode cX5_with 29 = .ok (.isub, 1) := by decide +kernel
theorem dX5_with_30 : decode cX5_with 30 = .ok (.iload_n 3, 1) := by decide +kernel
theorem dX5_with_31 : decode cX5_with 31 = .ok (.imul, 1) := by decide +kernel
theorem dX5_with_32 : decode cX5_with 32 = .ok (.iadd, 1) := by decide +kernel
theorem dX5_with_33 : decode cX5_with 33 = .ok (.ireturn, 1) := by decide +kernel
theorem dX5_termOf_0 : decode cX5_termOf 0 = .ok (.iload_n 1, 1) := by decide +kernel
theorem dX5_termOf_1 : decode cX5_termOf 1 = .ok (.bipush 6, 2) := by decide +kernel
theorem dX5_termOf_3 : decode cX5_termOf 3 = .ok (.if_icmp .ge 11, 3) := by decide +kernel
theorem dX5_termOf_6 : decode cX5_termOf 6 = .ok (.iload_n 0, 1) := by decide +kernel
theorem dX5_termOf_7 : decode cX5_termOf 7 = .ok (.iload_n 1, 1) := by decide +kernel
theorem dX5_termOf_8 : decode cX5_termOf 8 = .ok (.invokestatic 108, 3) := by decide +kernel
theorem dX5_termOf_11 : decode cX5_termOf 11 = .ok (.goto 7, 3) := by decide +kernel
theorem dX5_termOf_14 : decode cX5_termOf 14 = .ok (.iload_n 1, 1) := by decide +kernel
theorem dX5_termOf_15 : decode cX5_termOf 15 = .ok (.bipush 10, 2) := by decide +kernel
theorem dX5_termOf_17 : decode cX5_termOf 17 = .ok (.isub, 1) := by decide +kernel
theorem dX5_termOf_18 : decode cX5_termOf 18 = .ok (.ireturn, 1) := by decide +kernel
theorem dX5_worth_0 : decode cX5_worth 0 = .ok (.iload_n 0, 1) := by decide +kernel
theorem dX5_worth_1 : decode cX5_worth 1 = .ok (.tableswitch 96 0 5 #[39, 46, 56, 63, 74, 85], 39) := by decide +kernel
theorem dX5_worth_40 : decode cX5_worth 40 = .ok (.iload_n 1, 1) := by decide +kernel
theorem dX5_worth_41 : decode cX5_worth 41 = .ok (.iload_n 2, 1) := by decide +kernel
theorem dX5_worth_42 : decode cX5_worth 42 = .ok (.iadd, 1) := by decide +kernel
theorem dX5_worth_43 : decode cX5_worth 43 = .ok (.bipush 10, 2) := by decide +kernel
theorem dX5_worth_45 : decode cX5_worth 45 = .ok (.irem, 1) := by decide +kernel
theorem dX5_worth_46 : decode cX5_worth 46 = .ok (.ireturn, 1) := by decide +kernel
theorem dX5_worth_47 : decode cX5_worth 47 = .ok (.iload_n 1, 1) := by decide +kernel
theorem dX5_worth_48 : decode cX5_worth 48 = .ok (.iload_n 2, 1) := by decide +kernel
theorem dX5_worth_49 : decode cX5_worth 49 = .ok (.isub, 1) := by decide +kernel
theorem dX5_worth_50 : decode cX5_worth 50 = .ok (.bipush 10, 2) := by decide +kernel
theorem dX5_worth_52 : decode cX5_worth 52 = .ok (.iadd, 1) := by decide +kernel
theorem dX5_worth_53 : decode cX5_worth 53 = .ok (.bipush 10, 2) := by decide +kernel
theorem dX5_worth_55 : decode cX5_worth 55 = .ok (.irem, 1) := by decide +kernel
theorem dX5_worth_56 : decode cX5_worth 56 = .ok (.ireturn, 1) := by decide +kernel
theorem dX5_worth_57 : decode cX5_worth 57 = .ok (.iload_n 1, 1) := by decide +kernel
theorem dX5_worth_58 : decode cX5_worth 58 = .ok (.iload_n 2, 1) := by decide +kernel
theorem dX5_worth_59 : decode cX5_worth 59 = .ok (.imul, 1) := by decide +kernel
theorem dX5_worth_60 : decode cX5_worth 60 = .ok (.bipush 10, 2) := by decide +kernel
theorem dX5_worth_62 : decode cX5_worth 62 = .ok (.irem, 1) := by decide +kernel
theorem dX5_worth_63 : decode cX5_worth 63 = .ok (.ireturn, 1) := by decide +kernel
theorem dX5_worth_64 : decode cX5_worth 64 = .ok (.iload_n 1, 1) := by decide +kernel
theorem dX5_worth_65 : decode cX5_worth 65 = .ok (.iload_n 2, 1) := by decide +kernel
theorem dX5_worth_66 : decode cX5_worth 66 = .ok (.if_icmp .ge 7, 3) := by decide +kernel
theorem dX5_worth_69 : decode cX5_worth 69 = .ok (.iload_n 1, 1) := by decide +kernel
theorem dX5_worth_70 : decode cX5_worth 70 = .ok (.goto 4, 3) := by decide +kernel
theorem dX5_worth_73 : decode cX5_worth 73 = .ok (.iload_n 2, 1) := by decide +kernel
theorem dX5_worth_74 : decode cX5_worth 74 = .ok (.ireturn, 1) := by decide +kernel
theorem dX5_worth_75 : decode cX5_worth 75 = .ok (.iload_n 1, 1) := by decide +kernel
theorem dX5_worth_76 : decode cX5_worth 76 = .ok (.iload_n 2, 1) := by decide +kernel
theorem dX5_worth_77 : decode cX5_worth 77 = .ok (.if_icmp .le 7, 3) := by decide +kernel
theorem dX5_worth_80 : decode cX5_worth 80 = .ok (.iload_n 1, 1) := by decide +kernel
theorem dX5_worth_81 : decode cX5_worth 81 = .ok (.goto 4, 3) := by decide +kernel
theorem dX5_worth_84 : decode cX5_worth 84 = .ok (.iload_n 2, 1) := by decide +kernel
theorem dX5_worth_85 : decode cX5_worth 85 = .ok (.ireturn, 1) := by decide +kernel
theorem dX5_worth_86 : decode cX5_worth 86 = .ok (.iload_n 1, 1) := by decide +kernel
theorem dX5_worth_87 : decode cX5_worth 87 = .ok (.iload_n 2, 1) := by decide +kernel
theorem dX5_worth_88 : decode cX5_worth 88 = .ok (.if_icmp .ne 7, 3) := by decide +kernel
theorem dX5_worth_91 : decode cX5_worth 91 = .ok (.iconst 1, 1) := by decide +kernel
theorem dX5_worth_92 : decode cX5_worth 92 = .ok (.goto 4, 3) := by decide +kernel
theorem dX5_worth_95 : decode cX5_worth 95 = .ok (.iconst 0, 1) := by decide +kernel
theorem dX5_worth_96 : decode cX5_worth 96 = .ok (.ireturn, 1) := by decide +kernel
theorem dX5_worth_97 : decode cX5_worth 97 = .ok (.iload_n 2, 1) := by decide +kernel
theorem dX5_worth_98 : decode cX5_worth 98 = .ok (.ifCond .ne 7, 3) := by decide +kernel
theorem dX5_worth_101 : decode cX5_worth 101 = .ok (.iload_n 1, 1) := by decide +kernel
theorem dX5_worth_102 : decode cX5_worth 102 = .ok (.goto 4, 3) := by decide +kernel
theorem dX5_worth_105 : decode cX5_worth 105 = .ok (.iload_n 3, 1) := by decide +kernel
theorem dX5_worth_106 : decode cX5_worth 106 = .ok (.ireturn, 1) := by decide +kernel
theorem dX5_holds_0 : decode cX5_holds 0 = .ok (.iload_n 0, 1) := by decide +kernel
theorem dX5_holds_1 : decode cX5_holds 1 = .ok (.ifCond .ne 16, 3) := by decide +kernel
theorem dX5_holds_4 : decode cX5_holds 4 = .ok (.iload_n 1, 1) := by decide +kernel
theorem dX5_holds_5 : decode cX5_holds 5 = .ok (.iload_n 2, 1) := by decide +kernel
theorem dX5_holds_6 : decode cX5_holds 6 = .ok (.if_icmp .ne 7, 3) := by decide +kernel
theorem dX5_holds_9 : decode cX5_holds 9 = .ok (.iconst 1, 1) := by decide +kernel
theorem dX5_holds_10 : decode cX5_holds 10 = .ok (.goto 53, 3) := by decide +kernel
theorem dX5_holds_13 : decode cX5_holds 13 = .ok (.iconst 0, 1) := by decide +kernel
theorem dX5_holds_14 : decode cX5_holds 14 = .ok (.goto 49, 3) := by decide +kernel
theorem dX5_holds_17 : decode cX5_holds 17 = .ok (.iload_n 0, 1) := by decide +kernel
theorem dX5_holds_18 : decode cX5_holds 18 = .ok (.iconst 1, 1) := by decide +kernel
theorem dX5_holds_19 : decode cX5_holds 19 = .ok (.if_icmp .ne 16, 3) := by decide +kernel
theorem dX5_holds_22 : decode cX5_holds 22 = .ok (.iload_n 1, 1) := by decide +kernel
theorem dX5_holds_23 : decode cX5_holds 23 = .ok (.iload_n 2, 1) := by decide +kernel
theorem dX5_holds_24 : decode cX5_holds 24 = .ok (.if_icmp .eq 7, 3) := by decide +kernel
theorem dX5_holds_27 : decode cX5_holds 27 = .ok (.iconst 1, 1) := by decide +kernel
theorem dX5_holds_28 : decode cX5_holds 28 = .ok (.goto 35, 3) := by decide +kernel
theorem dX5_holds_31 : decode cX5_holds 31 = .ok (.iconst 0, 1) := by decide +kernel
theorem dX5_holds_32 : decode cX5_holds 32 = .ok (.goto 31, 3) := by decide +kernel
theorem dX5_holds_35 : decode cX5_holds 35 = .ok (.iload_n 0, 1) := by decide +kernel
theorem dX5_holds_36 : decode cX5_holds 36 = .ok (.iconst 2, 1) := by decide +kernel
theorem dX5_holds_37 : decode cX5_holds 37 = .ok (.if_icmp .ne 16, 3) := by decide +kernel
theorem dX5_holds_40 : decode cX5_holds 40 = .ok (.iload_n 1, 1) := by decide +kernel
theorem dX5_holds_41 : decode cX5_holds 41 = .ok (.iload_n 2, 1) := by decide +kernel
theorem dX5_holds_42 : decode cX5_holds 42 = .ok (.if_icmp .ge 7, 3) := by decide +kernel
theorem dX5_holds_45 : decode cX5_holds 45 = .ok (.iconst 1, 1) := by decide +kernel
theorem dX5_holds_46 : decode cX5_holds 46 = .ok (.goto 17, 3) := by decide +kernel
theorem dX5_holds_49 : decode cX5_holds 49 = .ok (.iconst 0, 1) := by decide +kernel
theorem dX5_holds_50 : decode cX5_holds 50 = .ok (.goto 13, 3) := by decide +kernel
theorem dX5_holds_53 : decode cX5_holds 53 = .ok (.iload_n 1, 1) := by decide +kernel
theorem dX5_holds_54 : decode cX5_holds 54 = .ok (.iload_n 2, 1) := by decide +kernel
theorem dX5_holds_55 : decode cX5_holds 55 = .ok (.if_icmp .le 7, 3) := by decide +kernel
theorem dX5_holds_58 : decode cX5_holds 58 = .ok (.iconst 1, 1) := by decide +kernel
theorem dX5_holds_59 : decode cX5_holds 59 = .ok (.goto 4, 3) := by decide +kernel
theorem dX5_holds_62 : decode cX5_holds 62 = .ok (.iconst 0, 1) := by decide +kernel
theorem dX5_holds_63 : decode cX5_holds 63 = .ok (.ireturn, 1) := by decide +kernel
theorem dX5_make_0 : decode cX5_make 0 = .ok (.aload_n 0, 1) := by decide +kernel
theorem dX5_make_1 : decode cX5_make 1 = .ok (.getfield 51, 3) := by decide +kernel
theorem dX5_make_4 : decode cX5_make 4 = .ok (.aload_n 0, 1) := by decide +kernel
theorem dX5_make_5 : decode cX5_make 5 = .ok (.getfield 112, 3) := by decide +kernel
theorem dX5_make_8 : decode cX5_make 8 = .ok (.iload_n 1, 1) := by decide +kernel
theorem dX5_make_9 : decode cX5_make 9 = .ok (.iastore, 1) := by decide +kernel
theorem dX5_make_10 : decode cX5_make 10 = .ok (.aload_n 0, 1) := by decide +kernel
theorem dX5_make_11 : decode cX5_make 11 = .ok (.getfield 54, 3) := by decide +kernel
theorem dX5_make_14 : decode cX5_make 14 = .ok (.aload_n 0, 1) := by decide +kernel
theorem dX5_make_15 : decode cX5_make 15 = .ok (.getfield 112, 3) := by decide +kernel
theorem dX5_make_18 : decode cX5_make 18 = .ok (.lload_n 2, 1) := by decide +kernel
theorem dX5_make_19 : decode cX5_make 19 = .ok (.lastore, 1) := by decide +kernel
theorem dX5_make_20 : decode cX5_make 20 = .ok (.aload_n 0, 1) := by decide +kernel
theorem dX5_make_21 : decode cX5_make 21 = .ok (.dup, 1) := by decide +kernel
theorem dX5_make_22 : decode cX5_make 22 = .ok (.getfield 112, 3) := by decide +kernel
theorem dX5_make_25 : decode cX5_make 25 = .ok (.iconst 1, 1) := by decide +kernel
theorem dX5_make_26 : decode cX5_make 26 = .ok (.iadd, 1) := by decide +kernel
theorem dX5_make_27 : decode cX5_make 27 = .ok (.putfield 112, 3) := by decide +kernel
theorem dX5_make_30 : decode cX5_make 30 = .ok (.return_, 1) := by decide +kernel
theorem dX5_go_0 : decode cX5_go 0 = .ok (.aload_n 0, 1) := by decide +kernel
theorem dX5_go_1 : decode cX5_go 1 = .ok (.iconst 0, 1) := by decide +kernel
theorem dX5_go_2 : decode cX5_go 2 = .ok (.putfield 112, 3) := by decide +kernel
theorem dX5_go_5 : decode cX5_go 5 = .ok (.aload_n 0, 1) := by decide +kernel
theorem dX5_go_6 : decode cX5_go 6 = .ok (.iload_n 1, 1) := by decide +kernel
theorem dX5_go_7 : decode cX5_go 7 = .ok (.iconst 1, 1) := by decide +kernel
theorem dX5_go_8 : decode cX5_go 8 = .ok (.iadd, 1) := by decide +kernel
theorem dX5_go_9 : decode cX5_go 9 = .ok (.putfield 115, 3) := by decide +kernel
theorem dX5_go_12 : decode cX5_go 12 = .ok (.aload_n 0, 1) := by decide +kernel
theorem dX5_go_13 : decode cX5_go 13 = .ok (.lconst 0, 1) := by decide +kernel
theorem dX5_go_14 : decode cX5_go 14 = .ok (.putfield 118, 3) := by decide +kernel
theorem dX5_go_17 : decode cX5_go 17 = .ok (.iload_n 2, 1) := by decide +kernel
theorem dX5_go_18 : decode cX5_go 18 = .ok (.aload_n 0, 1) := by decide +kernel
theorem dX5_go_19 : decode cX5_go 19 = .ok (.getfield 19, 3) := by decide +kernel
theorem dX5_go_22 : decode cX5_go 22 = .ok (.iload_n 1, 1) := by decide +kernel
theorem dX5_go_23 : decode cX5_go 23 = .ok (.iaload, 1) := by decide +kernel
theorem dX5_go_24 : decode cX5_go 24 = .ok (.invokestatic 122, 3) := by decide +kernel
theorem dX5_go_27 : decode cX5_go 27 = .ok (.istore 5, 2) := by decide +kernel
theorem dX5_go_29 : decode cX5_go 29 = .ok (.iload_n 2, 1) := by decide +kernel
theorem dX5_go_30 : decode cX5_go 30 = .ok (.aload_n 0, 1) := by decide +kernel
theorem dX5_go_31 : decode cX5_go 31 = .ok (.getfield 22, 3) := by decide +kernel
theorem dX5_go_34 : decode cX5_go 34 = .ok (.iload_n 1, 1) := by decide +kernel
theorem dX5_go_35 : decode cX5_go 35 = .ok (.iaload, 1) := by decide +kernel
theorem dX5_go_36 : decode cX5_go 36 = .ok (.invokestatic 122, 3) := by decide +kernel
theorem dX5_go_39 : decode cX5_go 39 = .ok (.istore 6, 2) := by decide +kernel
theorem dX5_go_41 : decode cX5_go 41 = .ok (.aload_n 0, 1) := by decide +kernel
theorem dX5_go_42 : decode cX5_go 42 = .ok (.getfield 7, 3) := by decide +kernel
theorem dX5_go_45 : decode cX5_go 45 = .ok (.iload_n 1, 1) := by decide +kernel
theorem dX5_go_46 : decode cX5_go 46 = .ok (.iaload, 1) := by decide +kernel
theorem dX5_go_47 : decode cX5_go 47 = .ok (.tableswitch 197 0 3 #[29, 97, 138, 171], 29) := by decide +kernel
theorem dX5_go_76 : decode cX5_go 76 = .ok (.iconst 0, 1) := by decide +kernel
theorem dX5_go_77 : decode cX5_go 77 = .ok (.istore 7, 2) := by decide +kernel
theorem dX5_go_79 : decode cX5_go 79 = .ok (.iload 7, 2) := by decide +kernel
theorem dX5_go_81 : decode cX5_go 81 = .ok (.bipush 10, 2) := by decide +kernel
theorem dX5_go_83 : decode cX5_go 83 = .ok (.if_icmp .ge 58, 3) := by decide +kernel
theorem dX5_go_86 : decode cX5_go 86 = .ok (.aload_n 0, 1) := by decide +kernel
theorem dX5_go_87 : decode cX5_go 87 = .ok (.getfield 25, 3) := by decide +kernel
theorem dX5_go_90 : decode cX5_go 90 = .ok (.bipush 10, 2) := by decide +kernel
theorem dX5_go_92 : decode cX5_go 92 = .ok (.aload_n 0, 1) := by decide +kernel
theorem dX5_go_93 : decode cX5_go 93 = .ok (.getfield 16, 3) := by decide +kernel
theorem dX5_go_96 : decode cX5_go 96 = .ok (.iload_n 1, 1) := by decide +kernel
theorem dX5_go_97 : decode cX5_go 97 = .ok (.iaload, 1) := by decide +kernel
theorem dX5_go_98 : decode cX5_go 98 = .ok (.imul, 1) := by decide +kernel
theorem dX5_go_99 : decode cX5_go 99 = .ok (.iload 7, 2) := by decide +kernel
theorem dX5_go_101 : decode cX5_go 101 = .ok (.iadd, 1) := by decide +kernel
theorem dX5_go_102 : decode cX5_go 102 = .ok (.iaload, 1) := by decide +kernel
theorem dX5_go_103 : decode cX5_go 103 = .ok (.istore 8, 2) := by decide +kernel
theorem dX5_go_105 : decode cX5_go 105 = .ok (.iload 8, 2) := by decide +kernel
theorem dX5_go_107 : decode cX5_go 107 = .ok (.ifCond .le 28, 3) := by decide +kernel
theorem dX5_go_110 : decode cX5_go 110 = .ok (.aload_n 0, 1) := by decide +kernel
theorem dX5_go_111 : decode cX5_go 111 = .ok (.iload_n 2, 1) := by decide +kernel
theorem dX5_go_112 : decode cX5_go 112 = .ok (.aload_n 0, 1) := by decide +kernel
theorem dX5_go_113 : decode cX5_go 113 = .ok (.getfield 13, 3) := by decide +kernel
theorem dX5_go_116 : decode cX5_go 116 = .ok (.iload_n 1, 1) := by decide +kernel
theorem dX5_go_117 : decode cX5_go 117 = .ok (.iaload, 1) := by decide +kernel
theorem dX5_go_118 : decode cX5_go 118 = .ok (.iload 7, 2) := by decide +kernel
theorem dX5_go_120 : decode cX5_go 120 = .ok (.invokestatic 125, 3) := by decide +kernel
theorem dX5_go_123 : decode cX5_go 123 = .ok (.lload_n 3, 1) := by decide +kernel
theorem dX5_go_124 : decode cX5_go 124 = .ok (.ldc2_w 129, 3) := by decide +kernel
theorem dX5_go_127 : decode cX5_go 127 = .ok (.ldiv, 1) := by decide +kernel
theorem dX5_go_128 : decode cX5_go 128 = .ok (.iload 8, 2) := by decide +kernel
theorem dX5_go_130 : decode cX5_go 130 = .ok (.i2l, 1) := by decide +kernel
theorem dX5_go_131 : decode cX5_go 131 = .ok (.lmul, 1) := by decide +kernel
theorem dX5_go_132 : decode cX5_go 132 = .ok (.invokevirtual 131, 3) := by decide +kernel
theorem dX5_go_135 : decode cX5_go 135 = .ok (.iinc 7 1, 3) := by decide +kernel
theorem dX5_go_138 : decode cX5_go 138 = .ok (.goto (-59), 3) := by decide +kernel
theorem dX5_go_141 : decode cX5_go 141 = .ok (.goto 129, 3) := by decide +kernel
theorem dX5_go_144 : decode cX5_go 144 = .ok (.aload_n 0, 1) := by decide +kernel
theorem dX5_go_145 : decode cX5_go 145 = .ok (.iload_n 2, 1) := by decide +kernel
theorem dX5_go_146 : decode cX5_go 146 = .ok (.aload_n 0, 1) := by decide +kernel
theorem dX5_go_147 : decode cX5_go 147 = .ok (.getfield 13, 3) := by decide +kernel
theorem dX5_go_150 : decode cX5_go 150 = .ok (.iload_n 1, 1) := by decide +kernel
theorem dX5_go_151 : decode cX5_go 151 = .ok (.iaload, 1) := by decide +kernel
theorem dX5_go_152 : decode cX5_go 152 = .ok (.aload_n 0, 1) := by decide +kernel
theorem dX5_go_153 : decode cX5_go 153 = .ok (.getfield 16, 3) := by decide +kernel
theorem dX5_go_156 : decode cX5_go 156 = .ok (.iload_n 1, 1) := by decide +kernel
theorem dX5_go_157 : decode cX5_go 157 = .ok (.iaload, 1) := by decide +kernel
theorem dX5_go_158 : decode cX5_go 158 = .ok (.iload 5, 2) := by decide +kernel
theorem dX5_go_160 : decode cX5_go 160 = .ok (.iload 6, 2) := by decide +kernel
theorem dX5_go_162 : decode cX5_go 162 = .ok (.iload_n 2, 1) := by decide +kernel
theorem dX5_go_163 : decode cX5_go 163 = .ok (.aload_n 0, 1) := by decide +kernel
theorem dX5_go_164 : decode cX5_go 164 = .ok (.getfield 13, 3) := by decide +kernel
theorem dX5_go_167 : decode cX5_go 167 = .ok (.iload_n 1, 1) := by decide +kernel
theorem dX5_go_168 : decode cX5_go 168 = .ok (.iaload, 1) := by decide +kernel
theorem dX5_go_169 : decode cX5_go 169 = .ok (.invokestatic 108, 3) := by decide +kernel
theorem dX5_go_172 : decode cX5_go 172 = .ok (.invokestatic 135, 3) := by decide +kernel
theorem dX5_go_175 : decode cX5_go 175 = .ok (.invokestatic 125, 3) := by decide +kernel
theorem dX5_go_178 : decode cX5_go 178 = .ok (.lload_n 3, 1) := by decide +kernel
theorem dX5_go_179 : decode cX5_go 179 = .ok (.invokevirtual 131, 3) := by decide +kernel
theorem dX5_go_182 : decode cX5_go 182 = .ok (.goto 88, 3) := by decide +kernel
theorem dX5_go_185 : decode cX5_go 185 = .ok (.aload_n 0, 1) := by decide +kernel
theorem dX5_go_186 : decode cX5_go 186 = .ok (.getfield 16, 3) := by decide +kernel
theorem dX5_go_189 : decode cX5_go 189 = .ok (.iload_n 1, 1) := by decide +kernel
theorem dX5_go_190 : decode cX5_go 190 = .ok (.iaload, 1) := by decide +kernel
theorem dX5_go_191 : decode cX5_go 191 = .ok (.iload 5, 2) := by decide +kernel
theorem dX5_go_193 : decode cX5_go 193 = .ok (.iload 6, 2) := by decide +kernel
theorem dX5_go_195 : decode cX5_go 195 = .ok (.invokestatic 139, 3) := by decide +kernel
theorem dX5_go_198 : decode cX5_go 198 = .ok (.ifCond .eq 12, 3) := by decide +kernel
theorem dX5_go_201 : decode cX5_go 201 = .ok (.aload_n 0, 1) := by decide +kernel
theorem dX5_go_202 : decode cX5_go 202 = .ok (.iload_n 2, 1) := by decide +kernel
theorem dX5_go_203 : decode cX5_go 203 = .ok (.lload_n 3, 1) := by decide +kernel
theorem dX5_go_204 : decode cX5_go 204 = .ok (.invokevirtual 131, 3) := by decide +kernel
theorem dX5_go_207 : decode cX5_go 207 = .ok (.goto 63, 3) := by decide +kernel
theorem dX5_go_210 : decode cX5_go 210 = .ok (.aload_n 0, 1) := by decide +kernel
theorem dX5_go_211 : decode cX5_go 211 = .ok (.lload_n 3, 1) := by decide +kernel
theorem dX5_go_212 : decode cX5_go 212 = .ok (.putfield 118, 3) := by decide +kernel
theorem dX5_go_215 : decode cX5_go 215 = .ok (.goto 55, 3) := by decide +kernel
theorem dX5_go_218 : decode cX5_go 218 = .ok (.iload 5, 2) := by decide +kernel
theorem dX5_go_220 : decode cX5_go 220 = .ok (.ifCond .le 16, 3) := by decide +kernel
theorem dX5_go_223 : decode cX5_go 223 = .ok (.aload_n 0, 1) := by decide +kernel
theorem dX5_go_224 : decode cX5_go 224 = .ok (.iload_n 2, 1) := by decide +kernel
theorem dX5_go_225 : decode cX5_go 225 = .ok (.lload_n 3, 1) := by decide +kernel
theorem dX5_go_226 : decode cX5_go 226 = .ok (.iload 5, 2) := by decide +kernel
theorem dX5_go_228 : decode cX5_go 228 = .ok (.i2l, 1) := by decide +kernel
theorem dX5_go_229 : decode cX5_go 229 = .ok (.lmul, 1) := by decide +kernel
theorem dX5_go_230 : decode cX5_go 230 = .ok (.invokevirtual 131, 3) := by decide +kernel
theorem dX5_go_233 : decode cX5_go 233 = .ok (.goto 37, 3) := by decide +kernel
theorem dX5_go_236 : decode cX5_go 236 = .ok (.aload_n 0, 1) := by decide +kernel
theorem dX5_go_237 : decode cX5_go 237 = .ok (.lload_n 3, 1) := by decide +kernel
theorem dX5_go_238 : decode cX5_go 238 = .ok (.putfield 118, 3) := by decide +kernel
theorem dX5_go_241 : decode cX5_go 241 = .ok (.goto 29, 3) := by decide +kernel
theorem dX5_go_244 : decode cX5_go 244 = .ok (.aload_n 0, 1) := by decide +kernel
theorem dX5_go_245 : decode cX5_go 245 = .ok (.iload 5, 2) := by decide +kernel
theorem dX5_go_247 : decode cX5_go 247 = .ok (.ifCond .ne 11, 3) := by decide +kernel
theorem dX5_go_250 : decode cX5_go 250 = .ok (.aload_n 0, 1) := by decide +kernel
theorem dX5_go_251 : decode cX5_go 251 = .ok (.iload_n 1, 1) := by decide +kernel
theorem dX5_go_252 : decode cX5_go 252 = .ok (.invokevirtual 102, 3) := by decide +kernel
theorem dX5_go_255 : decode cX5_go 255 = .ok (.goto 6, 3) := by decide +kernel
theorem dX5_go_258 : decode cX5_go 258 = .ok (.iload_n 1, 1) := by decide +kernel
theorem dX5_go_259 : decode cX5_go 259 = .ok (.iconst 1, 1) := by decide +kernel
theorem dX5_go_260 : decode cX5_go 260 = .ok (.iadd, 1) := by decide +kernel
theorem dX5_go_261 : decode cX5_go 261 = .ok (.putfield 115, 3) := by decide +kernel
theorem dX5_go_264 : decode cX5_go 264 = .ok (.aload_n 0, 1) := by decide +kernel
theorem dX5_go_265 : decode cX5_go 265 = .ok (.iload_n 2, 1) := by decide +kernel
theorem dX5_go_266 : decode cX5_go 266 = .ok (.lload_n 3, 1) := by decide +kernel
theorem dX5_go_267 : decode cX5_go 267 = .ok (.invokevirtual 131, 3) := by decide +kernel
theorem dX5_go_270 : decode cX5_go 270 = .ok (.return_, 1) := by decide +kernel
theorem dX5_isUneven_0 : decode cX5_isUneven 0 = .ok (.iconst 0, 1) := by decide +kernel
theorem dX5_isUneven_1 : decode cX5_isUneven 1 = .ok (.istore_n 1, 1) := by decide +kernel
theorem dX5_isUneven_2 : decode cX5_isUneven 2 = .ok (.iload_n 1, 1) := by decide +kernel
theorem dX5_isUneven_3 : decode cX5_isUneven 3 = .ok (.aload_n 0, 1) := by decide +kernel
theorem dX5_isUneven_4 : decode cX5_isUneven 4 = .ok (.getfield 73, 3) := by decide +kernel
theorem dX5_isUneven_7 : decode cX5_isUneven 7 = .ok (.if_icmp .ge 61, 3) := by decide +kernel
theorem dX5_isUneven_10 : decode cX5_isUneven 10 = .ok (.aload_n 0, 1) := by decide +kernel
theorem dX5_isUneven_11 : decode cX5_isUneven 11 = .ok (.getfield 7, 3) := by decide +kernel
theorem dX5_isUneven_14 : decode cX5_isUneven 14 = .ok (.iload_n 1, 1) := by decide +kernel
theorem dX5_isUneven_15 : decode cX5_isUneven 15 = .ok (.iaload, 1) := by decide +kernel
theorem dX5_isUneven_16 : decode cX5_isUneven 16 = .ok (.ifCond .ne 46, 3) := by decide +kernel
theorem dX5_isUneven_19 : decode cX5_isUneven 19 = .ok (.iconst 0, 1) := by decide +kernel
theorem dX5_isUneven_20 : decode cX5_isUneven 20 = .ok (.istore_n 2, 1) := by decide +kernel
theorem dX5_isUneven_21 : decode cX5_isUneven 21 = .ok (.iconst 0, 1) := by decide +kernel
theorem dX5_isUneven_22 : decode cX5_isUneven 22 = .ok (.istore_n 3, 1) := by decide +kernel
theorem dX5_isUneven_23 : decode cX5_isUneven 23 = .ok (.iload_n 3, 1) := by decide +kernel
theorem dX5_isUneven_24 : decode cX5_isUneven 24 = .ok (.bipush 10, 2) := by decide +kernel
theorem dX5_isUneven_26 : decode cX5_isUneven 26 = .ok (.if_icmp .ge 28, 3) := by decide +kernel
theorem dX5_isUneven_29 : decode cX5_isUneven 29 = .ok (.iload_n 2, 1) := by decide +kernel
theorem dX5_isUneven_30 : decode cX5_isUneven 30 = .ok (.aload_n 0, 1) := by decide +kernel
theorem dX5_isUneven_31 : decode cX5_isUneven 31 = .ok (.getfield 25, 3) := by decide +kernel
theorem dX5_isUneven_34 : decode cX5_isUneven 34 = .ok (.bipush 10, 2) := by decide +kernel
theorem dX5_isUneven_36 : decode cX5_isUneven 36 = .ok (.aload_n 0, 1) := by decide +kernel
theorem dX5_isUneven_37 : decode cX5_isUneven 37 = .ok (.getfield 16, 3) := by decide +kernel
theorem dX5_isUneven_40 : decode cX5_isUneven 40 = .ok (.iload_n 1, 1) := by decide +kernel
theorem dX5_isUneven_41 : decode cX5_isUneven 41 = .ok (.iaload, 1) := by decide +kernel
theorem dX5_isUneven_42 : decode cX5_isUneven 42 = .ok (.imul, 1) := by decide +kernel
theorem dX5_isUneven_43 : decode cX5_isUneven 43 = .ok (.iload_n 3, 1) := by decide +kernel
theorem dX5_isUneven_44 : decode cX5_isUneven 44 = .ok (.iadd, 1) := by decide +kernel
theorem dX5_isUneven_45 : decode cX5_isUneven 45 = .ok (.iaload, 1) := by decide +kernel
theorem dX5_isUneven_46 : decode cX5_isUneven 46 = .ok (.iadd, 1) := by decide +kernel
theorem dX5_isUneven_47 : decode cX5_isUneven 47 = .ok (.istore_n 2, 1) := by decide +kernel
theorem dX5_isUneven_48 : decode cX5_isUneven 48 = .ok (.iinc 3 1, 3) := by decide +kernel
theorem dX5_isUneven_51 : decode cX5_isUneven 51 = .ok (.goto (-28), 3) := by decide +kernel
theorem dX5_isUneven_54 : decode cX5_isUneven 54 = .ok (.iload_n 2, 1) := by decide +kernel
theorem dX5_isUneven_55 : decode cX5_isUneven 55 = .ok (.bipush 60, 2) := by decide +kernel
theorem dX5_isUneven_57 : decode cX5_isUneven 57 = .ok (.if_icmp .eq 5, 3) := by decide +kernel
theorem dX5_isUneven_60 : decode cX5_isUneven 60 = .ok (.iconst 1, 1) := by decide +kernel
theorem dX5_isUneven_61 : decode cX5_isUneven 61 = .ok (.ireturn, 1) := by decide +kernel
theorem dX5_isUneven_62 : decode cX5_isUneven 62 = .ok (.iinc 1 1, 3) := by decide +kernel
theorem dX5_isUneven_65 : decode cX5_isUneven 65 = .ok (.goto (-63), 3) := by decide +kernel
theorem dX5_isUneven_68 : decode cX5_isUneven 68 = .ok (.iconst 0, 1) := by decide +kernel
theorem dX5_isUneven_69 : decode cX5_isUneven 69 = .ok (.ireturn, 1) := by decide +kernel
theorem dX5_begin_0 : decode cX5_begin 0 = .ok (.aload_n 0, 1) := by decide +kernel
theorem dX5_begin_1 : decode cX5_begin 1 = .ok (.iconst 0, 1) := by decide +kernel
theorem dX5_begin_2 : decode cX5_begin 2 = .ok (.putfield 69, 3) := by decide +kernel
theorem dX5_begin_5 : decode cX5_begin 5 = .ok (.aload_n 0, 1) := by decide +kernel
theorem dX5_begin_6 : decode cX5_begin 6 = .ok (.invokevirtual 142, 3) := by decide +kernel
theorem dX5_begin_9 : decode cX5_begin 9 = .ok (.ifCond .eq 6, 3) := by decide +kernel
theorem dX5_begin_12 : decode cX5_begin 12 = .ok (.bipush (-4), 2) := by decide +kernel
theorem dX5_begin_14 : decode cX5_begin 14 = .ok (.ireturn, 1) := by decide +kernel
theorem dX5_begin_15 : decode cX5_begin 15 = .ok (.iconst 0, 1) := by decide +kernel
theorem dX5_begin_16 : decode cX5_begin 16 = .ok (.istore_n 1, 1) := by decide +kernel
theorem dX5_begin_17 : decode cX5_begin 17 = .ok (.iload_n 1, 1) := by decide +kernel
theorem dX5_begin_18 : decode cX5_begin 18 = .ok (.bipush 30, 2) := by decide +kernel
theorem dX5_begin_20 : decode cX5_begin 20 = .ok (.if_icmp .gt 30, 3) := by decide +kernel
theorem dX5_begin_23 : decode cX5_begin 23 = .ok (.aload_n 0, 1) := by decide +kernel
theorem dX5_begin_24 : decode cX5_begin 24 = .ok (.getfield 32, 3) := by decide +kernel
theorem dX5_begin_27 : decode cX5_begin 27 = .ok (.iload_n 1, 1) := by decide +kernel
theorem dX5_begin_28 : decode cX5_begin 28 = .ok (.iconst 0, 1) := by decide +kernel
theorem dX5_begin_29 : decode cX5_begin 29 = .ok (.iastore, 1) := by decide +kernel
theorem dX5_begin_30 : decode cX5_begin 30 = .ok (.aload_n 0, 1) := by decide +kernel
theorem dX5_begin_31 : decode cX5_begin 31 = .ok (.getfield 35, 3) := by decide +kernel
theorem dX5_begin_34 : decode cX5_begin 34 = .ok (.iload_n 1, 1) := by decide +kernel
theorem dX5_begin_35 : decode cX5_begin 35 = .ok (.iconst 0, 1) := by decide +kernel
theorem dX5_begin_36 : decode cX5_begin 36 = .ok (.iastore, 1) := by decide +kernel
theorem dX5_begin_37 : decode cX5_begin 37 = .ok (.aload_n 0, 1) := by decide +kernel
theorem dX5_begin_38 : decode cX5_begin 38 = .ok (.getfield 38, 3) := by decide +kernel
theorem dX5_begin_41 : decode cX5_begin 41 = .ok (.iload_n 1, 1) := by decide +kernel
theorem dX5_begin_42 : decode cX5_begin 42 = .ok (.iconst 0, 1) := by decide +kernel
theorem dX5_begin_43 : decode cX5_begin 43 = .ok (.iastore, 1) := by decide +kernel
theorem dX5_begin_44 : decode cX5_begin 44 = .ok (.iinc 1 1, 3) := by decide +kernel
theorem dX5_begin_47 : decode cX5_begin 47 = .ok (.goto (-30), 3) := by decide +kernel
theorem dX5_begin_50 : decode cX5_begin 50 = .ok (.aload_n 0, 1) := by decide +kernel
theorem dX5_begin_51 : decode cX5_begin 51 = .ok (.invokevirtual 105, 3) := by decide +kernel
theorem dX5_begin_54 : decode cX5_begin 54 = .ok (.aload_n 0, 1) := by decide +kernel
theorem dX5_begin_55 : decode cX5_begin 55 = .ok (.iconst 1, 1) := by decide +kernel
theorem dX5_begin_56 : decode cX5_begin 56 = .ok (.putfield 82, 3) := by decide +kernel
theorem dX5_begin_59 : decode cX5_begin 59 = .ok (.aload_n 0, 1) := by decide +kernel
theorem dX5_begin_60 : decode cX5_begin 60 = .ok (.iconst 0, 1) := by decide +kernel
theorem dX5_begin_61 : decode cX5_begin 61 = .ok (.putfield 146, 3) := by decide +kernel
theorem dX5_begin_64 : decode cX5_begin 64 = .ok (.aload_n 0, 1) := by decide +kernel
theorem dX5_begin_65 : decode cX5_begin 65 = .ok (.lconst 0, 1) := by decide +kernel
theorem dX5_begin_66 : decode cX5_begin 66 = .ok (.putfield 149, 3) := by decide +kernel
theorem dX5_begin_69 : decode cX5_begin 69 = .ok (.aload_n 0, 1) := by decide +kernel
theorem dX5_begin_70 : decode cX5_begin 70 = .ok (.iconst 0, 1) := by decide +kernel
theorem dX5_begin_71 : decode cX5_begin 71 = .ok (.iconst 0, 1) := by decide +kernel
theorem dX5_begin_72 : decode cX5_begin 72 = .ok (.ldc2_w 152, 3) := by decide +kernel
theorem dX5_begin_75 : decode cX5_begin 75 = .ok (.invokevirtual 154, 3) := by decide +kernel
theorem dX5_begin_78 : decode cX5_begin 78 = .ok (.iconst 1, 1) := by decide +kernel
theorem dX5_begin_79 : decode cX5_begin 79 = .ok (.ireturn, 1) := by decide +kernel
theorem dX5_found_0 : decode cX5_found 0 = .ok (.iconst 0, 1) := by decide +kernel
theorem dX5_found_1 : decode cX5_found 1 = .ok (.istore_n 3, 1) := by decide +kernel
theorem dX5_found_2 : decode cX5_found 2 = .ok (.iload_n 3, 1) := by decide +kernel
theorem dX5_found_3 : decode cX5_found 3 = .ok (.aload_n 0, 1) := by decide +kernel
theorem dX5_found_4 : decode cX5_found 4 = .ok (.getfield 32, 3) := by decide +kernel
theorem dX5_found_7 : decode cX5_found 7 = .ok (.iload_n 1, 1) := by decide +kernel
theorem dX5_found_8 : decode cX5_found 8 = .ok (.iaload, 1) := by decide +kernel
theorem dX5_found_9 : decode cX5_found 9 = .ok (.if_icmp .ge 25, 3) := by decide +kernel
theorem dX5_found_12 : decode cX5_found 12 = .ok (.aload_n 0, 1) := by decide +kernel
theorem dX5_found_13 : decode cX5_found 13 = .ok (.getfield 41, 3) := by decide +kernel
theorem dX5_found_16 : decode cX5_found 16 = .ok (.sipush 200, 3) := by decide +kernel
theorem dX5_found_19 : decode cX5_found 19 = .ok (.iload_n 1, 1) := by decide +kernel
theorem dX5_found_20 : decode cX5_found 20 = .ok (.imul, 1) := by decide +kernel
theorem dX5_found_21 : decode cX5_found 21 = .ok (.iload_n 3, 1) := by decide +kernel
theorem dX5_found_22 : decode cX5_found 22 = .ok (.iadd, 1) := by decide +kernel
theorem dX5_found_23 : decode cX5_found 23 = .ok (.iaload, 1) := by decide +kernel
theorem dX5_found_24 : decode cX5_found 24 = .ok (.iload_n 2, 1) := by decide +kernel
theorem dX5_found_25 : decode cX5_found 25 = .ok (.if_icmp .ge 9, 3) := by decide +kernel
theorem dX5_found_28 : decode cX5_found 28 = .ok (.iinc 3 1, 3) := by decide +kernel
theorem dX5_found_31 : decode cX5_found 31 = .ok (.goto (-29), 3) := by decide +kernel
theorem dX5_found_34 : decode cX5_found 34 = .ok (.iload_n 3, 1) := by decide +kernel
theorem dX5_found_35 : decode cX5_found 35 = .ok (.ireturn, 1) := by decide +kernel
theorem dX5_isThere_0 : decode cX5_isThere 0 = .ok (.aload_n 0, 1) := by decide +kernel
theorem dX5_isThere_1 : decode cX5_isThere 1 = .ok (.iload_n 1, 1) := by decide +kernel
theorem dX5_isThere_2 : decode cX5_isThere 2 = .ok (.iload_n 2, 1) := by decide +kernel
theorem dX5_isThere_3 : decode cX5_isThere 3 = .ok (.invokevirtual 158, 3) := by decide +kernel
theorem dX5_isThere_6 : decode cX5_isThere 6 = .ok (.istore_n 3, 1) := by decide +kernel
theorem dX5_isThere_7 : decode cX5_isThere 7 = .ok (.iload_n 3, 1) := by decide +kernel
theorem dX5_isThere_8 : decode cX5_isThere 8 = .ok (.aload_n 0, 1) := by decide +kernel
theorem dX5_isThere_9 : decode cX5_isThere 9 = .ok (.getfield 32, 3) := by decide +kernel
theorem dX5_isThere_12 : decode cX5_isThere 12 = .ok (.iload_n 1, 1) := by decide +kernel
theorem dX5_isThere_13 : decode cX5_isThere 13 = .ok (.iaload, 1) := by decide +kernel
theorem dX5_isThere_14 : decode cX5_isThere 14 = .ok (.if_icmp .ge 23, 3) := by decide +kernel
theorem dX5_isThere_17 : decode cX5_isThere 17 = .ok (.aload_n 0, 1) := by decide +kernel
theorem dX5_isThere_18 : decode cX5_isThere 18 = .ok (.getfield 41, 3) := by decide +kernel
theorem dX5_isThere_21 : decode cX5_isThere 21 = .ok (.sipush 200, 3) := by decide +kernel
theorem dX5_isThere_24 : decode cX5_isThere 24 = .ok (.iload_n 1, 1) := by decide +kernel
theorem dX5_isThere_25 : decode cX5_isThere 25 = .ok (.imul, 1) := by decide +kernel
theorem dX5_isThere_26 : decode cX5_isThere 26 = .ok (.iload_n 3, 1) := by decide +kernel
theorem dX5_isThere_27 : decode cX5_isThere 27 = .ok (.iadd, 1) := by decide +kernel
theorem dX5_isThere_28 : decode cX5_isThere 28 = .ok (.iaload, 1) := by decide +kernel
theorem dX5_isThere_29 : decode cX5_isThere 29 = .ok (.iload_n 2, 1) := by decide +kernel
theorem dX5_isThere_30 : decode cX5_isThere 30 = .ok (.if_icmp .ne 7, 3) := by decide +kernel
theorem dX5_isThere_33 : decode cX5_isThere 33 = .ok (.iconst 1, 1) := by decide +kernel
theorem dX5_isThere_34 : decode cX5_isThere 34 = .ok (.goto 4, 3) := by decide +kernel
theorem dX5_isThere_37 : decode cX5_isThere 37 = .ok (.iconst 0, 1) := by decide +kernel
theorem dX5_isThere_38 : decode cX5_isThere 38 = .ok (.ireturn, 1) := by decide +kernel
theorem dX5_come_0 : decode cX5_come 0 = .ok (.aload_n 0, 1) := by decide +kernel
theorem dX5_come_1 : decode cX5_come 1 = .ok (.getfield 35, 3) := by decide +kernel
theorem dX5_come_4 : decode cX5_come 4 = .ok (.iload_n 1, 1) := by decide +kernel
theorem dX5_come_5 : decode cX5_come 5 = .ok (.dup2, 1) := by decide +kernel
theorem dX5_come_6 : decode cX5_come 6 = .ok (.iaload, 1) := by decide +kernel
theorem dX5_come_7 : decode cX5_come 7 = .ok (.iconst 1, 1) := by decide +kernel
theorem dX5_come_8 : decode cX5_come 8 = .ok (.iadd, 1) := by decide +kernel
theorem dX5_come_9 : decode cX5_come 9 = .ok (.iastore, 1) := by decide +kernel
theorem dX5_come_10 : decode cX5_come 10 = .ok (.aload_n 0, 1) := by decide +kernel
theorem dX5_come_11 : decode cX5_come 11 = .ok (.iload_n 1, 1) := by decide +kernel
theorem dX5_come_12 : decode cX5_come 12 = .ok (.iload_n 2, 1) := by decide +kernel
theorem dX5_come_13 : decode cX5_come 13 = .ok (.invokevirtual 158, 3) := by decide +kernel
theorem dX5_come_16 : decode cX5_come 16 = .ok (.istore 5, 2) := by decide +kernel
theorem dX5_come_18 : decode cX5_come 18 = .ok (.aload_n 0, 1) := by decide +kernel
theorem dX5_come_19 : decode cX5_come 19 = .ok (.iload_n 1, 1) := by decide +kernel
theorem dX5_come_20 : decode cX5_come 20 = .ok (.iload_n 2, 1) := by decide +kernel
theorem dX5_come_21 : decode cX5_come 21 = .ok (.invokevirtual 161, 3) := by decide +kernel
theorem dX5_come_24 : decode cX5_come 24 = .ok (.ifCond .eq 31, 3) := by decide +kernel
theorem dX5_come_27 : decode cX5_come 27 = .ok (.aload_n 0, 1) := by decide +kernel
theorem dX5_come_28 : decode cX5_come 28 = .ok (.getfield 38, 3) := by decide +kernel
theorem dX5_come_31 : decode cX5_come 31 = .ok (.iload_n 1, 1) := by decide +kernel
theorem dX5_come_32 : decode cX5_come 32 = .ok (.dup2, 1) := by decide +kernel
theorem dX5_come_33 : decode cX5_come 33 = .ok (.iaload, 1) := by decide +kernel
theorem dX5_come_34 : decode cX5_come 34 = .ok (.iconst 1, 1) := by decide +kernel
theorem dX5_come_35 : decode cX5_come 35 = .ok (.iadd, 1) := by decide +kernel
theorem dX5_come_36 : decode cX5_come 36 = .ok (.iastore, 1) := by decide +kernel
theorem dX5_come_37 : decode cX5_come 37 = .ok (.aload_n 0, 1) := by decide +kernel
theorem dX5_come_38 : decode cX5_come 38 = .ok (.getfield 44, 3) := by decide +kernel
theorem dX5_come_41 : decode cX5_come 41 = .ok (.sipush 200, 3) := by decide +kernel
theorem dX5_come_44 : decode cX5_come 44 = .ok (.iload_n 1, 1) := by decide +kernel
theorem dX5_come_45 : decode cX5_come 45 = .ok (.imul, 1) := by decide +kernel
theorem dX5_come_46 : decode cX5_come 46 = .ok (.iload 5, 2) := by decide +kernel
theorem dX5_come_48 : decode cX5_come 48 = .ok (.iadd, 1) := by decide +kernel
theorem dX5_come_49 : decode cX5_come 49 = .ok (.dup2, 1) := by decide +kernel
theorem dX5_come_50 : decode cX5_come 50 = .ok (.laload, 1) := by decide +kernel
theorem dX5_come_51 : decode cX5_come 51 = .ok (.lload_n 3, 1) := by decide +kernel
theorem dX5_come_52 : decode cX5_come 52 = .ok (.ladd, 1) := by decide +kernel
theorem dX5_come_53 : decode cX5_come 53 = .ok (.lastore, 1) := by decide +kernel
theorem dX5_come_54 : decode cX5_come 54 = .ok (.return_, 1) := by decide +kernel
theorem dX5_come_55 : decode cX5_come 55 = .ok (.aload_n 0, 1) := by decide +kernel
theorem dX5_come_56 : decode cX5_come 56 = .ok (.getfield 32, 3) := by decide +kernel
theorem dX5_come_59 : decode cX5_come 59 = .ok (.iload_n 1, 1) := by decide +kernel
theorem dX5_come_60 : decode cX5_come 60 = .ok (.iaload, 1) := by decide +kernel
theorem dX5_come_61 : decode cX5_come 61 = .ok (.istore 6, 2) := by decide +kernel
theorem dX5_come_63 : decode cX5_come 63 = .ok (.iload 6, 2) := by decide +kernel
theorem dX5_come_65 : decode cX5_come 65 = .ok (.iload 5, 2) := by decide +kernel
theorem dX5_come_67 : decode cX5_come 67 = .ok (.if_icmp .le 65, 3) := by decide +kernel
theorem dX5_come_70 : decode cX5_come 70 = .ok (.aload_n 0, 1) := by decide +kernel
theorem dX5_come_71 : decode cX5_come 71 = .ok (.getfield 41, 3) := by decide +kernel
theorem dX5_come_74 : decode cX5_come 74 = .ok (.sipush 200, 3) := by decide +kernel
theorem dX5_come_77 : decode cX5_come 77 = .ok (.iload_n 1, 1) := by decide +kernel
theorem dX5_come_78 : decode cX5_come 78 = .ok (.imul, 1) := by decide +kernel
theorem dX5_come_79 : decode cX5_come 79 = .ok (.iload 6, 2) := by decide +kernel
theorem dX5_come_81 : decode cX5_come 81 = .ok (.iadd, 1) := by decide +kernel
theorem dX5_come_82 : decode cX5_come 82 = .ok (.aload_n 0, 1) := by decide +kernel
theorem dX5_come_83 : decode cX5_come 83 = .ok (.getfield 41, 3) := by decide +kernel
theorem dX5_come_86 : decode cX5_come 86 = .ok (.sipush 200, 3) := by decide +kernel
theorem dX5_come_89 : decode cX5_come 89 = .ok (.iload_n 1, 1) := by decide +kernel
theorem dX5_come_90 : decode cX5_come 90 = .ok (.imul, 1) := by decide +kernel
theorem dX5_come_91 : decode cX5_come 91 = .ok (.iload 6, 2) := by decide +kernel
theorem dX5_come_93 : decode cX5_come 93 = .ok (.iadd, 1) := by decide +kernel
theorem dX5_come_94 : decode cX5_come 94 = .ok (.iconst 1, 1) := by decide +kernel
theorem dX5_come_95 : decode cX5_come 95 = .ok (.isub, 1) := by decide +kernel
theorem dX5_come_96 : decode cX5_come 96 = .ok (.iaload, 1) := by decide +kernel
theorem dX5_come_97 : decode cX5_come 97 = .ok (.iastore, 1) := by decide +kernel
theorem dX5_come_98 : decode cX5_come 98 = .ok (.aload_n 0, 1) := by decide +kernel
theorem dX5_come_99 : decode cX5_come 99 = .ok (.getfield 44, 3) := by decide +kernel
theorem dX5_come_102 : decode cX5_come 102 = .ok (.sipush 200, 3) := by decide +kernel
theorem dX5_come_105 : decode cX5_come 105 = .ok (.iload_n 1, 1) := by decide +kernel
theorem dX5_come_106 : decode cX5_come 106 = .ok (.imul, 1) := by decide +kernel
theorem dX5_come_107 : decode cX5_come 107 = .ok (.iload 6, 2) := by decide +kernel
theorem dX5_come_109 : decode cX5_come 109 = .ok (.iadd, 1) := by decide +kernel
theorem dX5_come_110 : decode cX5_come 110 = .ok (.aload_n 0, 1) := by decide +kernel
theorem dX5_come_111 : decode cX5_come 111 = .ok (.getfield 44, 3) := by decide +kernel
theorem dX5_come_114 : decode cX5_come 114 = .ok (.sipush 200, 3) := by decide +kernel
theorem dX5_come_117 : decode cX5_come 117 = .ok (.iload_n 1, 1) := by decide +kernel
theorem dX5_come_118 : decode cX5_come 118 = .ok (.imul, 1) := by decide +kernel
theorem dX5_come_119 : decode cX5_come 119 = .ok (.iload 6, 2) := by decide +kernel
theorem dX5_come_121 : decode cX5_come 121 = .ok (.iadd, 1) := by decide +kernel
theorem dX5_come_122 : decode cX5_come 122 = .ok (.iconst 1, 1) := by decide +kernel
theorem dX5_come_123 : decode cX5_come 123 = .ok (.isub, 1) := by decide +kernel
theorem dX5_come_124 : decode cX5_come 124 = .ok (.laload, 1) := by decide +kernel
theorem dX5_come_125 : decode cX5_come 125 = .ok (.lastore, 1) := by decide +kernel
theorem dX5_come_126 : decode cX5_come 126 = .ok (.iinc 6 (-1), 3) := by decide +kernel
theorem dX5_come_129 : decode cX5_come 129 = .ok (.goto (-66), 3) := by decide +kernel
theorem dX5_come_132 : decode cX5_come 132 = .ok (.aload_n 0, 1) := by decide +kernel
theorem dX5_come_133 : decode cX5_come 133 = .ok (.getfield 41, 3) := by decide +kernel
theorem dX5_come_136 : decode cX5_come 136 = .ok (.sipush 200, 3) := by decide +kernel
theorem dX5_come_139 : decode cX5_come 139 = .ok (.iload_n 1, 1) := by decide +kernel
theorem dX5_come_140 : decode cX5_come 140 = .ok (.imul, 1) := by decide +kernel
theorem dX5_come_141 : decode cX5_come 141 = .ok (.iload 5, 2) := by decide +kernel
theorem dX5_come_143 : decode cX5_come 143 = .ok (.iadd, 1) := by decide +kernel
theorem dX5_come_144 : decode cX5_come 144 = .ok (.iload_n 2, 1) := by decide +kernel
theorem dX5_come_145 : decode cX5_come 145 = .ok (.iastore, 1) := by decide +kernel
theorem dX5_come_146 : decode cX5_come 146 = .ok (.aload_n 0, 1) := by decide +kernel
theorem dX5_come_147 : decode cX5_come 147 = .ok (.getfield 44, 3) := by decide +kernel
theorem dX5_come_150 : decode cX5_come 150 = .ok (.sipush 200, 3) := by decide +kernel
theorem dX5_come_153 : decode cX5_come 153 = .ok (.iload_n 1, 1) := by decide +kernel
theorem dX5_come_154 : decode cX5_come 154 = .ok (.imul, 1) := by decide +kernel
theorem dX5_come_155 : decode cX5_come 155 = .ok (.iload 5, 2) := by decide +kernel
theorem dX5_come_157 : decode cX5_come 157 = .ok (.iadd, 1) := by decide +kernel
theorem dX5_come_158 : decode cX5_come 158 = .ok (.lload_n 3, 1) := by decide +kernel
theorem dX5_come_159 : decode cX5_come 159 = .ok (.lastore, 1) := by decide +kernel
theorem dX5_come_160 : decode cX5_come 160 = .ok (.aload_n 0, 1) := by decide +kernel
theorem dX5_come_161 : decode cX5_come 161 = .ok (.getfield 32, 3) := by decide +kernel
theorem dX5_come_164 : decode cX5_come 164 = .ok (.iload_n 1, 1) := by decide +kernel
theorem dX5_come_165 : decode cX5_come 165 = .ok (.dup2, 1) := by decide +kernel
theorem dX5_come_166 : decode cX5_come 166 = .ok (.iaload, 1) := by decide +kernel
theorem dX5_come_167 : decode cX5_come 167 = .ok (.iconst 1, 1) := by decide +kernel
theorem dX5_come_168 : decode cX5_come 168 = .ok (.iadd, 1) := by decide +kernel
theorem dX5_come_169 : decode cX5_come 169 = .ok (.iastore, 1) := by decide +kernel
theorem dX5_come_170 : decode cX5_come 170 = .ok (.return_, 1) := by decide +kernel
theorem dX5_cut_0 : decode cX5_cut 0 = .ok (.iload_n 1, 1) := by decide +kernel
theorem dX5_cut_1 : decode cX5_cut 1 = .ok (.istore_n 3, 1) := by decide +kernel
theorem dX5_cut_2 : decode cX5_cut 2 = .ok (.iconst 0, 1) := by decide +kernel
theorem dX5_cut_3 : decode cX5_cut 3 = .ok (.istore 4, 2) := by decide +kernel
theorem dX5_cut_5 : decode cX5_cut 5 = .ok (.iload 4, 2) := by decide +kernel
theorem dX5_cut_7 : decode cX5_cut 7 = .ok (.bipush 6, 2) := by decide +kernel
theorem dX5_cut_9 : decode cX5_cut 9 = .ok (.if_icmp .ge 36, 3) := by decide +kernel
theorem dX5_cut_12 : decode cX5_cut 12 = .ok (.aload_n 0, 1) := by decide +kernel
theorem dX5_cut_13 : decode cX5_cut 13 = .ok (.getfield 48, 3) := by decide +kernel
theorem dX5_cut_16 : decode cX5_cut 16 = .ok (.iload_n 2, 1) := by decide +kernel
theorem dX5_cut_17 : decode cX5_cut 17 = .ok (.iaload, 1) := by decide +kernel
theorem dX5_cut_18 : decode cX5_cut 18 = .ok (.iload 4, 2) := by decide +kernel
theorem dX5_cut_20 : decode cX5_cut 20 = .ok (.ishr, 1) := by decide +kernel
theorem dX5_cut_21 : decode cX5_cut 21 = .ok (.iconst 1, 1) := by decide +kernel
theorem dX5_cut_22 : decode cX5_cut 22 = .ok (.iand, 1) := by decide +kernel
theorem dX5_cut_23 : decode cX5_cut 23 = .ok (.iconst 1, 1) := by decide +kernel
theorem dX5_cut_24 : decode cX5_cut 24 = .ok (.if_icmp .ne 7, 3) := by decide +kernel
theorem dX5_cut_27 : decode cX5_cut 27 = .ok (.iload_n 3, 1) := by decide +kernel
theorem dX5_cut_28 : decode cX5_cut 28 = .ok (.goto 10, 3) := by decide +kernel
theorem dX5_cut_31 : decode cX5_cut 31 = .ok (.iload_n 3, 1) := by decide +kernel
theorem dX5_cut_32 : decode cX5_cut 32 = .ok (.iload 4, 2) := by decide +kernel
theorem dX5_cut_34 : decode cX5_cut 34 = .ok (.iconst 0, 1) := by decide +kernel
theorem dX5_cut_35 : decode cX5_cut 35 = .ok (.invokestatic 125, 3) := by decide +kernel
theorem dX5_cut_38 : decode cX5_cut 38 = .ok (.istore_n 3, 1) := by decide +kernel
theorem dX5_cut_39 : decode cX5_cut 39 = .ok (.iinc 4 1, 3) := by decide +kernel
theorem dX5_cut_42 : decode cX5_cut 42 = .ok (.goto (-37), 3) := by decide +kernel
theorem dX5_cut_45 : decode cX5_cut 45 = .ok (.iload_n 3, 1) := by decide +kernel
theorem dX5_cut_46 : decode cX5_cut 46 = .ok (.ireturn, 1) := by decide +kernel
theorem dX5_least_0 : decode cX5_least 0 = .ok (.iconst 0, 1) := by decide +kernel
theorem dX5_least_1 : decode cX5_least 1 = .ok (.istore_n 1, 1) := by decide +kernel
theorem dX5_least_2 : decode cX5_least 2 = .ok (.iload_n 1, 1) := by decide +kernel
theorem dX5_least_3 : decode cX5_least 3 = .ok (.aload_n 0, 1) := by decide +kernel
theorem dX5_least_4 : decode cX5_least 4 = .ok (.getfield 73, 3) := by decide +kernel
theorem dX5_least_7 : decode cX5_least 7 = .ok (.if_icmp .ge 20, 3) := by decide +kernel
theorem dX5_least_10 : decode cX5_least 10 = .ok (.aload_n 0, 1) := by decide +kernel
theorem dX5_least_11 : decode cX5_least 11 = .ok (.getfield 32, 3) := by decide +kernel
theorem dX5_least_14 : decode cX5_least 14 = .ok (.iload_n 1, 1) := by decide +kernel
theorem dX5_least_15 : decode cX5_least 15 = .ok (.iaload, 1) := by decide +kernel
theorem dX5_least_16 : decode cX5_least 16 = .ok (.ifCond .le 5, 3) := by decide +kernel
theorem dX5_least_19 : decode cX5_least 19 = .ok (.iload_n 1, 1) := by decide +kernel
theorem dX5_least_20 : decode cX5_least 20 = .ok (.ireturn, 1) := by decide +kernel
theorem dX5_least_21 : decode cX5_least 21 = .ok (.iinc 1 1, 3) := by decide +kernel
theorem dX5_least_24 : decode cX5_least 24 = .ok (.goto (-22), 3) := by decide +kernel
theorem dX5_least_27 : decode cX5_least 27 = .ok (.bipush (-5), 2) := by decide +kernel
theorem dX5_least_29 : decode cX5_least 29 = .ok (.ireturn, 1) := by decide +kernel
theorem dX5_isRoom_0 : decode cX5_isRoom 0 = .ok (.aload_n 0, 1) := by decide +kernel
theorem dX5_isRoom_1 : decode cX5_isRoom 1 = .ok (.iload_n 1, 1) := by decide +kernel
theorem dX5_isRoom_2 : decode cX5_isRoom 2 = .ok (.aload_n 0, 1) := by decide +kernel
theorem dX5_isRoom_3 : decode cX5_isRoom 3 = .ok (.getfield 41, 3) := by decide +kernel
theorem dX5_isRoom_6 : decode cX5_isRoom 6 = .ok (.sipush 200, 3) := by decide +kernel
theorem dX5_isRoom_9 : decode cX5_isRoom 9 = .ok (.iload_n 1, 1) := by decide +kernel
theorem dX5_isRoom_10 : decode cX5_isRoom 10 = .ok (.imul, 1) := by decide +kernel
theorem dX5_isRoom_11 : decode cX5_isRoom 11 = .ok (.iaload, 1) := by decide +kernel
theorem dX5_isRoom_12 : decode cX5_isRoom 12 = .ok (.aload_n 0, 1) := by decide +kernel
theorem dX5_isRoom_13 : decode cX5_isRoom 13 = .ok (.getfield 44, 3) := by decide +kernel
theorem dX5_isRoom_16 : decode cX5_isRoom 16 = .ok (.sipush 200, 3) := by decide +kernel
theorem dX5_isRoom_19 : decode cX5_isRoom 19 = .ok (.iload_n 1, 1) := by decide +kernel
theorem dX5_isRoom_20 : decode cX5_isRoom 20 = .ok (.imul, 1) := by decide +kernel
theorem dX5_isRoom_21 : decode cX5_isRoom 21 = .ok (.laload, 1) := by decide +kernel
theorem dX5_isRoom_22 : decode cX5_isRoom 22 = .ok (.invokevirtual 165, 3) := by decide +kernel
theorem dX5_isRoom_25 : decode cX5_isRoom 25 = .ok (.iconst 0, 1) := by decide +kernel
theorem dX5_isRoom_26 : decode cX5_isRoom 26 = .ok (.istore_n 2, 1) := by decide +kernel
theorem dX5_isRoom_27 : decode cX5_isRoom 27 = .ok (.iconst 0, 1) := by decide +kernel
theorem dX5_isRoom_28 : decode cX5_isRoom 28 = .ok (.istore_n 3, 1) := by decide +kernel
theorem dX5_isRoom_29 : decode cX5_isRoom 29 = .ok (.iload_n 3, 1) := by decide +kernel
theorem dX5_isRoom_30 : decode cX5_isRoom 30 = .ok (.aload_n 0, 1) := by decide +kernel
theorem dX5_isRoom_31 : decode cX5_isRoom 31 = .ok (.getfield 112, 3) := by decide +kernel
theorem dX5_isRoom_34 : decode cX5_isRoom 34 = .ok (.if_icmp .ge 109, 3) := by decide +kernel
theorem dX5_isRoom_37 : decode cX5_isRoom 37 = .ok (.aload_n 0, 1) := by decide +kernel
theorem dX5_isRoom_38 : decode cX5_isRoom 38 = .ok (.getfield 51, 3) := by decide +kernel
theorem dX5_isRoom_41 : decode cX5_isRoom 41 = .ok (.iload_n 3, 1) := by decide +kernel
theorem dX5_isRoom_42 : decode cX5_isRoom 42 = .ok (.aload_n 0, 1) := by decide +kernel
theorem dX5_isRoom_43 : decode cX5_isRoom 43 = .ok (.aload_n 0, 1) := by decide +kernel
theorem dX5_isRoom_44 : decode cX5_isRoom 44 = .ok (.getfield 51, 3) := by decide +kernel
theorem dX5_isRoom_47 : decode cX5_isRoom 47 = .ok (.iload_n 3, 1) := by decide +kernel
theorem dX5_isRoom_48 : decode cX5_isRoom 48 = .ok (.iaload, 1) := by decide +kernel
theorem dX5_isRoom_49 : decode cX5_isRoom 49 = .ok (.aload_n 0, 1) := by decide +kernel
theorem dX5_isRoom_50 : decode cX5_isRoom 50 = .ok (.getfield 115, 3) := by decide +kernel
theorem dX5_isRoom_53 : decode cX5_isRoom 53 = .ok (.invokevirtual 168, 3) := by decide +kernel
theorem dX5_isRoom_56 : decode cX5_isRoom 56 = .ok (.iastore, 1) := by decide +kernel
theorem dX5_isRoom_57 : decode cX5_isRoom 57 = .ok (.aload_n 0, 1) := by decide +kernel
theorem dX5_isRoom_58 : decode cX5_isRoom 58 = .ok (.aload_n 0, 1) := by decide +kernel
theorem dX5_isRoom_59 : decode cX5_isRoom 59 = .ok (.getfield 115, 3) := by decide +kernel
theorem dX5_isRoom_62 : decode cX5_isRoom 62 = .ok (.aload_n 0, 1) := by decide +kernel
theorem dX5_isRoom_63 : decode cX5_isRoom 63 = .ok (.getfield 51, 3) := by decide +kernel
theorem dX5_isRoom_66 : decode cX5_isRoom 66 = .ok (.iload_n 3, 1) := by decide +kernel
theorem dX5_isRoom_67 : decode cX5_isRoom 67 = .ok (.iaload, 1) := by decide +kernel
theorem dX5_isRoom_68 : decode cX5_isRoom 68 = .ok (.invokevirtual 161, 3) := by decide +kernel
theorem dX5_isRoom_71 : decode cX5_isRoom 71 = .ok (.ifCond .ne 7, 3) := by decide +kernel
theorem dX5_isRoom_74 : decode cX5_isRoom 74 = .ok (.iconst 1, 1) := by decide +kernel
theorem dX5_isRoom_75 : decode cX5_isRoom 75 = .ok (.goto 4, 3) := by decide +kernel
theorem dX5_isRoom_78 : decode cX5_isRoom 78 = .ok (.iconst 0, 1) := by decide +kernel
theorem dX5_isRoom_79 : decode cX5_isRoom 79 = .ok (.istore 4, 2) := by decide +kernel
theorem dX5_isRoom_81 : decode cX5_isRoom 81 = .ok (.iconst 0, 1) := by decide +kernel
theorem dX5_isRoom_82 : decode cX5_isRoom 82 = .ok (.istore 5, 2) := by decide +kernel
theorem dX5_isRoom_84 : decode cX5_isRoom 84 = .ok (.iload 5, 2) := by decide +kernel
theorem dX5_isRoom_86 : decode cX5_isRoom 86 = .ok (.iload_n 3, 1) := by decide +kernel
theorem dX5_isRoom_87 : decode cX5_isRoom 87 = .ok (.if_icmp .ge 37, 3) := by decide +kernel
theorem dX5_isRoom_90 : decode cX5_isRoom 90 = .ok (.iload 4, 2) := by decide +kernel
theorem dX5_isRoom_92 : decode cX5_isRoom 92 = .ok (.ifCond .eq 23, 3) := by decide +kernel
theorem dX5_isRoom_95 : decode cX5_isRoom 95 = .ok (.aload_n 0, 1) := by decide +kernel
theorem dX5_isRoom_96 : decode cX5_isRoom 96 = .ok (.getfield 51, 3) := by decide +kernel
theorem dX5_isRoom_99 : decode cX5_isRoom 99 = .ok (.iload 5, 2) := by decide +kernel
theorem dX5_isRoom_101 : decode cX5_isRoom 101 = .ok (.iaload, 1) := by decide +kernel
theorem dX5_isRoom_102 : decode cX5_isRoom 102 = .ok (.aload_n 0, 1) := by decide +kernel
theorem dX5_isRoom_103 : decode cX5_isRoom 103 = .ok (.getfield 51, 3) := by decide +kernel
theorem dX5_isRoom_106 : decode cX5_isRoom 106 = .ok (.iload_n 3, 1) := by decide +kernel
theorem dX5_isRoom_107 : decode cX5_isRoom 107 = .ok (.iaload, 1) := by decide +kernel
theorem dX5_isRoom_108 : decode cX5_isRoom 108 = .ok (.if_icmp .eq 7, 3) := by decide +kernel
theorem dX5_isRoom_111 : decode cX5_isRoom 111 = .ok (.iconst 1, 1) := by decide +kernel
theorem dX5_isRoom_112 : decode cX5_isRoom 112 = .ok (.goto 4, 3) := by decide +kernel
theorem dX5_isRoom_115 : decode cX5_isRoom 115 = .ok (.iconst 0, 1) := by decide +kernel
theorem dX5_isRoom_116 : decode cX5_isRoom 116 = .ok (.istore 4, 2) := by decide +kernel
theorem dX5_isRoom_118 : decode cX5_isRoom 118 = .ok (.iinc 5 1, 3) := by decide +kernel
theorem dX5_isRoom_121 : decode cX5_isRoom 121 = .ok (.goto (-37), 3) := by decide +kernel
theorem dX5_isRoom_124 : decode cX5_isRoom 124 = .ok (.iload_n 2, 1) := by decide +kernel
theorem dX5_isRoom_125 : decode cX5_isRoom 125 = .ok (.iload 4, 2) := by decide +kernel
theorem dX5_isRoom_127 : decode cX5_isRoom 127 = .ok (.ifCond .eq 7, 3) := by decide +kernel
theorem dX5_isRoom_130 : decode cX5_isRoom 130 = .ok (.iconst 1, 1) := by decide +kernel
theorem dX5_isRoom_131 : decode cX5_isRoom 131 = .ok (.goto 4, 3) := by decide +kernel
theorem dX5_isRoom_134 : decode cX5_isRoom 134 = .ok (.iconst 0, 1) := by decide +kernel
theorem dX5_isRoom_135 : decode cX5_isRoom 135 = .ok (.iadd, 1) := by decide +kernel
theorem dX5_isRoom_136 : decode cX5_isRoom 136 = .ok (.istore_n 2, 1) := by decide +kernel
theorem dX5_isRoom_137 : decode cX5_isRoom 137 = .ok (.iinc 3 1, 3) := by decide +kernel
theorem dX5_isRoom_140 : decode cX5_isRoom 140 = .ok (.goto (-111), 3) := by decide +kernel
theorem dX5_isRoom_143 : decode cX5_isRoom 143 = .ok (.aload_n 0, 1) := by decide +kernel
theorem dX5_isRoom_144 : decode cX5_isRoom 144 = .ok (.getfield 32, 3) := by decide +kernel
theorem dX5_isRoom_147 : decode cX5_isRoom 147 = .ok (.aload_n 0, 1) := by decide +kernel
theorem dX5_isRoom_148 : decode cX5_isRoom 148 = .ok (.getfield 115, 3) := by decide +kernel
theorem dX5_isRoom_151 : decode cX5_isRoom 151 = .ok (.iaload, 1) := by decide +kernel
theorem dX5_isRoom_152 : decode cX5_isRoom 152 = .ok (.iload_n 2, 1) := by decide +kernel
theorem dX5_isRoom_153 : decode cX5_isRoom 153 = .ok (.iadd, 1) := by decide +kernel
theorem dX5_isRoom_154 : decode cX5_isRoom 154 = .ok (.sipush 200, 3) := by decide +kernel
theorem dX5_isRoom_157 : decode cX5_isRoom 157 = .ok (.if_icmp .gt 7, 3) := by decide +kernel
theorem dX5_isRoom_160 : decode cX5_isRoom 160 = .ok (.iconst 1, 1) := by decide +kernel
theorem dX5_isRoom_161 : decode cX5_isRoom 161 = .ok (.goto 4, 3) := by decide +kernel
theorem dX5_isRoom_164 : decode cX5_isRoom 164 = .ok (.iconst 0, 1) := by decide +kernel
theorem dX5_isRoom_165 : decode cX5_isRoom 165 = .ok (.ireturn, 1) := by decide +kernel
theorem dX5_list_0 : decode cX5_list 0 = .ok (.aload_n 0, 1) := by decide +kernel
theorem dX5_list_1 : decode cX5_list 1 = .ok (.iconst 0, 1) := by decide +kernel
theorem dX5_list_2 : decode cX5_list 2 = .ok (.putfield 69, 3) := by decide +kernel
theorem dX5_list_5 : decode cX5_list 5 = .ok (.iload_n 1, 1) := by decide +kernel
theorem dX5_list_6 : decode cX5_list 6 = .ok (.iconst 1, 1) := by decide +kernel
theorem dX5_list_7 : decode cX5_list 7 = .ok (.sipush 1000, 3) := by decide +kernel
theorem dX5_list_10 : decode cX5_list 10 = .ok (.invokestatic 86, 3) := by decide +kernel
theorem dX5_list_13 : decode cX5_list 13 = .ok (.ifCond .ne 5, 3) := by decide +kernel
theorem dX5_list_16 : decode cX5_list 16 = .ok (.iconst (-1), 1) := by decide +kernel
theorem dX5_list_17 : decode cX5_list 17 = .ok (.ireturn, 1) := by decide +kernel
theorem dX5_list_18 : decode cX5_list 18 = .ok (.aload_n 0, 1) := by decide +kernel
theorem dX5_list_19 : decode cX5_list 19 = .ok (.getfield 82, 3) := by decide +kernel
theorem dX5_list_22 : decode cX5_list 22 = .ok (.ifCond .ne 6, 3) := by decide +kernel
theorem dX5_list_25 : decode cX5_list 25 = .ok (.bipush (-3), 2) := by decide +kernel
theorem dX5_list_27 : decode cX5_list 27 = .ok (.ireturn, 1) := by decide +kernel
theorem dX5_list_28 : decode cX5_list 28 = .ok (.iconst 0, 1) := by decide +kernel
theorem dX5_list_29 : decode cX5_list 29 = .ok (.istore_n 2, 1) := by decide +kernel
theorem dX5_list_30 : decode cX5_list 30 = .ok (.aload_n 0, 1) := by decide +kernel
theorem dX5_list_31 : decode cX5_list 31 = .ok (.invokevirtual 171, 3) := by decide +kernel
theorem dX5_list_34 : decode cX5_list 34 = .ok (.istore_n 3, 1) := by decide +kernel
theorem dX5_list_35 : decode cX5_list 35 = .ok (.iload_n 2, 1) := by decide +kernel
theorem dX5_list_36 : decode cX5_list 36 = .ok (.iload_n 1, 1) := by decide +kernel
theorem dX5_list_37 : decode cX5_list 37 = .ok (.if_icmp .ge 167, 3) := by decide +kernel
theorem dX5_list_40 : decode cX5_list 40 = .ok (.iload_n 3, 1) := by decide +kernel
theorem dX5_list_41 : decode cX5_list 41 = .ok (.bipush (-5), 2) := by decide +kernel
theorem dX5_list_43 : decode cX5_list 43 = .ok (.if_icmp .eq 161, 3) := by decide +kernel
theorem dX5_list_46 : decode cX5_list 46 = .ok (.aload_n 0, 1) := by decide +kernel
theorem dX5_list_47 : decode cX5_list 47 = .ok (.iload_n 3, 1) := by decide +kernel
theorem dX5_list_48 : decode cX5_list 48 = .ok (.invokevirtual 175, 3) := by decide +kernel
theorem dX5_list_51 : decode cX5_list 51 = .ok (.ifCond .eq 153, 3) := by decide +kernel
theorem dX5_list_54 : decode cX5_list 54 = .ok (.aload_n 0, 1) := by decide +kernel
theorem dX5_list_55 : decode cX5_list 55 = .ok (.getfield 32, 3) := by decide +kernel
theorem dX5_list_58 : decode cX5_list 58 = .ok (.iload_n 3, 1) := by decide +kernel
theorem dX5_list_59 : decode cX5_list 59 = .ok (.dup2, 1) := by decide +kernel
theorem dX5_list_60 : decode cX5_list 60 = .ok (.iaload, 1) := by decide +kernel
theorem dX5_list_61 : decode cX5_list 61 = .ok (.iconst 1, 1) := by decide +kernel
theorem dX5_list_62 : decode cX5_list 62 = .ok (.isub, 1) := by decide +kernel
theorem dX5_list_63 : decode cX5_list 63 = .ok (.iastore, 1) := by decide +kernel
theorem dX5_list_64 : decode cX5_list 64 = .ok (.iconst 0, 1) := by decide +kernel
theorem dX5_list_65 : decode cX5_list 65 = .ok (.istore 4, 2) := by decide +kernel
theorem dX5_list_67 : decode cX5_list 67 = .ok (.iload 4, 2) := by decide +kernel
theorem dX5_list_69 : decode cX5_list 69 = .ok (.aload_n 0, 1) := by decide +kernel
theorem dX5_list_70 : decode cX5_list 70 = .ok (.getfield 32, 3) := by decide +kernel
theorem dX5_list_73 : decode cX5_list 73 = .ok (.iload_n 3, 1) := by decide +kernel
theorem dX5_list_74 : decode cX5_list 74 = .ok (.iaload, 1) := by decide +kernel
theorem dX5_list_75 : decode cX5_list 75 = .ok (.if_icmp .ge 65, 3) := by decide +kernel
theorem dX5_list_78 : decode cX5_list 78 = .ok (.aload_n 0, 1) := by decide +kernel
theorem dX5_list_79 : decode cX5_list 79 = .ok (.getfield 41, 3) := by decide +kernel
theorem dX5_list_82 : decode cX5_list 82 = .ok (.sipush 200, 3) := by decide +kernel
theorem dX5_list_85 : decode cX5_list 85 = .ok (.iload_n 3, 1) := by decide +kernel
theorem dX5_list_86 : decode cX5_list 86 = .ok (.imul, 1) := by decide +kernel
theorem dX5_list_87 : decode cX5_list 87 = .ok (.iload 4, 2) := by decide +kernel
theorem dX5_list_89 : decode cX5_list 89 = .ok (.iadd, 1) := by decide +kernel
theorem dX5_list_90 : decode cX5_list 90 = .ok (.aload_n 0, 1) := by decide +kernel
theorem dX5_list_91 : decode cX5_list 91 = .ok (.getfield 41, 3) := by decide +kernel
theorem dX5_list_94 : decode cX5_list 94 = .ok (.sipush 200, 3) := by decide +kernel
theorem dX5_list_97 : decode cX5_list 97 = .ok (.iload_n 3, 1) := by decide +kernel
theorem dX5_list_98 : decode cX5_list 98 = .ok (.imul, 1) := by decide +kernel
theorem dX5_list_99 : decode cX5_list 99 = .ok (.iload 4, 2) := by decide +kernel
theorem dX5_list_101 : decode cX5_list 101 = .ok (.iadd, 1) := by decide +kernel
theorem dX5_list_102 : decode cX5_list 102 = .ok (.iconst 1, 1) := by decide +kernel
theorem dX5_list_103 : decode cX5_list 103 = .ok (.iadd, 1) := by decide +kernel
theorem dX5_list_104 : decode cX5_list 104 = .ok (.iaload, 1) := by decide +kernel
theorem dX5_list_105 : decode cX5_list 105 = .ok (.iastore, 1) := by decide +kernel
theorem dX5_list_106 : decode cX5_list 106 = .ok (.aload_n 0, 1) := by decide +kernel
theorem dX5_list_107 : decode cX5_list 107 = .ok (.getfield 44, 3) := by decide +kernel
theorem dX5_list_110 : decode cX5_list 110 = .ok (.sipush 200, 3) := by decide +kernel
theorem dX5_list_113 : decode cX5_list 113 = .ok (.iload_n 3, 1) := by decide +kernel
theorem dX5_list_114 : decode cX5_list 114 = .ok (.imul, 1) := by decide +kernel
theorem dX5_list_115 : decode cX5_list 115 = .ok (.iload 4, 2) := by decide +kernel
theorem dX5_list_117 : decode cX5_list 117 = .ok (.iadd, 1) := by decide +kernel
theorem dX5_list_118 : decode cX5_list 118 = .ok (.aload_n 0, 1) := by decide +kernel
theorem dX5_list_119 : decode cX5_list 119 = .ok (.getfield 44, 3) := by decide +kernel
theorem dX5_list_122 : decode cX5_list 122 = .ok (.sipush 200, 3) := by decide +kernel
theorem dX5_list_125 : decode cX5_list 125 = .ok (.iload_n 3, 1) := by decide +kernel
theorem dX5_list_126 : decode cX5_list 126 = .ok (.imul, 1) := by decide +kernel
theorem dX5_list_127 : decode cX5_list 127 = .ok (.iload 4, 2) := by decide +kernel
theorem dX5_list_129 : decode cX5_list 129 = .ok (.iadd, 1) := by decide +kernel
theorem dX5_list_130 : decode cX5_list 130 = .ok (.iconst 1, 1) := by decide +kernel
theorem dX5_list_131 : decode cX5_list 131 = .ok (.iadd, 1) := by decide +kernel
theorem dX5_list_132 : decode cX5_list 132 = .ok (.laload, 1) := by decide +kernel
theorem dX5_list_133 : decode cX5_list 133 = .ok (.lastore, 1) := by decide +kernel
theorem dX5_list_134 : decode cX5_list 134 = .ok (.iinc 4 1, 3) := by decide +kernel
theorem dX5_list_137 : decode cX5_list 137 = .ok (.goto (-70), 3) := by decide +kernel
theorem dX5_list_140 : decode cX5_list 140 = .ok (.aload_n 0, 1) := by decide +kernel
theorem dX5_list_141 : decode cX5_list 141 = .ok (.dup, 1) := by decide +kernel
theorem dX5_list_142 : decode cX5_list 142 = .ok (.getfield 149, 3) := by decide +kernel
theorem dX5_list_145 : decode cX5_list 145 = .ok (.aload_n 0, 1) := by decide +kernel
theorem dX5_list_146 : decode cX5_list 146 = .ok (.getfield 118, 3) := by decide +kernel
theorem dX5_list_149 : decode cX5_list 149 = .ok (.ladd, 1) := by decide +kernel
theorem dX5_list_150 : decode cX5_list 150 = .ok (.putfield 149, 3) := by decide +kernel
theorem dX5_list_153 : decode cX5_list 153 = .ok (.iconst 0, 1) := by decide +kernel
theorem dX5_list_154 : decode cX5_list 154 = .ok (.istore 4, 2) := by decide +kernel
theorem dX5_list_156 : decode cX5_list 156 = .ok (.iload 4, 2) := by decide +kernel
theorem dX5_list_158 : decode cX5_list 158 = .ok (.aload_n 0, 1) := by decide +kernel
theorem dX5_list_159 : decode cX5_list 159 = .ok (.getfield 112, 3) := by decide +kernel
theorem dX5_list_162 : decode cX5_list 162 = .ok (.if_icmp .ge 31, 3) := by decide +kernel
theorem dX5_list_165 : decode cX5_list 165 = .ok (.aload_n 0, 1) := by decide +kernel
theorem dX5_list_166 : decode cX5_list 166 = .ok (.aload_n 0, 1) := by decide +kernel
theorem dX5_list_167 : decode cX5_list 167 = .ok (.getfield 115, 3) := by decide +kernel
theorem dX5_list_170 : decode cX5_list 170 = .ok (.aload_n 0, 1) := by decide +kernel
theorem dX5_list_171 : decode cX5_list 171 = .ok (.getfield 51, 3) := by decide +kernel
theorem dX5_list_174 : decode cX5_list 174 = .ok (.iload 4, 2) := by decide +kernel
theorem dX5_list_176 : decode cX5_list 176 = .ok (.iaload, 1) := by decide +kernel
theorem dX5_list_177 : decode cX5_list 177 = .ok (.aload_n 0, 1) := by decide +kernel
theorem dX5_list_178 : decode cX5_list 178 = .ok (.getfield 54, 3) := by decide +kernel
theorem dX5_list_181 : decode cX5_list 181 = .ok (.iload 4, 2) := by decide +kernel
theorem dX5_list_183 : decode cX5_list 183 = .ok (.laload, 1) := by decide +kernel
theorem dX5_list_184 : decode cX5_list 184 = .ok (.invokevirtual 154, 3) := by decide +kernel
theorem dX5_list_187 : decode cX5_list 187 = .ok (.iinc 4 1, 3) := by decide +kernel
theorem dX5_list_190 : decode cX5_list 190 = .ok (.goto (-34), 3) := by decide +kernel
theorem dX5_list_193 : decode cX5_list 193 = .ok (.iinc 2 1, 3) := by decide +kernel
theorem dX5_list_196 : decode cX5_list 196 = .ok (.aload_n 0, 1) := by decide +kernel
theorem dX5_list_197 : decode cX5_list 197 = .ok (.invokevirtual 171, 3) := by decide +kernel
theorem dX5_list_200 : decode cX5_list 200 = .ok (.istore_n 3, 1) := by decide +kernel
theorem dX5_list_201 : decode cX5_list 201 = .ok (.goto (-166), 3) := by decide +kernel
theorem dX5_list_204 : decode cX5_list 204 = .ok (.aload_n 0, 1) := by decide +kernel
theorem dX5_list_205 : decode cX5_list 205 = .ok (.dup, 1) := by decide +kernel
theorem dX5_list_206 : decode cX5_list 206 = .ok (.getfield 146, 3) := by decide +kernel
theorem dX5_list_209 : decode cX5_list 209 = .ok (.iload_n 2, 1) := by decide +kernel
theorem dX5_list_210 : decode cX5_list 210 = .ok (.iadd, 1) := by decide +kernel
theorem dX5_list_211 : decode cX5_list 211 = .ok (.putfield 146, 3) := by decide +kernel
theorem dX5_list_214 : decode cX5_list 214 = .ok (.iload_n 2, 1) := by decide +kernel
theorem dX5_list_215 : decode cX5_list 215 = .ok (.ireturn, 1) := by decide +kernel
theorem dX5_done_0 : decode cX5_done 0 = .ok (.aload_n 0, 1) := by decide +kernel
theorem dX5_done_1 : decode cX5_done 1 = .ok (.iconst 0, 1) := by decide +kernel
theorem dX5_done_2 : decode cX5_done 2 = .ok (.putfield 69, 3) := by decide +kernel
theorem dX5_done_5 : decode cX5_done 5 = .ok (.aload_n 0, 1) := by decide +kernel
theorem dX5_done_6 : decode cX5_done 6 = .ok (.getfield 82, 3) := by decide +kernel
theorem dX5_done_9 : decode cX5_done 9 = .ok (.ifCond .ne 6, 3) := by decide +kernel
theorem dX5_done_12 : decode cX5_done 12 = .ok (.bipush (-3), 2) := by decide +kernel
theorem dX5_done_14 : decode cX5_done 14 = .ok (.ireturn, 1) := by decide +kernel
theorem dX5_done_15 : decode cX5_done 15 = .ok (.aload_n 0, 1) := by decide +kernel
theorem dX5_done_16 : decode cX5_done 16 = .ok (.invokevirtual 171, 3) := by decide +kernel
theorem dX5_done_19 : decode cX5_done 19 = .ok (.istore_n 1, 1) := by decide +kernel
theorem dX5_done_20 : decode cX5_done 20 = .ok (.iload_n 1, 1) := by decide +kernel
theorem dX5_done_21 : decode cX5_done 21 = .ok (.bipush (-5), 2) := by decide +kernel
theorem dX5_done_23 : decode cX5_done 23 = .ok (.if_icmp .ne 7, 3) := by decide +kernel
theorem dX5_done_26 : decode cX5_done 26 = .ok (.iconst 1, 1) := by decide +kernel
theorem dX5_done_27 : decode cX5_done 27 = .ok (.goto 16, 3) := by decide +kernel
theorem dX5_done_30 : decode cX5_done 30 = .ok (.aload_n 0, 1) := by decide +kernel
theorem dX5_done_31 : decode cX5_done 31 = .ok (.iload_n 1, 1) := by decide +kernel
theorem dX5_done_32 : decode cX5_done 32 = .ok (.invokevirtual 175, 3) := by decide +kernel
theorem dX5_done_35 : decode cX5_done 35 = .ok (.ifCond .eq 7, 3) := by decide +kernel
theorem dX5_done_38 : decode cX5_done 38 = .ok (.iconst 0, 1) := by decide +kernel
theorem dX5_done_39 : decode cX5_done 39 = .ok (.goto 4, 3) := by decide +kernel
theorem dX5_done_42 : decode cX5_done 42 = .ok (.iconst 2, 1) := by decide +kernel
theorem dX5_done_43 : decode cX5_done 43 = .ok (.ireturn, 1) := by decide +kernel
theorem dX5_states_0 : decode cX5_states 0 = .ok (.aload_n 0, 1) := by decide +kernel
theorem dX5_states_1 : decode cX5_states 1 = .ok (.iconst 0, 1) := by decide +kernel
theorem dX5_states_2 : decode cX5_states 2 = .ok (.putfield 69, 3) := by decide +kernel
theorem dX5_states_5 : decode cX5_states 5 = .ok (.iload_n 1, 1) := by decide +kernel
theorem dX5_states_6 : decode cX5_states 6 = .ok (.iconst 0, 1) := by decide +kernel
theorem dX5_states_7 : decode cX5_states 7 = .ok (.aload_n 0, 1) := by decide +kernel
theorem dX5_states_8 : decode cX5_states 8 = .ok (.getfield 73, 3) := by decide +kernel
theorem dX5_states_11 : decode cX5_states 11 = .ok (.invokestatic 86, 3) := by decide +kernel
theorem dX5_states_14 : decode cX5_states 14 = .ok (.ifCond .eq 12, 3) := by decide +kernel
theorem dX5_states_17 : decode cX5_states 17 = .ok (.iload_n 2, 1) := by decide +kernel
theorem dX5_states_18 : decode cX5_states 18 = .ok (.iconst 0, 1) := by decide +kernel
theorem dX5_states_19 : decode cX5_states 19 = .ok (.iconst 2, 1) := by decide +kernel
theorem dX5_states_20 : decode cX5_states 20 = .ok (.invokestatic 86, 3) := by decide +kernel
theorem dX5_states_23 : decode cX5_states 23 = .ok (.ifCond .ne 5, 3) := by decide +kernel
theorem dX5_states_26 : decode cX5_states 26 = .ok (.iconst (-1), 1) := by decide +kernel
theorem dX5_states_27 : decode cX5_states 27 = .ok (.ireturn, 1) := by decide +kernel
theorem dX5_states_28 : decode cX5_states 28 = .ok (.aload_n 0, 1) := by decide +kernel
theorem dX5_states_29 : decode cX5_states 29 = .ok (.getfield 82, 3) := by decide +kernel
theorem dX5_states_32 : decode cX5_states 32 = .ok (.ifCond .ne 8, 3) := by decide +kernel
theorem dX5_states_35 : decode cX5_states 35 = .ok (.bipush (-3), 2) := by decide +kernel
theorem dX5_states_37 : decode cX5_states 37 = .ok (.goto 36, 3) := by decide +kernel
theorem dX5_states_40 : decode cX5_states 40 = .ok (.iload_n 2, 1) := by decide +kernel
theorem dX5_states_41 : decode cX5_states 41 = .ok (.ifCond .ne 12, 3) := by decide +kernel
theorem dX5_states_44 : decode cX5_states 44 = .ok (.aload_n 0, 1) := by decide +kernel
theorem dX5_states_45 : decode cX5_states 45 = .ok (.getfield 32, 3) := by decide +kernel
theorem dX5_states_48 : decode cX5_states 48 = .ok (.iload_n 1, 1) := by decide +kernel
theorem dX5_states_49 : decode cX5_states 49 = .ok (.iaload, 1) := by decide +kernel
theorem dX5_states_50 : decode cX5_states 50 = .ok (.goto 23, 3) := by decide +kernel
theorem dX5_states_53 : decode cX5_states 53 = .ok (.iload_n 2, 1) := by decide +kernel
theorem dX5_states_54 : decode cX5_states 54 = .ok (.iconst 1, 1) := by decide +kernel
theorem dX5_states_55 : decode cX5_states 55 = .ok (.if_icmp .ne 12, 3) := by decide +kernel
theorem dX5_states_58 : decode cX5_states 58 = .ok (.aload_n 0, 1) := by decide +kernel
theorem dX5_states_59 : decode cX5_states 59 = .ok (.getfield 35, 3) := by decide +kernel
theorem dX5_states_62 : decode cX5_states 62 = .ok (.iload_n 1, 1) := by decide +kernel
theorem dX5_states_63 : decode cX5_states 63 = .ok (.iaload, 1) := by decide +kernel
theorem dX5_states_64 : decode cX5_states 64 = .ok (.goto 9, 3) := by decide +kernel
theorem dX5_states_67 : decode cX5_states 67 = .ok (.aload_n 0, 1) := by decide +kernel
theorem dX5_states_68 : decode cX5_states 68 = .ok (.getfield 38, 3) := by decide +kernel
theorem dX5_states_71 : decode cX5_states 71 = .ok (.iload_n 1, 1) := by decide +kernel
theorem dX5_states_72 : decode cX5_states 72 = .ok (.iaload, 1) := by decide +kernel
theorem dX5_states_73 : decode cX5_states 73 = .ok (.ireturn, 1) := by decide +kernel
theorem dX5_code_0 : decode cX5_code 0 = .ok (.aload_n 0, 1) := by decide +kernel
theorem dX5_code_1 : decode cX5_code 1 = .ok (.iconst 0, 1) := by decide +kernel
theorem dX5_code_2 : decode cX5_code 2 = .ok (.putfield 69, 3) := by decide +kernel
theorem dX5_code_5 : decode cX5_code 5 = .ok (.iload_n 1, 1) := by decide +kernel
theorem dX5_code_6 : decode cX5_code 6 = .ok (.iconst 0, 1) := by decide +kernel
theorem dX5_code_7 : decode cX5_code 7 = .ok (.aload_n 0, 1) := by decide +kernel
theorem dX5_code_8 : decode cX5_code 8 = .ok (.getfield 73, 3) := by decide +kernel
theorem dX5_code_11 : decode cX5_code 11 = .ok (.invokestatic 86, 3) := by decide +kernel
theorem dX5_code_14 : decode cX5_code 14 = .ok (.ifCond .ne 5, 3) := by decide +kernel
theorem dX5_code_17 : decode cX5_code 17 = .ok (.iconst (-1), 1) := by decide +kernel
theorem dX5_code_18 : decode cX5_code 18 = .ok (.ireturn, 1) := by decide +kernel
theorem dX5_code_19 : decode cX5_code 19 = .ok (.aload_n 0, 1) := by decide +kernel
theorem dX5_code_20 : decode cX5_code 20 = .ok (.getfield 82, 3) := by decide +kernel
theorem dX5_code_23 : decode cX5_code 23 = .ok (.ifCond .ne 8, 3) := by decide +kernel
theorem dX5_code_26 : decode cX5_code 26 = .ok (.bipush (-3), 2) := by decide +kernel
theorem dX5_code_28 : decode cX5_code 28 = .ok (.goto 36, 3) := by decide +kernel
theorem dX5_code_31 : decode cX5_code 31 = .ok (.iload_n 2, 1) := by decide +kernel
theorem dX5_code_32 : decode cX5_code 32 = .ok (.iconst 0, 1) := by decide +kernel
theorem dX5_code_33 : decode cX5_code 33 = .ok (.aload_n 0, 1) := by decide +kernel
theorem dX5_code_34 : decode cX5_code 34 = .ok (.getfield 32, 3) := by decide +kernel
theorem dX5_code_37 : decode cX5_code 37 = .ok (.iload_n 1, 1) := by decide +kernel
theorem dX5_code_38 : decode cX5_code 38 = .ok (.iaload, 1) := by decide +kernel
theorem dX5_code_39 : decode cX5_code 39 = .ok (.iconst 1, 1) := by decide +kernel
theorem dX5_code_40 : decode cX5_code 40 = .ok (.isub, 1) := by decide +kernel
theorem dX5_code_41 : decode cX5_code 41 = .ok (.invokestatic 86, 3) := by decide +kernel
theorem dX5_code_44 : decode cX5_code 44 = .ok (.ifCond .eq 18, 3) := by decide +kernel
theorem dX5_code_47 : decode cX5_code 47 = .ok (.aload_n 0, 1) := by decide +kernel
theorem dX5_code_48 : decode cX5_code 48 = .ok (.getfield 41, 3) := by decide +kernel
theorem dX5_code_51 : decode cX5_code 51 = .ok (.sipush 200, 3) := by decide +kernel
theorem dX5_code_54 : decode cX5_code 54 = .ok (.iload_n 1, 1) := by decide +kernel
theorem dX5_code_55 : decode cX5_code 55 = .ok (.imul, 1) := by decide +kernel
theorem dX5_code_56 : decode cX5_code 56 = .ok (.iload_n 2, 1) := by decide +kernel
theorem dX5_code_57 : decode cX5_code 57 = .ok (.iadd, 1) := by decide +kernel
theorem dX5_code_58 : decode cX5_code 58 = .ok (.iaload, 1) := by decide +kernel
theorem dX5_code_59 : decode cX5_code 59 = .ok (.goto 5, 3) := by decide +kernel
theorem dX5_code_62 : decode cX5_code 62 = .ok (.bipush (-5), 2) := by decide +kernel
theorem dX5_code_64 : decode cX5_code 64 = .ok (.ireturn, 1) := by decide +kernel
theorem dX5_mass_0 : decode cX5_mass 0 = .ok (.aload_n 0, 1) := by decide +kernel
theorem dX5_mass_1 : decode cX5_mass 1 = .ok (.iconst 0, 1) := by decide +kernel
theorem dX5_mass_2 : decode cX5_mass 2 = .ok (.putfield 69, 3) := by decide +kernel
theorem dX5_mass_5 : decode cX5_mass 5 = .ok (.aload_n 0, 1) := by decide +kernel
theorem dX5_mass_6 : decode cX5_mass 6 = .ok (.getfield 82, 3) := by decide +kernel
theorem dX5_mass_9 : decode cX5_mass 9 = .ok (.ifCond .eq 46, 3) := by decide +kernel
theorem dX5_mass_12 : decode cX5_mass 12 = .ok (.iload_n 1, 1) := by decide +kernel
theorem dX5_mass_13 : decode cX5_mass 13 = .ok (.iconst 0, 1) := by decide +kernel
theorem dX5_mass_14 : decode cX5_mass 14 = .ok (.aload_n 0, 1) := by decide +kernel
theorem dX5_mass_15 : decode cX5_mass 15 = .ok (.getfield 73, 3) := by decide +kernel
theorem dX5_mass_18 : decode cX5_mass 18 = .ok (.invokestatic 86, 3) := by decide +kernel
theorem dX5_mass_21 : decode cX5_mass 21 = .ok (.ifCond .eq 34, 3) := by decide +kernel
theorem dX5_mass_24 : decode cX5_mass 24 = .ok (.iload_n 2, 1) := by decide +kernel
theorem dX5_mass_25 : decode cX5_mass 25 = .ok (.iconst 0, 1) := by decide +kernel
theorem dX5_mass_26 : decode cX5_mass 26 = .ok (.aload_n 0, 1) := by decide +kernel
theorem dX5_mass_27 : decode cX5_mass 27 = .ok (.getfield 32, 3) := by decide +kernel
theorem dX5_mass_30 : decode cX5_mass 30 = .ok (.iload_n 1, 1) := by decide +kernel
theorem dX5_mass_31 : decode cX5_mass 31 = .ok (.iaload, 1) := by decide +kernel
theorem dX5_mass_32 : decode cX5_mass 32 = .ok (.iconst 1, 1) := by decide +kernel
theorem dX5_mass_33 : decode cX5_mass 33 = .ok (.isub, 1) := by decide +kernel
theorem dX5_mass_34 : decode cX5_mass 34 = .ok (.invokestatic 86, 3) := by decide +kernel
theorem dX5_mass_37 : decode cX5_mass 37 = .ok (.ifCond .eq 18, 3) := by decide +kernel
theorem dX5_mass_40 : decode cX5_mass 40 = .ok (.aload_n 0, 1) := by decide +kernel
theorem dX5_mass_41 : decode cX5_mass 41 = .ok (.getfield 44, 3) := by decide +kernel
theorem dX5_mass_44 : decode cX5_mass 44 = .ok (.sipush 200, 3) := by decide +kernel
theorem dX5_mass_47 : decode cX5_mass 47 = .ok (.iload_n 1, 1) := by decide +kernel
theorem dX5_mass_48 : decode cX5_mass 48 = .ok (.imul, 1) := by decide +kernel
theorem dX5_mass_49 : decode cX5_mass 49 = .ok (.iload_n 2, 1) := by decide +kernel
theorem dX5_mass_50 : decode cX5_mass 50 = .ok (.iadd, 1) := by decide +kernel
theorem dX5_mass_51 : decode cX5_mass 51 = .ok (.laload, 1) := by decide +kernel
theorem dX5_mass_52 : decode cX5_mass 52 = .ok (.goto 4, 3) := by decide +kernel
theorem dX5_mass_55 : decode cX5_mass 55 = .ok (.lconst 0, 1) := by decide +kernel
theorem dX5_mass_56 : decode cX5_mass 56 = .ok (.lreturn, 1) := by decide +kernel
theorem dX5_sumAt_0 : decode cX5_sumAt 0 = .ok (.lconst 0, 1) := by decide +kernel
theorem dX5_sumAt_1 : decode cX5_sumAt 1 = .ok (.lstore 4, 2) := by decide +kernel
theorem dX5_sumAt_3 : decode cX5_sumAt 3 = .ok (.iconst 0, 1) := by decide +kernel
theorem dX5_sumAt_4 : decode cX5_sumAt 4 = .ok (.istore 6, 2) := by decide +kernel
theorem dX5_sumAt_6 : decode cX5_sumAt 6 = .ok (.iload 6, 2) := by decide +kernel
theorem dX5_sumAt_8 : decode cX5_sumAt 8 = .ok (.aload_n 0, 1) := by decide +kernel
theorem dX5_sumAt_9 : decode cX5_sumAt 9 = .ok (.getfield 32, 3) := by decide +kernel
theorem dX5_sumAt_12 : decode cX5_sumAt 12 = .ok (.iload_n 1, 1) := by decide +kernel
theorem dX5_sumAt_13 : decode cX5_sumAt 13 = .ok (.iaload, 1) := by decide +kernel
theorem dX5_sumAt_14 : decode cX5_sumAt 14 = .ok (.if_icmp .ge 56, 3) := by decide +kernel
theorem dX5_sumAt_17 : decode cX5_sumAt 17 = .ok (.lload 4, 2) := by decide +kernel
theorem dX5_sumAt_19 : decode cX5_sumAt 19 = .ok (.iload_n 2, 1) := by decide +kernel
theorem dX5_sumAt_20 : decode cX5_sumAt 20 = .ok (.ifCond .lt 24, 3) := by decide +kernel
theorem dX5_sumAt_23 : decode cX5_sumAt 23 = .ok (.aload_n 0, 1) := by decide +kernel
theorem dX5_sumAt_24 : decode cX5_sumAt 24 = .ok (.getfield 41, 3) := by decide +kernel
theorem dX5_sumAt_27 : decode cX5_sumAt 27 = .ok (.sipush 200, 3) := by decide +kernel
theorem dX5_sumAt_30 : decode cX5_sumAt 30 = .ok (.iload_n 1, 1) := by decide +kernel
theorem dX5_sumAt_31 : decode cX5_sumAt 31 = .ok (.imul, 1) := by decide +kernel
theorem dX5_sumAt_32 : decode cX5_sumAt 32 = .ok (.iload 6, 2) := by decide +kernel
theorem dX5_sumAt_34 : decode cX5_sumAt 34 = .ok (.iadd, 1) := by decide +kernel
theorem dX5_sumAt_35 : decode cX5_sumAt 35 = .ok (.iaload, 1) := by decide +kernel
theorem dX5_sumAt_36 : decode cX5_sumAt 36 = .ok (.iload_n 2, 1) := by decide +kernel
theorem dX5_sumAt_37 : decode cX5_sumAt 37 = .ok (.invokestatic 108, 3) := by decide +kernel
theorem dX5_sumAt_40 : decode cX5_sumAt 40 = .ok (.iload_n 3, 1) := by decide +kernel
theorem dX5_sumAt_41 : decode cX5_sumAt 41 = .ok (.if_icmp .ne 19, 3) := by decide +kernel
theorem dX5_sumAt_44 : decode cX5_sumAt 44 = .ok (.aload_n 0, 1) := by decide +kernel
theorem dX5_sumAt_45 : decode cX5_sumAt 45 = .ok (.getfield 44, 3) := by decide +kernel
theorem dX5_sumAt_48 : decode cX5_sumAt 48 = .ok (.sipush 200, 3) := by decide +kernel
theorem dX5_sumAt_51 : decode cX5_sumAt 51 = .ok (.iload_n 1, 1) := by decide +kernel
theorem dX5_sumAt_52 : decode cX5_sumAt 52 = .ok (.imul, 1) := by decide +kernel
theorem dX5_sumAt_53 : decode cX5_sumAt 53 = .ok (.iload 6, 2) := by decide +kernel
theorem dX5_sumAt_55 : decode cX5_sumAt 55 = .ok (.iadd, 1) := by decide +kernel
theorem dX5_sumAt_56 : decode cX5_sumAt 56 = .ok (.laload, 1) := by decide +kernel
theorem dX5_sumAt_57 : decode cX5_sumAt 57 = .ok (.goto 4, 3) := by decide +kernel
theorem dX5_sumAt_60 : decode cX5_sumAt 60 = .ok (.lconst 0, 1) := by decide +kernel
theorem dX5_sumAt_61 : decode cX5_sumAt 61 = .ok (.ladd, 1) := by decide +kernel
theorem dX5_sumAt_62 : decode cX5_sumAt 62 = .ok (.lstore 4, 2) := by decide +kernel
theorem dX5_sumAt_64 : decode cX5_sumAt 64 = .ok (.iinc 6 1, 3) := by decide +kernel
theorem dX5_sumAt_67 : decode cX5_sumAt 67 = .ok (.goto (-61), 3) := by decide +kernel
theorem dX5_sumAt_70 : decode cX5_sumAt 70 = .ok (.lload 4, 2) := by decide +kernel
theorem dX5_sumAt_72 : decode cX5_sumAt 72 = .ok (.lreturn, 1) := by decide +kernel
theorem dX5_sum_0 : decode cX5_sum 0 = .ok (.aload_n 0, 1) := by decide +kernel
theorem dX5_sum_1 : decode cX5_sum 1 = .ok (.iconst 0, 1) := by decide +kernel
theorem dX5_sum_2 : decode cX5_sum 2 = .ok (.putfield 69, 3) := by decide +kernel
theorem dX5_sum_5 : decode cX5_sum 5 = .ok (.iload_n 1, 1) := by decide +kernel
theorem dX5_sum_6 : decode cX5_sum 6 = .ok (.iconst 0, 1) := by decide +kernel
theorem dX5_sum_7 : decode cX5_sum 7 = .ok (.iconst 2, 1) := by decide +kernel
theorem dX5_sum_8 : decode cX5_sum 8 = .ok (.invokestatic 86, 3) := by decide +kernel
theorem dX5_sum_11 : decode cX5_sum 11 = .ok (.ifCond .eq 36, 3) := by decide +kernel
theorem dX5_sum_14 : decode cX5_sum 14 = .ok (.iload_n 2, 1) := by decide +kernel
theorem dX5_sum_15 : decode cX5_sum 15 = .ok (.iconst (-1), 1) := by decide +kernel
theorem dX5_sum_16 : decode cX5_sum 16 = .ok (.iconst 5, 1) := by decide +kernel
theorem dX5_sum_17 : decode cX5_sum 17 = .ok (.invokestatic 86, 3) := by decide +kernel
theorem dX5_sum_20 : decode cX5_sum 20 = .ok (.ifCond .eq 27, 3) := by decide +kernel
theorem dX5_sum_23 : decode cX5_sum 23 = .ok (.iload_n 1, 1) := by decide +kernel
theorem dX5_sum_24 : decode cX5_sum 24 = .ok (.iconst 1, 1) := by decide +kernel
theorem dX5_sum_25 : decode cX5_sum 25 = .ok (.if_icmp .ne 8, 3) := by decide +kernel
theorem dX5_sum_28 : decode cX5_sum 28 = .ok (.iload_n 2, 1) := by decide +kernel
theorem dX5_sum_29 : decode cX5_sum 29 = .ok (.iconst (-1), 1) := by decide +kernel
theorem dX5_sum_30 : decode cX5_sum 30 = .ok (.if_icmp .ne 17, 3) := by decide +kernel
theorem dX5_sum_33 : decode cX5_sum 33 = .ok (.iload_n 2, 1) := by decide +kernel
theorem dX5_sum_34 : decode cX5_sum 34 = .ok (.ifCond .lt 17, 3) := by decide +kernel
theorem dX5_sum_37 : decode cX5_sum 37 = .ok (.iload_n 3, 1) := by decide +kernel
theorem dX5_sum_38 : decode cX5_sum 38 = .ok (.iconst 0, 1) := by decide +kernel
theorem dX5_sum_39 : decode cX5_sum 39 = .ok (.bipush 9, 2) := by decide +kernel
theorem dX5_sum_41 : decode cX5_sum 41 = .ok (.invokestatic 86, 3) := by decide +kernel
theorem dX5_sum_44 : decode cX5_sum 44 = .ok (.ifCond .ne 7, 3) := by decide +kernel
theorem dX5_sum_47 : decode cX5_sum 47 = .ok (.ldc2_w 178, 3) := by decide +kernel
theorem dX5_sum_50 : decode cX5_sum 50 = .ok (.lreturn, 1) := by decide +kernel
theorem dX5_sum_51 : decode cX5_sum 51 = .ok (.aload_n 0, 1) := by decide +kernel
theorem dX5_sum_52 : decode cX5_sum 52 = .ok (.getfield 82, 3) := by decide +kernel
theorem dX5_sum_55 : decode cX5_sum 55 = .ok (.ifCond .ne 7, 3) := by decide +kernel
theorem dX5_sum_58 : decode cX5_sum 58 = .ok (.ldc2_w 180, 3) := by decide +kernel
theorem dX5_sum_61 : decode cX5_sum 61 = .ok (.lreturn, 1) := by decide +kernel
theorem dX5_sum_62 : decode cX5_sum 62 = .ok (.iload_n 1, 1) := by decide +kernel
theorem dX5_sum_63 : decode cX5_sum 63 = .ok (.iconst 1, 1) := by decide +kernel
theorem dX5_sum_64 : decode cX5_sum 64 = .ok (.if_icmp .ne 8, 3) := by decide +kernel
theorem dX5_sum_67 : decode cX5_sum 67 = .ok (.aload_n 0, 1) := by decide +kernel
theorem dX5_sum_68 : decode cX5_sum 68 = .ok (.getfield 149, 3) := by decide +kernel
theorem dX5_sum_71 : decode cX5_sum 71 = .ok (.lreturn, 1) := by decide +kernel
theorem dX5_sum_72 : decode cX5_sum 72 = .ok (.iload_n 1, 1) := by decide +kernel
theorem dX5_sum_73 : decode cX5_sum 73 = .ok (.ifCond .ne 14, 3) := by decide +kernel
theorem dX5_sum_76 : decode cX5_sum 76 = .ok (.aload_n 0, 1) := by decide +kernel
theorem dX5_sum_77 : decode cX5_sum 77 = .ok (.aload_n 0, 1) := by decide +kernel
theorem dX5_sum_78 : decode cX5_sum 78 = .ok (.getfield 73, 3) := by decide +kernel
theorem dX5_sum_81 : decode cX5_sum 81 = .ok (.iload_n 2, 1) := by decide +kernel
theorem dX5_sum_82 : decode cX5_sum 82 = .ok (.iload_n 3, 1) := by decide +kernel
theorem dX5_sum_83 : decode cX5_sum 83 = .ok (.invokevirtual 182, 3) := by decide +kernel
theorem dX5_sum_86 : decode cX5_sum 86 = .ok (.lreturn, 1) := by decide +kernel
theorem dX5_sum_87 : decode cX5_sum 87 = .ok (.lconst 0, 1) := by decide +kernel
theorem dX5_sum_88 : decode cX5_sum 88 = .ok (.lstore 4, 2) := by decide +kernel
theorem dX5_sum_90 : decode cX5_sum 90 = .ok (.iconst 0, 1) := by decide +kernel
theorem dX5_sum_91 : decode cX5_sum 91 = .ok (.istore 6, 2) := by decide +kernel
theorem dX5_sum_93 : decode cX5_sum 93 = .ok (.iload 6, 2) := by decide +kernel
theorem dX5_sum_95 : decode cX5_sum 95 = .ok (.aload_n 0, 1) := by decide +kernel
theorem dX5_sum_96 : decode cX5_sum 96 = .ok (.getfield 73, 3) := by decide +kernel
theorem dX5_sum_99 : decode cX5_sum 99 = .ok (.if_icmp .ge 22, 3) := by decide +kernel
theorem dX5_sum_102 : decode cX5_sum 102 = .ok (.lload 4, 2) := by decide +kernel
theorem dX5_sum_104 : decode cX5_sum 104 = .ok (.aload_n 0, 1) := by decide +kernel
theorem dX5_sum_105 : decode cX5_sum 105 = .ok (.iload 6, 2) := by decide +kernel
theorem dX5_sum_107 : decode cX5_sum 107 = .ok (.iload_n 2, 1) := by decide +kernel
theorem dX5_sum_108 : decode cX5_sum 108 = .ok (.iload_n 3, 1) := by decide +kernel
theorem dX5_sum_109 : decode cX5_sum 109 = .ok (.invokevirtual 182, 3) := by decide +kernel
theorem dX5_sum_112 : decode cX5_sum 112 = .ok (.ladd, 1) := by decide +kernel
theorem dX5_sum_113 : decode cX5_sum 113 = .ok (.lstore 4, 2) := by decide +kernel
theorem dX5_sum_115 : decode cX5_sum 115 = .ok (.iinc 6 1, 3) := by decide +kernel
theorem dX5_sum_118 : decode cX5_sum 118 = .ok (.goto (-25), 3) := by decide +kernel
theorem dX5_sum_121 : decode cX5_sum 121 = .ok (.lload 4, 2) := by decide +kernel
theorem dX5_sum_123 : decode cX5_sum 123 = .ok (.lreturn, 1) := by decide +kernel
theorem dX5_odds_0 : decode cX5_odds 0 = .ok (.aload_n 0, 1) := by decide +kernel
theorem dX5_odds_1 : decode cX5_odds 1 = .ok (.iconst 0, 1) := by decide +kernel
theorem dX5_odds_2 : decode cX5_odds 2 = .ok (.putfield 69, 3) := by decide +kernel
theorem dX5_odds_5 : decode cX5_odds 5 = .ok (.iload_n 1, 1) := by decide +kernel
theorem dX5_odds_6 : decode cX5_odds 6 = .ok (.iconst 0, 1) := by decide +kernel
theorem dX5_odds_7 : decode cX5_odds 7 = .ok (.iconst 5, 1) := by decide +kernel
theorem dX5_odds_8 : decode cX5_odds 8 = .ok (.invokestatic 86, 3) := by decide +kernel
theorem dX5_odds_11 : decode cX5_odds 11 = .ok (.ifCond .eq 31, 3) := by decide +kernel
theorem dX5_odds_14 : decode cX5_odds 14 = .ok (.iload_n 2, 1) := by decide +kernel
theorem dX5_odds_15 : decode cX5_odds 15 = .ok (.iconst 0, 1) := by decide +kernel
theorem dX5_odds_16 : decode cX5_odds 16 = .ok (.bipush 9, 2) := by decide +kernel
theorem dX5_odds_18 : decode cX5_odds 18 = .ok (.invokestatic 86, 3) := by decide +kernel
theorem dX5_odds_21 : decode cX5_odds 21 = .ok (.ifCond .eq 21, 3) := by decide +kernel
theorem dX5_odds_24 : decode cX5_odds 24 = .ok (.iload_n 3, 1) := by decide +kernel
theorem dX5_odds_25 : decode cX5_odds 25 = .ok (.iconst 0, 1) := by decide +kernel
theorem dX5_odds_26 : decode cX5_odds 26 = .ok (.iconst 1, 1) := by decide +kernel
theorem dX5_odds_27 : decode cX5_odds 27 = .ok (.invokestatic 86, 3) := by decide +kernel
theorem dX5_odds_30 : decode cX5_odds 30 = .ok (.ifCond .eq 12, 3) := by decide +kernel
theorem dX5_odds_33 : decode cX5_odds 33 = .ok (.aload_n 0, 1) := by decide +kernel
theorem dX5_odds_34 : decode cX5_odds 34 = .ok (.getfield 28, 3) := by decide +kernel
theorem dX5_odds_37 : decode cX5_odds 37 = .ok (.iload_n 1, 1) := by decide +kernel
theorem dX5_odds_38 : decode cX5_odds 38 = .ok (.baload, 1) := by decide +kernel
theorem dX5_odds_39 : decode cX5_odds 39 = .ok (.ifCond .ne 7, 3) := by decide +kernel
theorem dX5_odds_42 : decode cX5_odds 42 = .ok (.ldc2_w 178, 3) := by decide +kernel
theorem dX5_odds_45 : decode cX5_odds 45 = .ok (.lreturn, 1) := by decide +kernel
theorem dX5_odds_46 : decode cX5_odds 46 = .ok (.aload_n 0, 1) := by decide +kernel
theorem dX5_odds_47 : decode cX5_odds 47 = .ok (.getfield 82, 3) := by decide +kernel
theorem dX5_odds_50 : decode cX5_odds 50 = .ok (.ifCond .eq 12, 3) := by decide +kernel
theorem dX5_odds_53 : decode cX5_odds 53 = .ok (.aload_n 0, 1) := by decide +kernel
theorem dX5_odds_54 : decode cX5_odds 54 = .ok (.invokevirtual 171, 3) := by decide +kernel
theorem dX5_odds_57 : decode cX5_odds 57 = .ok (.bipush (-5), 2) := by decide +kernel
theorem dX5_odds_59 : decode cX5_odds 59 = .ok (.if_icmp .eq 7, 3) := by decide +kernel
theorem dX5_odds_62 : decode cX5_odds 62 = .ok (.ldc2_w 180, 3) := by decide +kernel
theorem dX5_odds_65 : decode cX5_odds 65 = .ok (.lreturn, 1) := by decide +kernel
theorem dX5_odds_66 : decode cX5_odds 66 = .ok (.aload_n 0, 1) := by decide +kernel
theorem dX5_odds_67 : decode cX5_odds 67 = .ok (.aload_n 0, 1) := by decide +kernel
theorem dX5_odds_68 : decode cX5_odds 68 = .ok (.getfield 73, 3) := by decide +kernel
theorem dX5_odds_71 : decode cX5_odds 71 = .ok (.iconst (-1), 1) := by decide +kernel
theorem dX5_odds_72 : decode cX5_odds 72 = .ok (.iconst 0, 1) := by decide +kernel
theorem dX5_odds_73 : decode cX5_odds 73 = .ok (.invokevirtual 182, 3) := by decide +kernel
theorem dX5_odds_76 : decode cX5_odds 76 = .ok (.lstore 4, 2) := by decide +kernel
theorem dX5_odds_78 : decode cX5_odds 78 = .ok (.lload 4, 2) := by decide +kernel
theorem dX5_odds_80 : decode cX5_odds 80 = .ok (.lconst 0, 1) := by decide +kernel
theorem dX5_odds_81 : decode cX5_odds 81 = .ok (.lcmp, 1) := by decide +kernel
theorem dX5_odds_82 : decode cX5_odds 82 = .ok (.ifCond .ne 10, 3) := by decide +kernel
theorem dX5_odds_85 : decode cX5_odds 85 = .ok (.aload_n 0, 1) := by decide +kernel
theorem dX5_odds_86 : decode cX5_odds 86 = .ok (.iconst 1, 1) := by decide +kernel
theorem dX5_odds_87 : decode cX5_odds 87 = .ok (.putfield 69, 3) := by decide +kernel
theorem dX5_odds_90 : decode cX5_odds 90 = .ok (.lconst 0, 1) := by decide +kernel
theorem dX5_odds_91 : decode cX5_odds 91 = .ok (.lreturn, 1) := by decide +kernel
theorem dX5_odds_92 : decode cX5_odds 92 = .ok (.aload_n 0, 1) := by decide +kernel
theorem dX5_odds_93 : decode cX5_odds 93 = .ok (.aload_n 0, 1) := by decide +kernel
theorem dX5_odds_94 : decode cX5_odds 94 = .ok (.getfield 73, 3) := by decide +kernel
theorem dX5_odds_97 : decode cX5_odds 97 = .ok (.iload_n 1, 1) := by decide +kernel
theorem dX5_odds_98 : decode cX5_odds 98 = .ok (.iload_n 2, 1) := by decide +kernel
theorem dX5_odds_99 : decode cX5_odds 99 = .ok (.invokevirtual 182, 3) := by decide +kernel
theorem dX5_odds_102 : decode cX5_odds 102 = .ok (.lstore 6, 2) := by decide +kernel
theorem dX5_odds_104 : decode cX5_odds 104 = .ok (.lload 4, 2) := by decide +kernel
theorem dX5_odds_106 : decode cX5_odds 106 = .ok (.lstore 8, 2) := by decide +kernel
theorem dX5_odds_108 : decode cX5_odds 108 = .ok (.lload 6, 2) := by decide +kernel
theorem dX5_odds_110 : decode cX5_odds 110 = .ok (.lstore 10, 2) := by decide +kernel
theorem dX5_odds_112 : decode cX5_odds 112 = .ok (.lload 10, 2) := by decide +kernel
theorem dX5_odds_114 : decode cX5_odds 114 = .ok (.lconst 0, 1) := by decide +kernel
theorem dX5_odds_115 : decode cX5_odds 115 = .ok (.lcmp, 1) := by decide +kernel
theorem dX5_odds_116 : decode cX5_odds 116 = .ok (.ifCond .eq 21, 3) := by decide +kernel
theorem dX5_odds_119 : decode cX5_odds 119 = .ok (.lload 8, 2) := by decide +kernel
theorem dX5_odds_121 : decode cX5_odds 121 = .ok (.lload 10, 2) := by decide +kernel
theorem dX5_odds_123 : decode cX5_odds 123 = .ok (.lrem, 1) := by decide +kernel
theorem dX5_odds_124 : decode cX5_odds 124 = .ok (.lstore 12, 2) := by decide +kernel
theorem dX5_odds_126 : decode cX5_odds 126 = .ok (.lload 10, 2) := by decide +kernel
theorem dX5_odds_128 : decode cX5_odds 128 = .ok (.lstore 8, 2) := by decide +kernel
theorem dX5_odds_130 : decode cX5_odds 130 = .ok (.lload 12, 2) := by decide +kernel
theorem dX5_odds_132 : decode cX5_odds 132 = .ok (.lstore 10, 2) := by decide +kernel
theorem dX5_odds_134 : decode cX5_odds 134 = .ok (.goto (-22), 3) := by decide +kernel
theorem dX5_odds_137 : decode cX5_odds 137 = .ok (.iload_n 3, 1) := by decide +kernel
theorem dX5_odds_138 : decode cX5_odds 138 = .ok (.ifCond .ne 8, 3) := by decide +kernel
theorem dX5_odds_141 : decode cX5_odds 141 = .ok (.lload 6, 2) := by decide +kernel
theorem dX5_odds_143 : decode cX5_odds 143 = .ok (.goto 5, 3) := by decide +kernel
theorem dX5_odds_146 : decode cX5_odds 146 = .ok (.lload 4, 2) := by decide +kernel
theorem dX5_odds_148 : decode cX5_odds 148 = .ok (.lload 8, 2) := by decide +kernel
theorem dX5_odds_150 : decode cX5_odds 150 = .ok (.ldiv, 1) := by decide +kernel
theorem dX5_odds_151 : decode cX5_odds 151 = .ok (.lreturn, 1) := by decide +kernel
theorem dX5_lay_0 : decode cX5_lay 0 = .ok (.aload_n 0, 1) := by decide +kernel
theorem dX5_lay_1 : decode cX5_lay 1 = .ok (.getfield 57, 3) := by decide +kernel
theorem dX5_lay_4 : decode cX5_lay 4 = .ok (.aload_n 0, 1) := by decide +kernel
theorem dX5_lay_5 : decode cX5_lay 5 = .ok (.getfield 186, 3) := by decide +kernel
theorem dX5_lay_8 : decode cX5_lay 8 = .ok (.iload_n 1, 1) := by decide +kernel
theorem dX5_lay_9 : decode cX5_lay 9 = .ok (.iastore, 1) := by decide +kernel
theorem dX5_lay_10 : decode cX5_lay 10 = .ok (.aload_n 0, 1) := by decide +kernel
theorem dX5_lay_11 : decode cX5_lay 11 = .ok (.getfield 60, 3) := by decide +kernel
theorem dX5_lay_14 : decode cX5_lay 14 = .ok (.aload_n 0, 1) := by decide +kernel
theorem dX5_lay_15 : decode cX5_lay 15 = .ok (.getfield 186, 3) := by decide +kernel
theorem dX5_lay_18 : decode cX5_lay 18 = .ok (.iload_n 2, 1) := by decide +kernel
theorem dX5_lay_19 : decode cX5_lay 19 = .ok (.iastore, 1) := by decide +kernel
theorem dX5_lay_20 : decode cX5_lay 20 = .ok (.aload_n 0, 1) := by decide +kernel
theorem dX5_lay_21 : decode cX5_lay 21 = .ok (.getfield 63, 3) := by decide +kernel
theorem dX5_lay_24 : decode cX5_lay 24 = .ok (.aload_n 0, 1) := by decide +kernel
