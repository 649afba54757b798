theorem dX2_markLive_33 : decode cX2_markLive 33 = .ok (.goto 7, 3) := by decide +kernel
theorem dX2_markLive_36 : decode cX2_markLive 36 = .ok (.aload_n 0, 1) := by decide +kernel
theorem dX2_markLive_37 : decode cX2_markLive 37 = .ok (.getfield 48, 3) := by decide +kernel
theorem dX2_markLive_40 : decode cX2_markLive 40 = .ok (.iastore, 1) := by decide +kernel
theorem dX2_markLive_41 : decode cX2_markLive 41 = .ok (.iinc 1 (-1), 3) := by decide +kernel
theorem dX2_markLive_44 : decode cX2_markLive 44 = .ok (.goto (-39), 3) := by decide +kernel
theorem dX2_markLive_47 : decode cX2_markLive 47 = .ok (.return_, 1) := by decide +kernel
theorem dX2_liveAt_0 : decode cX2_liveAt 0 = .ok (.iload_n 1, 1) := by decide +kernel
theorem dX2_liveAt_1 : decode cX2_liveAt 1 = .ok (.ifCond .lt 18, 3) := by decide +kernel
theorem dX2_liveAt_4 : decode cX2_liveAt 4 = .ok (.iload_n 1, 1) := by decide +kernel
theorem dX2_liveAt_5 : decode cX2_liveAt 5 = .ok (.bipush 31, 2) := by decide +kernel
theorem dX2_liveAt_7 : decode cX2_liveAt 7 = .ok (.if_icmp .ge 12, 3) := by decide +kernel
theorem dX2_liveAt_10 : decode cX2_liveAt 10 = .ok (.aload_n 0, 1) := by decide +kernel
theorem dX2_liveAt_11 : decode cX2_liveAt 11 = .ok (.getfield 32, 3) := by decide +kernel
theorem dX2_liveAt_14 : decode cX2_liveAt 14 = .ok (.iload_n 1, 1) := by decide +kernel
theorem dX2_liveAt_15 : decode cX2_liveAt 15 = .ok (.iaload, 1) := by decide +kernel
theorem dX2_liveAt_16 : decode cX2_liveAt 16 = .ok (.goto 4, 3) := by decide +kernel
theorem dX2_liveAt_19 : decode cX2_liveAt 19 = .ok (.iconst 0, 1) := by decide +kernel
theorem dX2_liveAt_20 : decode cX2_liveAt 20 = .ok (.ireturn, 1) := by decide +kernel
theorem dX2_liveAtStep_0 : decode cX2_liveAtStep 0 = .ok (.aload_n 0, 1) := by decide +kernel
theorem dX2_liveAtStep_1 : decode cX2_liveAtStep 1 = .ok (.iload_n 1, 1) := by decide +kernel
theorem dX2_liveAtStep_2 : decode cX2_liveAtStep 2 = .ok (.iconst 1, 1) := by decide +kernel
theorem dX2_liveAtStep_3 : decode cX2_liveAtStep 3 = .ok (.iadd, 1) := by decide +kernel
theorem dX2_liveAtStep_4 : decode cX2_liveAtStep 4 = .ok (.invokevirtual 82, 3) := by decide +kernel
theorem dX2_liveAtStep_7 : decode cX2_liveAtStep 7 = .ok (.istore_n 2, 1) := by decide +kernel
theorem dX2_liveAtStep_8 : decode cX2_liveAtStep 8 = .ok (.aload_n 0, 1) := by decide +kernel
theorem dX2_liveAtStep_9 : decode cX2_liveAtStep 9 = .ok (.getfield 9, 3) := by decide +kernel
theorem dX2_liveAtStep_12 : decode cX2_liveAtStep 12 = .ok (.iload_n 1, 1) := by decide +kernel
theorem dX2_liveAtStep_13 : decode cX2_liveAtStep 13 = .ok (.iaload, 1) := by decide +kernel
theorem dX2_liveAtStep_14 : decode cX2_liveAtStep 14 = .ok (.istore_n 3, 1) := by decide +kernel
theorem dX2_liveAtStep_15 : decode cX2_liveAtStep 15 = .ok (.iconst 1, 1) := by decide +kernel
theorem dX2_liveAtStep_16 : decode cX2_liveAtStep 16 = .ok (.aload_n 0, 1) := by decide +kernel
theorem dX2_liveAtStep_17 : decode cX2_liveAtStep 17 = .ok (.getfield 15, 3) := by decide +kernel
theorem dX2_liveAtStep_20 : decode cX2_liveAtStep 20 = .ok (.iload_n 1, 1) := by decide +kernel
theorem dX2_liveAtStep_21 : decode cX2_liveAtStep 21 = .ok (.iaload, 1) := by decide +kernel
theorem dX2_liveAtStep_22 : decode cX2_liveAtStep 22 = .ok (.ishl, 1) := by decide +kernel
theorem dX2_liveAtStep_23 : decode cX2_liveAtStep 23 = .ok (.istore 4, 2) := by decide +kernel
theorem dX2_liveAtStep_25 : decode cX2_liveAtStep 25 = .ok (.iload_n 3, 1) := by decide +kernel
theorem dX2_liveAtStep_26 : decode cX2_liveAtStep 26 = .ok (.iconst 4, 1) := by decide +kernel
theorem dX2_liveAtStep_27 : decode cX2_liveAtStep 27 = .ok (.if_icmp .ne 18, 3) := by decide +kernel
theorem dX2_liveAtStep_30 : decode cX2_liveAtStep 30 = .ok (.iload_n 2, 1) := by decide +kernel
theorem dX2_liveAtStep_31 : decode cX2_liveAtStep 31 = .ok (.aload_n 0, 1) := by decide +kernel
theorem dX2_liveAtStep_32 : decode cX2_liveAtStep 32 = .ok (.aload_n 0, 1) := by decide +kernel
theorem dX2_liveAtStep_33 : decode cX2_liveAtStep 33 = .ok (.iload_n 1, 1) := by decide +kernel
theorem dX2_liveAtStep_34 : decode cX2_liveAtStep 34 = .ok (.invokevirtual 85, 3) := by decide +kernel
theorem dX2_liveAtStep_37 : decode cX2_liveAtStep 37 = .ok (.invokevirtual 82, 3) := by decide +kernel
theorem dX2_liveAtStep_40 : decode cX2_liveAtStep 40 = .ok (.ior, 1) := by decide +kernel
theorem dX2_liveAtStep_41 : decode cX2_liveAtStep 41 = .ok (.istore_n 2, 1) := by decide +kernel
theorem dX2_liveAtStep_42 : decode cX2_liveAtStep 42 = .ok (.goto 43, 3) := by decide +kernel
theorem dX2_liveAtStep_45 : decode cX2_liveAtStep 45 = .ok (.iload_n 3, 1) := by decide +kernel
theorem dX2_liveAtStep_46 : decode cX2_liveAtStep 46 = .ok (.iconst 1, 1) := by decide +kernel
theorem dX2_liveAtStep_47 : decode cX2_liveAtStep 47 = .ok (.if_icmp .ne 22, 3) := by decide +kernel
theorem dX2_liveAtStep_50 : decode cX2_liveAtStep 50 = .ok (.aload_n 0, 1) := by decide +kernel
theorem dX2_liveAtStep_51 : decode cX2_liveAtStep 51 = .ok (.getfield 18, 3) := by decide +kernel
theorem dX2_liveAtStep_54 : decode cX2_liveAtStep 54 = .ok (.iload_n 1, 1) := by decide +kernel
theorem dX2_liveAtStep_55 : decode cX2_liveAtStep 55 = .ok (.iaload, 1) := by decide +kernel
theorem dX2_liveAtStep_56 : decode cX2_liveAtStep 56 = .ok (.bipush 6, 2) := by decide +kernel
theorem dX2_liveAtStep_58 : decode cX2_liveAtStep 58 = .ok (.if_icmp .ne 11, 3) := by decide +kernel
theorem dX2_liveAtStep_61 : decode cX2_liveAtStep 61 = .ok (.iload_n 2, 1) := by decide +kernel
theorem dX2_liveAtStep_62 : decode cX2_liveAtStep 62 = .ok (.iload 4, 2) := by decide +kernel
theorem dX2_liveAtStep_64 : decode cX2_liveAtStep 64 = .ok (.ior, 1) := by decide +kernel
theorem dX2_liveAtStep_65 : decode cX2_liveAtStep 65 = .ok (.istore_n 2, 1) := by decide +kernel
theorem dX2_liveAtStep_66 : decode cX2_liveAtStep 66 = .ok (.goto 19, 3) := by decide +kernel
theorem dX2_liveAtStep_69 : decode cX2_liveAtStep 69 = .ok (.iload_n 3, 1) := by decide +kernel
theorem dX2_liveAtStep_70 : decode cX2_liveAtStep 70 = .ok (.iconst 1, 1) := by decide +kernel
theorem dX2_liveAtStep_71 : decode cX2_liveAtStep 71 = .ok (.if_icmp .eq 7, 3) := by decide +kernel
theorem dX2_liveAtStep_74 : decode cX2_liveAtStep 74 = .ok (.iload_n 3, 1) := by decide +kernel
theorem dX2_liveAtStep_75 : decode cX2_liveAtStep 75 = .ok (.ifCond .ne 10, 3) := by decide +kernel
theorem dX2_liveAtStep_78 : decode cX2_liveAtStep 78 = .ok (.iload_n 2, 1) := by decide +kernel
theorem dX2_liveAtStep_79 : decode cX2_liveAtStep 79 = .ok (.iload 4, 2) := by decide +kernel
theorem dX2_liveAtStep_81 : decode cX2_liveAtStep 81 = .ok (.iconst (-1), 1) := by decide +kernel
theorem dX2_liveAtStep_82 : decode cX2_liveAtStep 82 = .ok (.ixor, 1) := by decide +kernel
theorem dX2_liveAtStep_83 : decode cX2_liveAtStep 83 = .ok (.iand, 1) := by decide +kernel
theorem dX2_liveAtStep_84 : decode cX2_liveAtStep 84 = .ok (.istore_n 2, 1) := by decide +kernel
theorem dX2_liveAtStep_85 : decode cX2_liveAtStep 85 = .ok (.iload_n 2, 1) := by decide +kernel
theorem dX2_liveAtStep_86 : decode cX2_liveAtStep 86 = .ok (.aload_n 0, 1) := by decide +kernel
theorem dX2_liveAtStep_87 : decode cX2_liveAtStep 87 = .ok (.getfield 21, 3) := by decide +kernel
theorem dX2_liveAtStep_90 : decode cX2_liveAtStep 90 = .ok (.iload_n 1, 1) := by decide +kernel
theorem dX2_liveAtStep_91 : decode cX2_liveAtStep 91 = .ok (.iaload, 1) := by decide +kernel
theorem dX2_liveAtStep_92 : decode cX2_liveAtStep 92 = .ok (.invokestatic 88, 3) := by decide +kernel
theorem dX2_liveAtStep_95 : decode cX2_liveAtStep 95 = .ok (.ior, 1) := by decide +kernel
theorem dX2_liveAtStep_96 : decode cX2_liveAtStep 96 = .ok (.aload_n 0, 1) := by decide +kernel
theorem dX2_liveAtStep_97 : decode cX2_liveAtStep 97 = .ok (.getfield 24, 3) := by decide +kernel
theorem dX2_liveAtStep_100 : decode cX2_liveAtStep 100 = .ok (.iload_n 1, 1) := by decide +kernel
theorem dX2_liveAtStep_101 : decode cX2_liveAtStep 101 = .ok (.iaload, 1) := by decide +kernel
theorem dX2_liveAtStep_102 : decode cX2_liveAtStep 102 = .ok (.invokestatic 88, 3) := by decide +kernel
theorem dX2_liveAtStep_105 : decode cX2_liveAtStep 105 = .ok (.ior, 1) := by decide +kernel
theorem dX2_liveAtStep_106 : decode cX2_liveAtStep 106 = .ok (.ireturn, 1) := by decide +kernel
theorem dX2_variableOf_0 : decode cX2_variableOf 0 = .ok (.iload_n 0, 1) := by decide +kernel
theorem dX2_variableOf_1 : decode cX2_variableOf 1 = .ok (.invokestatic 91, 3) := by decide +kernel
theorem dX2_variableOf_4 : decode cX2_variableOf 4 = .ok (.ifCond .eq 9, 3) := by decide +kernel
theorem dX2_variableOf_7 : decode cX2_variableOf 7 = .ok (.iconst 1, 1) := by decide +kernel
theorem dX2_variableOf_8 : decode cX2_variableOf 8 = .ok (.iload_n 0, 1) := by decide +kernel
theorem dX2_variableOf_9 : decode cX2_variableOf 9 = .ok (.ishl, 1) := by decide +kernel
theorem dX2_variableOf_10 : decode cX2_variableOf 10 = .ok (.goto 4, 3) := by decide +kernel
theorem dX2_variableOf_13 : decode cX2_variableOf 13 = .ok (.iconst 0, 1) := by decide +kernel
theorem dX2_variableOf_14 : decode cX2_variableOf 14 = .ok (.ireturn, 1) := by decide +kernel
theorem dX2_termValue_0 : decode cX2_termValue 0 = .ok (.iload_n 0, 1) := by decide +kernel
theorem dX2_termValue_1 : decode cX2_termValue 1 = .ok (.invokestatic 91, 3) := by decide +kernel
theorem dX2_termValue_4 : decode cX2_termValue 4 = .ok (.ifCond .eq 11, 3) := by decide +kernel
theorem dX2_termValue_7 : decode cX2_termValue 7 = .ok (.iload_n 1, 1) := by decide +kernel
theorem dX2_termValue_8 : decode cX2_termValue 8 = .ok (.iload_n 0, 1) := by decide +kernel
theorem dX2_termValue_9 : decode cX2_termValue 9 = .ok (.invokestatic 94, 3) := by decide +kernel
theorem dX2_termValue_12 : decode cX2_termValue 12 = .ok (.goto 7, 3) := by decide +kernel
theorem dX2_termValue_15 : decode cX2_termValue 15 = .ok (.iload_n 0, 1) := by decide +kernel
theorem dX2_termValue_16 : decode cX2_termValue 16 = .ok (.bipush 10, 2) := by decide +kernel
theorem dX2_termValue_18 : decode cX2_termValue 18 = .ok (.isub, 1) := by decide +kernel
theorem dX2_termValue_19 : decode cX2_termValue 19 = .ok (.ireturn, 1) := by decide +kernel
theorem dX2_placeSkippedTo_0 : decode cX2_placeSkippedTo 0 = .ok (.iload_n 1, 1) := by decide +kernel
theorem dX2_placeSkippedTo_1 : decode cX2_placeSkippedTo 1 = .ok (.iconst 1, 1) := by decide +kernel
theorem dX2_placeSkippedTo_2 : decode cX2_placeSkippedTo 2 = .ok (.iadd, 1) := by decide +kernel
theorem dX2_placeSkippedTo_3 : decode cX2_placeSkippedTo 3 = .ok (.aload_n 0, 1) := by decide +kernel
theorem dX2_placeSkippedTo_4 : decode cX2_placeSkippedTo 4 = .ok (.getfield 18, 3) := by decide +kernel
theorem dX2_placeSkippedTo_7 : decode cX2_placeSkippedTo 7 = .ok (.iload_n 1, 1) := by decide +kernel
theorem dX2_placeSkippedTo_8 : decode cX2_placeSkippedTo 8 = .ok (.iaload, 1) := by decide +kernel
theorem dX2_placeSkippedTo_9 : decode cX2_placeSkippedTo 9 = .ok (.iadd, 1) := by decide +kernel
theorem dX2_placeSkippedTo_10 : decode cX2_placeSkippedTo 10 = .ok (.aload_n 0, 1) := by decide +kernel
theorem dX2_placeSkippedTo_11 : decode cX2_placeSkippedTo 11 = .ok (.getfield 38, 3) := by decide +kernel
theorem dX2_placeSkippedTo_14 : decode cX2_placeSkippedTo 14 = .ok (.invokestatic 99, 3) := by decide +kernel
theorem dX2_placeSkippedTo_17 : decode cX2_placeSkippedTo 17 = .ok (.ireturn, 1) := by decide +kernel
theorem dX2_ways_0 : decode cX2_ways 0 = .ok (.aload_n 0, 1) := by decide +kernel
theorem dX2_ways_1 : decode cX2_ways 1 = .ok (.iload_n 1, 1) := by decide +kernel
theorem dX2_ways_2 : decode cX2_ways 2 = .ok (.invokevirtual 68, 3) := by decide +kernel
theorem dX2_ways_5 : decode cX2_ways 5 = .ok (.ifCond .eq 8, 3) := by decide +kernel
theorem dX2_ways_8 : decode cX2_ways 8 = .ok (.bipush 10, 2) := by decide +kernel
theorem dX2_ways_10 : decode cX2_ways 10 = .ok (.goto 4, 3) := by decide +kernel
theorem dX2_ways_13 : decode cX2_ways 13 = .ok (.iconst 1, 1) := by decide +kernel
theorem dX2_ways_14 : decode cX2_ways 14 = .ok (.ireturn, 1) := by decide +kernel
theorem dX2_placeBehind_0 : decode cX2_placeBehind 0 = .ok (.aload_n 0, 1) := by decide +kernel
theorem dX2_placeBehind_1 : decode cX2_placeBehind 1 = .ok (.iload_n 1, 1) := by decide +kernel
theorem dX2_placeBehind_2 : decode cX2_placeBehind 2 = .ok (.invokevirtual 65, 3) := by decide +kernel
theorem dX2_placeBehind_5 : decode cX2_placeBehind 5 = .ok (.ifCond .eq 32, 3) := by decide +kernel
theorem dX2_placeBehind_8 : decode cX2_placeBehind 8 = .ok (.aload_n 0, 1) := by decide +kernel
theorem dX2_placeBehind_9 : decode cX2_placeBehind 9 = .ok (.getfield 9, 3) := by decide +kernel
theorem dX2_placeBehind_12 : decode cX2_placeBehind 12 = .ok (.iload_n 1, 1) := by decide +kernel
theorem dX2_placeBehind_13 : decode cX2_placeBehind 13 = .ok (.iaload, 1) := by decide +kernel
theorem dX2_placeBehind_14 : decode cX2_placeBehind 14 = .ok (.iconst 4, 1) := by decide +kernel
theorem dX2_placeBehind_15 : decode cX2_placeBehind 15 = .ok (.if_icmp .ne 22, 3) := by decide +kernel
theorem dX2_placeBehind_18 : decode cX2_placeBehind 18 = .ok (.aload_n 0, 1) := by decide +kernel
theorem dX2_placeBehind_19 : decode cX2_placeBehind 19 = .ok (.getfield 21, 3) := by decide +kernel
theorem dX2_placeBehind_22 : decode cX2_placeBehind 22 = .ok (.iload_n 1, 1) := by decide +kernel
theorem dX2_placeBehind_23 : decode cX2_placeBehind 23 = .ok (.iaload, 1) := by decide +kernel
theorem dX2_placeBehind_24 : decode cX2_placeBehind 24 = .ok (.iload_n 2, 1) := by decide +kernel
theorem dX2_placeBehind_25 : decode cX2_placeBehind 25 = .ok (.invokestatic 104, 3) := by decide +kernel
theorem dX2_placeBehind_28 : decode cX2_placeBehind 28 = .ok (.ifCond .ne 9, 3) := by decide +kernel
theorem dX2_placeBehind_31 : decode cX2_placeBehind 31 = .ok (.aload_n 0, 1) := by decide +kernel
theorem dX2_placeBehind_32 : decode cX2_placeBehind 32 = .ok (.iload_n 1, 1) := by decide +kernel
theorem dX2_placeBehind_33 : decode cX2_placeBehind 33 = .ok (.invokevirtual 85, 3) := by decide +kernel
theorem dX2_placeBehind_36 : decode cX2_placeBehind 36 = .ok (.ireturn, 1) := by decide +kernel
theorem dX2_placeBehind_37 : decode cX2_placeBehind 37 = .ok (.iload_n 1, 1) := by decide +kernel
theorem dX2_placeBehind_38 : decode cX2_placeBehind 38 = .ok (.iconst 1, 1) := by decide +kernel
theorem dX2_placeBehind_39 : decode cX2_placeBehind 39 = .ok (.iadd, 1) := by decide +kernel
theorem dX2_placeBehind_40 : decode cX2_placeBehind 40 = .ok (.ireturn, 1) := by decide +kernel
theorem dX2_massBehind_0 : decode cX2_massBehind 0 = .ok (.aload_n 0, 1) := by decide +kernel
theorem dX2_massBehind_1 : decode cX2_massBehind 1 = .ok (.iload_n 1, 1) := by decide +kernel
theorem dX2_massBehind_2 : decode cX2_massBehind 2 = .ok (.invokevirtual 65, 3) := by decide +kernel
theorem dX2_massBehind_5 : decode cX2_massBehind 5 = .ok (.ifCond .ne 6, 3) := by decide +kernel
theorem dX2_massBehind_8 : decode cX2_massBehind 8 = .ok (.lload 4, 2) := by decide +kernel
theorem dX2_massBehind_10 : decode cX2_massBehind 10 = .ok (.lreturn, 1) := by decide +kernel
theorem dX2_massBehind_11 : decode cX2_massBehind 11 = .ok (.aload_n 0, 1) := by decide +kernel
theorem dX2_massBehind_12 : decode cX2_massBehind 12 = .ok (.getfield 21, 3) := by decide +kernel
theorem dX2_massBehind_15 : decode cX2_massBehind 15 = .ok (.iload_n 1, 1) := by decide +kernel
theorem dX2_massBehind_16 : decode cX2_massBehind 16 = .ok (.iaload, 1) := by decide +kernel
theorem dX2_massBehind_17 : decode cX2_massBehind 17 = .ok (.iload_n 3, 1) := by decide +kernel
theorem dX2_massBehind_18 : decode cX2_massBehind 18 = .ok (.invokestatic 104, 3) := by decide +kernel
theorem dX2_massBehind_21 : decode cX2_massBehind 21 = .ok (.istore 6, 2) := by decide +kernel
theorem dX2_massBehind_23 : decode cX2_massBehind 23 = .ok (.aload_n 0, 1) := by decide +kernel
theorem dX2_massBehind_24 : decode cX2_massBehind 24 = .ok (.getfield 9, 3) := by decide +kernel
theorem dX2_massBehind_27 : decode cX2_massBehind 27 = .ok (.iload_n 1, 1) := by decide +kernel
theorem dX2_massBehind_28 : decode cX2_massBehind 28 = .ok (.iaload, 1) := by decide +kernel
theorem dX2_massBehind_29 : decode cX2_massBehind 29 = .ok (.tableswitch 89 0 3 #[31, 89, 51, 82], 31) := by decide +kernel
theorem dX2_massBehind_60 : decode cX2_massBehind 60 = .ok (.lload 4, 2) := by decide +kernel
theorem dX2_massBehind_62 : decode cX2_massBehind 62 = .ok (.aload_n 0, 1) := by decide +kernel
theorem dX2_massBehind_63 : decode cX2_massBehind 63 = .ok (.aload_n 0, 1) := by decide +kernel
theorem dX2_massBehind_64 : decode cX2_massBehind 64 = .ok (.getfield 18, 3) := by decide +kernel
theorem dX2_massBehind_67 : decode cX2_massBehind 67 = .ok (.iload_n 1, 1) := by decide +kernel
theorem dX2_massBehind_68 : decode cX2_massBehind 68 = .ok (.iaload, 1) := by decide +kernel
theorem dX2_massBehind_69 : decode cX2_massBehind 69 = .ok (.iload_n 2, 1) := by decide +kernel
theorem dX2_massBehind_70 : decode cX2_massBehind 70 = .ok (.invokevirtual 75, 3) := by decide +kernel
theorem dX2_massBehind_73 : decode cX2_massBehind 73 = .ok (.i2l, 1) := by decide +kernel
theorem dX2_massBehind_74 : decode cX2_massBehind 74 = .ok (.lmul, 1) := by decide +kernel
theorem dX2_massBehind_75 : decode cX2_massBehind 75 = .ok (.ldc2_w 107, 3) := by decide +kernel
theorem dX2_massBehind_78 : decode cX2_massBehind 78 = .ok (.ldiv, 1) := by decide +kernel
theorem dX2_massBehind_79 : decode cX2_massBehind 79 = .ok (.lreturn, 1) := by decide +kernel
theorem dX2_massBehind_80 : decode cX2_massBehind 80 = .ok (.aload_n 0, 1) := by decide +kernel
theorem dX2_massBehind_81 : decode cX2_massBehind 81 = .ok (.getfield 18, 3) := by decide +kernel
theorem dX2_massBehind_84 : decode cX2_massBehind 84 = .ok (.iload_n 1, 1) := by decide +kernel
theorem dX2_massBehind_85 : decode cX2_massBehind 85 = .ok (.iaload, 1) := by decide +kernel
theorem dX2_massBehind_86 : decode cX2_massBehind 86 = .ok (.iload 6, 2) := by decide +kernel
theorem dX2_massBehind_88 : decode cX2_massBehind 88 = .ok (.aload_n 0, 1) := by decide +kernel
theorem dX2_massBehind_89 : decode cX2_massBehind 89 = .ok (.getfield 24, 3) := by decide +kernel
theorem dX2_massBehind_92 : decode cX2_massBehind 92 = .ok (.iload_n 1, 1) := by decide +kernel
theorem dX2_massBehind_93 : decode cX2_massBehind 93 = .ok (.iaload, 1) := by decide +kernel
theorem dX2_massBehind_94 : decode cX2_massBehind 94 = .ok (.iload_n 3, 1) := by decide +kernel
theorem dX2_massBehind_95 : decode cX2_massBehind 95 = .ok (.invokestatic 104, 3) := by decide +kernel
theorem dX2_massBehind_98 : decode cX2_massBehind 98 = .ok (.invokestatic 109, 3) := by decide +kernel
theorem dX2_massBehind_101 : decode cX2_massBehind 101 = .ok (.ifCond .eq 8, 3) := by decide +kernel
theorem dX2_massBehind_104 : decode cX2_massBehind 104 = .ok (.lload 4, 2) := by decide +kernel
theorem dX2_massBehind_106 : decode cX2_massBehind 106 = .ok (.goto 4, 3) := by decide +kernel
theorem dX2_massBehind_109 : decode cX2_massBehind 109 = .ok (.lconst 0, 1) := by decide +kernel
theorem dX2_massBehind_110 : decode cX2_massBehind 110 = .ok (.lreturn, 1) := by decide +kernel
theorem dX2_massBehind_111 : decode cX2_massBehind 111 = .ok (.lload 4, 2) := by decide +kernel
theorem dX2_massBehind_113 : decode cX2_massBehind 113 = .ok (.iload 6, 2) := by decide +kernel
theorem dX2_massBehind_115 : decode cX2_massBehind 115 = .ok (.i2l, 1) := by decide +kernel
theorem dX2_massBehind_116 : decode cX2_massBehind 116 = .ok (.lmul, 1) := by decide +kernel
theorem dX2_massBehind_117 : decode cX2_massBehind 117 = .ok (.lreturn, 1) := by decide +kernel
theorem dX2_massBehind_118 : decode cX2_massBehind 118 = .ok (.lload 4, 2) := by decide +kernel
theorem dX2_massBehind_120 : decode cX2_massBehind 120 = .ok (.lreturn, 1) := by decide +kernel
theorem dX2_heldBehind_0 : decode cX2_heldBehind 0 = .ok (.aload_n 0, 1) := by decide +kernel
theorem dX2_heldBehind_1 : decode cX2_heldBehind 1 = .ok (.iload_n 1, 1) := by decide +kernel
theorem dX2_heldBehind_2 : decode cX2_heldBehind 2 = .ok (.invokevirtual 65, 3) := by decide +kernel
theorem dX2_heldBehind_5 : decode cX2_heldBehind 5 = .ok (.ifCond .ne 5, 3) := by decide +kernel
theorem dX2_heldBehind_8 : decode cX2_heldBehind 8 = .ok (.iload_n 3, 1) := by decide +kernel
theorem dX2_heldBehind_9 : decode cX2_heldBehind 9 = .ok (.ireturn, 1) := by decide +kernel
theorem dX2_heldBehind_10 : decode cX2_heldBehind 10 = .ok (.aload_n 0, 1) := by decide +kernel
theorem dX2_heldBehind_11 : decode cX2_heldBehind 11 = .ok (.getfield 15, 3) := by decide +kernel
theorem dX2_heldBehind_14 : decode cX2_heldBehind 14 = .ok (.iload_n 1, 1) := by decide +kernel
theorem dX2_heldBehind_15 : decode cX2_heldBehind 15 = .ok (.iaload, 1) := by decide +kernel
theorem dX2_heldBehind_16 : decode cX2_heldBehind 16 = .ok (.istore 4, 2) := by decide +kernel
theorem dX2_heldBehind_18 : decode cX2_heldBehind 18 = .ok (.aload_n 0, 1) := by decide +kernel
theorem dX2_heldBehind_19 : decode cX2_heldBehind 19 = .ok (.getfield 9, 3) := by decide +kernel
theorem dX2_heldBehind_22 : decode cX2_heldBehind 22 = .ok (.iload_n 1, 1) := by decide +kernel
theorem dX2_heldBehind_23 : decode cX2_heldBehind 23 = .ok (.iaload, 1) := by decide +kernel
theorem dX2_heldBehind_24 : decode cX2_heldBehind 24 = .ok (.ifCond .ne 11, 3) := by decide +kernel
theorem dX2_heldBehind_27 : decode cX2_heldBehind 27 = .ok (.iload_n 3, 1) := by decide +kernel
theorem dX2_heldBehind_28 : decode cX2_heldBehind 28 = .ok (.iload 4, 2) := by decide +kernel
theorem dX2_heldBehind_30 : decode cX2_heldBehind 30 = .ok (.iload_n 2, 1) := by decide +kernel
theorem dX2_heldBehind_31 : decode cX2_heldBehind 31 = .ok (.invokestatic 113, 3) := by decide +kernel
theorem dX2_heldBehind_34 : decode cX2_heldBehind 34 = .ok (.ireturn, 1) := by decide +kernel
theorem dX2_heldBehind_35 : decode cX2_heldBehind 35 = .ok (.aload_n 0, 1) := by decide +kernel
theorem dX2_heldBehind_36 : decode cX2_heldBehind 36 = .ok (.getfield 9, 3) := by decide +kernel
theorem dX2_heldBehind_39 : decode cX2_heldBehind 39 = .ok (.iload_n 1, 1) := by decide +kernel
theorem dX2_heldBehind_40 : decode cX2_heldBehind 40 = .ok (.iaload, 1) := by decide +kernel
theorem dX2_heldBehind_41 : decode cX2_heldBehind 41 = .ok (.iconst 1, 1) := by decide +kernel
theorem dX2_heldBehind_42 : decode cX2_heldBehind 42 = .ok (.if_icmp .eq 5, 3) := by decide +kernel
theorem dX2_heldBehind_45 : decode cX2_heldBehind 45 = .ok (.iload_n 3, 1) := by decide +kernel
theorem dX2_heldBehind_46 : decode cX2_heldBehind 46 = .ok (.ireturn, 1) := by decide +kernel
theorem dX2_heldBehind_47 : decode cX2_heldBehind 47 = .ok (.aload_n 0, 1) := by decide +kernel
theorem dX2_heldBehind_48 : decode cX2_heldBehind 48 = .ok (.getfield 21, 3) := by decide +kernel
theorem dX2_heldBehind_51 : decode cX2_heldBehind 51 = .ok (.iload_n 1, 1) := by decide +kernel
theorem dX2_heldBehind_52 : decode cX2_heldBehind 52 = .ok (.iaload, 1) := by decide +kernel
theorem dX2_heldBehind_53 : decode cX2_heldBehind 53 = .ok (.iload_n 3, 1) := by decide +kernel
theorem dX2_heldBehind_54 : decode cX2_heldBehind 54 = .ok (.invokestatic 104, 3) := by decide +kernel
theorem dX2_heldBehind_57 : decode cX2_heldBehind 57 = .ok (.istore 5, 2) := by decide +kernel
theorem dX2_heldBehind_59 : decode cX2_heldBehind 59 = .ok (.aload_n 0, 1) := by decide +kernel
theorem dX2_heldBehind_60 : decode cX2_heldBehind 60 = .ok (.getfield 24, 3) := by decide +kernel
theorem dX2_heldBehind_63 : decode cX2_heldBehind 63 = .ok (.iload_n 1, 1) := by decide +kernel
theorem dX2_heldBehind_64 : decode cX2_heldBehind 64 = .ok (.iaload, 1) := by decide +kernel
theorem dX2_heldBehind_65 : decode cX2_heldBehind 65 = .ok (.iload_n 3, 1) := by decide +kernel
theorem dX2_heldBehind_66 : decode cX2_heldBehind 66 = .ok (.invokestatic 104, 3) := by decide +kernel
theorem dX2_heldBehind_69 : decode cX2_heldBehind 69 = .ok (.istore 6, 2) := by decide +kernel
theorem dX2_heldBehind_71 : decode cX2_heldBehind 71 = .ok (.iload_n 3, 1) := by decide +kernel
theorem dX2_heldBehind_72 : decode cX2_heldBehind 72 = .ok (.iload 4, 2) := by decide +kernel
theorem dX2_heldBehind_74 : decode cX2_heldBehind 74 = .ok (.invokestatic 94, 3) := by decide +kernel
theorem dX2_heldBehind_77 : decode cX2_heldBehind 77 = .ok (.istore 7, 2) := by decide +kernel
theorem dX2_heldBehind_79 : decode cX2_heldBehind 79 = .ok (.iload_n 3, 1) := by decide +kernel
theorem dX2_heldBehind_80 : decode cX2_heldBehind 80 = .ok (.iload 4, 2) := by decide +kernel
theorem dX2_heldBehind_82 : decode cX2_heldBehind 82 = .ok (.aload_n 0, 1) := by decide +kernel
theorem dX2_heldBehind_83 : decode cX2_heldBehind 83 = .ok (.getfield 18, 3) := by decide +kernel
theorem dX2_heldBehind_86 : decode cX2_heldBehind 86 = .ok (.iload_n 1, 1) := by decide +kernel
theorem dX2_heldBehind_87 : decode cX2_heldBehind 87 = .ok (.iaload, 1) := by decide +kernel
theorem dX2_heldBehind_88 : decode cX2_heldBehind 88 = .ok (.iload 5, 2) := by decide +kernel
theorem dX2_heldBehind_90 : decode cX2_heldBehind 90 = .ok (.iload 6, 2) := by decide +kernel
theorem dX2_heldBehind_92 : decode cX2_heldBehind 92 = .ok (.iload 7, 2) := by decide +kernel
theorem dX2_heldBehind_94 : decode cX2_heldBehind 94 = .ok (.invokestatic 117, 3) := by decide +kernel
theorem dX2_heldBehind_97 : decode cX2_heldBehind 97 = .ok (.invokestatic 113, 3) := by decide +kernel
theorem dX2_heldBehind_100 : decode cX2_heldBehind 100 = .ok (.ireturn, 1) := by decide +kernel
theorem dX2_isSeen_0 : decode cX2_isSeen 0 = .ok (.iload_n 0, 1) := by decide +kernel
theorem dX2_isSeen_1 : decode cX2_isSeen 1 = .ok (.tableswitch 60 0 2 #[27, 38, 49], 27) := by decide +kernel
theorem dX2_isSeen_28 : decode cX2_isSeen 28 = .ok (.iload_n 1, 1) := by decide +kernel
theorem dX2_isSeen_29 : decode cX2_isSeen 29 = .ok (.iload_n 2, 1) := by decide +kernel
theorem dX2_isSeen_30 : decode cX2_isSeen 30 = .ok (.if_icmp .ne 7, 3) := by decide +kernel
theorem dX2_isSeen_33 : decode cX2_isSeen 33 = .ok (.iconst 1, 1) := by decide +kernel
theorem dX2_isSeen_34 : decode cX2_isSeen 34 = .ok (.goto 4, 3) := by decide +kernel
theorem dX2_isSeen_37 : decode cX2_isSeen 37 = .ok (.iconst 0, 1) := by decide +kernel
theorem dX2_isSeen_38 : decode cX2_isSeen 38 = .ok (.ireturn, 1) := by decide +kernel
theorem dX2_isSeen_39 : decode cX2_isSeen 39 = .ok (.iload_n 1, 1) := by decide +kernel
theorem dX2_isSeen_40 : decode cX2_isSeen 40 = .ok (.iload_n 2, 1) := by decide +kernel
theorem dX2_isSeen_41 : decode cX2_isSeen 41 = .ok (.if_icmp .eq 7, 3) := by decide +kernel
theorem dX2_isSeen_44 : decode cX2_isSeen 44 = .ok (.iconst 1, 1) := by decide +kernel
theorem dX2_isSeen_45 : decode cX2_isSeen 45 = .ok (.goto 4, 3) := by decide +kernel
theorem dX2_isSeen_48 : decode cX2_isSeen 48 = .ok (.iconst 0, 1) := by decide +kernel
theorem dX2_isSeen_49 : decode cX2_isSeen 49 = .ok (.ireturn, 1) := by decide +kernel
theorem dX2_isSeen_50 : decode cX2_isSeen 50 = .ok (.iload_n 1, 1) := by decide +kernel
theorem dX2_isSeen_51 : decode cX2_isSeen 51 = .ok (.iload_n 2, 1) := by decide +kernel
theorem dX2_isSeen_52 : decode cX2_isSeen 52 = .ok (.if_icmp .ge 7, 3) := by decide +kernel
theorem dX2_isSeen_55 : decode cX2_isSeen 55 = .ok (.iconst 1, 1) := by decide +kernel
theorem dX2_isSeen_56 : decode cX2_isSeen 56 = .ok (.goto 4, 3) := by decide +kernel
theorem dX2_isSeen_59 : decode cX2_isSeen 59 = .ok (.iconst 0, 1) := by decide +kernel
theorem dX2_isSeen_60 : decode cX2_isSeen 60 = .ok (.ireturn, 1) := by decide +kernel
theorem dX2_isSeen_61 : decode cX2_isSeen 61 = .ok (.iload_n 1, 1) := by decide +kernel
theorem dX2_isSeen_62 : decode cX2_isSeen 62 = .ok (.iload_n 2, 1) := by decide +kernel
theorem dX2_isSeen_63 : decode cX2_isSeen 63 = .ok (.if_icmp .le 7, 3) := by decide +kernel
theorem dX2_isSeen_66 : decode cX2_isSeen 66 = .ok (.iconst 1, 1) := by decide +kernel
theorem dX2_isSeen_67 : decode cX2_isSeen 67 = .ok (.goto 4, 3) := by decide +kernel
theorem dX2_isSeen_70 : decode cX2_isSeen 70 = .ok (.iconst 0, 1) := by decide +kernel
theorem dX2_isSeen_71 : decode cX2_isSeen 71 = .ok (.ireturn, 1) := by decide +kernel
theorem dX2_combined_0 : decode cX2_combined 0 = .ok (.iload_n 0, 1) := by decide +kernel
theorem dX2_combined_1 : decode cX2_combined 1 = .ok (.tableswitch 86 0 5 #[39, 46, 56, 63, 69, 75], 39) := by decide +kernel
theorem dX2_combined_40 : decode cX2_combined 40 = .ok (.iload_n 1, 1) := by decide +kernel
theorem dX2_combined_41 : decode cX2_combined 41 = .ok (.iload_n 2, 1) := by decide +kernel
theorem dX2_combined_42 : decode cX2_combined 42 = .ok (.iadd, 1) := by decide +kernel
theorem dX2_combined_43 : decode cX2_combined 43 = .ok (.bipush 10, 2) := by decide +kernel
theorem dX2_combined_45 : decode cX2_combined 45 = .ok (.irem, 1) := by decide +kernel
theorem dX2_combined_46 : decode cX2_combined 46 = .ok (.ireturn, 1) := by decide +kernel
theorem dX2_combined_47 : decode cX2_combined 47 = .ok (.iload_n 1, 1) := by decide +kernel
theorem dX2_combined_48 : decode cX2_combined 48 = .ok (.iload_n 2, 1) := by decide +kernel
theorem dX2_combined_49 : decode cX2_combined 49 = .ok (.isub, 1) := by decide +kernel
theorem dX2_combined_50 : decode cX2_combined 50 = .ok (.bipush 10, 2) := by decide +kernel
theorem dX2_combined_52 : decode cX2_combined 52 = .ok (.iadd, 1) := by decide +kernel
theorem dX2_combined_53 : decode cX2_combined 53 = .ok (.bipush 10, 2) := by decide +kernel
theorem dX2_combined_55 : decode cX2_combined 55 = .ok (.irem, 1) := by decide +kernel
theorem dX2_combined_56 : decode cX2_combined 56 = .ok (.ireturn, 1) := by decide +kernel
theorem dX2_combined_57 : decode cX2_combined 57 = .ok (.iload_n 1, 1) := by decide +kernel
theorem dX2_combined_58 : decode cX2_combined 58 = .ok (.iload_n 2, 1) := by decide +kernel
theorem dX2_combined_59 : decode cX2_combined 59 = .ok (.imul, 1) := by decide +kernel
theorem dX2_combined_60 : decode cX2_combined 60 = .ok (.bipush 10, 2) := by decide +kernel
theorem dX2_combined_62 : decode cX2_combined 62 = .ok (.irem, 1) := by decide +kernel
theorem dX2_combined_63 : decode cX2_combined 63 = .ok (.ireturn, 1) := by decide +kernel
theorem dX2_combined_64 : decode cX2_combined 64 = .ok (.iload_n 1, 1) := by decide +kernel
theorem dX2_combined_65 : decode cX2_combined 65 = .ok (.iload_n 2, 1) := by decide +kernel
theorem dX2_combined_66 : decode cX2_combined 66 = .ok (.invokestatic 99, 3) := by decide +kernel
theorem dX2_combined_69 : decode cX2_combined 69 = .ok (.ireturn, 1) := by decide +kernel
theorem dX2_combined_70 : decode cX2_combined 70 = .ok (.iload_n 1, 1) := by decide +kernel
theorem dX2_combined_71 : decode cX2_combined 71 = .ok (.iload_n 2, 1) := by decide +kernel
theorem dX2_combined_72 : decode cX2_combined 72 = .ok (.invokestatic 121, 3) := by decide +kernel
theorem dX2_combined_75 : decode cX2_combined 75 = .ok (.ireturn, 1) := by decide +kernel
theorem dX2_combined_76 : decode cX2_combined 76 = .ok (.iload_n 1, 1) := by decide +kernel
theorem dX2_combined_77 : decode cX2_combined 77 = .ok (.iload_n 2, 1) := by decide +kernel
theorem dX2_combined_78 : decode cX2_combined 78 = .ok (.if_icmp .ne 7, 3) := by decide +kernel
theorem dX2_combined_81 : decode cX2_combined 81 = .ok (.iconst 1, 1) := by decide +kernel
theorem dX2_combined_82 : decode cX2_combined 82 = .ok (.goto 4, 3) := by decide +kernel
theorem dX2_combined_85 : decode cX2_combined 85 = .ok (.iconst 0, 1) := by decide +kernel
theorem dX2_combined_86 : decode cX2_combined 86 = .ok (.ireturn, 1) := by decide +kernel
theorem dX2_combined_87 : decode cX2_combined 87 = .ok (.iload_n 2, 1) := by decide +kernel
theorem dX2_combined_88 : decode cX2_combined 88 = .ok (.ifCond .ne 7, 3) := by decide +kernel
theorem dX2_combined_91 : decode cX2_combined 91 = .ok (.iload_n 1, 1) := by decide +kernel
theorem dX2_combined_92 : decode cX2_combined 92 = .ok (.goto 4, 3) := by decide +kernel
theorem dX2_combined_95 : decode cX2_combined 95 = .ok (.iload_n 3, 1) := by decide +kernel
theorem dX2_combined_96 : decode cX2_combined 96 = .ok (.ireturn, 1) := by decide +kernel
theorem dX3_init_0 : decode cX3_init 0 = .ok (.aload_n 0, 1) := by decide +kernel
theorem dX3_init_1 : decode cX3_init 1 = .ok (.invokespecial 3, 3) := by decide +kernel
theorem dX3_init_4 : decode cX3_init 4 = .ok (.aload_n 0, 1) := by decide +kernel
theorem dX3_init_5 : decode cX3_init 5 = .ok (.bipush 6, 2) := by decide +kernel
theorem dX3_init_7 : decode cX3_init 7 = .ok (.bipush 10, 2) := by decide +kernel
theorem dX3_init_9 : decode cX3_init 9 = .ok (.multianewarray 9 2, 4) := by decide +kernel
theorem dX3_init_13 : decode cX3_init 13 = .ok (.putfield 11, 3) := by decide +kernel
theorem dX3_init_16 : decode cX3_init 16 = .ok (.aload_n 0, 1) := by decide +kernel
theorem dX3_init_17 : decode cX3_init 17 = .ok (.aload_n 1, 1) := by decide +kernel
theorem dX3_init_18 : decode cX3_init 18 = .ok (.putfield 16, 3) := by decide +kernel
theorem dX3_init_21 : decode cX3_init 21 = .ok (.return_, 1) := by decide +kernel
theorem dX3_forget_0 : decode cX3_forget 0 = .ok (.aload_n 0, 1) := by decide +kernel
theorem dX3_forget_1 : decode cX3_forget 1 = .ok (.iconst 0, 1) := by decide +kernel
theorem dX3_forget_2 : decode cX3_forget 2 = .ok (.putfield 20, 3) := by decide +kernel
theorem dX3_forget_5 : decode cX3_forget 5 = .ok (.return_, 1) := by decide +kernel
theorem dX3_tally_0 : decode cX3_tally 0 = .ok (.aload_n 0, 1) := by decide +kernel
theorem dX3_tally_1 : decode cX3_tally 1 = .ok (.getfield 16, 3) := by decide +kernel
theorem dX3_tally_4 : decode cX3_tally 4 = .ok (.invokevirtual 24, 3) := by decide +kernel
theorem dX3_tally_7 : decode cX3_tally 7 = .ok (.ifCond .eq 6, 3) := by decide +kernel
theorem dX3_tally_10 : decode cX3_tally 10 = .ok (.bipush (-4), 2) := by decide +kernel
theorem dX3_tally_12 : decode cX3_tally 12 = .ok (.ireturn, 1) := by decide +kernel
theorem dX3_tally_13 : decode cX3_tally 13 = .ok (.aload_n 0, 1) := by decide +kernel
theorem dX3_tally_14 : decode cX3_tally 14 = .ok (.getfield 20, 3) := by decide +kernel
theorem dX3_tally_17 : decode cX3_tally 17 = .ok (.ifCond .ne 22, 3) := by decide +kernel
theorem dX3_tally_20 : decode cX3_tally 20 = .ok (.aload_n 0, 1) := by decide +kernel
theorem dX3_tally_21 : decode cX3_tally 21 = .ok (.invokevirtual 30, 3) := by decide +kernel
theorem dX3_tally_24 : decode cX3_tally 24 = .ok (.aload_n 0, 1) := by decide +kernel
theorem dX3_tally_25 : decode cX3_tally 25 = .ok (.iconst 0, 1) := by decide +kernel
theorem dX3_tally_26 : decode cX3_tally 26 = .ok (.iconst 0, 1) := by decide +kernel
theorem dX3_tally_27 : decode cX3_tally 27 = .ok (.ldc2_w 33, 3) := by decide +kernel
theorem dX3_tally_30 : decode cX3_tally 30 = .ok (.iconst 0, 1) := by decide +kernel
theorem dX3_tally_31 : decode cX3_tally 31 = .ok (.invokevirtual 35, 3) := by decide +kernel
theorem dX3_tally_34 : decode cX3_tally 34 = .ok (.aload_n 0, 1) := by decide +kernel
theorem dX3_tally_35 : decode cX3_tally 35 = .ok (.iconst 1, 1) := by decide +kernel
theorem dX3_tally_36 : decode cX3_tally 36 = .ok (.putfield 20, 3) := by decide +kernel
theorem dX3_tally_39 : decode cX3_tally 39 = .ok (.aload_n 0, 1) := by decide +kernel
theorem dX3_tally_40 : decode cX3_tally 40 = .ok (.getfield 39, 3) := by decide +kernel
theorem dX3_tally_43 : decode cX3_tally 43 = .ok (.sipush 20000, 3) := by decide +kernel
theorem dX3_tally_46 : decode cX3_tally 46 = .ok (.if_icmp .le 8, 3) := by decide +kernel
theorem dX3_tally_49 : decode cX3_tally 49 = .ok (.bipush (-2), 2) := by decide +kernel
theorem dX3_tally_51 : decode cX3_tally 51 = .ok (.goto 7, 3) := by decide +kernel
theorem dX3_tally_54 : decode cX3_tally 54 = .ok (.aload_n 0, 1) := by decide +kernel
theorem dX3_tally_55 : decode cX3_tally 55 = .ok (.getfield 39, 3) := by decide +kernel
theorem dX3_tally_58 : decode cX3_tally 58 = .ok (.ireturn, 1) := by decide +kernel
theorem dX3_empty_0 : decode cX3_empty 0 = .ok (.iconst 0, 1) := by decide +kernel
theorem dX3_empty_1 : decode cX3_empty 1 = .ok (.istore_n 1, 1) := by decide +kernel
theorem dX3_empty_2 : decode cX3_empty 2 = .ok (.iload_n 1, 1) := by decide +kernel
theorem dX3_empty_3 : decode cX3_empty 3 = .ok (.bipush 6, 2) := by decide +kernel
theorem dX3_empty_5 : decode cX3_empty 5 = .ok (.if_icmp .ge 32, 3) := by decide +kernel
theorem dX3_empty_8 : decode cX3_empty 8 = .ok (.iconst 0, 1) := by decide +kernel
theorem dX3_empty_9 : decode cX3_empty 9 = .ok (.istore_n 2, 1) := by decide +kernel
theorem dX3_empty_10 : decode cX3_empty 10 = .ok (.iload_n 2, 1) := by decide +kernel
theorem dX3_empty_11 : decode cX3_empty 11 = .ok (.bipush 10, 2) := by decide +kernel
theorem dX3_empty_13 : decode cX3_empty 13 = .ok (.if_icmp .ge 18, 3) := by decide +kernel
theorem dX3_empty_16 : decode cX3_empty 16 = .ok (.aload_n 0, 1) := by decide +kernel
theorem dX3_empty_17 : decode cX3_empty 17 = .ok (.getfield 11, 3) := by decide +kernel
theorem dX3_empty_20 : decode cX3_empty 20 = .ok (.iload_n 1, 1) := by decide +kernel
theorem dX3_empty_21 : decode cX3_empty 21 = .ok (.aaload, 1) := by decide +kernel
theorem dX3_empty_22 : decode cX3_empty 22 = .ok (.iload_n 2, 1) := by decide +kernel
theorem dX3_empty_23 : decode cX3_empty 23 = .ok (.lconst 0, 1) := by decide +kernel
theorem dX3_empty_24 : decode cX3_empty 24 = .ok (.lastore, 1) := by decide +kernel
theorem dX3_empty_25 : decode cX3_empty 25 = .ok (.iinc 2 1, 3) := by decide +kernel
theorem dX3_empty_28 : decode cX3_empty 28 = .ok (.goto (-18), 3) := by decide +kernel
theorem dX3_empty_31 : decode cX3_empty 31 = .ok (.iinc 1 1, 3) := by decide +kernel
theorem dX3_empty_34 : decode cX3_empty 34 = .ok (.goto (-32), 3) := by decide +kernel
theorem dX3_empty_37 : decode cX3_empty 37 = .ok (.aload_n 0, 1) := by decide +kernel
theorem dX3_empty_38 : decode cX3_empty 38 = .ok (.lconst 0, 1) := by decide +kernel
theorem dX3_empty_39 : decode cX3_empty 39 = .ok (.putfield 43, 3) := by decide +kernel
theorem dX3_empty_42 : decode cX3_empty 42 = .ok (.aload_n 0, 1) := by decide +kernel
theorem dX3_empty_43 : decode cX3_empty 43 = .ok (.iconst 0, 1) := by decide +kernel
theorem dX3_empty_44 : decode cX3_empty 44 = .ok (.putfield 39, 3) := by decide +kernel
theorem dX3_empty_47 : decode cX3_empty 47 = .ok (.return_, 1) := by decide +kernel
theorem dX3_follow_0 : decode cX3_follow 0 = .ok (.iload_n 1, 1) := by decide +kernel
theorem dX3_follow_1 : decode cX3_follow 1 = .ok (.istore 6, 2) := by decide +kernel
theorem dX3_follow_3 : decode cX3_follow 3 = .ok (.iload_n 2, 1) := by decide +kernel
theorem dX3_follow_4 : decode cX3_follow 4 = .ok (.istore 7, 2) := by decide +kernel
theorem dX3_follow_6 : decode cX3_follow 6 = .ok (.lload_n 3, 1) := by decide +kernel
theorem dX3_follow_7 : decode cX3_follow 7 = .ok (.lstore 8, 2) := by decide +kernel
theorem dX3_follow_9 : decode cX3_follow 9 = .ok (.iconst 0, 1) := by decide +kernel
theorem dX3_follow_10 : decode cX3_follow 10 = .ok (.istore 10, 2) := by decide +kernel
theorem dX3_follow_12 : decode cX3_follow 12 = .ok (.iload 10, 2) := by decide +kernel
theorem dX3_follow_14 : decode cX3_follow 14 = .ok (.bipush 30, 2) := by decide +kernel
theorem dX3_follow_16 : decode cX3_follow 16 = .ok (.if_icmp .ge 100, 3) := by decide +kernel
theorem dX3_follow_19 : decode cX3_follow 19 = .ok (.aload_n 0, 1) := by decide +kernel
theorem dX3_follow_20 : decode cX3_follow 20 = .ok (.getfield 16, 3) := by decide +kernel
theorem dX3_follow_23 : decode cX3_follow 23 = .ok (.iload 6, 2) := by decide +kernel
theorem dX3_follow_25 : decode cX3_follow 25 = .ok (.invokevirtual 47, 3) := by decide +kernel
theorem dX3_follow_28 : decode cX3_follow 28 = .ok (.ifCond .eq 88, 3) := by decide +kernel
theorem dX3_follow_31 : decode cX3_follow 31 = .ok (.lload 8, 2) := by decide +kernel
theorem dX3_follow_33 : decode cX3_follow 33 = .ok (.lconst 0, 1) := by decide +kernel
theorem dX3_follow_34 : decode cX3_follow 34 = .ok (.lcmp, 1) := by decide +kernel
theorem dX3_follow_35 : decode cX3_follow 35 = .ok (.ifCond .le 81, 3) := by decide +kernel
theorem dX3_follow_38 : decode cX3_follow 38 = .ok (.aload_n 0, 1) := by decide +kernel
theorem dX3_follow_39 : decode cX3_follow 39 = .ok (.getfield 16, 3) := by decide +kernel
theorem dX3_follow_42 : decode cX3_follow 42 = .ok (.iload 6, 2) := by decide +kernel
theorem dX3_follow_44 : decode cX3_follow 44 = .ok (.invokevirtual 51, 3) := by decide +kernel
theorem dX3_follow_47 : decode cX3_follow 47 = .ok (.ifCond .eq 16, 3) := by decide +kernel
theorem dX3_follow_50 : decode cX3_follow 50 = .ok (.aload_n 0, 1) := by decide +kernel
theorem dX3_follow_51 : decode cX3_follow 51 = .ok (.iload 6, 2) := by decide +kernel
theorem dX3_follow_53 : decode cX3_follow 53 = .ok (.iload 7, 2) := by decide +kernel
theorem dX3_follow_55 : decode cX3_follow 55 = .ok (.lload 8, 2) := by decide +kernel
theorem dX3_follow_57 : decode cX3_follow 57 = .ok (.iload 5, 2) := by decide +kernel
theorem dX3_follow_59 : decode cX3_follow 59 = .ok (.invokevirtual 54, 3) := by decide +kernel
theorem dX3_follow_62 : decode cX3_follow 62 = .ok (.return_, 1) := by decide +kernel
theorem dX3_follow_63 : decode cX3_follow 63 = .ok (.aload_n 0, 1) := by decide +kernel
theorem dX3_follow_64 : decode cX3_follow 64 = .ok (.getfield 16, 3) := by decide +kernel
theorem dX3_follow_67 : decode cX3_follow 67 = .ok (.iload 6, 2) := by decide +kernel
theorem dX3_follow_69 : decode cX3_follow 69 = .ok (.iload 7, 2) := by decide +kernel
theorem dX3_follow_71 : decode cX3_follow 71 = .ok (.invokevirtual 57, 3) := by decide +kernel
theorem dX3_follow_74 : decode cX3_follow 74 = .ok (.istore 11, 2) := by decide +kernel
theorem dX3_follow_76 : decode cX3_follow 76 = .ok (.aload_n 0, 1) := by decide +kernel
theorem dX3_follow_77 : decode cX3_follow 77 = .ok (.getfield 16, 3) := by decide +kernel
theorem dX3_follow_80 : decode cX3_follow 80 = .ok (.iload 6, 2) := by decide +kernel
theorem dX3_follow_82 : decode cX3_follow 82 = .ok (.iconst 0, 1) := by decide +kernel
theorem dX3_follow_83 : decode cX3_follow 83 = .ok (.iload 7, 2) := by decide +kernel
theorem dX3_follow_85 : decode cX3_follow 85 = .ok (.lload 8, 2) := by decide +kernel
theorem dX3_follow_87 : decode cX3_follow 87 = .ok (.invokevirtual 61, 3) := by decide +kernel
theorem dX3_follow_90 : decode cX3_follow 90 = .ok (.lstore 8, 2) := by decide +kernel
theorem dX3_follow_92 : decode cX3_follow 92 = .ok (.aload_n 0, 1) := by decide +kernel
theorem dX3_follow_93 : decode cX3_follow 93 = .ok (.getfield 16, 3) := by decide +kernel
theorem dX3_follow_96 : decode cX3_follow 96 = .ok (.iload 6, 2) := by decide +kernel
theorem dX3_follow_98 : decode cX3_follow 98 = .ok (.iconst 0, 1) := by decide +kernel
theorem dX3_follow_99 : decode cX3_follow 99 = .ok (.iload 7, 2) := by decide +kernel
theorem dX3_follow_101 : decode cX3_follow 101 = .ok (.invokevirtual 65, 3) := by decide +kernel
theorem dX3_follow_104 : decode cX3_follow 104 = .ok (.istore 7, 2) := by decide +kernel
theorem dX3_follow_106 : decode cX3_follow 106 = .ok (.iload 11, 2) := by decide +kernel
theorem dX3_follow_108 : decode cX3_follow 108 = .ok (.istore 6, 2) := by decide +kernel
theorem dX3_follow_110 : decode cX3_follow 110 = .ok (.iinc 10 1, 3) := by decide +kernel
theorem dX3_follow_113 : decode cX3_follow 113 = .ok (.goto (-101), 3) := by decide +kernel
theorem dX3_follow_116 : decode cX3_follow 116 = .ok (.aload_n 0, 1) := by decide +kernel
theorem dX3_follow_117 : decode cX3_follow 117 = .ok (.dup, 1) := by decide +kernel
theorem dX3_follow_118 : decode cX3_follow 118 = .ok (.getfield 39, 3) := by decide +kernel
theorem dX3_follow_121 : decode cX3_follow 121 = .ok (.iconst 1, 1) := by decide +kernel
theorem dX3_follow_122 : decode cX3_follow 122 = .ok (.iadd, 1) := by decide +kernel
theorem dX3_follow_123 : decode cX3_follow 123 = .ok (.putfield 39, 3) := by decide +kernel
theorem dX3_follow_126 : decode cX3_follow 126 = .ok (.lload 8, 2) := by decide +kernel
theorem dX3_follow_128 : decode cX3_follow 128 = .ok (.lconst 0, 1) := by decide +kernel
theorem dX3_follow_129 : decode cX3_follow 129 = .ok (.lcmp, 1) := by decide +kernel
theorem dX3_follow_130 : decode cX3_follow 130 = .ok (.ifCond .le 11, 3) := by decide +kernel
theorem dX3_follow_133 : decode cX3_follow 133 = .ok (.aload_n 0, 1) := by decide +kernel
theorem dX3_follow_134 : decode cX3_follow 134 = .ok (.iload 7, 2) := by decide +kernel
theorem dX3_follow_136 : decode cX3_follow 136 = .ok (.lload 8, 2) := by decide +kernel
theorem dX3_follow_138 : decode cX3_follow 138 = .ok (.invokevirtual 69, 3) := by decide +kernel
theorem dX3_follow_141 : decode cX3_follow 141 = .ok (.return_, 1) := by decide +kernel
theorem dX3_branch_0 : decode cX3_branch 0 = .ok (.iload 5, 2) := by decide +kernel
theorem dX3_branch_2 : decode cX3_branch 2 = .ok (.bipush 8, 2) := by decide +kernel
theorem dX3_branch_4 : decode cX3_branch 4 = .ok (.if_icmp .lt 4, 3) := by decide +kernel
theorem dX3_branch_7 : decode cX3_branch 7 = .ok (.return_, 1) := by decide +kernel
theorem dX3_branch_8 : decode cX3_branch 8 = .ok (.iconst 0, 1) := by decide +kernel
theorem dX3_branch_9 : decode cX3_branch 9 = .ok (.istore 6, 2) := by decide +kernel
theorem dX3_branch_11 : decode cX3_branch 11 = .ok (.iload 6, 2) := by decide +kernel
theorem dX3_branch_13 : decode cX3_branch 13 = .ok (.bipush 10, 2) := by decide +kernel
theorem dX3_branch_15 : decode cX3_branch 15 = .ok (.if_icmp .ge 64, 3) := by decide +kernel
theorem dX3_branch_18 : decode cX3_branch 18 = .ok (.aload_n 0, 1) := by decide +kernel
theorem dX3_branch_19 : decode cX3_branch 19 = .ok (.getfield 39, 3) := by decide +kernel
theorem dX3_branch_22 : decode cX3_branch 22 = .ok (.sipush 20000, 3) := by decide +kernel
theorem dX3_branch_25 : decode cX3_branch 25 = .ok (.if_icmp .gt 54, 3) := by decide +kernel
theorem dX3_branch_28 : decode cX3_branch 28 = .ok (.aload_n 0, 1) := by decide +kernel
theorem dX3_branch_29 : decode cX3_branch 29 = .ok (.getfield 16, 3) := by decide +kernel
theorem dX3_branch_32 : decode cX3_branch 32 = .ok (.iload_n 1, 1) := by decide +kernel
theorem dX3_branch_33 : decode cX3_branch 33 = .ok (.iload 6, 2) := by decide +kernel
theorem dX3_branch_35 : decode cX3_branch 35 = .ok (.iload_n 2, 1) := by decide +kernel
theorem dX3_branch_36 : decode cX3_branch 36 = .ok (.lload_n 3, 1) := by decide +kernel
theorem dX3_branch_37 : decode cX3_branch 37 = .ok (.invokevirtual 61, 3) := by decide +kernel
theorem dX3_branch_40 : decode cX3_branch 40 = .ok (.lstore 7, 2) := by decide +kernel
theorem dX3_branch_42 : decode cX3_branch 42 = .ok (.lload 7, 2) := by decide +kernel
theorem dX3_branch_44 : decode cX3_branch 44 = .ok (.lconst 0, 1) := by decide +kernel
theorem dX3_branch_45 : decode cX3_branch 45 = .ok (.lcmp, 1) := by decide +kernel
theorem dX3_branch_46 : decode cX3_branch 46 = .ok (.ifCond .le 27, 3) := by decide +kernel
theorem dX3_branch_49 : decode cX3_branch 49 = .ok (.aload_n 0, 1) := by decide +kernel
theorem dX3_branch_50 : decode cX3_branch 50 = .ok (.iload_n 1, 1) := by decide +kernel
theorem dX3_branch_51 : decode cX3_branch 51 = .ok (.iconst 1, 1) := by decide +kernel
theorem dX3_branch_52 : decode cX3_branch 52 = .ok (.iadd, 1) := by decide +kernel
theorem dX3_branch_53 : decode cX3_branch 53 = .ok (.aload_n 0, 1) := by decide +kernel
theorem dX3_branch_54 : decode cX3_branch 54 = .ok (.getfield 16, 3) := by decide +kernel
theorem dX3_branch_57 : decode cX3_branch 57 = .ok (.iload_n 1, 1) := by decide +kernel
theorem dX3_branch_58 : decode cX3_branch 58 = .ok (.iload 6, 2) := by decide +kernel
theorem dX3_branch_60 : decode cX3_branch 60 = .ok (.iload_n 2, 1) := by decide +kernel
theorem dX3_branch_61 : decode cX3_branch 61 = .ok (.invokevirtual 65, 3) := by decide +kernel
theorem dX3_branch_64 : decode cX3_branch 64 = .ok (.lload 7, 2) := by decide +kernel
theorem dX3_branch_66 : decode cX3_branch 66 = .ok (.iload 5, 2) := by decide +kernel
theorem dX3_branch_68 : decode cX3_branch 68 = .ok (.iconst 1, 1) := by decide +kernel
theorem dX3_branch_69 : decode cX3_branch 69 = .ok (.iadd, 1) := by decide +kernel
theorem dX3_branch_70 : decode cX3_branch 70 = .ok (.invokevirtual 35, 3) := by decide +kernel
theorem dX3_branch_73 : decode cX3_branch 73 = .ok (.iinc 6 1, 3) := by decide +kernel
theorem dX3_branch_76 : decode cX3_branch 76 = .ok (.goto (-65), 3) := by decide +kernel
theorem dX3_branch_79 : decode cX3_branch 79 = .ok (.return_, 1) := by decide +kernel
theorem dX3_addAtEnd_0 : decode cX3_addAtEnd 0 = .ok (.aload_n 0, 1) := by decide +kernel
theorem dX3_addAtEnd_1 : decode cX3_addAtEnd 1 = .ok (.dup, 1) := by decide +kernel
theorem dX3_addAtEnd_2 : decode cX3_addAtEnd 2 = .ok (.getfield 43, 3) := by decide +kernel
theorem dX3_addAtEnd_5 : decode cX3_addAtEnd 5 = .ok (.lload_n 2, 1) := by decide +kernel
theorem dX3_addAtEnd_6 : decode cX3_addAtEnd 6 = .ok (.ladd, 1) := by decide +kernel
theorem dX3_addAtEnd_7 : decode cX3_addAtEnd 7 = .ok (.putfield 43, 3) := by decide +kernel
theorem dX3_addAtEnd_10 : decode cX3_addAtEnd 10 = .ok (.iconst 0, 1) := by decide +kernel
theorem dX3_addAtEnd_11 : decode cX3_addAtEnd 11 = .ok (.istore 4, 2) := by decide +kernel
theorem dX3_addAtEnd_13 : decode cX3_addAtEnd 13 = .ok (.iload 4, 2) := by decide +kernel
theorem dX3_addAtEnd_15 : decode cX3_addAtEnd 15 = .ok (.bipush 6, 2) := by decide +kernel
theorem dX3_addAtEnd_17 : decode cX3_addAtEnd 17 = .ok (.if_icmp .ge 39, 3) := by decide +kernel
theorem dX3_addAtEnd_20 : decode cX3_addAtEnd 20 = .ok (.iload_n 1, 1) := by decide +kernel
theorem dX3_addAtEnd_21 : decode cX3_addAtEnd 21 = .ok (.iload 4, 2) := by decide +kernel
theorem dX3_addAtEnd_23 : decode cX3_addAtEnd 23 = .ok (.invokestatic 73, 3) := by decide +kernel
theorem dX3_addAtEnd_26 : decode cX3_addAtEnd 26 = .ok (.istore 5, 2) := by decide +kernel
theorem dX3_addAtEnd_28 : decode cX3_addAtEnd 28 = .ok (.iload 5, 2) := by decide +kernel
theorem dX3_addAtEnd_30 : decode cX3_addAtEnd 30 = .ok (.invokestatic 78, 3) := by decide +kernel
theorem dX3_addAtEnd_33 : decode cX3_addAtEnd 33 = .ok (.ifCond .eq 17, 3) := by decide +kernel
theorem dX3_addAtEnd_36 : decode cX3_addAtEnd 36 = .ok (.aload_n 0, 1) := by decide +kernel
theorem dX3_addAtEnd_37 : decode cX3_addAtEnd 37 = .ok (.getfield 11, 3) := by decide +kernel
theorem dX3_addAtEnd_40 : decode cX3_addAtEnd 40 = .ok (.iload 4, 2) := by decide +kernel
theorem dX3_addAtEnd_42 : decode cX3_addAtEnd 42 = .ok (.aaload, 1) := by decide +kernel
theorem dX3_addAtEnd_43 : decode cX3_addAtEnd 43 = .ok (.iload 5, 2) := by decide +kernel
theorem dX3_addAtEnd_45 : decode cX3_addAtEnd 45 = .ok (.dup2, 1) := by decide +kernel
theorem dX3_addAtEnd_46 : decode cX3_addAtEnd 46 = .ok (.laload, 1) := by decide +kernel
theorem dX3_addAtEnd_47 : decode cX3_addAtEnd 47 = .ok (.lload_n 2, 1) := by decide +kernel
theorem dX3_addAtEnd_48 : decode cX3_addAtEnd 48 = .ok (.ladd, 1) := by decide +kernel
theorem dX3_addAtEnd_49 : decode cX3_addAtEnd 49 = .ok (.lastore, 1) := by decide +kernel
theorem dX3_addAtEnd_50 : decode cX3_addAtEnd 50 = .ok (.iinc 4 1, 3) := by decide +kernel
theorem dX3_addAtEnd_53 : decode cX3_addAtEnd 53 = .ok (.goto (-40), 3) := by decide +kernel
theorem dX3_addAtEnd_56 : decode cX3_addAtEnd 56 = .ok (.return_, 1) := by decide +kernel
theorem dX4_init_0 : decode cX4_init 0 = .ok (.aload_n 0, 1) := by decide +kernel
theorem dX4_init_1 : decode cX4_init 1 = .ok (.invokespecial 3, 3) := by decide +kernel
theorem dX4_init_4 : decode cX4_init 4 = .ok (.aload_n 0, 1) := by decide +kernel
theorem dX4_init_5 : decode cX4_init 5 = .ok (.new 9, 3) := by decide +kernel
theorem dX4_init_8 : decode cX4_init 8 = .ok (.dup, 1) := by decide +kernel
theorem dX4_init_9 : decode cX4_init 9 = .ok (.invokespecial 11, 3) := by decide +kernel
theorem dX4_init_12 : decode cX4_init 12 = .ok (.putfield 12, 3) := by decide +kernel
theorem dX4_init_15 : decode cX4_init 15 = .ok (.aload_n 0, 1) := by decide +kernel
theorem dX4_init_16 : decode cX4_init 16 = .ok (.new 16, 3) := by decide +kernel
theorem dX4_init_19 : decode cX4_init 19 = .ok (.dup, 1) := by decide +kernel
theorem dX4_init_20 : decode cX4_init 20 = .ok (.aload_n 0, 1) := by decide +kernel
theorem dX4_init_21 : decode cX4_init 21 = .ok (.getfield 12, 3) := by decide +kernel
theorem dX4_init_24 : decode cX4_init 24 = .ok (.invokespecial 18, 3) := by decide +kernel
theorem dX4_init_27 : decode cX4_init 27 = .ok (.putfield 21, 3) := by decide +kernel
theorem dX4_init_30 : decode cX4_init 30 = .ok (.aload_n 0, 1) := by decide +kernel
theorem dX4_init_31 : decode cX4_init 31 = .ok (.new 25, 3) := by decide +kernel
theorem dX4_init_34 : decode cX4_init 34 = .ok (.dup, 1) := by decide +kernel
theorem dX4_init_35 : decode cX4_init 35 = .ok (.aload_n 0, 1) := by decide +kernel
theorem dX4_init_36 : decode cX4_init 36 = .ok (.getfield 12, 3) := by decide +kernel
theorem dX4_init_39 : decode cX4_init 39 = .ok (.invokespecial 27, 3) := by decide +kernel
theorem dX4_init_42 : decode cX4_init 42 = .ok (.putfield 28, 3) := by decide +kernel
theorem dX4_init_45 : decode cX4_init 45 = .ok (.return_, 1) := by decide +kernel
theorem dX4_weight_0 : decode cX4_weight 0 = .ok (.iload_n 1, 1) := by decide +kernel
theorem dX4_weight_1 : decode cX4_weight 1 = .ok (.invokestatic 32, 3) := by decide +kernel
theorem dX4_weight_4 : decode cX4_weight 4 = .ok (.ifCond .eq 20, 3) := by decide +kernel
theorem dX4_weight_7 : decode cX4_weight 7 = .ok (.iload_n 2, 1) := by decide +kernel
theorem dX4_weight_8 : decode cX4_weight 8 = .ok (.invokestatic 36, 3) := by decide +kernel
theorem dX4_weight_11 : decode cX4_weight 11 = .ok (.ifCond .eq 13, 3) := by decide +kernel
theorem dX4_weight_14 : decode cX4_weight 14 = .ok (.iload_n 3, 1) := by decide +kernel
theorem dX4_weight_15 : decode cX4_weight 15 = .ok (.ifCond .lt 9, 3) := by decide +kernel
theorem dX4_weight_18 : decode cX4_weight 18 = .ok (.iload_n 3, 1) := by decide +kernel
theorem dX4_weight_19 : decode cX4_weight 19 = .ok (.bipush 60, 2) := by decide +kernel
theorem dX4_weight_21 : decode cX4_weight 21 = .ok (.if_icmp .le 5, 3) := by decide +kernel
theorem dX4_weight_24 : decode cX4_weight 24 = .ok (.iconst (-1), 1) := by decide +kernel
theorem dX4_weight_25 : decode cX4_weight 25 = .ok (.ireturn, 1) := by decide +kernel
theorem dX4_weight_26 : decode cX4_weight 26 = .ok (.aload_n 0, 1) := by decide +kernel
theorem dX4_weight_27 : decode cX4_weight 27 = .ok (.invokevirtual 39, 3) := by decide +kernel
theorem dX4_weight_30 : decode cX4_weight 30 = .ok (.aload_n 0, 1) := by decide +kernel
theorem dX4_weight_31 : decode cX4_weight 31 = .ok (.getfield 12, 3) := by decide +kernel
theorem dX4_weight_34 : decode cX4_weight 34 = .ok (.iload_n 1, 1) := by decide +kernel
theorem dX4_weight_35 : decode cX4_weight 35 = .ok (.iload_n 2, 1) := by decide +kernel
theorem dX4_weight_36 : decode cX4_weight 36 = .ok (.iload_n 3, 1) := by decide +kernel
theorem dX4_weight_37 : decode cX4_weight 37 = .ok (.invokevirtual 42, 3) := by decide +kernel
theorem dX4_weight_40 : decode cX4_weight 40 = .ok (.ireturn, 1) := by decide +kernel
theorem dX4_draw_0 : decode cX4_draw 0 = .ok (.iload_n 1, 1) := by decide +kernel
theorem dX4_draw_1 : decode cX4_draw 1 = .ok (.invokestatic 46, 3) := by decide +kernel
theorem dX4_draw_4 : decode cX4_draw 4 = .ok (.ifCond .eq 10, 3) := by decide +kernel
theorem dX4_draw_7 : decode cX4_draw 7 = .ok (.iload_n 2, 1) := by decide +kernel
theorem dX4_draw_8 : decode cX4_draw 8 = .ok (.invokestatic 32, 3) := by decide +kernel
theorem dX4_draw_11 : decode cX4_draw 11 = .ok (.ifCond .ne 5, 3) := by decide +kernel
theorem dX4_draw_14 : decode cX4_draw 14 = .ok (.iconst (-1), 1) := by decide +kernel
theorem dX4_draw_15 : decode cX4_draw 15 = .ok (.ireturn, 1) := by decide +kernel
theorem dX4_draw_16 : decode cX4_draw 16 = .ok (.aload_n 0, 1) := by decide +kernel
theorem dX4_draw_17 : decode cX4_draw 17 = .ok (.iconst 0, 1) := by decide +kernel
theorem dX4_draw_18 : decode cX4_draw 18 = .ok (.iload_n 1, 1) := by decide +kernel
theorem dX4_draw_19 : decode cX4_draw 19 = .ok (.iload_n 2, 1) := by decide +kernel
theorem dX4_draw_20 : decode cX4_draw 20 = .ok (.bipush 10, 2) := by decide +kernel
theorem dX4_draw_22 : decode cX4_draw 22 = .ok (.bipush 10, 2) := by decide +kernel
theorem dX4_draw_24 : decode cX4_draw 24 = .ok (.invokevirtual 49, 3) := by decide +kernel
theorem dX4_draw_27 : decode cX4_draw 27 = .ok (.ireturn, 1) := by decide +kernel
theorem dX4_set_0 : decode cX4_set 0 = .ok (.iload_n 1, 1) := by decide +kernel
theorem dX4_set_1 : decode cX4_set 1 = .ok (.invokestatic 46, 3) := by decide +kernel
theorem dX4_set_4 : decode cX4_set 4 = .ok (.ifCond .eq 28, 3) := by decide +kernel
theorem dX4_set_7 : decode cX4_set 7 = .ok (.iload_n 2, 1) := by decide +kernel
theorem dX4_set_8 : decode cX4_set 8 = .ok (.ifCond .lt 24, 3) := by decide +kernel
theorem dX4_set_11 : decode cX4_set 11 = .ok (.iload_n 2, 1) := by decide +kernel
theorem dX4_set_12 : decode cX4_set 12 = .ok (.bipush 6, 2) := by decide +kernel
theorem dX4_set_14 : decode cX4_set 14 = .ok (.if_icmp .gt 18, 3) := by decide +kernel
theorem dX4_set_17 : decode cX4_set 17 = .ok (.iload_n 3, 1) := by decide +kernel
theorem dX4_set_18 : decode cX4_set 18 = .ok (.invokestatic 53, 3) := by decide +kernel
theorem dX4_set_21 : decode cX4_set 21 = .ok (.ifCond .eq 11, 3) := by decide +kernel
theorem dX4_set_24 : decode cX4_set 24 = .ok (.iload 4, 2) := by decide +kernel
theorem dX4_set_26 : decode cX4_set 26 = .ok (.invokestatic 53, 3) := by decide +kernel
theorem dX4_set_29 : decode cX4_set 29 = .ok (.ifCond .ne 5, 3) := by decide +kernel
theorem dX4_set_32 : decode cX4_set 32 = .ok (.iconst (-1), 1) := by decide +kernel
theorem dX4_set_33 : decode cX4_set 33 = .ok (.ireturn, 1) := by decide +kernel
theorem dX4_set_34 : decode cX4_set 34 = .ok (.aload_n 0, 1) := by decide +kernel
theorem dX4_set_35 : decode cX4_set 35 = .ok (.iconst 1, 1) := by decide +kernel
theorem dX4_set_36 : decode cX4_set 36 = .ok (.iload_n 1, 1) := by decide +kernel
theorem dX4_set_37 : decode cX4_set 37 = .ok (.iload_n 2, 1) := by decide +kernel
theorem dX4_set_38 : decode cX4_set 38 = .ok (.iload_n 3, 1) := by decide +kernel
theorem dX4_set_39 : decode cX4_set 39 = .ok (.iload 4, 2) := by decide +kernel
theorem dX4_set_41 : decode cX4_set 41 = .ok (.invokevirtual 49, 3) := by decide +kernel
theorem dX4_set_44 : decode cX4_set 44 = .ok (.ireturn, 1) := by decide +kernel
theorem dX4_observe_0 : decode cX4_observe 0 = .ok (.iload_n 1, 1) := by decide +kernel
theorem dX4_observe_1 : decode cX4_observe 1 = .ok (.invokestatic 53, 3) := by decide +kernel
theorem dX4_observe_4 : decode cX4_observe 4 = .ok (.ifCond .eq 19, 3) := by decide +kernel
theorem dX4_observe_7 : decode cX4_observe 7 = .ok (.iload_n 2, 1) := by decide +kernel
theorem dX4_observe_8 : decode cX4_observe 8 = .ok (.ifCond .lt 15, 3) := by decide +kernel
theorem dX4_observe_11 : decode cX4_observe 11 = .ok (.iload_n 2, 1) := by decide +kernel
theorem dX4_observe_12 : decode cX4_observe 12 = .ok (.iconst 3, 1) := by decide +kernel
theorem dX4_observe_13 : decode cX4_observe 13 = .ok (.if_icmp .gt 10, 3) := by decide +kernel
theorem dX4_observe_16 : decode cX4_observe 16 = .ok (.iload_n 3, 1) := by decide +kernel
theorem dX4_observe_17 : decode cX4_observe 17 = .ok (.invokestatic 53, 3) := by decide +kernel
theorem dX4_observe_20 : decode cX4_observe 20 = .ok (.ifCond .ne 5, 3) := by decide +kernel
theorem dX4_observe_23 : decode cX4_observe 23 = .ok (.iconst (-1), 1) := by decide +kernel
theorem dX4_observe_24 : decode cX4_observe 24 = .ok (.ireturn, 1) := by decide +kernel
theorem dX4_observe_25 : decode cX4_observe 25 = .ok (.aload_n 0, 1) := by decide +kernel
theorem dX4_observe_26 : decode cX4_observe 26 = .ok (.iconst 2, 1) := by decide +kernel
theorem dX4_observe_27 : decode cX4_observe 27 = .ok (.iconst 0, 1) := by decide +kernel
theorem dX4_observe_28 : decode cX4_observe 28 = .ok (.iload_n 2, 1) := by decide +kernel
theorem dX4_observe_29 : decode cX4_observe 29 = .ok (.iload_n 1, 1) := by decide +kernel
theorem dX4_observe_30 : decode cX4_observe 30 = .ok (.iload_n 3, 1) := by decide +kernel
theorem dX4_observe_31 : decode cX4_observe 31 = .ok (.invokevirtual 49, 3) := by decide +kernel
theorem dX4_observe_34 : decode cX4_observe 34 = .ok (.ireturn, 1) := by decide +kernel
theorem dX4_weigh_0 : decode cX4_weigh 0 = .ok (.iload_n 1, 1) := by decide +kernel
theorem dX4_weigh_1 : decode cX4_weigh 1 = .ok (.invokestatic 53, 3) := by decide +kernel
theorem dX4_weigh_4 : decode cX4_weigh 4 = .ok (.ifCond .ne 5, 3) := by decide +kernel
theorem dX4_weigh_7 : decode cX4_weigh 7 = .ok (.iconst (-1), 1) := by decide +kernel
theorem dX4_weigh_8 : decode cX4_weigh 8 = .ok (.ireturn, 1) := by decide +kernel
theorem dX4_weigh_9 : decode cX4_weigh 9 = .ok (.aload_n 0, 1) := by decide +kernel
theorem dX4_weigh_10 : decode cX4_weigh 10 = .ok (.iconst 3, 1) := by decide +kernel
theorem dX4_weigh_11 : decode cX4_weigh 11 = .ok (.iconst 0, 1) := by decide +kernel
theorem dX4_weigh_12 : decode cX4_weigh 12 = .ok (.iconst 0, 1) := by decide +kernel
theorem dX4_weigh_13 : decode cX4_weigh 13 = .ok (.iload_n 1, 1) := by decide +kernel
theorem dX4_weigh_14 : decode cX4_weigh 14 = .ok (.bipush 10, 2) := by decide +kernel
theorem dX4_weigh_16 : decode cX4_weigh 16 = .ok (.invokevirtual 49, 3) := by decide +kernel
theorem dX4_weigh_19 : decode cX4_weigh 19 = .ok (.ireturn, 1) := by decide +kernel
theorem dX4_skip_0 : decode cX4_skip 0 = .ok (.iload_n 1, 1) := by decide +kernel
theorem dX4_skip_1 : decode cX4_skip 1 = .ok (.invokestatic 53, 3) := by decide +kernel
theorem dX4_skip_4 : decode cX4_skip 4 = .ok (.ifCond .eq 14, 3) := by decide +kernel
theorem dX4_skip_7 : decode cX4_skip 7 = .ok (.iload_n 2, 1) := by decide +kernel
theorem dX4_skip_8 : decode cX4_skip 8 = .ok (.iconst 1, 1) := by decide +kernel
theorem dX4_skip_9 : decode cX4_skip 9 = .ok (.if_icmp .lt 9, 3) := by decide +kernel
theorem dX4_skip_12 : decode cX4_skip 12 = .ok (.iload_n 2, 1) := by decide +kernel
theorem dX4_skip_13 : decode cX4_skip 13 = .ok (.bipush 9, 2) := by decide +kernel
theorem dX4_skip_15 : decode cX4_skip 15 = .ok (.if_icmp .le 5, 3) := by decide +kernel
theorem dX4_skip_18 : decode cX4_skip 18 = .ok (.iconst (-1), 1) := by decide +kernel
theorem dX4_skip_19 : decode cX4_skip 19 = .ok (.ireturn, 1) := by decide +kernel
theorem dX4_skip_20 : decode cX4_skip 20 = .ok (.aload_n 0, 1) := by decide +kernel
theorem dX4_skip_21 : decode cX4_skip 21 = .ok (.iconst 4, 1) := by decide +kernel
theorem dX4_skip_22 : decode cX4_skip 22 = .ok (.iconst 0, 1) := by decide +kernel
theorem dX4_skip_23 : decode cX4_skip 23 = .ok (.iload_n 2, 1) := by decide +kernel
theorem dX4_skip_24 : decode cX4_skip 24 = .ok (.iload_n 1, 1) := by decide +kernel
theorem dX4_skip_25 : decode cX4_skip 25 = .ok (.bipush 10, 2) := by decide +kernel
theorem dX4_skip_27 : decode cX4_skip 27 = .ok (.invokevirtual 49, 3) := by decide +kernel
theorem dX4_skip_30 : decode cX4_skip 30 = .ok (.ireturn, 1) := by decide +kernel
theorem dX4_drop_0 : decode cX4_drop 0 = .ok (.aload_n 0, 1) := by decide +kernel
theorem dX4_drop_1 : decode cX4_drop 1 = .ok (.getfield 12, 3) := by decide +kernel
theorem dX4_drop_4 : decode cX4_drop 4 = .ok (.getfield 56, 3) := by decide +kernel
theorem dX4_drop_7 : decode cX4_drop 7 = .ok (.ifCond .ne 6, 3) := by decide +kernel
theorem dX4_drop_10 : decode cX4_drop 10 = .ok (.bipush (-3), 2) := by decide +kernel
theorem dX4_drop_12 : decode cX4_drop 12 = .ok (.ireturn, 1) := by decide +kernel
theorem dX4_drop_13 : decode cX4_drop 13 = .ok (.aload_n 0, 1) := by decide +kernel
theorem dX4_drop_14 : decode cX4_drop 14 = .ok (.invokevirtual 39, 3) := by decide +kernel
theorem dX4_drop_17 : decode cX4_drop 17 = .ok (.aload_n 0, 1) := by decide +kernel
theorem dX4_drop_18 : decode cX4_drop 18 = .ok (.getfield 12, 3) := by decide +kernel
theorem dX4_drop_21 : decode cX4_drop 21 = .ok (.invokevirtual 60, 3) := by decide +kernel
theorem dX4_drop_24 : decode cX4_drop 24 = .ok (.ireturn, 1) := by decide +kernel
theorem dX4_ask_0 : decode cX4_ask 0 = .ok (.iload_n 1, 1) := by decide +kernel
theorem dX4_ask_1 : decode cX4_ask 1 = .ok (.invokestatic 46, 3) := by decide +kernel
theorem dX4_ask_4 : decode cX4_ask 4 = .ok (.ifCond .ne 5, 3) := by decide +kernel
theorem dX4_ask_7 : decode cX4_ask 7 = .ok (.iconst (-1), 1) := by decide +kernel
theorem dX4_ask_8 : decode cX4_ask 8 = .ok (.ireturn, 1) := by decide +kernel
theorem dX4_ask_9 : decode cX4_ask 9 = .ok (.aload_n 0, 1) := by decide +kernel
theorem dX4_ask_10 : decode cX4_ask 10 = .ok (.getfield 21, 3) := by decide +kernel
theorem dX4_ask_13 : decode cX4_ask 13 = .ok (.invokevirtual 64, 3) := by decide +kernel
theorem dX4_ask_16 : decode cX4_ask 16 = .ok (.aload_n 0, 1) := by decide +kernel
theorem dX4_ask_17 : decode cX4_ask 17 = .ok (.getfield 12, 3) := by decide +kernel
theorem dX4_ask_20 : decode cX4_ask 20 = .ok (.iload_n 1, 1) := by decide +kernel
theorem dX4_ask_21 : decode cX4_ask 21 = .ok (.iload_n 2, 1) := by decide +kernel
theorem dX4_ask_22 : decode cX4_ask 22 = .ok (.invokevirtual 67, 3) := by decide +kernel
theorem dX4_ask_25 : decode cX4_ask 25 = .ok (.ifCond .eq 7, 3) := by decide +kernel
theorem dX4_ask_28 : decode cX4_ask 28 = .ok (.iconst 1, 1) := by decide +kernel
theorem dX4_ask_29 : decode cX4_ask 29 = .ok (.goto 4, 3) := by decide +kernel
theorem dX4_ask_32 : decode cX4_ask 32 = .ok (.iconst 0, 1) := by decide +kernel
theorem dX4_ask_33 : decode cX4_ask 33 = .ok (.ireturn, 1) := by decide +kernel
theorem dX4_live_0 : decode cX4_live 0 = .ok (.aload_n 0, 1) := by decide +kernel
theorem dX4_live_1 : decode cX4_live 1 = .ok (.iload_n 1, 1) := by decide +kernel
theorem dX4_live_2 : decode cX4_live 2 = .ok (.invokevirtual 71, 3) := by decide +kernel
theorem dX4_live_5 : decode cX4_live 5 = .ok (.ifCond .ne 5, 3) := by decide +kernel
theorem dX4_live_8 : decode cX4_live 8 = .ok (.iconst (-1), 1) := by decide +kernel
theorem dX4_live_9 : decode cX4_live 9 = .ok (.ireturn, 1) := by decide +kernel
theorem dX4_live_10 : decode cX4_live 10 = .ok (.aload_n 0, 1) := by decide +kernel
theorem dX4_live_11 : decode cX4_live 11 = .ok (.getfield 12, 3) := by decide +kernel
theorem dX4_live_14 : decode cX4_live 14 = .ok (.invokevirtual 74, 3) := by decide +kernel
theorem dX4_live_17 : decode cX4_live 17 = .ok (.aload_n 0, 1) := by decide +kernel
theorem dX4_live_18 : decode cX4_live 18 = .ok (.getfield 12, 3) := by decide +kernel
theorem dX4_live_21 : decode cX4_live 21 = .ok (.iload_n 1, 1) := by decide +kernel
theorem dX4_live_22 : decode cX4_live 22 = .ok (.invokevirtual 77, 3) := by decide +kernel
theorem dX4_live_25 : decode cX4_live 25 = .ok (.ireturn, 1) := by decide +kernel
theorem dX4_begin_0 : decode cX4_begin 0 = .ok (.aload_n 0, 1) := by decide +kernel
theorem dX4_begin_1 : decode cX4_begin 1 = .ok (.getfield 12, 3) := by decide +kernel
theorem dX4_begin_4 : decode cX4_begin 4 = .ok (.invokevirtual 81, 3) := by decide +kernel
theorem dX4_begin_7 : decode cX4_begin 7 = .ok (.ifCond .eq 6, 3) := by decide +kernel
theorem dX4_begin_10 : decode cX4_begin 10 = .ok (.bipush (-4), 2) := by decide +kernel
theorem dX4_begin_12 : decode cX4_begin 12 = .ok (.ireturn, 1) := by decide +kernel
theorem dX4_begin_13 : decode cX4_begin 13 = .ok (.aload_n 0, 1) := by decide +kernel
theorem dX4_begin_14 : decode cX4_begin 14 = .ok (.getfield 21, 3) := by decide +kernel
theorem dX4_begin_17 : decode cX4_begin 17 = .ok (.invokevirtual 85, 3) := by decide +kernel
theorem dX4_begin_20 : decode cX4_begin 20 = .ok (.iconst 1, 1) := by decide +kernel
theorem dX4_begin_21 : decode cX4_begin 21 = .ok (.ireturn, 1) := by decide +kernel
theorem dX4_list_0 : decode cX4_list 0 = .ok (.iload_n 1, 1) := by decide +kernel
theorem dX4_list_1 : decode cX4_list 1 = .ok (.iconst 1, 1) := by decide +kernel
theorem dX4_list_2 : decode cX4_list 2 = .ok (.if_icmp .lt 10, 3) := by decide +kernel
theorem dX4_list_5 : decode cX4_list 5 = .ok (.iload_n 1, 1) := by decide +kernel
theorem dX4_list_6 : decode cX4_list 6 = .ok (.sipush 1000, 3) := by decide +kernel
theorem dX4_list_9 : decode cX4_list 9 = .ok (.if_icmp .le 5, 3) := by decide +kernel
theorem dX4_list_12 : decode cX4_list 12 = .ok (.iconst (-1), 1) := by decide +kernel
theorem dX4_list_13 : decode cX4_list 13 = .ok (.ireturn, 1) := by decide +kernel
theorem dX4_list_14 : decode cX4_list 14 = .ok (.aload_n 0, 1) := by decide +kernel
theorem dX4_list_15 : decode cX4_list 15 = .ok (.getfield 21, 3) := by decide +kernel
theorem dX4_list_18 : decode cX4_list 18 = .ok (.getfield 88, 3) := by decide +kernel
theorem dX4_list_21 : decode cX4_list 21 = .ok (.ifCond .eq 14, 3) := by decide +kernel
theorem dX4_list_24 : decode cX4_list 24 = .ok (.aload_n 0, 1) := by decide +kernel
theorem dX4_list_25 : decode cX4_list 25 = .ok (.getfield 21, 3) := by decide +kernel
theorem dX4_list_28 : decode cX4_list 28 = .ok (.iload_n 1, 1) := by decide +kernel
theorem dX4_list_29 : decode cX4_list 29 = .ok (.invokevirtual 92, 3) := by decide +kernel
theorem dX4_list_32 : decode cX4_list 32 = .ok (.goto 5, 3) := by decide +kernel
theorem dX4_list_35 : decode cX4_list 35 = .ok (.bipush (-3), 2) := by decide +kernel
theorem dX4_list_37 : decode cX4_list 37 = .ok (.ireturn, 1) := by decide +kernel
theorem dX4_done_0 : decode cX4_done 0 = .ok (.aload_n 0, 1) := by decide +kernel
theorem dX4_done_1 : decode cX4_done 1 = .ok (.getfield 21, 3) := by decide +kernel
theorem dX4_done_4 : decode cX4_done 4 = .ok (.getfield 88, 3) := by decide +kernel
theorem dX4_done_7 : decode cX4_done 7 = .ok (.ifCond .ne 6, 3) := by decide +kernel
theorem dX4_done_10 : decode cX4_done 10 = .ok (.bipush (-3), 2) := by decide +kernel
theorem dX4_done_12 : decode cX4_done 12 = .ok (.ireturn, 1) := by decide +kernel
theorem dX4_done_13 : decode cX4_done 13 = .ok (.aload_n 0, 1) := by decide +kernel
theorem dX4_done_14 : decode cX4_done 14 = .ok (.getfield 21, 3) := by decide +kernel
theorem dX4_done_17 : decode cX4_done 17 = .ok (.invokevirtual 95, 3) := by decide +kernel
theorem dX4_done_20 : decode cX4_done 20 = .ok (.istore_n 1, 1) := by decide +kernel
theorem dX4_done_21 : decode cX4_done 21 = .ok (.iload_n 1, 1) := by decide +kernel
theorem dX4_done_22 : decode cX4_done 22 = .ok (.bipush (-5), 2) := by decide +kernel
theorem dX4_done_24 : decode cX4_done 24 = .ok (.if_icmp .ne 5, 3) := by decide +kernel
theorem dX4_done_27 : decode cX4_done 27 = .ok (.iconst 1, 1) := by decide +kernel
theorem dX4_done_28 : decode cX4_done 28 = .ok (.ireturn, 1) := by decide +kernel
theorem dX4_done_29 : decode cX4_done 29 = .ok (.aload_n 0, 1) := by decide +kernel
theorem dX4_done_30 : decode cX4_done 30 = .ok (.getfield 21, 3) := by decide +kernel
theorem dX4_done_33 : decode cX4_done 33 = .ok (.iload_n 1, 1) := by decide +kernel
theorem dX4_done_34 : decode cX4_done 34 = .ok (.invokevirtual 98, 3) := by decide +kernel
theorem dX4_done_37 : decode cX4_done 37 = .ok (.ifCond .eq 7, 3) := by decide +kernel
theorem dX4_done_40 : decode cX4_done 40 = .ok (.iconst 0, 1) := by decide +kernel
theorem dX4_done_41 : decode cX4_done 41 = .ok (.goto 4, 3) := by decide +kernel
theorem dX4_done_44 : decode cX4_done 44 = .ok (.iconst 2, 1) := by decide +kernel
theorem dX4_done_45 : decode cX4_done 45 = .ok (.ireturn, 1) := by decide +kernel
theorem dX4_states_0 : decode cX4_states 0 = .ok (.aload_n 0, 1) := by decide +kernel
theorem dX4_states_1 : decode cX4_states 1 = .ok (.iload_n 1, 1) := by decide +kernel
theorem dX4_states_2 : decode cX4_states 2 = .ok (.invokevirtual 71, 3) := by decide +kernel
theorem dX4_states_5 : decode cX4_states 5 = .ok (.ifCond .eq 12, 3) := by decide +kernel
theorem dX4_states_8 : decode cX4_states 8 = .ok (.iload_n 2, 1) := by decide +kernel
theorem dX4_states_9 : decode cX4_states 9 = .ok (.ifCond .lt 8, 3) := by decide +kernel
theorem dX4_states_12 : decode cX4_states 12 = .ok (.iload_n 2, 1) := by decide +kernel
theorem dX4_states_13 : decode cX4_states 13 = .ok (.iconst 2, 1) := by decide +kernel
theorem dX4_states_14 : decode cX4_states 14 = .ok (.if_icmp .le 5, 3) := by decide +kernel
theorem dX4_states_17 : decode cX4_states 17 = .ok (.iconst (-1), 1) := by decide +kernel
theorem dX4_states_18 : decode cX4_states 18 = .ok (.ireturn, 1) := by decide +kernel
theorem dX4_states_19 : decode cX4_states 19 = .ok (.aload_n 0, 1) := by decide +kernel
theorem dX4_states_20 : decode cX4_states 20 = .ok (.getfield 21, 3) := by decide +kernel
theorem dX4_states_23 : decode cX4_states 23 = .ok (.getfield 88, 3) := by decide +kernel
theorem dX4_states_26 : decode cX4_states 26 = .ok (.ifCond .ne 6, 3) := by decide +kernel
theorem dX4_states_29 : decode cX4_states 29 = .ok (.bipush (-3), 2) := by decide +kernel
theorem dX4_states_31 : decode cX4_states 31 = .ok (.ireturn, 1) := by decide +kernel
theorem dX4_states_32 : decode cX4_states 32 = .ok (.iload_n 2, 1) := by decide +kernel
theorem dX4_states_33 : decode cX4_states 33 = .ok (.ifCond .ne 12, 3) := by decide +kernel
theorem dX4_states_36 : decode cX4_states 36 = .ok (.aload_n 0, 1) := by decide +kernel
theorem dX4_states_37 : decode cX4_states 37 = .ok (.getfield 21, 3) := by decide +kernel
theorem dX4_states_40 : decode cX4_states 40 = .ok (.iload_n 1, 1) := by decide +kernel
theorem dX4_states_41 : decode cX4_states 41 = .ok (.invokevirtual 101, 3) := by decide +kernel
theorem dX4_states_44 : decode cX4_states 44 = .ok (.ireturn, 1) := by decide +kernel
theorem dX4_states_45 : decode cX4_states 45 = .ok (.iload_n 2, 1) := by decide +kernel
theorem dX4_states_46 : decode cX4_states 46 = .ok (.iconst 1, 1) := by decide +kernel
theorem dX4_states_47 : decode cX4_states 47 = .ok (.if_icmp .ne 15, 3) := by decide +kernel
theorem dX4_states_50 : decode cX4_states 50 = .ok (.aload_n 0, 1) := by decide +kernel
theorem dX4_states_51 : decode cX4_states 51 = .ok (.getfield 21, 3) := by decide +kernel
theorem dX4_states_54 : decode cX4_states 54 = .ok (.getfield 104, 3) := by decide +kernel
theorem dX4_states_57 : decode cX4_states 57 = .ok (.iload_n 1, 1) := by decide +kernel
theorem dX4_states_58 : decode cX4_states 58 = .ok (.iaload, 1) := by decide +kernel
theorem dX4_states_59 : decode cX4_states 59 = .ok (.goto 12, 3) := by decide +kernel
theorem dX4_states_62 : decode cX4_states 62 = .ok (.aload_n 0, 1) := by decide +kernel
theorem dX4_states_63 : decode cX4_states 63 = .ok (.getfield 21, 3) := by decide +kernel
theorem dX4_states_66 : decode cX4_states 66 = .ok (.getfield 108, 3) := by decide +kernel
theorem dX4_states_69 : decode cX4_states 69 = .ok (.iload_n 1, 1) := by decide +kernel
theorem dX4_states_70 : decode cX4_states 70 = .ok (.iaload, 1) := by decide +kernel
theorem dX4_states_71 : decode cX4_states 71 = .ok (.ireturn, 1) := by decide +kernel
theorem dX4_code_0 : decode cX4_code 0 = .ok (.aload_n 0, 1) := by decide +kernel
theorem dX4_code_1 : decode cX4_code 1 = .ok (.iload_n 1, 1) := by decide +kernel
theorem dX4_code_2 : decode cX4_code 2 = .ok (.invokevirtual 71, 3) := by decide +kernel
theorem dX4_code_5 : decode cX4_code 5 = .ok (.ifCond .ne 5, 3) := by decide +kernel
theorem dX4_code_8 : decode cX4_code 8 = .ok (.iconst (-1), 1) := by decide +kernel
theorem dX4_code_9 : decode cX4_code 9 = .ok (.ireturn, 1) := by decide +kernel
theorem dX4_code_10 : decode cX4_code 10 = .ok (.aload_n 0, 1) := by decide +kernel
theorem dX4_code_11 : decode cX4_code 11 = .ok (.getfield 21, 3) := by decide +kernel
theorem dX4_code_14 : decode cX4_code 14 = .ok (.getfield 88, 3) := by decide +kernel
theorem dX4_code_17 : decode cX4_code 17 = .ok (.ifCond .ne 6, 3) := by decide +kernel
theorem dX4_code_20 : decode cX4_code 20 = .ok (.bipush (-3), 2) := by decide +kernel
theorem dX4_code_22 : decode cX4_code 22 = .ok (.ireturn, 1) := by decide +kernel
theorem dX4_code_23 : decode cX4_code 23 = .ok (.aload_n 0, 1) := by decide +kernel
theorem dX4_code_24 : decode cX4_code 24 = .ok (.getfield 21, 3) := by decide +kernel
theorem dX4_code_27 : decode cX4_code 27 = .ok (.iload_n 1, 1) := by decide +kernel
theorem dX4_code_28 : decode cX4_code 28 = .ok (.iload_n 2, 1) := by decide +kernel
theorem dX4_code_29 : decode cX4_code 29 = .ok (.invokevirtual 111, 3) := by decide +kernel
theorem dX4_code_32 : decode cX4_code 32 = .ok (.ifCond .eq 18, 3) := by decide +kernel
theorem dX4_code_35 : decode cX4_code 35 = .ok (.aload_n 0, 1) := by decide +kernel
theorem dX4_code_36 : decode cX4_code 36 = .ok (.getfield 21, 3) := by decide +kernel
theorem dX4_code_39 : decode cX4_code 39 = .ok (.iload_n 1, 1) := by decide +kernel
theorem dX4_code_40 : decode cX4_code 40 = .ok (.iload_n 2, 1) := by decide +kernel
theorem dX4_code_41 : decode cX4_code 41 = .ok (.invokevirtual 115, 3) := by decide +kernel
theorem dX4_code_44 : decode cX4_code 44 = .ok (.invokestatic 119, 3) := by decide +kernel
theorem dX4_code_47 : decode cX4_code 47 = .ok (.goto 5, 3) := by decide +kernel
theorem dX4_code_50 : decode cX4_code 50 = .ok (.bipush (-5), 2) := by decide +kernel
theorem dX4_code_52 : decode cX4_code 52 = .ok (.ireturn, 1) := by decide +kernel
theorem dX4_mass_0 : decode cX4_mass 0 = .ok (.aload_n 0, 1) := by decide +kernel
theorem dX4_mass_1 : decode cX4_mass 1 = .ok (.iload_n 1, 1) := by decide +kernel
theorem dX4_mass_2 : decode cX4_mass 2 = .ok (.invokevirtual 71, 3) := by decide +kernel
theorem dX4_mass_5 : decode cX4_mass 5 = .ok (.ifCond .eq 25, 3) := by decide +kernel
theorem dX4_mass_8 : decode cX4_mass 8 = .ok (.aload_n 0, 1) := by decide +kernel
theorem dX4_mass_9 : decode cX4_mass 9 = .ok (.getfield 21, 3) := by decide +kernel
theorem dX4_mass_12 : decode cX4_mass 12 = .ok (.getfield 88, 3) := by decide +kernel
theorem dX4_mass_15 : decode cX4_mass 15 = .ok (.ifCond .eq 15, 3) := by decide +kernel
theorem dX4_mass_18 : decode cX4_mass 18 = .ok (.aload_n 0, 1) := by decide +kernel
theorem dX4_mass_19 : decode cX4_mass 19 = .ok (.getfield 21, 3) := by decide +kernel
theorem dX4_mass_22 : decode cX4_mass 22 = .ok (.iload_n 1, 1) := by decide +kernel
theorem dX4_mass_23 : decode cX4_mass 23 = .ok (.iload_n 2, 1) := by decide +kernel
theorem dX4_mass_24 : decode cX4_mass 24 = .ok (.invokevirtual 111, 3) := by decide +kernel
theorem dX4_mass_27 : decode cX4_mass 27 = .ok (.ifCond .ne 5, 3) := by decide +kernel
theorem dX4_mass_30 : decode cX4_mass 30 = .ok (.lconst 0, 1) := by decide +kernel
theorem dX4_mass_31 : decode cX4_mass 31 = .ok (.lreturn, 1) := by decide +kernel
theorem dX4_mass_32 : decode cX4_mass 32 = .ok (.aload_n 0, 1) := by decide +kernel
theorem dX4_mass_33 : decode cX4_mass 33 = .ok (.getfield 21, 3) := by decide +kernel
theorem dX4_mass_36 : decode cX4_mass 36 = .ok (.iload_n 1, 1) := by decide +kernel
theorem dX4_mass_37 : decode cX4_mass 37 = .ok (.iload_n 2, 1) := by decide +kernel
theorem dX4_mass_38 : decode cX4_mass 38 = .ok (.invokevirtual 124, 3) := by decide +kernel
theorem dX4_mass_41 : decode cX4_mass 41 = .ok (.lreturn, 1) := by decide +kernel
theorem dX4_sum_0 : decode cX4_sum 0 = .ok (.iload_n 1, 1) := by decide +kernel
theorem dX4_sum_1 : decode cX4_sum 1 = .ok (.ifCond .lt 26, 3) := by decide +kernel
theorem dX4_sum_4 : decode cX4_sum 4 = .ok (.iload_n 1, 1) := by decide +kernel
theorem dX4_sum_5 : decode cX4_sum 5 = .ok (.iconst 2, 1) := by decide +kernel
theorem dX4_sum_6 : decode cX4_sum 6 = .ok (.if_icmp .gt 21, 3) := by decide +kernel
theorem dX4_sum_9 : decode cX4_sum 9 = .ok (.iload_n 2, 1) := by decide +kernel
theorem dX4_sum_10 : decode cX4_sum 10 = .ok (.iload_n 3, 1) := by decide +kernel
theorem dX4_sum_11 : decode cX4_sum 11 = .ok (.invokestatic 128, 3) := by decide +kernel
theorem dX4_sum_14 : decode cX4_sum 14 = .ok (.ifCond .eq 13, 3) := by decide +kernel
theorem dX4_sum_17 : decode cX4_sum 17 = .ok (.iload_n 2, 1) := by decide +kernel
theorem dX4_sum_18 : decode cX4_sum 18 = .ok (.iconst (-1), 1) := by decide +kernel
theorem dX4_sum_19 : decode cX4_sum 19 = .ok (.if_icmp .eq 12, 3) := by decide +kernel
theorem dX4_sum_22 : decode cX4_sum 22 = .ok (.iload_n 1, 1) := by decide +kernel
theorem dX4_sum_23 : decode cX4_sum 23 = .ok (.iconst 1, 1) := by decide +kernel
theorem dX4_sum_24 : decode cX4_sum 24 = .ok (.if_icmp .ne 7, 3) := by decide +kernel
theorem dX4_sum_27 : decode cX4_sum 27 = .ok (.ldc2_w 131, 3) := by decide +kernel
theorem dX4_sum_30 : decode cX4_sum 30 = .ok (.lreturn, 1) := by decide +kernel
theorem dX4_sum_31 : decode cX4_sum 31 = .ok (.aload_n 0, 1) := by decide +kernel
theorem dX4_sum_32 : decode cX4_sum 32 = .ok (.getfield 21, 3) := by decide +kernel
theorem dX4_sum_35 : decode cX4_sum 35 = .ok (.getfield 88, 3) := by decide +kernel
theorem dX4_sum_38 : decode cX4_sum 38 = .ok (.ifCond .ne 7, 3) := by decide +kernel
theorem dX4_sum_41 : decode cX4_sum 41 = .ok (.ldc2_w 133, 3) := by decide +kernel
theorem dX4_sum_44 : decode cX4_sum 44 = .ok (.lreturn, 1) := by decide +kernel
theorem dX4_sum_45 : decode cX4_sum 45 = .ok (.iload_n 1, 1) := by decide +kernel
theorem dX4_sum_46 : decode cX4_sum 46 = .ok (.iconst 1, 1) := by decide +kernel
theorem dX4_sum_47 : decode cX4_sum 47 = .ok (.if_icmp .ne 11, 3) := by decide +kernel
theorem dX4_sum_50 : decode cX4_sum 50 = .ok (.aload_n 0, 1) := by decide +kernel
theorem dX4_sum_51 : decode cX4_sum 51 = .ok (.getfield 21, 3) := by decide +kernel
theorem dX4_sum_54 : decode cX4_sum 54 = .ok (.getfield 135, 3) := by decide +kernel
theorem dX4_sum_57 : decode cX4_sum 57 = .ok (.lreturn, 1) := by decide +kernel
theorem dX4_sum_58 : decode cX4_sum 58 = .ok (.iload_n 1, 1) := by decide +kernel
theorem dX4_sum_59 : decode cX4_sum 59 = .ok (.ifCond .ne 22, 3) := by decide +kernel
theorem dX4_sum_62 : decode cX4_sum 62 = .ok (.aload_n 0, 1) := by decide +kernel
theorem dX4_sum_63 : decode cX4_sum 63 = .ok (.getfield 21, 3) := by decide +kernel
theorem dX4_sum_66 : decode cX4_sum 66 = .ok (.aload_n 0, 1) := by decide +kernel
theorem dX4_sum_67 : decode cX4_sum 67 = .ok (.getfield 12, 3) := by decide +kernel
theorem dX4_sum_70 : decode cX4_sum 70 = .ok (.getfield 56, 3) := by decide +kernel
theorem dX4_sum_73 : decode cX4_sum 73 = .ok (.iload_n 2, 1) := by decide +kernel
theorem dX4_sum_74 : decode cX4_sum 74 = .ok (.iload_n 3, 1) := by decide +kernel
theorem dX4_sum_75 : decode cX4_sum 75 = .ok (.invokevirtual 139, 3) := by decide +kernel
theorem dX4_sum_78 : decode cX4_sum 78 = .ok (.goto 12, 3) := by decide +kernel
theorem dX4_sum_81 : decode cX4_sum 81 = .ok (.aload_n 0, 1) := by decide +kernel
theorem dX4_sum_82 : decode cX4_sum 82 = .ok (.getfield 21, 3) := by decide +kernel
theorem dX4_sum_85 : decode cX4_sum 85 = .ok (.iload_n 2, 1) := by decide +kernel
theorem dX4_sum_86 : decode cX4_sum 86 = .ok (.iload_n 3, 1) := by decide +kernel
theorem dX4_sum_87 : decode cX4_sum 87 = .ok (.invokevirtual 143, 3) := by decide +kernel
theorem dX4_sum_90 : decode cX4_sum 90 = .ok (.lreturn, 1) := by decide +kernel
theorem dX4_odds_0 : decode cX4_odds 0 = .ok (.iload_n 1, 1) := by decide +kernel
theorem dX4_odds_1 : decode cX4_odds 1 = .ok (.invokestatic 46, 3) := by decide +kernel
theorem dX4_odds_4 : decode cX4_odds 4 = .ok (.ifCond .eq 30, 3) := by decide +kernel
theorem dX4_odds_7 : decode cX4_odds 7 = .ok (.iload_n 2, 1) := by decide +kernel
theorem dX4_odds_8 : decode cX4_odds 8 = .ok (.invokestatic 36, 3) := by decide +kernel
theorem dX4_odds_11 : decode cX4_odds 11 = .ok (.ifCond .eq 23, 3) := by decide +kernel
theorem dX4_odds_14 : decode cX4_odds 14 = .ok (.iload_n 3, 1) := by decide +kernel
theorem dX4_odds_15 : decode cX4_odds 15 = .ok (.ifCond .lt 19, 3) := by decide +kernel
theorem dX4_odds_18 : decode cX4_odds 18 = .ok (.iload_n 3, 1) := by decide +kernel
theorem dX4_odds_19 : decode cX4_odds 19 = .ok (.iconst 1, 1) := by decide +kernel
theorem dX4_odds_20 : decode cX4_odds 20 = .ok (.if_icmp .gt 14, 3) := by decide +kernel
theorem dX4_odds_23 : decode cX4_odds 23 = .ok (.aload_n 0, 1) := by decide +kernel
theorem dX4_odds_24 : decode cX4_odds 24 = .ok (.getfield 12, 3) := by decide +kernel
theorem dX4_odds_27 : decode cX4_odds 27 = .ok (.iload_n 1, 1) := by decide +kernel
theorem dX4_odds_28 : decode cX4_odds 28 = .ok (.invokevirtual 146, 3) := by decide +kernel
theorem dX4_odds_31 : decode cX4_odds 31 = .ok (.ifCond .ne 7, 3) := by decide +kernel
theorem dX4_odds_34 : decode cX4_odds 34 = .ok (.ldc2_w 131, 3) := by decide +kernel
theorem dX4_odds_37 : decode cX4_odds 37 = .ok (.lreturn, 1) := by decide +kernel
theorem dX4_odds_38 : decode cX4_odds 38 = .ok (.aload_n 0, 1) := by decide +kernel
theorem dX4_odds_39 : decode cX4_odds 39 = .ok (.getfield 21, 3) := by decide +kernel
theorem dX4_odds_42 : decode cX4_odds 42 = .ok (.getfield 88, 3) := by decide +kernel
theorem dX4_odds_45 : decode cX4_odds 45 = .ok (.ifCond .eq 15, 3) := by decide +kernel
theorem dX4_odds_48 : decode cX4_odds 48 = .ok (.aload_n 0, 1) := by decide +kernel
theorem dX4_odds_49 : decode cX4_odds 49 = .ok (.getfield 21, 3) := by decide +kernel
theorem dX4_odds_52 : decode cX4_odds 52 = .ok (.invokevirtual 95, 3) := by decide +kernel
theorem dX4_odds_55 : decode cX4_odds 55 = .ok (.bipush (-5), 2) := by decide +kernel
theorem dX4_odds_57 : decode cX4_odds 57 = .ok (.if_icmp .eq 7, 3) := by decide +kernel
theorem dX4_odds_60 : decode cX4_odds 60 = .ok (.ldc2_w 133, 3) := by decide +kernel
theorem dX4_odds_63 : decode cX4_odds 63 = .ok (.lreturn, 1) := by decide +kernel
theorem dX4_odds_64 : decode cX4_odds 64 = .ok (.aload_n 0, 1) := by decide +kernel
theorem dX4_odds_65 : decode cX4_odds 65 = .ok (.getfield 21, 3) := by decide +kernel
theorem dX4_odds_68 : decode cX4_odds 68 = .ok (.aload_n 0, 1) := by decide +kernel
theorem dX4_odds_69 : decode cX4_odds 69 = .ok (.getfield 12, 3) := by decide +kernel
theorem dX4_odds_72 : decode cX4_odds 72 = .ok (.getfield 56, 3) := by decide +kernel
theorem dX4_odds_75 : decode cX4_odds 75 = .ok (.iload_n 1, 1) := by decide +kernel
theorem dX4_odds_76 : decode cX4_odds 76 = .ok (.iload_n 2, 1) := by decide +kernel
theorem dX4_odds_77 : decode cX4_odds 77 = .ok (.invokevirtual 139, 3) := by decide +kernel
theorem dX4_odds_80 : decode cX4_odds 80 = .ok (.lstore 4, 2) := by decide +kernel
theorem dX4_odds_82 : decode cX4_odds 82 = .ok (.aload_n 0, 1) := by decide +kernel
theorem dX4_odds_83 : decode cX4_odds 83 = .ok (.getfield 21, 3) := by decide +kernel
theorem dX4_odds_86 : decode cX4_odds 86 = .ok (.aload_n 0, 1) := by decide +kernel
theorem dX4_odds_87 : decode cX4_odds 87 = .ok (.getfield 12, 3) := by decide +kernel
theorem dX4_odds_90 : decode cX4_odds 90 = .ok (.getfield 56, 3) := by decide +kernel
theorem dX4_odds_93 : decode cX4_odds 93 = .ok (.iconst (-1), 1) := by decide +kernel
theorem dX4_odds_94 : decode cX4_odds 94 = .ok (.iconst 0, 1) := by decide +kernel
theorem dX4_odds_95 : decode cX4_odds 95 = .ok (.invokevirtual 139, 3) := by decide +kernel
theorem dX4_odds_98 : decode cX4_odds 98 = .ok (.lstore 6, 2) := by decide +kernel
theorem dX4_odds_100 : decode cX4_odds 100 = .ok (.lload 4, 2) := by decide +kernel
theorem dX4_odds_102 : decode cX4_odds 102 = .ok (.lload 6, 2) := by decide +kernel
theorem dX4_odds_104 : decode cX4_odds 104 = .ok (.invokestatic 149, 3) := by decide +kernel
theorem dX4_odds_107 : decode cX4_odds 107 = .ok (.lstore 8, 2) := by decide +kernel
theorem dX4_odds_109 : decode cX4_odds 109 = .ok (.lload 6, 2) := by decide +kernel
theorem dX4_odds_111 : decode cX4_odds 111 = .ok (.lconst 0, 1) := by decide +kernel
theorem dX4_odds_112 : decode cX4_odds 112 = .ok (.lcmp, 1) := by decide +kernel
theorem dX4_odds_113 : decode cX4_odds 113 = .ok (.ifCond .le 10, 3) := by decide +kernel
theorem dX4_odds_116 : decode cX4_odds 116 = .ok (.lload 8, 2) := by decide +kernel
theorem dX4_odds_118 : decode cX4_odds 118 = .ok (.lconst 0, 1) := by decide +kernel
theorem dX4_odds_119 : decode cX4_odds 119 = .ok (.lcmp, 1) := by decide +kernel
theorem dX4_odds_120 : decode cX4_odds 120 = .ok (.ifCond .gt 13, 3) := by decide +kernel
theorem dX4_odds_123 : decode cX4_odds 123 = .ok (.new 153, 3) := by decide +kernel
theorem dX4_odds_126 : decode cX4_odds 126 = .ok (.dup, 1) := by decide +kernel
theorem dX4_odds_127 : decode cX4_odds 127 = .ok (.ldc 155, 2) := by decide +kernel
theorem dX4_odds_129 : decode cX4_odds 129 = .ok (.invokespecial 157, 3) := by decide +kernel
theorem dX4_odds_132 : decode cX4_odds 132 = .ok (.athrow, 1) := by decide +kernel
theorem dX4_odds_133 : decode cX4_odds 133 = .ok (.iload_n 3, 1) := by decide +kernel
theorem dX4_odds_134 : decode cX4_odds 134 = .ok (.ifCond .ne 11, 3) := by decide +kernel
theorem dX4_odds_137 : decode cX4_odds 137 = .ok (.lload 4, 2) := by decide +kernel
theorem dX4_odds_139 : decode cX4_odds 139 = .ok (.lload 8, 2) := by decide +kernel
theorem dX4_odds_141 : decode cX4_odds 141 = .ok (.ldiv, 1) := by decide +kernel
theorem dX4_odds_142 : decode cX4_odds 142 = .ok (.goto 8, 3) := by decide +kernel
theorem dX4_odds_145 : decode cX4_odds 145 = .ok (.lload 6, 2) := by decide +kernel
theorem dX4_odds_147 : decode cX4_odds 147 = .ok (.lload 8, 2) := by decide +kernel
theorem dX4_odds_149 : decode cX4_odds 149 = .ok (.ldiv, 1) := by decide +kernel
theorem dX4_odds_150 : decode cX4_odds 150 = .ok (.lreturn, 1) := by decide +kernel
theorem dX4_runs_0 : decode cX4_runs 0 = .ok (.aload_n 0, 1) := by decide +kernel
theorem dX4_runs_1 : decode cX4_runs 1 = .ok (.getfield 28, 3) := by decide +kernel
theorem dX4_runs_4 : decode cX4_runs 4 = .ok (.invokevirtual 160, 3) := by decide +kernel
theorem dX4_runs_7 : decode cX4_runs 7 = .ok (.ireturn, 1) := by decide +kernel
theorem dX4_plain_0 : decode cX4_plain 0 = .ok (.iload_n 1, 1) := by decide +kernel
theorem dX4_plain_1 : decode cX4_plain 1 = .ok (.iload_n 2, 1) := by decide +kernel
theorem dX4_plain_2 : decode cX4_plain 2 = .ok (.invokestatic 128, 3) := by decide +kernel
theorem dX4_plain_5 : decode cX4_plain 5 = .ok (.ifCond .ne 7, 3) := by decide +kernel
theorem dX4_plain_8 : decode cX4_plain 8 = .ok (.ldc2_w 131, 3) := by decide +kernel
theorem dX4_plain_11 : decode cX4_plain 11 = .ok (.lreturn, 1) := by decide +kernel
theorem dX4_plain_12 : decode cX4_plain 12 = .ok (.aload_n 0, 1) := by decide +kernel
theorem dX4_plain_13 : decode cX4_plain 13 = .ok (.getfield 28, 3) := by decide +kernel
theorem dX4_plain_16 : decode cX4_plain 16 = .ok (.invokevirtual 160, 3) := by decide +kernel
theorem dX4_plain_19 : decode cX4_plain 19 = .ok (.istore_n 3, 1) := by decide +kernel
theorem dX4_plain_20 : decode cX4_plain 20 = .ok (.iload_n 3, 1) := by decide +kernel
theorem dX4_plain_21 : decode cX4_plain 21 = .ok (.ifCond .ge 6, 3) := by decide +kernel
theorem dX4_plain_24 : decode cX4_plain 24 = .ok (.iload_n 3, 1) := by decide +kernel
theorem dX4_plain_25 : decode cX4_plain 25 = .ok (.i2l, 1) := by decide +kernel
theorem dX4_plain_26 : decode cX4_plain 26 = .ok (.lreturn, 1) := by decide +kernel
theorem dX4_plain_27 : decode cX4_plain 27 = .ok (.iload_n 1, 1) := by decide +kernel
theorem dX4_plain_28 : decode cX4_plain 28 = .ok (.iconst (-1), 1) := by decide +kernel
theorem dX4_plain_29 : decode cX4_plain 29 = .ok (.if_icmp .ne 13, 3) := by decide +kernel
theorem dX4_plain_32 : decode cX4_plain 32 = .ok (.aload_n 0, 1) := by decide +kernel
theorem dX4_plain_33 : decode cX4_plain 33 = .ok (.getfield 28, 3) := by decide +kernel
theorem dX4_plain_36 : decode cX4_plain 36 = .ok (.getfield 163, 3) := by decide +kernel
theorem dX4_plain_39 : decode cX4_plain 39 = .ok (.goto 14, 3) := by decide +kernel
theorem dX4_plain_42 : decode cX4_plain 42 = .ok (.aload_n 0, 1) := by decide +kernel
theorem dX4_plain_43 : decode cX4_plain 43 = .ok (.getfield 28, 3) := by decide +kernel
theorem dX4_plain_46 : decode cX4_plain 46 = .ok (.getfield 166, 3) := by decide +kernel
theorem dX4_plain_49 : decode cX4_plain 49 = .ok (.iload_n 1, 1) := by decide +kernel
theorem dX4_plain_50 : decode cX4_plain 50 = .ok (.aaload, 1) := by decide +kernel
theorem dX4_plain_51 : decode cX4_plain 51 = .ok (.iload_n 2, 1) := by decide +kernel
theorem dX4_plain_52 : decode cX4_plain 52 = .ok (.laload, 1) := by decide +kernel
theorem dX4_plain_53 : decode cX4_plain 53 = .ok (.lreturn, 1) := by decide +kernel
theorem dX4_count_0 : decode cX4_count 0 = .ok (.iload_n 1, 1) := by decide +kernel
theorem dX4_count_1 : decode cX4_count 1 = .ok (.tableswitch 77 0 3 #[31, 39, 47, 55], 31) := by decide +kernel
theorem dX4_count_32 : decode cX4_count 32 = .ok (.aload_n 0, 1) := by decide +kernel
theorem dX4_count_33 : decode cX4_count 33 = .ok (.getfield 12, 3) := by decide +kernel
theorem dX4_count_36 : decode cX4_count 36 = .ok (.getfield 56, 3) := by decide +kernel
theorem dX4_count_39 : decode cX4_count 39 = .ok (.ireturn, 1) := by decide +kernel
theorem dX4_count_40 : decode cX4_count 40 = .ok (.aload_n 0, 1) := by decide +kernel
theorem dX4_count_41 : decode cX4_count 41 = .ok (.getfield 12, 3) := by decide +kernel
theorem dX4_count_44 : decode cX4_count 44 = .ok (.getfield 170, 3) := by decide +kernel
theorem dX4_count_47 : decode cX4_count 47 = .ok (.ireturn, 1) := by decide +kernel
theorem dX4_count_48 : decode cX4_count 48 = .ok (.aload_n 0, 1) := by decide +kernel
theorem dX4_count_49 : decode cX4_count 49 = .ok (.getfield 12, 3) := by decide +kernel
theorem dX4_count_52 : decode cX4_count 52 = .ok (.getfield 173, 3) := by decide +kernel
theorem dX4_count_55 : decode cX4_count 55 = .ok (.ireturn, 1) := by decide +kernel
theorem dX4_count_56 : decode cX4_count 56 = .ok (.aload_n 0, 1) := by decide +kernel
theorem dX4_count_57 : decode cX4_count 57 = .ok (.getfield 21, 3) := by decide +kernel
theorem dX4_count_60 : decode cX4_count 60 = .ok (.getfield 88, 3) := by decide +kernel
theorem dX4_count_63 : decode cX4_count 63 = .ok (.ifCond .eq 13, 3) := by decide +kernel
theorem dX4_count_66 : decode cX4_count 66 = .ok (.aload_n 0, 1) := by decide +kernel
theorem dX4_count_67 : decode cX4_count 67 = .ok (.getfield 21, 3) := by decide +kernel
theorem dX4_count_70 : decode cX4_count 70 = .ok (.getfield 176, 3) := by decide +kernel
theorem dX4_count_73 : decode cX4_count 73 = .ok (.goto 4, 3) := by decide +kernel
theorem dX4_count_76 : decode cX4_count 76 = .ok (.iconst 0, 1) := by decide +kernel
theorem dX4_count_77 : decode cX4_count 77 = .ok (.ireturn, 1) := by decide +kernel
theorem dX4_count_78 : decode cX4_count 78 = .ok (.iconst (-1), 1) := by decide +kernel
theorem dX4_count_79 : decode cX4_count 79 = .ok (.ireturn, 1) := by decide +kernel
theorem dX4_clear_0 : decode cX4_clear 0 = .ok (.aload_n 0, 1) := by decide +kernel
theorem dX4_clear_1 : decode cX4_clear 1 = .ok (.getfield 12, 3) := by decide +kernel
theorem dX4_clear_4 : decode cX4_clear 4 = .ok (.getfield 56, 3) := by decide +kernel
theorem dX4_clear_7 : decode cX4_clear 7 = .ok (.istore_n 1, 1) := by decide +kernel
theorem dX4_clear_8 : decode cX4_clear 8 = .ok (.aload_n 0, 1) := by decide +kernel
theorem dX4_clear_9 : decode cX4_clear 9 = .ok (.invokevirtual 39, 3) := by decide +kernel
theorem dX4_clear_12 : decode cX4_clear 12 = .ok (.aload_n 0, 1) := by decide +kernel
theorem dX4_clear_13 : decode cX4_clear 13 = .ok (.getfield 12, 3) := by decide +kernel
theorem dX4_clear_16 : decode cX4_clear 16 = .ok (.invokevirtual 179, 3) := by decide +kernel
theorem dX4_clear_19 : decode cX4_clear 19 = .ok (.iload_n 1, 1) := by decide +kernel
theorem dX4_clear_20 : decode cX4_clear 20 = .ok (.ireturn, 1) := by decide +kernel
theorem dX4_addStep_0 : decode cX4_addStep 0 = .ok (.aload_n 0, 1) := by decide +kernel
theorem dX4_addStep_1 : decode cX4_addStep 1 = .ok (.getfield 12, 3) := by decide +kernel
theorem dX4_addStep_4 : decode cX4_addStep 4 = .ok (.iload_n 1, 1) := by decide +kernel
theorem dX4_addStep_5 : decode cX4_addStep 5 = .ok (.invokevirtual 182, 3) := by decide +kernel
theorem dX4_addStep_8 : decode cX4_addStep 8 = .ok (.ifCond .eq 6, 3) := by decide +kernel
theorem dX4_addStep_11 : decode cX4_addStep 11 = .ok (.bipush (-2), 2) := by decide +kernel
theorem dX4_addStep_13 : decode cX4_addStep 13 = .ok (.ireturn, 1) := by decide +kernel
theorem dX4_addStep_14 : decode cX4_addStep 14 = .ok (.aload_n 0, 1) := by decide +kernel
theorem dX4_addStep_15 : decode cX4_addStep 15 = .ok (.invokevirtual 39, 3) := by decide +kernel
theorem dX4_addStep_18 : decode cX4_addStep 18 = .ok (.aload_n 0, 1) := by decide +kernel
theorem dX4_addStep_19 : decode cX4_addStep 19 = .ok (.getfield 12, 3) := by decide +kernel
theorem dX4_addStep_22 : decode cX4_addStep 22 = .ok (.iload_n 1, 1) := by decide +kernel
theorem dX4_addStep_23 : decode cX4_addStep 23 = .ok (.iload_n 2, 1) := by decide +kernel
theorem dX4_addStep_24 : decode cX4_addStep 24 = .ok (.iload_n 3, 1) := by decide +kernel
theorem dX4_addStep_25 : decode cX4_addStep 25 = .ok (.iload 4, 2) := by decide +kernel
theorem dX4_addStep_27 : decode cX4_addStep 27 = .ok (.iload 5, 2) := by decide +kernel
theorem dX4_addStep_29 : decode cX4_addStep 29 = .ok (.invokevirtual 185, 3) := by decide +kernel
theorem dX4_addStep_32 : decode cX4_addStep 32 = .ok (.ireturn, 1) := by decide +kernel
theorem dX4_programChanged_0 : decode cX4_programChanged 0 = .ok (.aload_n 0, 1) := by decide +kernel
theorem dX4_programChanged_1 : decode cX4_programChanged 1 = .ok (.getfield 21, 3) := by decide +kernel
theorem dX4_programChanged_4 : decode cX4_programChanged 4 = .ok (.invokevirtual 64, 3) := by decide +kernel
theorem dX4_programChanged_7 : decode cX4_programChanged 7 = .ok (.aload_n 0, 1) := by decide +kernel
theorem dX4_programChanged_8 : decode cX4_programChanged 8 = .ok (.getfield 28, 3) := by decide +kernel
theorem dX4_programChanged_11 : decode cX4_programChanged 11 = .ok (.invokevirtual 188, 3) := by decide +kernel
theorem dX4_programChanged_14 : decode cX4_programChanged 14 = .ok (.return_, 1) := by decide +kernel
theorem dX4_isPlace_0 : decode cX4_isPlace 0 = .ok (.iload_n 1, 1) := by decide +kernel
theorem dX4_isPlace_1 : decode cX4_isPlace 1 = .ok (.ifCond .lt 24, 3) := by decide +kernel
theorem dX4_isPlace_4 : decode cX4_isPlace 4 = .ok (.iload_n 1, 1) := by decide +kernel
theorem dX4_isPlace_5 : decode cX4_isPlace 5 = .ok (.aload_n 0, 1) := by decide +kernel
theorem dX4_isPlace_6 : decode cX4_isPlace 6 = .ok (.getfield 12, 3) := by decide +kernel
theorem dX4_isPlace_9 : decode cX4_isPlace 9 = .ok (.getfield 56, 3) := by decide +kernel
theorem dX4_isPlace_12 : decode cX4_isPlace 12 = .ok (.if_icmp .gt 13, 3) := by decide +kernel
theorem dX4_isPlace_15 : decode cX4_isPlace 15 = .ok (.iload_n 1, 1) := by decide +kernel
theorem dX4_isPlace_16 : decode cX4_isPlace 16 = .ok (.bipush 31, 2) := by decide +kernel
theorem dX4_isPlace_18 : decode cX4_isPlace 18 = .ok (.if_icmp .ge 7, 3) := by decide +kernel
theorem dX4_isPlace_21 : decode cX4_isPlace 21 = .ok (.iconst 1, 1) := by decide +kernel
theorem dX4_isPlace_22 : decode cX4_isPlace 22 = .ok (.goto 4, 3) := by decide +kernel
theorem dX4_isPlace_25 : decode cX4_isPlace 25 = .ok (.iconst 0, 1) := by decide +kernel
theorem dX4_isPlace_26 : decode cX4_isPlace 26 = .ok (.ireturn, 1) := by decide +kernel
theorem dX4_isVariable_0 : decode cX4_isVariable 0 = .ok (.iload_n 0, 1) := by decide +kernel
theorem dX4_isVariable_1 : decode cX4_isVariable 1 = .ok (.ifCond .lt 13, 3) := by decide +kernel
theorem dX4_isVariable_4 : decode cX4_isVariable 4 = .ok (.iload_n 0, 1) := by decide +kernel
theorem dX4_isVariable_5 : decode cX4_isVariable 5 = .ok (.bipush 6, 2) := by decide +kernel
theorem dX4_isVariable_7 : decode cX4_isVariable 7 = .ok (.if_icmp .ge 7, 3) := by decide +kernel
theorem dX4_isVariable_10 : decode cX4_isVariable 10 = .ok (.iconst 1, 1) := by decide +kernel
theorem dX4_isVariable_11 : decode cX4_isVariable 11 = .ok (.goto 4, 3) := by decide +kernel
theorem dX4_isVariable_14 : decode cX4_isVariable 14 = .ok (.iconst 0, 1) := by decide +kernel
theorem dX4_isVariable_15 : decode cX4_isVariable 15 = .ok (.ireturn, 1) := by decide +kernel
theorem dX4_isValue_0 : decode cX4_isValue 0 = .ok (.iload_n 0, 1) := by decide +kernel
theorem dX4_isValue_1 : decode cX4_isValue 1 = .ok (.ifCond .lt 13, 3) := by decide +kernel
theorem dX4_isValue_4 : decode cX4_isValue 4 = .ok (.iload_n 0, 1) := by decide +kernel
theorem dX4_isValue_5 : decode cX4_isValue 5 = .ok (.bipush 10, 2) := by decide +kernel
theorem dX4_isValue_7 : decode cX4_isValue 7 = .ok (.if_icmp .ge 7, 3) := by decide +kernel
theorem dX4_isValue_10 : decode cX4_isValue 10 = .ok (.iconst 1, 1) := by decide +kernel
theorem dX4_isValue_11 : decode cX4_isValue 11 = .ok (.goto 4, 3) := by decide +kernel
theorem dX4_isValue_14 : decode cX4_isValue 14 = .ok (.iconst 0, 1) := by decide +kernel
theorem dX4_isValue_15 : decode cX4_isValue 15 = .ok (.ireturn, 1) := by decide +kernel
theorem dX4_isRow_0 : decode cX4_isRow 0 = .ok (.iload_n 0, 1) := by decide +kernel
theorem dX4_isRow_1 : decode cX4_isRow 1 = .ok (.ifCond .lt 12, 3) := by decide +kernel
theorem dX4_isRow_4 : decode cX4_isRow 4 = .ok (.iload_n 0, 1) := by decide +kernel
theorem dX4_isRow_5 : decode cX4_isRow 5 = .ok (.iconst 4, 1) := by decide +kernel
theorem dX4_isRow_6 : decode cX4_isRow 6 = .ok (.if_icmp .ge 7, 3) := by decide +kernel
theorem dX4_isRow_9 : decode cX4_isRow 9 = .ok (.iconst 1, 1) := by decide +kernel
theorem dX4_isRow_10 : decode cX4_isRow 10 = .ok (.goto 4, 3) := by decide +kernel
theorem dX4_isRow_13 : decode cX4_isRow 13 = .ok (.iconst 0, 1) := by decide +kernel
theorem dX4_isRow_14 : decode cX4_isRow 14 = .ok (.ireturn, 1) := by decide +kernel
theorem dX4_isTerm_0 : decode cX4_isTerm 0 = .ok (.iload_n 0, 1) := by decide +kernel
theorem dX4_isTerm_1 : decode cX4_isTerm 1 = .ok (.invokestatic 46, 3) := by decide +kernel
theorem dX4_isTerm_4 : decode cX4_isTerm 4 = .ok (.ifCond .ne 13, 3) := by decide +kernel
theorem dX4_isTerm_7 : decode cX4_isTerm 7 = .ok (.iload_n 0, 1) := by decide +kernel
theorem dX4_isTerm_8 : decode cX4_isTerm 8 = .ok (.bipush 10, 2) := by decide +kernel
theorem dX4_isTerm_10 : decode cX4_isTerm 10 = .ok (.isub, 1) := by decide +kernel
theorem dX4_isTerm_11 : decode cX4_isTerm 11 = .ok (.invokestatic 36, 3) := by decide +kernel
theorem dX4_isTerm_14 : decode cX4_isTerm 14 = .ok (.ifCond .eq 7, 3) := by decide +kernel
theorem dX4_isTerm_17 : decode cX4_isTerm 17 = .ok (.iconst 1, 1) := by decide +kernel
theorem dX4_isTerm_18 : decode cX4_isTerm 18 = .ok (.goto 4, 3) := by decide +kernel
theorem dX4_isTerm_21 : decode cX4_isTerm 21 = .ok (.iconst 0, 1) := by decide +kernel
theorem dX4_isTerm_22 : decode cX4_isTerm 22 = .ok (.ireturn, 1) := by decide +kernel
theorem dX4_isChoice_0 : decode cX4_isChoice 0 = .ok (.iload_n 0, 1) := by decide +kernel
theorem dX4_isChoice_1 : decode cX4_isChoice 1 = .ok (.iconst (-1), 1) := by decide +kernel
theorem dX4_isChoice_2 : decode cX4_isChoice 2 = .ok (.if_icmp .eq 17, 3) := by decide +kernel
theorem dX4_isChoice_5 : decode cX4_isChoice 5 = .ok (.iload_n 0, 1) := by decide +kernel
theorem dX4_isChoice_6 : decode cX4_isChoice 6 = .ok (.invokestatic 46, 3) := by decide +kernel
theorem dX4_isChoice_9 : decode cX4_isChoice 9 = .ok (.ifCond .eq 14, 3) := by decide +kernel
theorem dX4_isChoice_12 : decode cX4_isChoice 12 = .ok (.iload_n 1, 1) := by decide +kernel
theorem dX4_isChoice_13 : decode cX4_isChoice 13 = .ok (.invokestatic 36, 3) := by decide +kernel
theorem dX4_isChoice_16 : decode cX4_isChoice 16 = .ok (.ifCond .eq 7, 3) := by decide +kernel
theorem dX4_isChoice_19 : decode cX4_isChoice 19 = .ok (.iconst 1, 1) := by decide +kernel
theorem dX4_isChoice_20 : decode cX4_isChoice 20 = .ok (.goto 4, 3) := by decide +kernel
theorem dX4_isChoice_23 : decode cX4_isChoice 23 = .ok (.iconst 0, 1) := by decide +kernel
theorem dX4_isChoice_24 : decode cX4_isChoice 24 = .ok (.ireturn, 1) := by decide +kernel
theorem dX4_commonDivisor_0 : decode cX4_commonDivisor 0 = .ok (.lload_n 0, 1) := by decide +kernel
theorem dX4_commonDivisor_1 : decode cX4_commonDivisor 1 = .ok (.lstore 4, 2) := by decide +kernel
theorem dX4_commonDivisor_3 : decode cX4_commonDivisor 3 = .ok (.lload_n 2, 1) := by decide +kernel
theorem dX4_commonDivisor_4 : decode cX4_commonDivisor 4 = .ok (.lstore 6, 2) := by decide +kernel
theorem dX4_commonDivisor_6 : decode cX4_commonDivisor 6 = .ok (.iconst 0, 1) := by decide +kernel
theorem dX4_commonDivisor_7 : decode cX4_commonDivisor 7 = .ok (.istore 8, 2) := by decide +kernel
theorem dX4_commonDivisor_9 : decode cX4_commonDivisor 9 = .ok (.iload 8, 2) := by decide +kernel
theorem dX4_commonDivisor_11 : decode cX4_commonDivisor 11 = .ok (.bipush 100, 2) := by decide +kernel
theorem dX4_commonDivisor_13 : decode cX4_commonDivisor 13 = .ok (.if_icmp .ge 31, 3) := by decide +kernel
theorem dX4_commonDivisor_16 : decode cX4_commonDivisor 16 = .ok (.lload 6, 2) := by decide +kernel
theorem dX4_commonDivisor_18 : decode cX4_commonDivisor 18 = .ok (.lconst 0, 1) := by decide +kernel
theorem dX4_commonDivisor_19 : decode cX4_commonDivisor 19 = .ok (.lcmp, 1) := by decide +kernel
theorem dX4_commonDivisor_20 : decode cX4_commonDivisor 20 = .ok (.ifCond .eq 24, 3) := by decide +kernel
theorem dX4_commonDivisor_23 : decode cX4_commonDivisor 23 = .ok (.lload 4, 2) := by decide +kernel
theorem dX4_commonDivisor_25 : decode cX4_commonDivisor 25 = .ok (.lload 6, 2) := by decide +kernel
theorem dX4_commonDivisor_27 : decode cX4_commonDivisor 27 = .ok (.lrem, 1) := by decide +kernel
theorem dX4_commonDivisor_28 : decode cX4_commonDivisor 28 = .ok (.lstore 9, 2) := by decide +kernel
theorem dX4_commonDivisor_30 : decode cX4_commonDivisor 30 = .ok (.lload 6, 2) := by decide +kernel
theorem dX4_commonDivisor_32 : decode cX4_commonDivisor 32 = .ok (.lstore 4, 2) := by decide +kernel
theorem dX4_commonDivisor_34 : decode cX4_commonDivisor 34 = .ok (.lload 9, 2) := by decide +kernel
theorem dX4_commonDivisor_36 : decode cX4_commonDivisor 36 = .ok (.lstore 6, 2) := by decide +kernel
theorem dX4_commonDivisor_38 : decode cX4_commonDivisor 38 = .ok (.iinc 8 1, 3) := by decide +kernel
theorem dX4_commonDivisor_41 : decode cX4_commonDivisor 41 = .ok (.goto (-32), 3) := by decide +kernel
theorem dX4_commonDivisor_44 : decode cX4_commonDivisor 44 = .ok (.lload 4, 2) := by decide +kernel
theorem dX4_commonDivisor_46 : decode cX4_commonDivisor 46 = .ok (.lreturn, 1) := by decide +kernel
theorem dX5_init_0 : decode cX5_init 0 = .ok (.aload_n 0, 1) := by decide +kernel
theorem dX5_init_1 : decode cX5_init 1 = .ok (.invokespecial 1, 3) := by decide +kernel
theorem dX5_init_4 : decode cX5_init 4 = .ok (.aload_n 0, 1) := by decide +kernel
theorem dX5_init_5 : decode cX5_init 5 = .ok (.bipush 30, 2) := by decide +kernel
theorem dX5_init_7 : decode cX5_init 7 = .ok (.newarray .int, 2) := by decide +kernel
theorem dX5_init_9 : decode cX5_init 9 = .ok (.putfield 7, 3) := by decide +kernel
theorem dX5_init_12 : decode cX5_init 12 = .ok (.aload_n 0, 1) := by decide +kernel
theorem dX5_init_13 : decode cX5_init 13 = .ok (.bipush 30, 2) := by decide +kernel
theorem dX5_init_15 : decode cX5_init 15 = .ok (.newarray .int, 2) := by decide +kernel
theorem dX5_init_17 : decode cX5_init 17 = .ok (.putfield 13, 3) := by decide +kernel
theorem dX5_init_20 : decode cX5_init 20 = .ok (.aload_n 0, 1) := by decide +kernel
theorem dX5_init_21 : decode cX5_init 21 = .ok (.bipush 30, 2) := by decide +kernel
theorem dX5_init_23 : decode cX5_init 23 = .ok (.newarray .int, 2) := by decide +kernel
theorem dX5_init_25 : decode cX5_init 25 = .ok (.putfield 16, 3) := by decide +kernel
theorem dX5_init_28 : decode cX5_init 28 = .ok (.aload_n 0, 1) := by decide +kernel
theorem dX5_init_29 : decode cX5_init 29 = .ok (.bipush 30, 2) := by decide +kernel
theorem dX5_init_31 : decode cX5_init 31 = .ok (.newarray .int, 2) := by decide +kernel
theorem dX5_init_33 : decode cX5_init 33 = .ok (.putfield 19, 3) := by decide +kernel
theorem dX5_init_36 : decode cX5_init 36 = .ok (.aload_n 0, 1) := by decide +kernel
theorem dX5_init_37 : decode cX5_init 37 = .ok (.bipush 30, 2) := by decide +kernel
theorem dX5_init_39 : decode cX5_init 39 = .ok (.newarray .int, 2) := by decide +kernel
theorem dX5_init_41 : decode cX5_init 41 = .ok (.putfield 22, 3) := by decide +kernel
theorem dX5_init_44 : decode cX5_init 44 = .ok (.aload_n 0, 1) := by decide +kernel
theorem dX5_init_45 : decode cX5_init 45 = .ok (.bipush 40, 2) := by decide +kernel
theorem dX5_init_47 : decode cX5_init 47 = .ok (.newarray .int, 2) := by decide +kernel
theorem dX5_init_49 : decode cX5_init 49 = .ok (.putfield 25, 3) := by decide +kernel
theorem dX5_init_52 : decode cX5_init 52 = .ok (.aload_n 0, 1) := by decide +kernel
theorem dX5_init_53 : decode cX5_init 53 = .ok (.bipush 6, 2) := by decide +kernel
theorem dX5_init_55 : decode cX5_init 55 = .ok (.newarray .boolean, 2) := by decide +kernel
theorem dX5_init_57 : decode cX5_init 57 = .ok (.putfield 28, 3) := by decide +kernel
theorem dX5_init_60 : decode cX5_init 60 = .ok (.aload_n 0, 1) := by decide +kernel
theorem dX5_init_61 : decode cX5_init 61 = .ok (.bipush 31, 2) := by decide +kernel
theorem dX5_init_63 : decode cX5_init 63 = .ok (.newarray .int, 2) := by decide +kernel
theorem dX5_init_65 : decode cX5_init 65 = .ok (.putfield 32, 3) := by decide +kernel
theorem dX5_init_68 : decode cX5_init 68 = .ok (.aload_n 0, 1) := by decide +kernel
theorem dX5_init_69 : decode cX5_init 69 = .ok (.bipush 31, 2) := by decide +kernel
theorem dX5_init_71 : decode cX5_init 71 = .ok (.newarray .int, 2) := by decide +kernel
theorem dX5_init_73 : decode cX5_init 73 = .ok (.putfield 35, 3) := by decide +kernel
theorem dX5_init_76 : decode cX5_init 76 = .ok (.aload_n 0, 1) := by decide +kernel
theorem dX5_init_77 : decode cX5_init 77 = .ok (.bipush 31, 2) := by decide +kernel
theorem dX5_init_79 : decode cX5_init 79 = .ok (.newarray .int, 2) := by decide +kernel
theorem dX5_init_81 : decode cX5_init 81 = .ok (.putfield 38, 3) := by decide +kernel
theorem dX5_init_84 : decode cX5_init 84 = .ok (.aload_n 0, 1) := by decide +kernel
theorem dX5_init_85 : decode cX5_init 85 = .ok (.sipush 6200, 3) := by decide +kernel
theorem dX5_init_88 : decode cX5_init 88 = .ok (.newarray .int, 2) := by decide +kernel
theorem dX5_init_90 : decode cX5_init 90 = .ok (.putfield 41, 3) := by decide +kernel
theorem dX5_init_93 : decode cX5_init 93 = .ok (.aload_n 0, 1) := by decide +kernel
theorem dX5_init_94 : decode cX5_init 94 = .ok (.sipush 6200, 3) := by decide +kernel
theorem dX5_init_97 : decode cX5_init 97 = .ok (.newarray .long, 2) := by decide +kernel
theorem dX5_init_99 : decode cX5_init 99 = .ok (.putfield 44, 3) := by decide +kernel
theorem dX5_init_102 : decode cX5_init 102 = .ok (.aload_n 0, 1) := by decide +kernel
theorem dX5_init_103 : decode cX5_init 103 = .ok (.bipush 31, 2) := by decide +kernel
theorem dX5_init_105 : decode cX5_init 105 = .ok (.newarray .int, 2) := by decide +kernel
theorem dX5_init_107 : decode cX5_init 107 = .ok (.putfield 48, 3) := by decide +kernel
theorem dX5_init_110 : decode cX5_init 110 = .ok (.aload_n 0, 1) := by decide +kernel
theorem dX5_init_111 : decode cX5_init 111 = .ok (.bipush 10, 2) := by decide +kernel
theorem dX5_init_113 : decode cX5_init 113 = .ok (.newarray .int, 2) := by decide +kernel
theorem dX5_init_115 : decode cX5_init 115 = .ok (.putfield 51, 3) := by decide +kernel
theorem dX5_init_118 : decode cX5_init 118 = .ok (.aload_n 0, 1) := by decide +kernel
theorem dX5_init_119 : decode cX5_init 119 = .ok (.bipush 10, 2) := by decide +kernel
theorem dX5_init_121 : decode cX5_init 121 = .ok (.newarray .long, 2) := by decide +kernel
theorem dX5_init_123 : decode cX5_init 123 = .ok (.putfield 54, 3) := by decide +kernel
theorem dX5_init_126 : decode cX5_init 126 = .ok (.aload_n 0, 1) := by decide +kernel
theorem dX5_init_127 : decode cX5_init 127 = .ok (.sipush 320, 3) := by decide +kernel
theorem dX5_init_130 : decode cX5_init 130 = .ok (.newarray .int, 2) := by decide +kernel
theorem dX5_init_132 : decode cX5_init 132 = .ok (.putfield 57, 3) := by decide +kernel
theorem dX5_init_135 : decode cX5_init 135 = .ok (.aload_n 0, 1) := by decide +kernel
theorem dX5_init_136 : decode cX5_init 136 = .ok (.sipush 320, 3) := by decide +kernel
theorem dX5_init_139 : decode cX5_init 139 = .ok (.newarray .int, 2) := by decide +kernel
theorem dX5_init_141 : decode cX5_init 141 = .ok (.putfield 60, 3) := by decide +kernel
theorem dX5_init_144 : decode cX5_init 144 = .ok (.aload_n 0, 1) := by decide +kernel
theorem dX5_init_145 : decode cX5_init 145 = .ok (.sipush 320, 3) := by decide +kernel
theorem dX5_init_148 : decode cX5_init 148 = .ok (.newarray .long, 2) := by decide +kernel
theorem dX5_init_150 : decode cX5_init 150 = .ok (.putfield 63, 3) := by decide +kernel
theorem dX5_init_153 : decode cX5_init 153 = .ok (.aload_n 0, 1) := by decide +kernel
theorem dX5_init_154 : decode cX5_init 154 = .ok (.invokevirtual 66, 3) := by decide +kernel
theorem dX5_init_157 : decode cX5_init 157 = .ok (.return_, 1) := by decide +kernel
theorem dX5_thrown_0 : decode cX5_thrown 0 = .ok (.aload_n 0, 1) := by decide +kernel
theorem dX5_thrown_1 : decode cX5_thrown 1 = .ok (.getfield 69, 3) := by decide +kernel
theorem dX5_thrown_4 : decode cX5_thrown 4 = .ok (.ireturn, 1) := by decide +kernel
theorem dX5_reset_0 : decode cX5_reset 0 = .ok (.aload_n 0, 1) := by decide +kernel
theorem dX5_reset_1 : decode cX5_reset 1 = .ok (.iconst 0, 1) := by decide +kernel
theorem dX5_reset_2 : decode cX5_reset 2 = .ok (.putfield 73, 3) := by decide +kernel
theorem dX5_reset_5 : decode cX5_reset 5 = .ok (.aload_n 0, 1) := by decide +kernel
theorem dX5_reset_6 : decode cX5_reset 6 = .ok (.iconst 0, 1) := by decide +kernel
theorem dX5_reset_7 : decode cX5_reset 7 = .ok (.putfield 76, 3) := by decide +kernel
theorem dX5_reset_10 : decode cX5_reset 10 = .ok (.aload_n 0, 1) := by decide +kernel
theorem dX5_reset_11 : decode cX5_reset 11 = .ok (.iconst 0, 1) := by decide +kernel
theorem dX5_reset_12 : decode cX5_reset 12 = .ok (.putfield 79, 3) := by decide +kernel
theorem dX5_reset_15 : decode cX5_reset 15 = .ok (.iconst 0, 1) := by decide +kernel
theorem dX5_reset_16 : decode cX5_reset 16 = .ok (.istore_n 1, 1) := by decide +kernel
theorem dX5_reset_17 : decode cX5_reset 17 = .ok (.iload_n 1, 1) := by decide +kernel
theorem dX5_reset_18 : decode cX5_reset 18 = .ok (.bipush 40, 2) := by decide +kernel
theorem dX5_reset_20 : decode cX5_reset 20 = .ok (.if_icmp .ge 28, 3) := by decide +kernel
theorem dX5_reset_23 : decode cX5_reset 23 = .ok (.aload_n 0, 1) := by decide +kernel
theorem dX5_reset_24 : decode cX5_reset 24 = .ok (.getfield 25, 3) := by decide +kernel
theorem dX5_reset_27 : decode cX5_reset 27 = .ok (.iload_n 1, 1) := by decide +kernel
theorem dX5_reset_28 : decode cX5_reset 28 = .ok (.iload_n 1, 1) := by decide +kernel
theorem dX5_reset_29 : decode cX5_reset 29 = .ok (.bipush 10, 2) := by decide +kernel
theorem dX5_reset_31 : decode cX5_reset 31 = .ok (.irem, 1) := by decide +kernel
theorem dX5_reset_32 : decode cX5_reset 32 = .ok (.ifCond .ne 8, 3) := by decide +kernel
theorem dX5_reset_35 : decode cX5_reset 35 = .ok (.bipush 60, 2) := by decide +kernel
theorem dX5_reset_37 : decode cX5_reset 37 = .ok (.goto 4, 3) := by decide +kernel
theorem dX5_reset_40 : decode cX5_reset 40 = .ok (.iconst 0, 1) := by decide +kernel
theorem dX5_reset_41 : decode cX5_reset 41 = .ok (.iastore, 1) := by decide +kernel
theorem dX5_reset_42 : decode cX5_reset 42 = .ok (.iinc 1 1, 3) := by decide +kernel
theorem dX5_reset_45 : decode cX5_reset 45 = .ok (.goto (-28), 3) := by decide +kernel
theorem dX5_reset_48 : decode cX5_reset 48 = .ok (.iconst 0, 1) := by decide +kernel
theorem dX5_reset_49 : decode cX5_reset 49 = .ok (.istore_n 1, 1) := by decide +kernel
theorem dX5_reset_50 : decode cX5_reset 50 = .ok (.iload_n 1, 1) := by decide +kernel
theorem dX5_reset_51 : decode cX5_reset 51 = .ok (.bipush 6, 2) := by decide +kernel
theorem dX5_reset_53 : decode cX5_reset 53 = .ok (.if_icmp .ge 16, 3) := by decide +kernel
theorem dX5_reset_56 : decode cX5_reset 56 = .ok (.aload_n 0, 1) := by decide +kernel
theorem dX5_reset_57 : decode cX5_reset 57 = .ok (.getfield 28, 3) := by decide +kernel
theorem dX5_reset_60 : decode cX5_reset 60 = .ok (.iload_n 1, 1) := by decide +kernel
theorem dX5_reset_61 : decode cX5_reset 61 = .ok (.iconst 0, 1) := by decide +kernel
theorem dX5_reset_62 : decode cX5_reset 62 = .ok (.bastore, 1) := by decide +kernel
theorem dX5_reset_63 : decode cX5_reset 63 = .ok (.iinc 1 1, 3) := by decide +kernel
theorem dX5_reset_66 : decode cX5_reset 66 = .ok (.goto (-16), 3) := by decide +kernel
theorem dX5_reset_69 : decode cX5_reset 69 = .ok (.aload_n 0, 1) := by decide +kernel
theorem dX5_reset_70 : decode cX5_reset 70 = .ok (.iconst 0, 1) := by decide +kernel
theorem dX5_reset_71 : decode cX5_reset 71 = .ok (.putfield 82, 3) := by decide +kernel
theorem dX5_reset_74 : decode cX5_reset 74 = .ok (.return_, 1) := by decide +kernel
theorem dX5_isIn_0 : decode cX5_isIn 0 = .ok (.iload_n 0, 1) := by decide +kernel
theorem dX5_isIn_1 : decode cX5_isIn 1 = .ok (.iload_n 1, 1) := by decide +kernel
theorem dX5_isIn_2 : decode cX5_isIn 2 = .ok (.if_icmp .lt 12, 3) := by decide +kernel
theorem dX5_isIn_5 : decode cX5_isIn 5 = .ok (.iload_n 0, 1) := by decide +kernel
theorem dX5_isIn_6 : decode cX5_isIn 6 = .ok (.iload_n 2, 1) := by decide +kernel
theorem dX5_isIn_7 : decode cX5_isIn 7 = .ok (.if_icmp .gt 7, 3) := by decide +kernel
theorem dX5_isIn_10 : decode cX5_isIn 10 = .ok (.iconst 1, 1) := by decide +kernel
theorem dX5_isIn_11 : decode cX5_isIn 11 = .ok (.goto 4, 3) := by decide +kernel
theorem dX5_isIn_14 : decode cX5_isIn 14 = .ok (.iconst 0, 1) := by decide +kernel
theorem dX5_isIn_15 : decode cX5_isIn 15 = .ok (.ireturn, 1) := by decide +kernel
theorem dX5_isTerm_0 : decode cX5_isTerm 0 = .ok (.iload_n 0, 1) := by decide +kernel
theorem dX5_isTerm_1 : decode cX5_isTerm 1 = .ok (.iconst 0, 1) := by decide +kernel
theorem dX5_isTerm_2 : decode cX5_isTerm 2 = .ok (.iconst 5, 1) := by decide +kernel
theorem dX5_isTerm_3 : decode cX5_isTerm 3 = .ok (.invokestatic 86, 3) := by decide +kernel
theorem dX5_isTerm_6 : decode cX5_isTerm 6 = .ok (.ifCond .ne 14, 3) := by decide +kernel
theorem dX5_isTerm_9 : decode cX5_isTerm 9 = .ok (.iload_n 0, 1) := by decide +kernel
theorem dX5_isTerm_10 : decode cX5_isTerm 10 = .ok (.bipush 10, 2) := by decide +kernel
theorem dX5_isTerm_12 : decode cX5_isTerm 12 = .ok (.bipush 19, 2) := by decide +kernel
theorem dX5_isTerm_14 : decode cX5_isTerm 14 = .ok (.invokestatic 86, 3) := by decide +kernel
theorem dX5_isTerm_17 : decode cX5_isTerm 17 = .ok (.ifCond .eq 7, 3) := by decide +kernel
theorem dX5_isTerm_20 : decode cX5_isTerm 20 = .ok (.iconst 1, 1) := by decide +kernel
theorem dX5_isTerm_21 : decode cX5_isTerm 21 = .ok (.goto 4, 3) := by decide +kernel
theorem dX5_isTerm_24 : decode cX5_isTerm 24 = .ok (.iconst 0, 1) := by decide +kernel
theorem dX5_isTerm_25 : decode cX5_isTerm 25 = .ok (.ireturn, 1) := by decide +kernel
theorem dX5_weight_0 : decode cX5_weight 0 = .ok (.aload_n 0, 1) := by decide +kernel
theorem dX5_weight_1 : decode cX5_weight 1 = .ok (.iconst 0, 1) := by decide +kernel
theorem dX5_weight_2 : decode cX5_weight 2 = .ok (.putfield 69, 3) := by decide +kernel
theorem dX5_weight_5 : decode cX5_weight 5 = .ok (.iload_n 1, 1) := by decide +kernel
theorem dX5_weight_6 : decode cX5_weight 6 = .ok (.iconst 0, 1) := by decide +kernel
theorem dX5_weight_7 : decode cX5_weight 7 = .ok (.iconst 3, 1) := by decide +kernel
theorem dX5_weight_8 : decode cX5_weight 8 = .ok (.invokestatic 86, 3) := by decide +kernel
theorem dX5_weight_11 : decode cX5_weight 11 = .ok (.ifCond .eq 23, 3) := by decide +kernel
theorem dX5_weight_14 : decode cX5_weight 14 = .ok (.iload_n 2, 1) := by decide +kernel
theorem dX5_weight_15 : decode cX5_weight 15 = .ok (.iconst 0, 1) := by decide +kernel
theorem dX5_weight_16 : decode cX5_weight 16 = .ok (.bipush 9, 2) := by decide +kernel
theorem dX5_weight_18 : decode cX5_weight 18 = .ok (.invokestatic 86, 3) := by decide +kernel
theorem dX5_weight_21 : decode cX5_weight 21 = .ok (.ifCond .eq 13, 3) := by decide +kernel
theorem dX5_weight_24 : decode cX5_weight 24 = .ok (.iload_n 3, 1) := by decide +kernel
theorem dX5_weight_25 : decode cX5_weight 25 = .ok (.iconst 0, 1) := by decide +kernel
theorem dX5_weight_26 : decode cX5_weight 26 = .ok (.bipush 60, 2) := by decide +kernel
theorem dX5_weight_28 : decode cX5_weight 28 = .ok (.invokestatic 86, 3) := by decide +kernel
theorem dX5_weight_31 : decode cX5_weight 31 = .ok (.ifCond .ne 5, 3) := by decide +kernel
theorem dX5_weight_34 : decode cX5_weight 34 = .ok (.iconst (-1), 1) := by decide +kernel
theorem dX5_weight_35 : decode cX5_weight 35 = .ok (.ireturn, 1) := by decide +kernel
theorem dX5_weight_36 : decode cX5_weight 36 = .ok (.aload_n 0, 1) := by decide +kernel
theorem dX5_weight_37 : decode cX5_weight 37 = .ok (.getfield 25, 3) := by decide +kernel
theorem dX5_weight_40 : decode cX5_weight 40 = .ok (.bipush 10, 2) := by decide +kernel
theorem dX5_weight_42 : decode cX5_weight 42 = .ok (.iload_n 1, 1) := by decide +kernel
theorem dX5_weight_43 : decode cX5_weight 43 = .ok (.imul, 1) := by decide +kernel
theorem dX5_weight_44 : decode cX5_weight 44 = .ok (.iload_n 2, 1) := by decide +kernel
theorem dX5_weight_45 : decode cX5_weight 45 = .ok (.iadd, 1) := by decide +kernel
theorem dX5_weight_46 : decode cX5_weight 46 = .ok (.iaload, 1) := by decide +kernel
theorem dX5_weight_47 : decode cX5_weight 47 = .ok (.istore 4, 2) := by decide +kernel
theorem dX5_weight_49 : decode cX5_weight 49 = .ok (.aload_n 0, 1) := by decide +kernel
theorem dX5_weight_50 : decode cX5_weight 50 = .ok (.getfield 25, 3) := by decide +kernel
theorem dX5_weight_53 : decode cX5_weight 53 = .ok (.bipush 10, 2) := by decide +kernel
theorem dX5_weight_55 : decode cX5_weight 55 = .ok (.iload_n 1, 1) := by decide +kernel
theorem dX5_weight_56 : decode cX5_weight 56 = .ok (.imul, 1) := by decide +kernel
theorem dX5_weight_57 : decode cX5_weight 57 = .ok (.iload_n 2, 1) := by decide +kernel
theorem dX5_weight_58 : decode cX5_weight 58 = .ok (.iadd, 1) := by decide +kernel
theorem dX5_weight_59 : decode cX5_weight 59 = .ok (.iload_n 3, 1) := by decide +kernel
theorem dX5_weight_60 : decode cX5_weight 60 = .ok (.iastore, 1) := by decide +kernel
theorem dX5_weight_61 : decode cX5_weight 61 = .ok (.aload_n 0, 1) := by decide +kernel
theorem dX5_weight_62 : decode cX5_weight 62 = .ok (.iconst 0, 1) := by decide +kernel
theorem dX5_weight_63 : decode cX5_weight 63 = .ok (.putfield 82, 3) := by decide +kernel
theorem dX5_weight_66 : decode cX5_weight 66 = .ok (.iload 4, 2) := by decide +kernel
theorem dX5_weight_68 : decode cX5_weight 68 = .ok (.ireturn, 1) := by decide +kernel
theorem dX5_added_0 : decode cX5_added 0 = .ok (.aload_n 0, 1) := by decide +kernel
theorem dX5_added_1 : decode cX5_added 1 = .ok (.getfield 7, 3) := by decide +kernel
theorem dX5_added_4 : decode cX5_added 4 = .ok (.aload_n 0, 1) := by decide +kernel
theorem dX5_added_5 : decode cX5_added 5 = .ok (.getfield 73, 3) := by decide +kernel
theorem dX5_added_8 : decode cX5_added 8 = .ok (.iload_n 1, 1) := by decide +kernel
theorem dX5_added_9 : decode cX5_added 9 = .ok (.iastore, 1) := by decide +kernel
theorem dX5_added_10 : decode cX5_added 10 = .ok (.aload_n 0, 1) := by decide +kernel
theorem dX5_added_11 : decode cX5_added 11 = .ok (.getfield 13, 3) := by decide +kernel
theorem dX5_added_14 : decode cX5_added 14 = .ok (.aload_n 0, 1) := by decide +kernel
theorem dX5_added_15 : decode cX5_added 15 = .ok (.getfield 73, 3) := by decide +kernel
theorem dX5_added_18 : decode cX5_added 18 = .ok (.iload_n 2, 1) := by decide +kernel
theorem dX5_added_19 : decode cX5_added 19 = .ok (.iastore, 1) := by decide +kernel
theorem dX5_added_20 : decode cX5_added 20 = .ok (.aload_n 0, 1) := by decide +kernel
theorem dX5_added_21 : decode cX5_added 21 = .ok (.getfield 16, 3) := by decide +kernel
theorem dX5_added_24 : decode cX5_added 24 = .ok (.aload_n 0, 1) := by decide +kernel
theorem dX5_added_25 : decode cX5_added 25 = .ok (.getfield 73, 3) := by decide +kernel
theorem dX5_added_28 : decode cX5_added 28 = .ok (.iload_n 3, 1) := by decide +kernel
theorem dX5_added_29 : decode cX5_added 29 = .ok (.iastore, 1) := by decide +kernel
theorem dX5_added_30 : decode cX5_added 30 = .ok (.aload_n 0, 1) := by decide +kernel
theorem dX5_added_31 : decode cX5_added 31 = .ok (.getfield 19, 3) := by decide +kernel
theorem dX5_added_34 : decode cX5_added 34 = .ok (.aload_n 0, 1) := by decide +kernel
theorem dX5_added_35 : decode cX5_added 35 = .ok (.getfield 73, 3) := by decide +kernel
theorem dX5_added_38 : decode cX5_added 38 = .ok (.iload 4, 2) := by decide +kernel
theorem dX5_added_40 : decode cX5_added 40 = .ok (.iastore, 1) := by decide +kernel
theorem dX5_added_41 : decode cX5_added 41 = .ok (.aload_n 0, 1) := by decide +kernel
theorem dX5_added_42 : decode cX5_added 42 = .ok (.getfield 22, 3) := by decide +kernel
theorem dX5_added_45 : decode cX5_added 45 = .ok (.aload_n 0, 1) := by decide +kernel
theorem dX5_added_46 : decode cX5_added 46 = .ok (.getfield 73, 3) := by decide +kernel
theorem dX5_added_49 : decode cX5_added 49 = .ok (.iload 5, 2) := by decide +kernel
theorem dX5_added_51 : decode cX5_added 51 = .ok (.iastore, 1) := by decide +kernel
theorem dX5_added_52 : decode cX5_added 52 = .ok (.aload_n 0, 1) := by decide +kernel
theorem dX5_added_53 : decode cX5_added 53 = .ok (.dup, 1) := by decide +kernel
theorem dX5_added_54 : decode cX5_added 54 = .ok (.getfield 73, 3) := by decide +kernel
theorem dX5_added_57 : decode cX5_added 57 = .ok (.iconst 1, 1) := by decide +kernel
theorem dX5_added_58 : decode cX5_added 58 = .ok (.iadd, 1) := by decide +kernel
theorem dX5_added_59 : decode cX5_added 59 = .ok (.putfield 73, 3) := by decide +kernel
theorem dX5_added_62 : decode cX5_added 62 = .ok (.aload_n 0, 1) := by decide +kernel
theorem dX5_added_63 : decode cX5_added 63 = .ok (.iconst 0, 1) := by decide +kernel
theorem dX5_added_64 : decode cX5_added 64 = .ok (.putfield 82, 3) := by decide +kernel
theorem dX5_added_67 : decode cX5_added 67 = .ok (.aload_n 0, 1) := by decide +kernel
theorem dX5_added_68 : decode cX5_added 68 = .ok (.getfield 73, 3) := by decide +kernel
theorem dX5_added_71 : decode cX5_added 71 = .ok (.iconst 1, 1) := by decide +kernel
theorem dX5_added_72 : decode cX5_added 72 = .ok (.isub, 1) := by decide +kernel
theorem dX5_added_73 : decode cX5_added 73 = .ok (.ireturn, 1) := by decide +kernel
theorem dX5_draw_0 : decode cX5_draw 0 = .ok (.aload_n 0, 1) := by decide +kernel
theorem dX5_draw_1 : decode cX5_draw 1 = .ok (.iconst 0, 1) := by decide +kernel
theorem dX5_draw_2 : decode cX5_draw 2 = .ok (.putfield 69, 3) := by decide +kernel
theorem dX5_draw_5 : decode cX5_draw 5 = .ok (.iload_n 1, 1) := by decide +kernel
theorem dX5_draw_6 : decode cX5_draw 6 = .ok (.iconst 0, 1) := by decide +kernel
theorem dX5_draw_7 : decode cX5_draw 7 = .ok (.iconst 5, 1) := by decide +kernel
theorem dX5_draw_8 : decode cX5_draw 8 = .ok (.invokestatic 86, 3) := by decide +kernel
theorem dX5_draw_11 : decode cX5_draw 11 = .ok (.ifCond .eq 12, 3) := by decide +kernel
theorem dX5_draw_14 : decode cX5_draw 14 = .ok (.iload_n 2, 1) := by decide +kernel
theorem dX5_draw_15 : decode cX5_draw 15 = .ok (.iconst 0, 1) := by decide +kernel
theorem dX5_draw_16 : decode cX5_draw 16 = .ok (.iconst 3, 1) := by decide +kernel
theorem dX5_draw_17 : decode cX5_draw 17 = .ok (.invokestatic 86, 3) := by decide +kernel
theorem dX5_draw_20 : decode cX5_draw 20 = .ok (.ifCond .ne 5, 3) := by decide +kernel
theorem dX5_draw_23 : decode cX5_draw 23 = .ok (.iconst (-1), 1) := by decide +kernel
theorem dX5_draw_24 : decode cX5_draw 24 = .ok (.ireturn, 1) := by decide +kernel
theorem dX5_draw_25 : decode cX5_draw 25 = .ok (.aload_n 0, 1) := by decide +kernel
theorem dX5_draw_26 : decode cX5_draw 26 = .ok (.getfield 73, 3) := by decide +kernel
theorem dX5_draw_29 : decode cX5_draw 29 = .ok (.bipush 30, 2) := by decide +kernel
theorem dX5_draw_31 : decode cX5_draw 31 = .ok (.if_icmp .eq 12, 3) := by decide +kernel
theorem dX5_draw_34 : decode cX5_draw 34 = .ok (.aload_n 0, 1) := by decide +kernel
theorem dX5_draw_35 : decode cX5_draw 35 = .ok (.getfield 76, 3) := by decide +kernel
theorem dX5_draw_38 : decode cX5_draw 38 = .ok (.bipush 8, 2) := by decide +kernel
theorem dX5_draw_40 : decode cX5_draw 40 = .ok (.if_icmp .ne 6, 3) := by decide +kernel
theorem dX5_draw_43 : decode cX5_draw 43 = .ok (.bipush (-2), 2) := by decide +kernel
theorem dX5_draw_45 : decode cX5_draw 45 = .ok (.ireturn, 1) := by decide +kernel
theorem dX5_draw_46 : decode cX5_draw 46 = .ok (.aload_n 0, 1) := by decide +kernel
theorem dX5_draw_47 : decode cX5_draw 47 = .ok (.dup, 1) := by decide +kernel
theorem dX5_draw_48 : decode cX5_draw 48 = .ok (.getfield 76, 3) := by decide +kernel
theorem dX5_draw_51 : decode cX5_draw 51 = .ok (.iconst 1, 1) := by decide +kernel
theorem dX5_draw_52 : decode cX5_draw 52 = .ok (.iadd, 1) := by decide +kernel
theorem dX5_draw_53 : decode cX5_draw 53 = .ok (.putfield 76, 3) := by decide +kernel
theorem dX5_draw_56 : decode cX5_draw 56 = .ok (.aload_n 0, 1) := by decide +kernel
theorem dX5_draw_57 : decode cX5_draw 57 = .ok (.iconst 0, 1) := by decide +kernel
theorem dX5_draw_58 : decode cX5_draw 58 = .ok (.iload_n 1, 1) := by decide +kernel
theorem dX5_draw_59 : decode cX5_draw 59 = .ok (.iload_n 2, 1) := by decide +kernel
theorem dX5_draw_60 : decode cX5_draw 60 = .ok (.bipush 10, 2) := by decide +kernel
theorem dX5_draw_62 : decode cX5_draw 62 = .ok (.bipush 10, 2) := by decide +kernel
theorem dX5_draw_64 : decode cX5_draw 64 = .ok (.invokevirtual 90, 3) := by decide +kernel
theorem dX5_draw_67 : decode cX5_draw 67 = .ok (.ireturn, 1) := by decide +kernel
theorem dX5_set_0 : decode cX5_set 0 = .ok (.aload_n 0, 1) := by decide +kernel
theorem dX5_set_1 : decode cX5_set 1 = .ok (.iconst 0, 1) := by decide +kernel
theorem dX5_set_2 : decode cX5_set 2 = .ok (.putfield 69, 3) := by decide +kernel
theorem dX5_set_5 : decode cX5_set 5 = .ok (.iload_n 1, 1) := by decide +kernel
theorem dX5_set_6 : decode cX5_set 6 = .ok (.iconst 0, 1) := by decide +kernel
theorem dX5_set_7 : decode cX5_set 7 = .ok (.iconst 5, 1) := by decide +kernel
theorem dX5_set_8 : decode cX5_set 8 = .ok (.invokestatic 86, 3) := by decide +kernel
theorem dX5_set_11 : decode cX5_set 11 = .ok (.ifCond .eq 28, 3) := by decide +kernel
theorem dX5_set_14 : decode cX5_set 14 = .ok (.iload_n 2, 1) := by decide +kernel
theorem dX5_set_15 : decode cX5_set 15 = .ok (.iconst 0, 1) := by decide +kernel
theorem dX5_set_16 : decode cX5_set 16 = .ok (.bipush 6, 2) := by decide +kernel
theorem dX5_set_18 : decode cX5_set 18 = .ok (.invokestatic 86, 3) := by decide +kernel
theorem dX5_set_21 : decode cX5_set 21 = .ok (.ifCond .eq 18, 3) := by decide +kernel
theorem dX5_set_24 : decode cX5_set 24 = .ok (.iload_n 3, 1) := by decide +kernel
theorem dX5_set_25 : decode cX5_set 25 = .ok (.invokestatic 94, 3) := by decide +kernel
theorem dX5_set_28 : decode cX5_set 28 = .ok (.ifCond .eq 11, 3) := by decide +kernel
theorem dX5_set_31 : decode cX5_set 31 = .ok (.iload 4, 2) := by decide +kernel
theorem dX5_set_33 : decode cX5_set 33 = .ok (.invokestatic 94, 3) := by decide +kernel
theorem dX5_set_36 : decode cX5_set 36 = .ok (.ifCond .ne 5, 3) := by decide +kernel
theorem dX5_set_39 : decode cX5_set 39 = .ok (.iconst (-1), 1) := by decide +kernel
theorem dX5_set_40 : decode cX5_set 40 = .ok (.ireturn, 1) := by decide +kernel
theorem dX5_set_41 : decode cX5_set 41 = .ok (.aload_n 0, 1) := by decide +kernel
theorem dX5_set_42 : decode cX5_set 42 = .ok (.getfield 73, 3) := by decide +kernel
theorem dX5_set_45 : decode cX5_set 45 = .ok (.bipush 30, 2) := by decide +kernel
theorem dX5_set_47 : decode cX5_set 47 = .ok (.if_icmp .ne 8, 3) := by decide +kernel
theorem dX5_set_50 : decode cX5_set 50 = .ok (.bipush (-2), 2) := by decide +kernel
theorem dX5_set_52 : decode cX5_set 52 = .ok (.goto 13, 3) := by decide +kernel
theorem dX5_set_55 : decode cX5_set 55 = .ok (.aload_n 0, 1) := by decide +kernel
theorem dX5_set_56 : decode cX5_set 56 = .ok (.iconst 1, 1) := by decide +kernel
theorem dX5_set_57 : decode cX5_set 57 = .ok (.iload_n 1, 1) := by decide +kernel
theorem dX5_set_58 : decode cX5_set 58 = .ok (.iload_n 2, 1) := by decide +kernel
theorem dX5_set_59 : decode cX5_set 59 = .ok (.iload_n 3, 1) := by decide +kernel
theorem dX5_set_60 : decode cX5_set 60 = .ok (.iload 4, 2) := by decide +kernel
theorem dX5_set_62 : decode cX5_set 62 = .ok (.invokevirtual 90, 3) := by decide +kernel
theorem dX5_set_65 : decode cX5_set 65 = .ok (.ireturn, 1) := by decide +kernel
theorem dX5_observe_0 : decode cX5_observe 0 = .ok (.aload_n 0, 1) := by decide +kernel
theorem dX5_observe_1 : decode cX5_observe 1 = .ok (.iconst 0, 1) := by decide +kernel
theorem dX5_observe_2 : decode cX5_observe 2 = .ok (.putfield 69, 3) := by decide +kernel
