theorem dX6_init_0 : decode cX6_init 0 = .ok (.aload_n 0, 1) := by decide +kernel
theorem dX6_init_1 : decode cX6_init 1 = .ok (.invokespecial 3, 3) := by decide +kernel
theorem dX6_init_4 : decode cX6_init 4 = .ok (.aload_n 0, 1) := by decide +kernel
theorem dX6_init_5 : decode cX6_init 5 = .ok (.sipush 600, 3) := by decide +kernel
theorem dX6_init_8 : decode cX6_init 8 = .ok (.newarray .int, 2) := by decide +kernel
theorem dX6_init_10 : decode cX6_init 10 = .ok (.putfield 9, 3) := by decide +kernel
theorem dX6_init_13 : decode cX6_init 13 = .ok (.aload_n 0, 1) := by decide +kernel
theorem dX6_init_14 : decode cX6_init 14 = .ok (.iconst (-1), 1) := by decide +kernel
theorem dX6_init_15 : decode cX6_init 15 = .ok (.putfield 13, 3) := by decide +kernel
theorem dX6_init_18 : decode cX6_init 18 = .ok (.aload_n 0, 1) := by decide +kernel
theorem dX6_init_19 : decode cX6_init 19 = .ok (.sipush 1666, 3) := by decide +kernel
theorem dX6_init_22 : decode cX6_init 22 = .ok (.newarray .int, 2) := by decide +kernel
theorem dX6_init_24 : decode cX6_init 24 = .ok (.putfield 17, 3) := by decide +kernel
theorem dX6_init_27 : decode cX6_init 27 = .ok (.aload_n 0, 1) := by decide +kernel
theorem dX6_init_28 : decode cX6_init 28 = .ok (.sipush 1666, 3) := by decide +kernel
theorem dX6_init_31 : decode cX6_init 31 = .ok (.newarray .int, 2) := by decide +kernel
theorem dX6_init_33 : decode cX6_init 33 = .ok (.putfield 20, 3) := by decide +kernel
theorem dX6_init_36 : decode cX6_init 36 = .ok (.aload_n 0, 1) := by decide +kernel
theorem dX6_init_37 : decode cX6_init 37 = .ok (.sipush 1666, 3) := by decide +kernel
theorem dX6_init_40 : decode cX6_init 40 = .ok (.newarray .int, 2) := by decide +kernel
theorem dX6_init_42 : decode cX6_init 42 = .ok (.putfield 23, 3) := by decide +kernel
theorem dX6_init_45 : decode cX6_init 45 = .ok (.aload_n 0, 1) := by decide +kernel
theorem dX6_init_46 : decode cX6_init 46 = .ok (.bipush 8, 2) := by decide +kernel
theorem dX6_init_48 : decode cX6_init 48 = .ok (.sipush 1666, 3) := by decide +kernel
theorem dX6_init_51 : decode cX6_init 51 = .ok (.multianewarray 26 2, 4) := by decide +kernel
theorem dX6_init_55 : decode cX6_init 55 = .ok (.putfield 28, 3) := by decide +kernel
theorem dX6_init_58 : decode cX6_init 58 = .ok (.aload_n 0, 1) := by decide +kernel
theorem dX6_init_59 : decode cX6_init 59 = .ok (.sipush 1000, 3) := by decide +kernel
theorem dX6_init_62 : decode cX6_init 62 = .ok (.newarray .long, 2) := by decide +kernel
theorem dX6_init_64 : decode cX6_init 64 = .ok (.putfield 31, 3) := by decide +kernel
theorem dX6_init_67 : decode cX6_init 67 = .ok (.aload_n 0, 1) := by decide +kernel
theorem dX6_init_68 : decode cX6_init 68 = .ok (.getfield 17, 3) := by decide +kernel
theorem dX6_init_71 : decode cX6_init 71 = .ok (.invokestatic 35, 3) := by decide +kernel
theorem dX6_init_74 : decode cX6_init 74 = .ok (.return_, 1) := by decide +kernel
theorem dX6_thrown_0 : decode cX6_thrown 0 = .ok (.aload_n 0, 1) := by decide +kernel
theorem dX6_thrown_1 : decode cX6_thrown 1 = .ok (.getfield 39, 3) := by decide +kernel
theorem dX6_thrown_4 : decode cX6_thrown 4 = .ok (.ireturn, 1) := by decide +kernel
theorem dX6_fails_0 : decode cX6_fails 0 = .ok (.iload_n 1, 1) := by decide +kernel
theorem dX6_fails_1 : decode cX6_fails 1 = .ok (.ifCond .eq 15, 3) := by decide +kernel
theorem dX6_fails_4 : decode cX6_fails 4 = .ok (.aload_n 0, 1) := by decide +kernel
theorem dX6_fails_5 : decode cX6_fails 5 = .ok (.getfield 39, 3) := by decide +kernel
theorem dX6_fails_8 : decode cX6_fails 8 = .ok (.ifCond .ne 8, 3) := by decide +kernel
theorem dX6_fails_11 : decode cX6_fails 11 = .ok (.aload_n 0, 1) := by decide +kernel
theorem dX6_fails_12 : decode cX6_fails 12 = .ok (.iload_n 2, 1) := by decide +kernel
theorem dX6_fails_13 : decode cX6_fails 13 = .ok (.putfield 39, 3) := by decide +kernel
theorem dX6_fails_16 : decode cX6_fails 16 = .ok (.aload_n 0, 1) := by decide +kernel
theorem dX6_fails_17 : decode cX6_fails 17 = .ok (.getfield 39, 3) := by decide +kernel
theorem dX6_fails_20 : decode cX6_fails 20 = .ok (.ifCond .eq 7, 3) := by decide +kernel
theorem dX6_fails_23 : decode cX6_fails 23 = .ok (.iconst 1, 1) := by decide +kernel
theorem dX6_fails_24 : decode cX6_fails 24 = .ok (.goto 4, 3) := by decide +kernel
theorem dX6_fails_27 : decode cX6_fails 27 = .ok (.iconst 0, 1) := by decide +kernel
theorem dX6_fails_28 : decode cX6_fails 28 = .ok (.ireturn, 1) := by decide +kernel
theorem dX6_in_0 : decode cX6_in 0 = .ok (.iload_n 0, 1) := by decide +kernel
theorem dX6_in_1 : decode cX6_in 1 = .ok (.iload_n 1, 1) := by decide +kernel
theorem dX6_in_2 : decode cX6_in 2 = .ok (.if_icmp .lt 12, 3) := by decide +kernel
theorem dX6_in_5 : decode cX6_in 5 = .ok (.iload_n 0, 1) := by decide +kernel
theorem dX6_in_6 : decode cX6_in 6 = .ok (.iload_n 2, 1) := by decide +kernel
theorem dX6_in_7 : decode cX6_in 7 = .ok (.if_icmp .gt 7, 3) := by decide +kernel
theorem dX6_in_10 : decode cX6_in 10 = .ok (.iconst 1, 1) := by decide +kernel
theorem dX6_in_11 : decode cX6_in 11 = .ok (.goto 4, 3) := by decide +kernel
theorem dX6_in_14 : decode cX6_in 14 = .ok (.iconst 0, 1) := by decide +kernel
theorem dX6_in_15 : decode cX6_in 15 = .ok (.ireturn, 1) := by decide +kernel
theorem dX6_min_0 : decode cX6_min 0 = .ok (.iload_n 0, 1) := by decide +kernel
theorem dX6_min_1 : decode cX6_min 1 = .ok (.iload_n 1, 1) := by decide +kernel
theorem dX6_min_2 : decode cX6_min 2 = .ok (.if_icmp .ge 7, 3) := by decide +kernel
theorem dX6_min_5 : decode cX6_min 5 = .ok (.iload_n 0, 1) := by decide +kernel
theorem dX6_min_6 : decode cX6_min 6 = .ok (.goto 4, 3) := by decide +kernel
theorem dX6_min_9 : decode cX6_min 9 = .ok (.iload_n 1, 1) := by decide +kernel
theorem dX6_min_10 : decode cX6_min 10 = .ok (.ireturn, 1) := by decide +kernel
theorem dX6_copy_0 : decode cX6_copy 0 = .ok (.iconst 0, 1) := by decide +kernel
theorem dX6_copy_1 : decode cX6_copy 1 = .ok (.istore_n 2, 1) := by decide +kernel
theorem dX6_copy_2 : decode cX6_copy 2 = .ok (.iload_n 2, 1) := by decide +kernel
theorem dX6_copy_3 : decode cX6_copy 3 = .ok (.sipush 1666, 3) := by decide +kernel
theorem dX6_copy_6 : decode cX6_copy 6 = .ok (.if_icmp .ge 15, 3) := by decide +kernel
theorem dX6_copy_9 : decode cX6_copy 9 = .ok (.aload_n 1, 1) := by decide +kernel
theorem dX6_copy_10 : decode cX6_copy 10 = .ok (.iload_n 2, 1) := by decide +kernel
theorem dX6_copy_11 : decode cX6_copy 11 = .ok (.aload_n 0, 1) := by decide +kernel
theorem dX6_copy_12 : decode cX6_copy 12 = .ok (.iload_n 2, 1) := by decide +kernel
theorem dX6_copy_13 : decode cX6_copy 13 = .ok (.iaload, 1) := by decide +kernel
theorem dX6_copy_14 : decode cX6_copy 14 = .ok (.iastore, 1) := by decide +kernel
theorem dX6_copy_15 : decode cX6_copy 15 = .ok (.iinc 2 1, 3) := by decide +kernel
theorem dX6_copy_18 : decode cX6_copy 18 = .ok (.goto (-16), 3) := by decide +kernel
theorem dX6_copy_21 : decode cX6_copy 21 = .ok (.return_, 1) := by decide +kernel
theorem dX6_layUsual_0 : decode cX6_layUsual 0 = .ok (.iconst 0, 1) := by decide +kernel
theorem dX6_layUsual_1 : decode cX6_layUsual 1 = .ok (.istore_n 1, 1) := by decide +kernel
theorem dX6_layUsual_2 : decode cX6_layUsual 2 = .ok (.iload_n 1, 1) := by decide +kernel
theorem dX6_layUsual_3 : decode cX6_layUsual 3 = .ok (.sipush 1666, 3) := by decide +kernel
theorem dX6_layUsual_6 : decode cX6_layUsual 6 = .ok (.if_icmp .ge 13, 3) := by decide +kernel
theorem dX6_layUsual_9 : decode cX6_layUsual 9 = .ok (.aload_n 0, 1) := by decide +kernel
theorem dX6_layUsual_10 : decode cX6_layUsual 10 = .ok (.iload_n 1, 1) := by decide +kernel
theorem dX6_layUsual_11 : decode cX6_layUsual 11 = .ok (.iconst 0, 1) := by decide +kernel
theorem dX6_layUsual_12 : decode cX6_layUsual 12 = .ok (.iastore, 1) := by decide +kernel
theorem dX6_layUsual_13 : decode cX6_layUsual 13 = .ok (.iinc 1 1, 3) := by decide +kernel
theorem dX6_layUsual_16 : decode cX6_layUsual 16 = .ok (.goto (-14), 3) := by decide +kernel
theorem dX6_layUsual_19 : decode cX6_layUsual 19 = .ok (.aload_n 0, 1) := by decide +kernel
theorem dX6_layUsual_20 : decode cX6_layUsual 20 = .ok (.iconst 1, 1) := by decide +kernel
theorem dX6_layUsual_21 : decode cX6_layUsual 21 = .ok (.iconst 3, 1) := by decide +kernel
theorem dX6_layUsual_22 : decode cX6_layUsual 22 = .ok (.iastore, 1) := by decide +kernel
theorem dX6_layUsual_23 : decode cX6_layUsual 23 = .ok (.aload_n 0, 1) := by decide +kernel
theorem dX6_layUsual_24 : decode cX6_layUsual 24 = .ok (.iconst 2, 1) := by decide +kernel
theorem dX6_layUsual_25 : decode cX6_layUsual 25 = .ok (.iconst 5, 1) := by decide +kernel
theorem dX6_layUsual_26 : decode cX6_layUsual 26 = .ok (.iastore, 1) := by decide +kernel
theorem dX6_layUsual_27 : decode cX6_layUsual 27 = .ok (.aload_n 0, 1) := by decide +kernel
theorem dX6_layUsual_28 : decode cX6_layUsual 28 = .ok (.iconst 3, 1) := by decide +kernel
theorem dX6_layUsual_29 : decode cX6_layUsual 29 = .ok (.bipush 20, 2) := by decide +kernel
theorem dX6_layUsual_31 : decode cX6_layUsual 31 = .ok (.iastore, 1) := by decide +kernel
theorem dX6_layUsual_32 : decode cX6_layUsual 32 = .ok (.return_, 1) := by decide +kernel
theorem dX6_append_0 : decode cX6_append 0 = .ok (.aload_n 0, 1) := by decide +kernel
theorem dX6_append_1 : decode cX6_append 1 = .ok (.iconst 0, 1) := by decide +kernel
theorem dX6_append_2 : decode cX6_append 2 = .ok (.putfield 39, 3) := by decide +kernel
theorem dX6_append_5 : decode cX6_append 5 = .ok (.aload_n 0, 1) := by decide +kernel
theorem dX6_append_6 : decode cX6_append 6 = .ok (.getfield 42, 3) := by decide +kernel
theorem dX6_append_9 : decode cX6_append 9 = .ok (.bipush 20, 2) := by decide +kernel
theorem dX6_append_11 : decode cX6_append 11 = .ok (.iadd, 1) := by decide +kernel
theorem dX6_append_12 : decode cX6_append 12 = .ok (.sipush 600, 3) := by decide +kernel
theorem dX6_append_15 : decode cX6_append 15 = .ok (.if_icmp .le 5, 3) := by decide +kernel
theorem dX6_append_18 : decode cX6_append 18 = .ok (.iconst (-1), 1) := by decide +kernel
theorem dX6_append_19 : decode cX6_append 19 = .ok (.ireturn, 1) := by decide +kernel
theorem dX6_append_20 : decode cX6_append 20 = .ok (.iconst 0, 1) := by decide +kernel
theorem dX6_append_21 : decode cX6_append 21 = .ok (.istore 6, 2) := by decide +kernel
theorem dX6_append_23 : decode cX6_append 23 = .ok (.iload 6, 2) := by decide +kernel
theorem dX6_append_25 : decode cX6_append 25 = .ok (.bipush 20, 2) := by decide +kernel
theorem dX6_append_27 : decode cX6_append 27 = .ok (.if_icmp .ge 93, 3) := by decide +kernel
theorem dX6_append_30 : decode cX6_append 30 = .ok (.iload 6, 2) := by decide +kernel
theorem dX6_append_32 : decode cX6_append 32 = .ok (.iconst 4, 1) := by decide +kernel
theorem dX6_append_33 : decode cX6_append 33 = .ok (.if_icmp .ge 7, 3) := by decide +kernel
theorem dX6_append_36 : decode cX6_append 36 = .ok (.iload_n 1, 1) := by decide +kernel
theorem dX6_append_37 : decode cX6_append 37 = .ok (.goto 39, 3) := by decide +kernel
theorem dX6_append_40 : decode cX6_append 40 = .ok (.iload 6, 2) := by decide +kernel
theorem dX6_append_42 : decode cX6_append 42 = .ok (.bipush 8, 2) := by decide +kernel
theorem dX6_append_44 : decode cX6_append 44 = .ok (.if_icmp .ge 7, 3) := by decide +kernel
theorem dX6_append_47 : decode cX6_append 47 = .ok (.iload_n 2, 1) := by decide +kernel
theorem dX6_append_48 : decode cX6_append 48 = .ok (.goto 28, 3) := by decide +kernel
theorem dX6_append_51 : decode cX6_append 51 = .ok (.iload 6, 2) := by decide +kernel
theorem dX6_append_53 : decode cX6_append 53 = .ok (.bipush 12, 2) := by decide +kernel
theorem dX6_append_55 : decode cX6_append 55 = .ok (.if_icmp .ge 7, 3) := by decide +kernel
theorem dX6_append_58 : decode cX6_append 58 = .ok (.iload_n 3, 1) := by decide +kernel
theorem dX6_append_59 : decode cX6_append 59 = .ok (.goto 17, 3) := by decide +kernel
theorem dX6_append_62 : decode cX6_append 62 = .ok (.iload 6, 2) := by decide +kernel
theorem dX6_append_64 : decode cX6_append 64 = .ok (.bipush 16, 2) := by decide +kernel
theorem dX6_append_66 : decode cX6_append 66 = .ok (.if_icmp .ge 8, 3) := by decide +kernel
theorem dX6_append_69 : decode cX6_append 69 = .ok (.iload 4, 2) := by decide +kernel
theorem dX6_append_71 : decode cX6_append 71 = .ok (.goto 5, 3) := by decide +kernel
theorem dX6_append_74 : decode cX6_append 74 = .ok (.iload 5, 2) := by decide +kernel
theorem dX6_append_76 : decode cX6_append 76 = .ok (.istore 7, 2) := by decide +kernel
theorem dX6_append_78 : decode cX6_append 78 = .ok (.aload_n 0, 1) := by decide +kernel
theorem dX6_append_79 : decode cX6_append 79 = .ok (.getfield 9, 3) := by decide +kernel
theorem dX6_append_82 : decode cX6_append 82 = .ok (.aload_n 0, 1) := by decide +kernel
theorem dX6_append_83 : decode cX6_append 83 = .ok (.getfield 42, 3) := by decide +kernel
theorem dX6_append_86 : decode cX6_append 86 = .ok (.iload 7, 2) := by decide +kernel
theorem dX6_append_88 : decode cX6_append 88 = .ok (.bipush 24, 2) := by decide +kernel
theorem dX6_append_90 : decode cX6_append 90 = .ok (.bipush 8, 2) := by decide +kernel
theorem dX6_append_92 : decode cX6_append 92 = .ok (.iload 6, 2) := by decide +kernel
theorem dX6_append_94 : decode cX6_append 94 = .ok (.iconst 4, 1) := by decide +kernel
theorem dX6_append_95 : decode cX6_append 95 = .ok (.irem, 1) := by decide +kernel
theorem dX6_append_96 : decode cX6_append 96 = .ok (.imul, 1) := by decide +kernel
theorem dX6_append_97 : decode cX6_append 97 = .ok (.isub, 1) := by decide +kernel
theorem dX6_append_98 : decode cX6_append 98 = .ok (.ishr, 1) := by decide +kernel
theorem dX6_append_99 : decode cX6_append 99 = .ok (.sipush 255, 3) := by decide +kernel
theorem dX6_append_102 : decode cX6_append 102 = .ok (.iand, 1) := by decide +kernel
theorem dX6_append_103 : decode cX6_append 103 = .ok (.iastore, 1) := by decide +kernel
theorem dX6_append_104 : decode cX6_append 104 = .ok (.aload_n 0, 1) := by decide +kernel
theorem dX6_append_105 : decode cX6_append 105 = .ok (.dup, 1) := by decide +kernel
theorem dX6_append_106 : decode cX6_append 106 = .ok (.getfield 42, 3) := by decide +kernel
theorem dX6_append_109 : decode cX6_append 109 = .ok (.iconst 1, 1) := by decide +kernel
theorem dX6_append_110 : decode cX6_append 110 = .ok (.iadd, 1) := by decide +kernel
theorem dX6_append_111 : decode cX6_append 111 = .ok (.putfield 42, 3) := by decide +kernel
theorem dX6_append_114 : decode cX6_append 114 = .ok (.iinc 6 1, 3) := by decide +kernel
theorem dX6_append_117 : decode cX6_append 117 = .ok (.goto (-94), 3) := by decide +kernel
theorem dX6_append_120 : decode cX6_append 120 = .ok (.aload_n 0, 1) := by decide +kernel
theorem dX6_append_121 : decode cX6_append 121 = .ok (.getfield 42, 3) := by decide +kernel
theorem dX6_append_124 : decode cX6_append 124 = .ok (.ireturn, 1) := by decide +kernel
theorem dX6_byteAt_0 : decode cX6_byteAt 0 = .ok (.iload_n 1, 1) := by decide +kernel
theorem dX6_byteAt_1 : decode cX6_byteAt 1 = .ok (.aload_n 0, 1) := by decide +kernel
theorem dX6_byteAt_2 : decode cX6_byteAt 2 = .ok (.getfield 45, 3) := by decide +kernel
theorem dX6_byteAt_5 : decode cX6_byteAt 5 = .ok (.if_icmp .ge 12, 3) := by decide +kernel
theorem dX6_byteAt_8 : decode cX6_byteAt 8 = .ok (.aload_n 0, 1) := by decide +kernel
theorem dX6_byteAt_9 : decode cX6_byteAt 9 = .ok (.getfield 9, 3) := by decide +kernel
theorem dX6_byteAt_12 : decode cX6_byteAt 12 = .ok (.iload_n 1, 1) := by decide +kernel
theorem dX6_byteAt_13 : decode cX6_byteAt 13 = .ok (.iaload, 1) := by decide +kernel
theorem dX6_byteAt_14 : decode cX6_byteAt 14 = .ok (.goto 4, 3) := by decide +kernel
theorem dX6_byteAt_17 : decode cX6_byteAt 17 = .ok (.iconst (-1), 1) := by decide +kernel
theorem dX6_byteAt_18 : decode cX6_byteAt 18 = .ok (.ireturn, 1) := by decide +kernel
theorem dX6_next_0 : decode cX6_next 0 = .ok (.aload_n 0, 1) := by decide +kernel
theorem dX6_next_1 : decode cX6_next 1 = .ok (.aload_n 0, 1) := by decide +kernel
theorem dX6_next_2 : decode cX6_next 2 = .ok (.getfield 48, 3) := by decide +kernel
theorem dX6_next_5 : decode cX6_next 5 = .ok (.invokevirtual 51, 3) := by decide +kernel
theorem dX6_next_8 : decode cX6_next 8 = .ok (.bipush 32, 2) := by decide +kernel
theorem dX6_next_10 : decode cX6_next 10 = .ok (.if_icmp .ne 16, 3) := by decide +kernel
theorem dX6_next_13 : decode cX6_next 13 = .ok (.aload_n 0, 1) := by decide +kernel
theorem dX6_next_14 : decode cX6_next 14 = .ok (.dup, 1) := by decide +kernel
theorem dX6_next_15 : decode cX6_next 15 = .ok (.getfield 48, 3) := by decide +kernel
theorem dX6_next_18 : decode cX6_next 18 = .ok (.iconst 1, 1) := by decide +kernel
theorem dX6_next_19 : decode cX6_next 19 = .ok (.iadd, 1) := by decide +kernel
theorem dX6_next_20 : decode cX6_next 20 = .ok (.putfield 48, 3) := by decide +kernel
theorem dX6_next_23 : decode cX6_next 23 = .ok (.goto (-23), 3) := by decide +kernel
theorem dX6_next_26 : decode cX6_next 26 = .ok (.aload_n 0, 1) := by decide +kernel
theorem dX6_next_27 : decode cX6_next 27 = .ok (.aload_n 0, 1) := by decide +kernel
theorem dX6_next_28 : decode cX6_next 28 = .ok (.getfield 48, 3) := by decide +kernel
theorem dX6_next_31 : decode cX6_next 31 = .ok (.invokevirtual 51, 3) := by decide +kernel
theorem dX6_next_34 : decode cX6_next 34 = .ok (.ireturn, 1) := by decide +kernel
theorem dX6_isGood_0 : decode cX6_isGood 0 = .ok (.aload_n 0, 1) := by decide +kernel
theorem dX6_isGood_1 : decode cX6_isGood 1 = .ok (.getfield 55, 3) := by decide +kernel
theorem dX6_isGood_4 : decode cX6_isGood 4 = .ok (.ifCond .ne 7, 3) := by decide +kernel
theorem dX6_isGood_7 : decode cX6_isGood 7 = .ok (.iconst 1, 1) := by decide +kernel
theorem dX6_isGood_8 : decode cX6_isGood 8 = .ok (.goto 4, 3) := by decide +kernel
theorem dX6_isGood_11 : decode cX6_isGood 11 = .ok (.iconst 0, 1) := by decide +kernel
theorem dX6_isGood_12 : decode cX6_isGood 12 = .ok (.ireturn, 1) := by decide +kernel
theorem dX6_report_0 : decode cX6_report 0 = .ok (.aload_n 0, 1) := by decide +kernel
theorem dX6_report_1 : decode cX6_report 1 = .ok (.getfield 55, 3) := by decide +kernel
theorem dX6_report_4 : decode cX6_report 4 = .ok (.ifCond .eq 4, 3) := by decide +kernel
theorem dX6_report_7 : decode cX6_report 7 = .ok (.return_, 1) := by decide +kernel
theorem dX6_report_8 : decode cX6_report 8 = .ok (.aload_n 0, 1) := by decide +kernel
theorem dX6_report_9 : decode cX6_report 9 = .ok (.iload_n 1, 1) := by decide +kernel
theorem dX6_report_10 : decode cX6_report 10 = .ok (.putfield 55, 3) := by decide +kernel
theorem dX6_report_13 : decode cX6_report 13 = .ok (.aload_n 0, 1) := by decide +kernel
theorem dX6_report_14 : decode cX6_report 14 = .ok (.iload_n 2, 1) := by decide +kernel
theorem dX6_report_15 : decode cX6_report 15 = .ok (.putfield 58, 3) := by decide +kernel
theorem dX6_report_18 : decode cX6_report 18 = .ok (.return_, 1) := by decide +kernel
theorem dX6_isDigit_0 : decode cX6_isDigit 0 = .ok (.iload_n 0, 1) := by decide +kernel
theorem dX6_isDigit_1 : decode cX6_isDigit 1 = .ok (.bipush 48, 2) := by decide +kernel
theorem dX6_isDigit_3 : decode cX6_isDigit 3 = .ok (.bipush 57, 2) := by decide +kernel
theorem dX6_isDigit_5 : decode cX6_isDigit 5 = .ok (.invokestatic 61, 3) := by decide +kernel
theorem dX6_isDigit_8 : decode cX6_isDigit 8 = .ok (.ireturn, 1) := by decide +kernel
theorem dX6_takeWord_0 : decode cX6_takeWord 0 = .ok (.aload_n 0, 1) := by decide +kernel
theorem dX6_takeWord_1 : decode cX6_takeWord 1 = .ok (.invokevirtual 65, 3) := by decide +kernel
theorem dX6_takeWord_4 : decode cX6_takeWord 4 = .ok (.ifCond .ne 5, 3) := by decide +kernel
theorem dX6_takeWord_7 : decode cX6_takeWord 7 = .ok (.iconst 0, 1) := by decide +kernel
theorem dX6_takeWord_8 : decode cX6_takeWord 8 = .ok (.ireturn, 1) := by decide +kernel
theorem dX6_takeWord_9 : decode cX6_takeWord 9 = .ok (.aload_n 0, 1) := by decide +kernel
theorem dX6_takeWord_10 : decode cX6_takeWord 10 = .ok (.invokevirtual 69, 3) := by decide +kernel
theorem dX6_takeWord_13 : decode cX6_takeWord 13 = .ok (.pop, 1) := by decide +kernel
theorem dX6_takeWord_14 : decode cX6_takeWord 14 = .ok (.iconst 0, 1) := by decide +kernel
theorem dX6_takeWord_15 : decode cX6_takeWord 15 = .ok (.istore_n 2, 1) := by decide +kernel
theorem dX6_takeWord_16 : decode cX6_takeWord 16 = .ok (.iload_n 2, 1) := by decide +kernel
theorem dX6_takeWord_17 : decode cX6_takeWord 17 = .ok (.aload_n 1, 1) := by decide +kernel
theorem dX6_takeWord_18 : decode cX6_takeWord 18 = .ok (.invokevirtual 73, 3) := by decide +kernel
theorem dX6_takeWord_21 : decode cX6_takeWord 21 = .ok (.if_icmp .ge 27, 3) := by decide +kernel
theorem dX6_takeWord_24 : decode cX6_takeWord 24 = .ok (.aload_n 0, 1) := by decide +kernel
theorem dX6_takeWord_25 : decode cX6_takeWord 25 = .ok (.aload_n 0, 1) := by decide +kernel
theorem dX6_takeWord_26 : decode cX6_takeWord 26 = .ok (.getfield 48, 3) := by decide +kernel
theorem dX6_takeWord_29 : decode cX6_takeWord 29 = .ok (.iload_n 2, 1) := by decide +kernel
theorem dX6_takeWord_30 : decode cX6_takeWord 30 = .ok (.iadd, 1) := by decide +kernel
theorem dX6_takeWord_31 : decode cX6_takeWord 31 = .ok (.invokevirtual 51, 3) := by decide +kernel
theorem dX6_takeWord_34 : decode cX6_takeWord 34 = .ok (.aload_n 1, 1) := by decide +kernel
theorem dX6_takeWord_35 : decode cX6_takeWord 35 = .ok (.iload_n 2, 1) := by decide +kernel
theorem dX6_takeWord_36 : decode cX6_takeWord 36 = .ok (.invokevirtual 78, 3) := by decide +kernel
theorem dX6_takeWord_39 : decode cX6_takeWord 39 = .ok (.if_icmp .ne 9, 3) := by decide +kernel
theorem dX6_takeWord_42 : decode cX6_takeWord 42 = .ok (.iinc 2 1, 3) := by decide +kernel
theorem dX6_takeWord_45 : decode cX6_takeWord 45 = .ok (.goto (-29), 3) := by decide +kernel
theorem dX6_takeWord_48 : decode cX6_takeWord 48 = .ok (.iload_n 2, 1) := by decide +kernel
theorem dX6_takeWord_49 : decode cX6_takeWord 49 = .ok (.aload_n 1, 1) := by decide +kernel
theorem dX6_takeWord_50 : decode cX6_takeWord 50 = .ok (.invokevirtual 73, 3) := by decide +kernel
theorem dX6_takeWord_53 : decode cX6_takeWord 53 = .ok (.if_icmp .lt 23, 3) := by decide +kernel
theorem dX6_takeWord_56 : decode cX6_takeWord 56 = .ok (.aload_n 0, 1) := by decide +kernel
theorem dX6_takeWord_57 : decode cX6_takeWord 57 = .ok (.aload_n 0, 1) := by decide +kernel
theorem dX6_takeWord_58 : decode cX6_takeWord 58 = .ok (.getfield 48, 3) := by decide +kernel
theorem dX6_takeWord_61 : decode cX6_takeWord 61 = .ok (.iload_n 2, 1) := by decide +kernel
theorem dX6_takeWord_62 : decode cX6_takeWord 62 = .ok (.iadd, 1) := by decide +kernel
theorem dX6_takeWord_63 : decode cX6_takeWord 63 = .ok (.invokevirtual 51, 3) := by decide +kernel
theorem dX6_takeWord_66 : decode cX6_takeWord 66 = .ok (.bipush 97, 2) := by decide +kernel
theorem dX6_takeWord_68 : decode cX6_takeWord 68 = .ok (.bipush 122, 2) := by decide +kernel
theorem dX6_takeWord_70 : decode cX6_takeWord 70 = .ok (.invokestatic 61, 3) := by decide +kernel
theorem dX6_takeWord_73 : decode cX6_takeWord 73 = .ok (.ifCond .eq 5, 3) := by decide +kernel
theorem dX6_takeWord_76 : decode cX6_takeWord 76 = .ok (.iconst 0, 1) := by decide +kernel
theorem dX6_takeWord_77 : decode cX6_takeWord 77 = .ok (.ireturn, 1) := by decide +kernel
theorem dX6_takeWord_78 : decode cX6_takeWord 78 = .ok (.aload_n 0, 1) := by decide +kernel
theorem dX6_takeWord_79 : decode cX6_takeWord 79 = .ok (.dup, 1) := by decide +kernel
theorem dX6_takeWord_80 : decode cX6_takeWord 80 = .ok (.getfield 48, 3) := by decide +kernel
theorem dX6_takeWord_83 : decode cX6_takeWord 83 = .ok (.iload_n 2, 1) := by decide +kernel
theorem dX6_takeWord_84 : decode cX6_takeWord 84 = .ok (.iadd, 1) := by decide +kernel
theorem dX6_takeWord_85 : decode cX6_takeWord 85 = .ok (.putfield 48, 3) := by decide +kernel
theorem dX6_takeWord_88 : decode cX6_takeWord 88 = .ok (.iconst 1, 1) := by decide +kernel
theorem dX6_takeWord_89 : decode cX6_takeWord 89 = .ok (.ireturn, 1) := by decide +kernel
theorem dX6_expect_0 : decode cX6_expect 0 = .ok (.aload_n 0, 1) := by decide +kernel
theorem dX6_expect_1 : decode cX6_expect 1 = .ok (.invokevirtual 65, 3) := by decide +kernel
theorem dX6_expect_4 : decode cX6_expect 4 = .ok (.ifCond .ne 4, 3) := by decide +kernel
theorem dX6_expect_7 : decode cX6_expect 7 = .ok (.return_, 1) := by decide +kernel
theorem dX6_expect_8 : decode cX6_expect 8 = .ok (.aload_n 0, 1) := by decide +kernel
theorem dX6_expect_9 : decode cX6_expect 9 = .ok (.invokevirtual 69, 3) := by decide +kernel
theorem dX6_expect_12 : decode cX6_expect 12 = .ok (.iload_n 1, 1) := by decide +kernel
theorem dX6_expect_13 : decode cX6_expect 13 = .ok (.if_icmp .ne 16, 3) := by decide +kernel
theorem dX6_expect_16 : decode cX6_expect 16 = .ok (.aload_n 0, 1) := by decide +kernel
theorem dX6_expect_17 : decode cX6_expect 17 = .ok (.dup, 1) := by decide +kernel
theorem dX6_expect_18 : decode cX6_expect 18 = .ok (.getfield 48, 3) := by decide +kernel
theorem dX6_expect_21 : decode cX6_expect 21 = .ok (.iconst 1, 1) := by decide +kernel
theorem dX6_expect_22 : decode cX6_expect 22 = .ok (.iadd, 1) := by decide +kernel
theorem dX6_expect_23 : decode cX6_expect 23 = .ok (.putfield 48, 3) := by decide +kernel
theorem dX6_expect_26 : decode cX6_expect 26 = .ok (.goto 13, 3) := by decide +kernel
theorem dX6_expect_29 : decode cX6_expect 29 = .ok (.aload_n 0, 1) := by decide +kernel
theorem dX6_expect_30 : decode cX6_expect 30 = .ok (.bipush (-2), 2) := by decide +kernel
theorem dX6_expect_32 : decode cX6_expect 32 = .ok (.aload_n 0, 1) := by decide +kernel
theorem dX6_expect_33 : decode cX6_expect 33 = .ok (.getfield 48, 3) := by decide +kernel
theorem dX6_expect_36 : decode cX6_expect 36 = .ok (.invokevirtual 82, 3) := by decide +kernel
theorem dX6_expect_39 : decode cX6_expect 39 = .ok (.return_, 1) := by decide +kernel
theorem dX6_number_0 : decode cX6_number 0 = .ok (.aload_n 0, 1) := by decide +kernel
theorem dX6_number_1 : decode cX6_number 1 = .ok (.invokevirtual 65, 3) := by decide +kernel
theorem dX6_number_4 : decode cX6_number 4 = .ok (.ifCond .ne 5, 3) := by decide +kernel
theorem dX6_number_7 : decode cX6_number 7 = .ok (.iconst 0, 1) := by decide +kernel
theorem dX6_number_8 : decode cX6_number 8 = .ok (.ireturn, 1) := by decide +kernel
theorem dX6_number_9 : decode cX6_number 9 = .ok (.aload_n 0, 1) := by decide +kernel
theorem dX6_number_10 : decode cX6_number 10 = .ok (.invokevirtual 69, 3) := by decide +kernel
theorem dX6_number_13 : decode cX6_number 13 = .ok (.invokestatic 86, 3) := by decide +kernel
theorem dX6_number_16 : decode cX6_number 16 = .ok (.ifCond .ne 15, 3) := by decide +kernel
theorem dX6_number_19 : decode cX6_number 19 = .ok (.aload_n 0, 1) := by decide +kernel
theorem dX6_number_20 : decode cX6_number 20 = .ok (.bipush (-2), 2) := by decide +kernel
theorem dX6_number_22 : decode cX6_number 22 = .ok (.aload_n 0, 1) := by decide +kernel
theorem dX6_number_23 : decode cX6_number 23 = .ok (.getfield 48, 3) := by decide +kernel
theorem dX6_number_26 : decode cX6_number 26 = .ok (.invokevirtual 82, 3) := by decide +kernel
theorem dX6_number_29 : decode cX6_number 29 = .ok (.iconst 0, 1) := by decide +kernel
theorem dX6_number_30 : decode cX6_number 30 = .ok (.ireturn, 1) := by decide +kernel
theorem dX6_number_31 : decode cX6_number 31 = .ok (.aload_n 0, 1) := by decide +kernel
theorem dX6_number_32 : decode cX6_number 32 = .ok (.aload_n 0, 1) := by decide +kernel
theorem dX6_number_33 : decode cX6_number 33 = .ok (.getfield 48, 3) := by decide +kernel
theorem dX6_number_36 : decode cX6_number 36 = .ok (.putfield 90, 3) := by decide +kernel
theorem dX6_number_39 : decode cX6_number 39 = .ok (.iconst 0, 1) := by decide +kernel
theorem dX6_number_40 : decode cX6_number 40 = .ok (.istore_n 3, 1) := by decide +kernel
theorem dX6_number_41 : decode cX6_number 41 = .ok (.aload_n 0, 1) := by decide +kernel
theorem dX6_number_42 : decode cX6_number 42 = .ok (.aload_n 0, 1) := by decide +kernel
theorem dX6_number_43 : decode cX6_number 43 = .ok (.getfield 48, 3) := by decide +kernel
theorem dX6_number_46 : decode cX6_number 46 = .ok (.invokevirtual 51, 3) := by decide +kernel
theorem dX6_number_49 : decode cX6_number 49 = .ok (.invokestatic 86, 3) := by decide +kernel
theorem dX6_number_52 : decode cX6_number 52 = .ok (.ifCond .eq 38, 3) := by decide +kernel
theorem dX6_number_55 : decode cX6_number 55 = .ok (.ldc 93, 2) := by decide +kernel
theorem dX6_number_57 : decode cX6_number 57 = .ok (.bipush 10, 2) := by decide +kernel
theorem dX6_number_59 : decode cX6_number 59 = .ok (.iload_n 3, 1) := by decide +kernel
theorem dX6_number_60 : decode cX6_number 60 = .ok (.imul, 1) := by decide +kernel
theorem dX6_number_61 : decode cX6_number 61 = .ok (.aload_n 0, 1) := by decide +kernel
theorem dX6_number_62 : decode cX6_number 62 = .ok (.aload_n 0, 1) := by decide +kernel
theorem dX6_number_63 : decode cX6_number 63 = .ok (.getfield 48, 3) := by decide +kernel
theorem dX6_number_66 : decode cX6_number 66 = .ok (.invokevirtual 51, 3) := by decide +kernel
theorem dX6_number_69 : decode cX6_number 69 = .ok (.iadd, 1) := by decide +kernel
theorem dX6_number_70 : decode cX6_number 70 = .ok (.bipush 48, 2) := by decide +kernel
theorem dX6_number_72 : decode cX6_number 72 = .ok (.isub, 1) := by decide +kernel
theorem dX6_number_73 : decode cX6_number 73 = .ok (.invokestatic 94, 3) := by decide +kernel
theorem dX6_number_76 : decode cX6_number 76 = .ok (.istore_n 3, 1) := by decide +kernel
theorem dX6_number_77 : decode cX6_number 77 = .ok (.aload_n 0, 1) := by decide +kernel
theorem dX6_number_78 : decode cX6_number 78 = .ok (.dup, 1) := by decide +kernel
theorem dX6_number_79 : decode cX6_number 79 = .ok (.getfield 48, 3) := by decide +kernel
theorem dX6_number_82 : decode cX6_number 82 = .ok (.iconst 1, 1) := by decide +kernel
theorem dX6_number_83 : decode cX6_number 83 = .ok (.iadd, 1) := by decide +kernel
theorem dX6_number_84 : decode cX6_number 84 = .ok (.putfield 48, 3) := by decide +kernel
theorem dX6_number_87 : decode cX6_number 87 = .ok (.goto (-46), 3) := by decide +kernel
theorem dX6_number_90 : decode cX6_number 90 = .ok (.iload_n 3, 1) := by decide +kernel
theorem dX6_number_91 : decode cX6_number 91 = .ok (.iload_n 1, 1) := by decide +kernel
theorem dX6_number_92 : decode cX6_number 92 = .ok (.iload_n 2, 1) := by decide +kernel
theorem dX6_number_93 : decode cX6_number 93 = .ok (.invokestatic 61, 3) := by decide +kernel
theorem dX6_number_96 : decode cX6_number 96 = .ok (.ifCond .ne 13, 3) := by decide +kernel
theorem dX6_number_99 : decode cX6_number 99 = .ok (.aload_n 0, 1) := by decide +kernel
theorem dX6_number_100 : decode cX6_number 100 = .ok (.bipush (-3), 2) := by decide +kernel
theorem dX6_number_102 : decode cX6_number 102 = .ok (.aload_n 0, 1) := by decide +kernel
theorem dX6_number_103 : decode cX6_number 103 = .ok (.getfield 90, 3) := by decide +kernel
theorem dX6_number_106 : decode cX6_number 106 = .ok (.invokevirtual 82, 3) := by decide +kernel
theorem dX6_number_109 : decode cX6_number 109 = .ok (.iload_n 3, 1) := by decide +kernel
theorem dX6_number_110 : decode cX6_number 110 = .ok (.ireturn, 1) := by decide +kernel
theorem dX6_emit_0 : decode cX6_emit 0 = .ok (.aload_n 0, 1) := by decide +kernel
theorem dX6_emit_1 : decode cX6_emit 1 = .ok (.invokevirtual 65, 3) := by decide +kernel
theorem dX6_emit_4 : decode cX6_emit 4 = .ok (.ifCond .ne 4, 3) := by decide +kernel
theorem dX6_emit_7 : decode cX6_emit 7 = .ok (.return_, 1) := by decide +kernel
theorem dX6_emit_8 : decode cX6_emit 8 = .ok (.aload_n 0, 1) := by decide +kernel
theorem dX6_emit_9 : decode cX6_emit 9 = .ok (.getfield 20, 3) := by decide +kernel
theorem dX6_emit_12 : decode cX6_emit 12 = .ok (.sipush 666, 3) := by decide +kernel
theorem dX6_emit_15 : decode cX6_emit 15 = .ok (.aload_n 0, 1) := by decide +kernel
theorem dX6_emit_16 : decode cX6_emit 16 = .ok (.getfield 20, 3) := by decide +kernel
theorem dX6_emit_19 : decode cX6_emit 19 = .ok (.bipush 8, 2) := by decide +kernel
theorem dX6_emit_21 : decode cX6_emit 21 = .ok (.iaload, 1) := by decide +kernel
theorem dX6_emit_22 : decode cX6_emit 22 = .ok (.iadd, 1) := by decide +kernel
theorem dX6_emit_23 : decode cX6_emit 23 = .ok (.iload_n 1, 1) := by decide +kernel
theorem dX6_emit_24 : decode cX6_emit 24 = .ok (.iastore, 1) := by decide +kernel
theorem dX6_emit_25 : decode cX6_emit 25 = .ok (.aload_n 0, 1) := by decide +kernel
theorem dX6_emit_26 : decode cX6_emit 26 = .ok (.getfield 20, 3) := by decide +kernel
theorem dX6_emit_29 : decode cX6_emit 29 = .ok (.bipush 8, 2) := by decide +kernel
theorem dX6_emit_31 : decode cX6_emit 31 = .ok (.dup2, 1) := by decide +kernel
theorem dX6_emit_32 : decode cX6_emit 32 = .ok (.iaload, 1) := by decide +kernel
theorem dX6_emit_33 : decode cX6_emit 33 = .ok (.iconst 1, 1) := by decide +kernel
theorem dX6_emit_34 : decode cX6_emit 34 = .ok (.iadd, 1) := by decide +kernel
theorem dX6_emit_35 : decode cX6_emit 35 = .ok (.iastore, 1) := by decide +kernel
theorem dX6_emit_36 : decode cX6_emit 36 = .ok (.return_, 1) := by decide +kernel
theorem dX6_factor_0 : decode cX6_factor 0 = .ok (.aload_n 0, 1) := by decide +kernel
theorem dX6_factor_1 : decode cX6_factor 1 = .ok (.invokevirtual 65, 3) := by decide +kernel
theorem dX6_factor_4 : decode cX6_factor 4 = .ok (.ifCond .ne 4, 3) := by decide +kernel
theorem dX6_factor_7 : decode cX6_factor 7 = .ok (.return_, 1) := by decide +kernel
theorem dX6_factor_8 : decode cX6_factor 8 = .ok (.aload_n 0, 1) := by decide +kernel
theorem dX6_factor_9 : decode cX6_factor 9 = .ok (.invokevirtual 69, 3) := by decide +kernel
theorem dX6_factor_12 : decode cX6_factor 12 = .ok (.istore_n 1, 1) := by decide +kernel
theorem dX6_factor_13 : decode cX6_factor 13 = .ok (.iload_n 1, 1) := by decide +kernel
theorem dX6_factor_14 : decode cX6_factor 14 = .ok (.bipush 40, 2) := by decide +kernel
theorem dX6_factor_16 : decode cX6_factor 16 = .ok (.if_icmp .ne 62, 3) := by decide +kernel
theorem dX6_factor_19 : decode cX6_factor 19 = .ok (.aload_n 0, 1) := by decide +kernel
theorem dX6_factor_20 : decode cX6_factor 20 = .ok (.getfield 98, 3) := by decide +kernel
theorem dX6_factor_23 : decode cX6_factor 23 = .ok (.iconst 4, 1) := by decide +kernel
theorem dX6_factor_24 : decode cX6_factor 24 = .ok (.if_icmp .ne 13, 3) := by decide +kernel
theorem dX6_factor_27 : decode cX6_factor 27 = .ok (.aload_n 0, 1) := by decide +kernel
theorem dX6_factor_28 : decode cX6_factor 28 = .ok (.bipush (-5), 2) := by decide +kernel
theorem dX6_factor_30 : decode cX6_factor 30 = .ok (.aload_n 0, 1) := by decide +kernel
theorem dX6_factor_31 : decode cX6_factor 31 = .ok (.getfield 48, 3) := by decide +kernel
theorem dX6_factor_34 : decode cX6_factor 34 = .ok (.invokevirtual 82, 3) := by decide +kernel
theorem dX6_factor_37 : decode cX6_factor 37 = .ok (.aload_n 0, 1) := by decide +kernel
theorem dX6_factor_38 : decode cX6_factor 38 = .ok (.dup, 1) := by decide +kernel
theorem dX6_factor_39 : decode cX6_factor 39 = .ok (.getfield 48, 3) := by decide +kernel
theorem dX6_factor_42 : decode cX6_factor 42 = .ok (.iconst 1, 1) := by decide +kernel
theorem dX6_factor_43 : decode cX6_factor 43 = .ok (.iadd, 1) := by decide +kernel
theorem dX6_factor_44 : decode cX6_factor 44 = .ok (.putfield 48, 3) := by decide +kernel
theorem dX6_factor_47 : decode cX6_factor 47 = .ok (.aload_n 0, 1) := by decide +kernel
theorem dX6_factor_48 : decode cX6_factor 48 = .ok (.dup, 1) := by decide +kernel
theorem dX6_factor_49 : decode cX6_factor 49 = .ok (.getfield 98, 3) := by decide +kernel
theorem dX6_factor_52 : decode cX6_factor 52 = .ok (.iconst 1, 1) := by decide +kernel
theorem dX6_factor_53 : decode cX6_factor 53 = .ok (.iadd, 1) := by decide +kernel
theorem dX6_factor_54 : decode cX6_factor 54 = .ok (.putfield 98, 3) := by decide +kernel
theorem dX6_factor_57 : decode cX6_factor 57 = .ok (.aload_n 0, 1) := by decide +kernel
theorem dX6_factor_58 : decode cX6_factor 58 = .ok (.invokevirtual 101, 3) := by decide +kernel
theorem dX6_factor_61 : decode cX6_factor 61 = .ok (.aload_n 0, 1) := by decide +kernel
theorem dX6_factor_62 : decode cX6_factor 62 = .ok (.bipush 41, 2) := by decide +kernel
theorem dX6_factor_64 : decode cX6_factor 64 = .ok (.invokevirtual 104, 3) := by decide +kernel
theorem dX6_factor_67 : decode cX6_factor 67 = .ok (.aload_n 0, 1) := by decide +kernel
theorem dX6_factor_68 : decode cX6_factor 68 = .ok (.dup, 1) := by decide +kernel
theorem dX6_factor_69 : decode cX6_factor 69 = .ok (.getfield 98, 3) := by decide +kernel
theorem dX6_factor_72 : decode cX6_factor 72 = .ok (.iconst 1, 1) := by decide +kernel
theorem dX6_factor_73 : decode cX6_factor 73 = .ok (.isub, 1) := by decide +kernel
theorem dX6_factor_74 : decode cX6_factor 74 = .ok (.putfield 98, 3) := by decide +kernel
theorem dX6_factor_77 : decode cX6_factor 77 = .ok (.return_, 1) := by decide +kernel
theorem dX6_factor_78 : decode cX6_factor 78 = .ok (.iload_n 1, 1) := by decide +kernel
theorem dX6_factor_79 : decode cX6_factor 79 = .ok (.invokestatic 86, 3) := by decide +kernel
theorem dX6_factor_82 : decode cX6_factor 82 = .ok (.ifCond .eq 7, 3) := by decide +kernel
theorem dX6_factor_85 : decode cX6_factor 85 = .ok (.iconst (-1), 1) := by decide +kernel
theorem dX6_factor_86 : decode cX6_factor 86 = .ok (.goto 56, 3) := by decide +kernel
theorem dX6_factor_89 : decode cX6_factor 89 = .ok (.aload_n 0, 1) := by decide +kernel
theorem dX6_factor_90 : decode cX6_factor 90 = .ok (.ldc 108, 2) := by decide +kernel
theorem dX6_factor_92 : decode cX6_factor 92 = .ok (.invokevirtual 110, 3) := by decide +kernel
theorem dX6_factor_95 : decode cX6_factor 95 = .ok (.ifCond .eq 7, 3) := by decide +kernel
theorem dX6_factor_98 : decode cX6_factor 98 = .ok (.iconst 0, 1) := by decide +kernel
theorem dX6_factor_99 : decode cX6_factor 99 = .ok (.goto 43, 3) := by decide +kernel
theorem dX6_factor_102 : decode cX6_factor 102 = .ok (.aload_n 0, 1) := by decide +kernel
theorem dX6_factor_103 : decode cX6_factor 103 = .ok (.ldc 114, 2) := by decide +kernel
theorem dX6_factor_105 : decode cX6_factor 105 = .ok (.invokevirtual 110, 3) := by decide +kernel
theorem dX6_factor_108 : decode cX6_factor 108 = .ok (.ifCond .eq 7, 3) := by decide +kernel
theorem dX6_factor_111 : decode cX6_factor 111 = .ok (.iconst 1, 1) := by decide +kernel
theorem dX6_factor_112 : decode cX6_factor 112 = .ok (.goto 30, 3) := by decide +kernel
theorem dX6_factor_115 : decode cX6_factor 115 = .ok (.aload_n 0, 1) := by decide +kernel
theorem dX6_factor_116 : decode cX6_factor 116 = .ok (.ldc 116, 2) := by decide +kernel
theorem dX6_factor_118 : decode cX6_factor 118 = .ok (.invokevirtual 110, 3) := by decide +kernel
theorem dX6_factor_121 : decode cX6_factor 121 = .ok (.ifCond .eq 7, 3) := by decide +kernel
theorem dX6_factor_124 : decode cX6_factor 124 = .ok (.iconst 2, 1) := by decide +kernel
theorem dX6_factor_125 : decode cX6_factor 125 = .ok (.goto 17, 3) := by decide +kernel
theorem dX6_factor_128 : decode cX6_factor 128 = .ok (.aload_n 0, 1) := by decide +kernel
theorem dX6_factor_129 : decode cX6_factor 129 = .ok (.ldc 118, 2) := by decide +kernel
theorem dX6_factor_131 : decode cX6_factor 131 = .ok (.invokevirtual 110, 3) := by decide +kernel
theorem dX6_factor_134 : decode cX6_factor 134 = .ok (.ifCond .eq 7, 3) := by decide +kernel
theorem dX6_factor_137 : decode cX6_factor 137 = .ok (.iconst 3, 1) := by decide +kernel
theorem dX6_factor_138 : decode cX6_factor 138 = .ok (.goto 4, 3) := by decide +kernel
theorem dX6_factor_141 : decode cX6_factor 141 = .ok (.iconst (-1), 1) := by decide +kernel
theorem dX6_factor_142 : decode cX6_factor 142 = .ok (.istore_n 2, 1) := by decide +kernel
theorem dX6_factor_143 : decode cX6_factor 143 = .ok (.iload_n 2, 1) := by decide +kernel
theorem dX6_factor_144 : decode cX6_factor 144 = .ok (.ifCond .ge 14, 3) := by decide +kernel
theorem dX6_factor_147 : decode cX6_factor 147 = .ok (.aload_n 0, 1) := by decide +kernel
theorem dX6_factor_148 : decode cX6_factor 148 = .ok (.iconst 0, 1) := by decide +kernel
theorem dX6_factor_149 : decode cX6_factor 149 = .ok (.sipush 9999, 3) := by decide +kernel
theorem dX6_factor_152 : decode cX6_factor 152 = .ok (.invokevirtual 120, 3) := by decide +kernel
theorem dX6_factor_155 : decode cX6_factor 155 = .ok (.goto 4, 3) := by decide +kernel
theorem dX6_factor_158 : decode cX6_factor 158 = .ok (.iload_n 2, 1) := by decide +kernel
theorem dX6_factor_159 : decode cX6_factor 159 = .ok (.istore_n 3, 1) := by decide +kernel
theorem dX6_factor_160 : decode cX6_factor 160 = .ok (.aload_n 0, 1) := by decide +kernel
theorem dX6_factor_161 : decode cX6_factor 161 = .ok (.iload_n 2, 1) := by decide +kernel
theorem dX6_factor_162 : decode cX6_factor 162 = .ok (.ifCond .ge 7, 3) := by decide +kernel
theorem dX6_factor_165 : decode cX6_factor 165 = .ok (.iconst 0, 1) := by decide +kernel
theorem dX6_factor_166 : decode cX6_factor 166 = .ok (.goto 4, 3) := by decide +kernel
theorem dX6_factor_169 : decode cX6_factor 169 = .ok (.iconst 1, 1) := by decide +kernel
theorem dX6_factor_170 : decode cX6_factor 170 = .ok (.invokevirtual 123, 3) := by decide +kernel
theorem dX6_factor_173 : decode cX6_factor 173 = .ok (.aload_n 0, 1) := by decide +kernel
theorem dX6_factor_174 : decode cX6_factor 174 = .ok (.iload_n 3, 1) := by decide +kernel
theorem dX6_factor_175 : decode cX6_factor 175 = .ok (.invokevirtual 123, 3) := by decide +kernel
theorem dX6_factor_178 : decode cX6_factor 178 = .ok (.return_, 1) := by decide +kernel
theorem dX6_term_0 : decode cX6_term 0 = .ok (.aload_n 0, 1) := by decide +kernel
theorem dX6_term_1 : decode cX6_term 1 = .ok (.invokevirtual 126, 3) := by decide +kernel
theorem dX6_term_4 : decode cX6_term 4 = .ok (.aload_n 0, 1) := by decide +kernel
theorem dX6_term_5 : decode cX6_term 5 = .ok (.invokevirtual 65, 3) := by decide +kernel
theorem dX6_term_8 : decode cX6_term 8 = .ok (.ifCond .eq 66, 3) := by decide +kernel
theorem dX6_term_11 : decode cX6_term 11 = .ok (.aload_n 0, 1) := by decide +kernel
theorem dX6_term_12 : decode cX6_term 12 = .ok (.invokevirtual 69, 3) := by decide +kernel
theorem dX6_term_15 : decode cX6_term 15 = .ok (.bipush 42, 2) := by decide +kernel
theorem dX6_term_17 : decode cX6_term 17 = .ok (.if_icmp .eq 12, 3) := by decide +kernel
theorem dX6_term_20 : decode cX6_term 20 = .ok (.aload_n 0, 1) := by decide +kernel
theorem dX6_term_21 : decode cX6_term 21 = .ok (.invokevirtual 69, 3) := by decide +kernel
theorem dX6_term_24 : decode cX6_term 24 = .ok (.bipush 47, 2) := by decide +kernel
theorem dX6_term_26 : decode cX6_term 26 = .ok (.if_icmp .ne 48, 3) := by decide +kernel
theorem dX6_term_29 : decode cX6_term 29 = .ok (.aload_n 0, 1) := by decide +kernel
theorem dX6_term_30 : decode cX6_term 30 = .ok (.invokevirtual 69, 3) := by decide +kernel
theorem dX6_term_33 : decode cX6_term 33 = .ok (.bipush 42, 2) := by decide +kernel
theorem dX6_term_35 : decode cX6_term 35 = .ok (.if_icmp .ne 7, 3) := by decide +kernel
theorem dX6_term_38 : decode cX6_term 38 = .ok (.iconst 1, 1) := by decide +kernel
theorem dX6_term_39 : decode cX6_term 39 = .ok (.goto 4, 3) := by decide +kernel
theorem dX6_term_42 : decode cX6_term 42 = .ok (.iconst 0, 1) := by decide +kernel
theorem dX6_term_43 : decode cX6_term 43 = .ok (.istore_n 1, 1) := by decide +kernel
theorem dX6_term_44 : decode cX6_term 44 = .ok (.aload_n 0, 1) := by decide +kernel
theorem dX6_term_45 : decode cX6_term 45 = .ok (.dup, 1) := by decide +kernel
theorem dX6_term_46 : decode cX6_term 46 = .ok (.getfield 48, 3) := by decide +kernel
theorem dX6_term_49 : decode cX6_term 49 = .ok (.iconst 1, 1) := by decide +kernel
theorem dX6_term_50 : decode cX6_term 50 = .ok (.iadd, 1) := by decide +kernel
theorem dX6_term_51 : decode cX6_term 51 = .ok (.putfield 48, 3) := by decide +kernel
theorem dX6_term_54 : decode cX6_term 54 = .ok (.aload_n 0, 1) := by decide +kernel
theorem dX6_term_55 : decode cX6_term 55 = .ok (.invokevirtual 126, 3) := by decide +kernel
theorem dX6_term_58 : decode cX6_term 58 = .ok (.aload_n 0, 1) := by decide +kernel
theorem dX6_term_59 : decode cX6_term 59 = .ok (.iload_n 1, 1) := by decide +kernel
theorem dX6_term_60 : decode cX6_term 60 = .ok (.ifCond .eq 7, 3) := by decide +kernel
theorem dX6_term_63 : decode cX6_term 63 = .ok (.iconst 4, 1) := by decide +kernel
theorem dX6_term_64 : decode cX6_term 64 = .ok (.goto 4, 3) := by decide +kernel
theorem dX6_term_67 : decode cX6_term 67 = .ok (.iconst 5, 1) := by decide +kernel
theorem dX6_term_68 : decode cX6_term 68 = .ok (.invokevirtual 123, 3) := by decide +kernel
theorem dX6_term_71 : decode cX6_term 71 = .ok (.goto (-67), 3) := by decide +kernel
theorem dX6_term_74 : decode cX6_term 74 = .ok (.return_, 1) := by decide +kernel
theorem dX6_sum_0 : decode cX6_sum 0 = .ok (.aload_n 0, 1) := by decide +kernel
theorem dX6_sum_1 : decode cX6_sum 1 = .ok (.invokevirtual 129, 3) := by decide +kernel
theorem dX6_sum_4 : decode cX6_sum 4 = .ok (.aload_n 0, 1) := by decide +kernel
theorem dX6_sum_5 : decode cX6_sum 5 = .ok (.invokevirtual 65, 3) := by decide +kernel
theorem dX6_sum_8 : decode cX6_sum 8 = .ok (.ifCond .eq 66, 3) := by decide +kernel
theorem dX6_sum_11 : decode cX6_sum 11 = .ok (.aload_n 0, 1) := by decide +kernel
theorem dX6_sum_12 : decode cX6_sum 12 = .ok (.invokevirtual 69, 3) := by decide +kernel
theorem dX6_sum_15 : decode cX6_sum 15 = .ok (.bipush 43, 2) := by decide +kernel
theorem dX6_sum_17 : decode cX6_sum 17 = .ok (.if_icmp .eq 12, 3) := by decide +kernel
theorem dX6_sum_20 : decode cX6_sum 20 = .ok (.aload_n 0, 1) := by decide +kernel
theorem dX6_sum_21 : decode cX6_sum 21 = .ok (.invokevirtual 69, 3) := by decide +kernel
theorem dX6_sum_24 : decode cX6_sum 24 = .ok (.bipush 45, 2) := by decide +kernel
theorem dX6_sum_26 : decode cX6_sum 26 = .ok (.if_icmp .ne 48, 3) := by decide +kernel
theorem dX6_sum_29 : decode cX6_sum 29 = .ok (.aload_n 0, 1) := by decide +kernel
theorem dX6_sum_30 : decode cX6_sum 30 = .ok (.invokevirtual 69, 3) := by decide +kernel
theorem dX6_sum_33 : decode cX6_sum 33 = .ok (.bipush 43, 2) := by decide +kernel
theorem dX6_sum_35 : decode cX6_sum 35 = .ok (.if_icmp .ne 7, 3) := by decide +kernel
theorem dX6_sum_38 : decode cX6_sum 38 = .ok (.iconst 1, 1) := by decide +kernel
theorem dX6_sum_39 : decode cX6_sum 39 = .ok (.goto 4, 3) := by decide +kernel
theorem dX6_sum_42 : decode cX6_sum 42 = .ok (.iconst 0, 1) := by decide +kernel
theorem dX6_sum_43 : decode cX6_sum 43 = .ok (.istore_n 1, 1) := by decide +kernel
theorem dX6_sum_44 : decode cX6_sum 44 = .ok (.aload_n 0, 1) := by decide +kernel
theorem dX6_sum_45 : decode cX6_sum 45 = .ok (.dup, 1) := by decide +kernel
theorem dX6_sum_46 : decode cX6_sum 46 = .ok (.getfield 48, 3) := by decide +kernel
theorem dX6_sum_49 : decode cX6_sum 49 = .ok (.iconst 1, 1) := by decide +kernel
theorem dX6_sum_50 : decode cX6_sum 50 = .ok (.iadd, 1) := by decide +kernel
theorem dX6_sum_51 : decode cX6_sum 51 = .ok (.putfield 48, 3) := by decide +kernel
theorem dX6_sum_54 : decode cX6_sum 54 = .ok (.aload_n 0, 1) := by decide +kernel
theorem dX6_sum_55 : decode cX6_sum 55 = .ok (.invokevirtual 129, 3) := by decide +kernel
theorem dX6_sum_58 : decode cX6_sum 58 = .ok (.aload_n 0, 1) := by decide +kernel
theorem dX6_sum_59 : decode cX6_sum 59 = .ok (.iload_n 1, 1) := by decide +kernel
theorem dX6_sum_60 : decode cX6_sum 60 = .ok (.ifCond .eq 7, 3) := by decide +kernel
theorem dX6_sum_63 : decode cX6_sum 63 = .ok (.iconst 2, 1) := by decide +kernel
theorem dX6_sum_64 : decode cX6_sum 64 = .ok (.goto 4, 3) := by decide +kernel
theorem dX6_sum_67 : decode cX6_sum 67 = .ok (.iconst 3, 1) := by decide +kernel
theorem dX6_sum_68 : decode cX6_sum 68 = .ok (.invokevirtual 123, 3) := by decide +kernel
theorem dX6_sum_71 : decode cX6_sum 71 = .ok (.goto (-67), 3) := by decide +kernel
theorem dX6_sum_74 : decode cX6_sum 74 = .ok (.return_, 1) := by decide +kernel
theorem dX6_once_0 : decode cX6_once 0 = .ok (.aload_n 0, 1) := by decide +kernel
theorem dX6_once_1 : decode cX6_once 1 = .ok (.getfield 132, 3) := by decide +kernel
theorem dX6_once_4 : decode cX6_once 4 = .ok (.iload_n 1, 1) := by decide +kernel
theorem dX6_once_5 : decode cX6_once 5 = .ok (.ishr, 1) := by decide +kernel
theorem dX6_once_6 : decode cX6_once 6 = .ok (.iconst 1, 1) := by decide +kernel
theorem dX6_once_7 : decode cX6_once 7 = .ok (.iand, 1) := by decide +kernel
theorem dX6_once_8 : decode cX6_once 8 = .ok (.iconst 1, 1) := by decide +kernel
theorem dX6_once_9 : decode cX6_once 9 = .ok (.if_icmp .ne 10, 3) := by decide +kernel
theorem dX6_once_12 : decode cX6_once 12 = .ok (.aload_n 0, 1) := by decide +kernel
theorem dX6_once_13 : decode cX6_once 13 = .ok (.bipush (-2), 2) := by decide +kernel
theorem dX6_once_15 : decode cX6_once 15 = .ok (.iload_n 2, 1) := by decide +kernel
theorem dX6_once_16 : decode cX6_once 16 = .ok (.invokevirtual 82, 3) := by decide +kernel
theorem dX6_once_19 : decode cX6_once 19 = .ok (.aload_n 0, 1) := by decide +kernel
theorem dX6_once_20 : decode cX6_once 20 = .ok (.dup, 1) := by decide +kernel
theorem dX6_once_21 : decode cX6_once 21 = .ok (.getfield 132, 3) := by decide +kernel
theorem dX6_once_24 : decode cX6_once 24 = .ok (.iconst 1, 1) := by decide +kernel
theorem dX6_once_25 : decode cX6_once 25 = .ok (.iload_n 1, 1) := by decide +kernel
theorem dX6_once_26 : decode cX6_once 26 = .ok (.ishl, 1) := by decide +kernel
theorem dX6_once_27 : decode cX6_once 27 = .ok (.ior, 1) := by decide +kernel
theorem dX6_once_28 : decode cX6_once 28 = .ok (.putfield 132, 3) := by decide +kernel
theorem dX6_once_31 : decode cX6_once 31 = .ok (.return_, 1) := by decide +kernel
theorem dX6_readParty_0 : decode cX6_readParty 0 = .ok (.aload_n 0, 1) := by decide +kernel
theorem dX6_readParty_1 : decode cX6_readParty 1 = .ok (.getfield 20, 3) := by decide +kernel
theorem dX6_readParty_4 : decode cX6_readParty 4 = .ok (.iconst 4, 1) := by decide +kernel
theorem dX6_readParty_5 : decode cX6_readParty 5 = .ok (.iaload, 1) := by decide +kernel
theorem dX6_readParty_6 : decode cX6_readParty 6 = .ok (.bipush 10, 2) := by decide +kernel
theorem dX6_readParty_8 : decode cX6_readParty 8 = .ok (.if_icmp .ne 10, 3) := by decide +kernel
theorem dX6_readParty_11 : decode cX6_readParty 11 = .ok (.aload_n 0, 1) := by decide +kernel
theorem dX6_readParty_12 : decode cX6_readParty 12 = .ok (.bipush (-4), 2) := by decide +kernel
theorem dX6_readParty_14 : decode cX6_readParty 14 = .ok (.iload_n 1, 1) := by decide +kernel
theorem dX6_readParty_15 : decode cX6_readParty 15 = .ok (.invokevirtual 82, 3) := by decide +kernel
theorem dX6_readParty_18 : decode cX6_readParty 18 = .ok (.aload_n 0, 1) := by decide +kernel
theorem dX6_readParty_19 : decode cX6_readParty 19 = .ok (.iconst 0, 1) := by decide +kernel
theorem dX6_readParty_20 : decode cX6_readParty 20 = .ok (.bipush 99, 2) := by decide +kernel
theorem dX6_readParty_22 : decode cX6_readParty 22 = .ok (.invokevirtual 120, 3) := by decide +kernel
theorem dX6_readParty_25 : decode cX6_readParty 25 = .ok (.istore_n 2, 1) := by decide +kernel
theorem dX6_readParty_26 : decode cX6_readParty 26 = .ok (.aload_n 0, 1) := by decide +kernel
theorem dX6_readParty_27 : decode cX6_readParty 27 = .ok (.iconst 0, 1) := by decide +kernel
theorem dX6_readParty_28 : decode cX6_readParty 28 = .ok (.bipush 99, 2) := by decide +kernel
theorem dX6_readParty_30 : decode cX6_readParty 30 = .ok (.invokevirtual 120, 3) := by decide +kernel
theorem dX6_readParty_33 : decode cX6_readParty 33 = .ok (.istore_n 3, 1) := by decide +kernel
theorem dX6_readParty_34 : decode cX6_readParty 34 = .ok (.aload_n 0, 1) := by decide +kernel
theorem dX6_readParty_35 : decode cX6_readParty 35 = .ok (.iconst 0, 1) := by decide +kernel
theorem dX6_readParty_36 : decode cX6_readParty 36 = .ok (.sipush 999, 3) := by decide +kernel
theorem dX6_readParty_39 : decode cX6_readParty 39 = .ok (.invokevirtual 120, 3) := by decide +kernel
theorem dX6_readParty_42 : decode cX6_readParty 42 = .ok (.istore 4, 2) := by decide +kernel
theorem dX6_readParty_44 : decode cX6_readParty 44 = .ok (.aload_n 0, 1) := by decide +kernel
theorem dX6_readParty_45 : decode cX6_readParty 45 = .ok (.invokevirtual 65, 3) := by decide +kernel
theorem dX6_readParty_48 : decode cX6_readParty 48 = .ok (.ifCond .ne 4, 3) := by decide +kernel
theorem dX6_readParty_51 : decode cX6_readParty 51 = .ok (.return_, 1) := by decide +kernel
theorem dX6_readParty_52 : decode cX6_readParty 52 = .ok (.bipush 16, 2) := by decide +kernel
theorem dX6_readParty_54 : decode cX6_readParty 54 = .ok (.iconst 3, 1) := by decide +kernel
theorem dX6_readParty_55 : decode cX6_readParty 55 = .ok (.aload_n 0, 1) := by decide +kernel
theorem dX6_readParty_56 : decode cX6_readParty 56 = .ok (.getfield 20, 3) := by decide +kernel
theorem dX6_readParty_59 : decode cX6_readParty 59 = .ok (.iconst 4, 1) := by decide +kernel
theorem dX6_readParty_60 : decode cX6_readParty 60 = .ok (.iaload, 1) := by decide +kernel
theorem dX6_readParty_61 : decode cX6_readParty 61 = .ok (.imul, 1) := by decide +kernel
theorem dX6_readParty_62 : decode cX6_readParty 62 = .ok (.iadd, 1) := by decide +kernel
theorem dX6_readParty_63 : decode cX6_readParty 63 = .ok (.istore 5, 2) := by decide +kernel
theorem dX6_readParty_65 : decode cX6_readParty 65 = .ok (.aload_n 0, 1) := by decide +kernel
theorem dX6_readParty_66 : decode cX6_readParty 66 = .ok (.getfield 20, 3) := by decide +kernel
theorem dX6_readParty_69 : decode cX6_readParty 69 = .ok (.iload 5, 2) := by decide +kernel
theorem dX6_readParty_71 : decode cX6_readParty 71 = .ok (.iconst 0, 1) := by decide +kernel
theorem dX6_readParty_72 : decode cX6_readParty 72 = .ok (.iadd, 1) := by decide +kernel
theorem dX6_readParty_73 : decode cX6_readParty 73 = .ok (.iload_n 2, 1) := by decide +kernel
theorem dX6_readParty_74 : decode cX6_readParty 74 = .ok (.iastore, 1) := by decide +kernel
theorem dX6_readParty_75 : decode cX6_readParty 75 = .ok (.aload_n 0, 1) := by decide +kernel
theorem dX6_readParty_76 : decode cX6_readParty 76 = .ok (.getfield 20, 3) := by decide +kernel
theorem dX6_readParty_79 : decode cX6_readParty 79 = .ok (.iload 5, 2) := by decide +kernel
theorem dX6_readParty_81 : decode cX6_readParty 81 = .ok (.iconst 1, 1) := by decide +kernel
theorem dX6_readParty_82 : decode cX6_readParty 82 = .ok (.iadd, 1) := by decide +kernel
theorem dX6_readParty_83 : decode cX6_readParty 83 = .ok (.iload_n 3, 1) := by decide +kernel
theorem dX6_readParty_84 : decode cX6_readParty 84 = .ok (.iastore, 1) := by decide +kernel
theorem dX6_readParty_85 : decode cX6_readParty 85 = .ok (.aload_n 0, 1) := by decide +kernel
theorem dX6_readParty_86 : decode cX6_readParty 86 = .ok (.getfield 20, 3) := by decide +kernel
theorem dX6_readParty_89 : decode cX6_readParty 89 = .ok (.iload 5, 2) := by decide +kernel
theorem dX6_readParty_91 : decode cX6_readParty 91 = .ok (.iconst 2, 1) := by decide +kernel
theorem dX6_readParty_92 : decode cX6_readParty 92 = .ok (.iadd, 1) := by decide +kernel
theorem dX6_readParty_93 : decode cX6_readParty 93 = .ok (.iload 4, 2) := by decide +kernel
theorem dX6_readParty_95 : decode cX6_readParty 95 = .ok (.iastore, 1) := by decide +kernel
theorem dX6_readParty_96 : decode cX6_readParty 96 = .ok (.aload_n 0, 1) := by decide +kernel
theorem dX6_readParty_97 : decode cX6_readParty 97 = .ok (.getfield 20, 3) := by decide +kernel
theorem dX6_readParty_100 : decode cX6_readParty 100 = .ok (.iconst 4, 1) := by decide +kernel
theorem dX6_readParty_101 : decode cX6_readParty 101 = .ok (.dup2, 1) := by decide +kernel
theorem dX6_readParty_102 : decode cX6_readParty 102 = .ok (.iaload, 1) := by decide +kernel
theorem dX6_readParty_103 : decode cX6_readParty 103 = .ok (.iconst 1, 1) := by decide +kernel
theorem dX6_readParty_104 : decode cX6_readParty 104 = .ok (.iadd, 1) := by decide +kernel
theorem dX6_readParty_105 : decode cX6_readParty 105 = .ok (.iastore, 1) := by decide +kernel
theorem dX6_readParty_106 : decode cX6_readParty 106 = .ok (.return_, 1) := by decide +kernel
theorem dX6_statement_0 : decode cX6_statement 0 = .ok (.aload_n 0, 1) := by decide +kernel
theorem dX6_statement_1 : decode cX6_statement 1 = .ok (.invokevirtual 69, 3) := by decide +kernel
theorem dX6_statement_4 : decode cX6_statement 4 = .ok (.pop, 1) := by decide +kernel
theorem dX6_statement_5 : decode cX6_statement 5 = .ok (.aload_n 0, 1) := by decide +kernel
theorem dX6_statement_6 : decode cX6_statement 6 = .ok (.getfield 48, 3) := by decide +kernel
theorem dX6_statement_9 : decode cX6_statement 9 = .ok (.istore_n 1, 1) := by decide +kernel
theorem dX6_statement_10 : decode cX6_statement 10 = .ok (.aload_n 0, 1) := by decide +kernel
theorem dX6_statement_11 : decode cX6_statement 11 = .ok (.ldc 135, 2) := by decide +kernel
theorem dX6_statement_13 : decode cX6_statement 13 = .ok (.invokevirtual 110, 3) := by decide +kernel
theorem dX6_statement_16 : decode cX6_statement 16 = .ok (.ifCond .eq 11, 3) := by decide +kernel
theorem dX6_statement_19 : decode cX6_statement 19 = .ok (.aload_n 0, 1) := by decide +kernel
theorem dX6_statement_20 : decode cX6_statement 20 = .ok (.iload_n 1, 1) := by decide +kernel
theorem dX6_statement_21 : decode cX6_statement 21 = .ok (.invokevirtual 137, 3) := by decide +kernel
theorem dX6_statement_24 : decode cX6_statement 24 = .ok (.goto 115, 3) := by decide +kernel
theorem dX6_statement_27 : decode cX6_statement 27 = .ok (.aload_n 0, 1) := by decide +kernel
theorem dX6_statement_28 : decode cX6_statement 28 = .ok (.ldc 140, 2) := by decide +kernel
theorem dX6_statement_30 : decode cX6_statement 30 = .ok (.invokevirtual 110, 3) := by decide +kernel
theorem dX6_statement_33 : decode cX6_statement 33 = .ok (.ifCond .eq 38, 3) := by decide +kernel
theorem dX6_statement_36 : decode cX6_statement 36 = .ok (.aload_n 0, 1) := by decide +kernel
theorem dX6_statement_37 : decode cX6_statement 37 = .ok (.iconst 0, 1) := by decide +kernel
theorem dX6_statement_38 : decode cX6_statement 38 = .ok (.iload_n 1, 1) := by decide +kernel
theorem dX6_statement_39 : decode cX6_statement 39 = .ok (.invokevirtual 142, 3) := by decide +kernel
theorem dX6_statement_42 : decode cX6_statement 42 = .ok (.aload_n 0, 1) := by decide +kernel
theorem dX6_statement_43 : decode cX6_statement 43 = .ok (.getfield 20, 3) := by decide +kernel
theorem dX6_statement_46 : decode cX6_statement 46 = .ok (.iconst 1, 1) := by decide +kernel
theorem dX6_statement_47 : decode cX6_statement 47 = .ok (.aload_n 0, 1) := by decide +kernel
theorem dX6_statement_48 : decode cX6_statement 48 = .ok (.iconst 1, 1) := by decide +kernel
theorem dX6_statement_49 : decode cX6_statement 49 = .ok (.bipush 99, 2) := by decide +kernel
theorem dX6_statement_51 : decode cX6_statement 51 = .ok (.invokevirtual 120, 3) := by decide +kernel
theorem dX6_statement_54 : decode cX6_statement 54 = .ok (.iastore, 1) := by decide +kernel
theorem dX6_statement_55 : decode cX6_statement 55 = .ok (.aload_n 0, 1) := by decide +kernel
theorem dX6_statement_56 : decode cX6_statement 56 = .ok (.getfield 20, 3) := by decide +kernel
theorem dX6_statement_59 : decode cX6_statement 59 = .ok (.iconst 2, 1) := by decide +kernel
theorem dX6_statement_60 : decode cX6_statement 60 = .ok (.aload_n 0, 1) := by decide +kernel
theorem dX6_statement_61 : decode cX6_statement 61 = .ok (.iconst 1, 1) := by decide +kernel
theorem dX6_statement_62 : decode cX6_statement 62 = .ok (.bipush 99, 2) := by decide +kernel
theorem dX6_statement_64 : decode cX6_statement 64 = .ok (.invokevirtual 120, 3) := by decide +kernel
theorem dX6_statement_67 : decode cX6_statement 67 = .ok (.iastore, 1) := by decide +kernel
theorem dX6_statement_68 : decode cX6_statement 68 = .ok (.goto 71, 3) := by decide +kernel
theorem dX6_statement_71 : decode cX6_statement 71 = .ok (.aload_n 0, 1) := by decide +kernel
theorem dX6_statement_72 : decode cX6_statement 72 = .ok (.ldc 145, 2) := by decide +kernel
theorem dX6_statement_74 : decode cX6_statement 74 = .ok (.invokevirtual 110, 3) := by decide +kernel
theorem dX6_statement_77 : decode cX6_statement 77 = .ok (.ifCond .eq 25, 3) := by decide +kernel
theorem dX6_statement_80 : decode cX6_statement 80 = .ok (.aload_n 0, 1) := by decide +kernel
theorem dX6_statement_81 : decode cX6_statement 81 = .ok (.iconst 1, 1) := by decide +kernel
theorem dX6_statement_82 : decode cX6_statement 82 = .ok (.iload_n 1, 1) := by decide +kernel
theorem dX6_statement_83 : decode cX6_statement 83 = .ok (.invokevirtual 142, 3) := by decide +kernel
theorem dX6_statement_86 : decode cX6_statement 86 = .ok (.aload_n 0, 1) := by decide +kernel
theorem dX6_statement_87 : decode cX6_statement 87 = .ok (.getfield 20, 3) := by decide +kernel
theorem dX6_statement_90 : decode cX6_statement 90 = .ok (.iconst 3, 1) := by decide +kernel
theorem dX6_statement_91 : decode cX6_statement 91 = .ok (.aload_n 0, 1) := by decide +kernel
theorem dX6_statement_92 : decode cX6_statement 92 = .ok (.iconst 1, 1) := by decide +kernel
theorem dX6_statement_93 : decode cX6_statement 93 = .ok (.bipush 99, 2) := by decide +kernel
theorem dX6_statement_95 : decode cX6_statement 95 = .ok (.invokevirtual 120, 3) := by decide +kernel
theorem dX6_statement_98 : decode cX6_statement 98 = .ok (.iastore, 1) := by decide +kernel
theorem dX6_statement_99 : decode cX6_statement 99 = .ok (.goto 40, 3) := by decide +kernel
theorem dX6_statement_102 : decode cX6_statement 102 = .ok (.aload_n 0, 1) := by decide +kernel
theorem dX6_statement_103 : decode cX6_statement 103 = .ok (.ldc 147, 2) := by decide +kernel
theorem dX6_statement_105 : decode cX6_statement 105 = .ok (.invokevirtual 110, 3) := by decide +kernel
theorem dX6_statement_108 : decode cX6_statement 108 = .ok (.ifCond .eq 24, 3) := by decide +kernel
theorem dX6_statement_111 : decode cX6_statement 111 = .ok (.aload_n 0, 1) := by decide +kernel
theorem dX6_statement_112 : decode cX6_statement 112 = .ok (.iconst 2, 1) := by decide +kernel
theorem dX6_statement_113 : decode cX6_statement 113 = .ok (.iload_n 1, 1) := by decide +kernel
theorem dX6_statement_114 : decode cX6_statement 114 = .ok (.invokevirtual 142, 3) := by decide +kernel
theorem dX6_statement_117 : decode cX6_statement 117 = .ok (.aload_n 0, 1) := by decide +kernel
theorem dX6_statement_118 : decode cX6_statement 118 = .ok (.getfield 20, 3) := by decide +kernel
theorem dX6_statement_121 : decode cX6_statement 121 = .ok (.bipush 7, 2) := by decide +kernel
theorem dX6_statement_123 : decode cX6_statement 123 = .ok (.iconst 1, 1) := by decide +kernel
theorem dX6_statement_124 : decode cX6_statement 124 = .ok (.iastore, 1) := by decide +kernel
theorem dX6_statement_125 : decode cX6_statement 125 = .ok (.aload_n 0, 1) := by decide +kernel
theorem dX6_statement_126 : decode cX6_statement 126 = .ok (.invokevirtual 101, 3) := by decide +kernel
theorem dX6_statement_129 : decode cX6_statement 129 = .ok (.goto 10, 3) := by decide +kernel
theorem dX6_statement_132 : decode cX6_statement 132 = .ok (.aload_n 0, 1) := by decide +kernel
theorem dX6_statement_133 : decode cX6_statement 133 = .ok (.bipush (-2), 2) := by decide +kernel
theorem dX6_statement_135 : decode cX6_statement 135 = .ok (.iload_n 1, 1) := by decide +kernel
theorem dX6_statement_136 : decode cX6_statement 136 = .ok (.invokevirtual 82, 3) := by decide +kernel
theorem dX6_statement_139 : decode cX6_statement 139 = .ok (.aload_n 0, 1) := by decide +kernel
theorem dX6_statement_140 : decode cX6_statement 140 = .ok (.bipush 59, 2) := by decide +kernel
theorem dX6_statement_142 : decode cX6_statement 142 = .ok (.invokevirtual 104, 3) := by decide +kernel
theorem dX6_statement_145 : decode cX6_statement 145 = .ok (.return_, 1) := by decide +kernel
theorem dX6_load_0 : decode cX6_load 0 = .ok (.aload_n 0, 1) := by decide +kernel
theorem dX6_load_1 : decode cX6_load 1 = .ok (.iconst 0, 1) := by decide +kernel
theorem dX6_load_2 : decode cX6_load 2 = .ok (.putfield 39, 3) := by decide +kernel
theorem dX6_load_5 : decode cX6_load 5 = .ok (.aload_n 0, 1) := by decide +kernel
theorem dX6_load_6 : decode cX6_load 6 = .ok (.iload_n 1, 1) := by decide +kernel
theorem dX6_load_7 : decode cX6_load 7 = .ok (.iconst 0, 1) := by decide +kernel
theorem dX6_load_8 : decode cX6_load 8 = .ok (.aload_n 0, 1) := by decide +kernel
theorem dX6_load_9 : decode cX6_load 9 = .ok (.getfield 42, 3) := by decide +kernel
theorem dX6_load_12 : decode cX6_load 12 = .ok (.invokestatic 61, 3) := by decide +kernel
theorem dX6_load_15 : decode cX6_load 15 = .ok (.ifCond .ne 7, 3) := by decide +kernel
theorem dX6_load_18 : decode cX6_load 18 = .ok (.iconst 1, 1) := by decide +kernel
theorem dX6_load_19 : decode cX6_load 19 = .ok (.goto 4, 3) := by decide +kernel
theorem dX6_load_22 : decode cX6_load 22 = .ok (.iconst 0, 1) := by decide +kernel
theorem dX6_load_23 : decode cX6_load 23 = .ok (.iconst 1, 1) := by decide +kernel
theorem dX6_load_24 : decode cX6_load 24 = .ok (.invokevirtual 149, 3) := by decide +kernel
theorem dX6_load_27 : decode cX6_load 27 = .ok (.ifCond .eq 5, 3) := by decide +kernel
theorem dX6_load_30 : decode cX6_load 30 = .ok (.iconst 0, 1) := by decide +kernel
theorem dX6_load_31 : decode cX6_load 31 = .ok (.ireturn, 1) := by decide +kernel
theorem dX6_load_32 : decode cX6_load 32 = .ok (.aload_n 0, 1) := by decide +kernel
theorem dX6_load_33 : decode cX6_load 33 = .ok (.iconst 0, 1) := by decide +kernel
theorem dX6_load_34 : decode cX6_load 34 = .ok (.putfield 42, 3) := by decide +kernel
theorem dX6_load_37 : decode cX6_load 37 = .ok (.aload_n 0, 1) := by decide +kernel
theorem dX6_load_38 : decode cX6_load 38 = .ok (.iload_n 1, 1) := by decide +kernel
theorem dX6_load_39 : decode cX6_load 39 = .ok (.putfield 45, 3) := by decide +kernel
theorem dX6_load_42 : decode cX6_load 42 = .ok (.aload_n 0, 1) := by decide +kernel
theorem dX6_load_43 : decode cX6_load 43 = .ok (.iconst 0, 1) := by decide +kernel
theorem dX6_load_44 : decode cX6_load 44 = .ok (.putfield 48, 3) := by decide +kernel
theorem dX6_load_47 : decode cX6_load 47 = .ok (.aload_n 0, 1) := by decide +kernel
theorem dX6_load_48 : decode cX6_load 48 = .ok (.iconst 0, 1) := by decide +kernel
theorem dX6_load_49 : decode cX6_load 49 = .ok (.putfield 55, 3) := by decide +kernel
theorem dX6_load_52 : decode cX6_load 52 = .ok (.aload_n 0, 1) := by decide +kernel
theorem dX6_load_53 : decode cX6_load 53 = .ok (.iconst (-1), 1) := by decide +kernel
theorem dX6_load_54 : decode cX6_load 54 = .ok (.putfield 58, 3) := by decide +kernel
theorem dX6_load_57 : decode cX6_load 57 = .ok (.aload_n 0, 1) := by decide +kernel
theorem dX6_load_58 : decode cX6_load 58 = .ok (.iconst 0, 1) := by decide +kernel
theorem dX6_load_59 : decode cX6_load 59 = .ok (.putfield 98, 3) := by decide +kernel
theorem dX6_load_62 : decode cX6_load 62 = .ok (.aload_n 0, 1) := by decide +kernel
theorem dX6_load_63 : decode cX6_load 63 = .ok (.iconst 0, 1) := by decide +kernel
theorem dX6_load_64 : decode cX6_load 64 = .ok (.putfield 132, 3) := by decide +kernel
theorem dX6_load_67 : decode cX6_load 67 = .ok (.aload_n 0, 1) := by decide +kernel
theorem dX6_load_68 : decode cX6_load 68 = .ok (.getfield 20, 3) := by decide +kernel
theorem dX6_load_71 : decode cX6_load 71 = .ok (.invokestatic 35, 3) := by decide +kernel
theorem dX6_load_74 : decode cX6_load 74 = .ok (.aload_n 0, 1) := by decide +kernel
theorem dX6_load_75 : decode cX6_load 75 = .ok (.ldc 153, 2) := by decide +kernel
theorem dX6_load_77 : decode cX6_load 77 = .ok (.invokevirtual 110, 3) := by decide +kernel
theorem dX6_load_80 : decode cX6_load 80 = .ok (.ifCond .ne 13, 3) := by decide +kernel
theorem dX6_load_83 : decode cX6_load 83 = .ok (.aload_n 0, 1) := by decide +kernel
theorem dX6_load_84 : decode cX6_load 84 = .ok (.bipush (-2), 2) := by decide +kernel
theorem dX6_load_86 : decode cX6_load 86 = .ok (.aload_n 0, 1) := by decide +kernel
theorem dX6_load_87 : decode cX6_load 87 = .ok (.getfield 48, 3) := by decide +kernel
theorem dX6_load_90 : decode cX6_load 90 = .ok (.invokevirtual 82, 3) := by decide +kernel
theorem dX6_load_93 : decode cX6_load 93 = .ok (.aload_n 0, 1) := by decide +kernel
theorem dX6_load_94 : decode cX6_load 94 = .ok (.bipush 59, 2) := by decide +kernel
theorem dX6_load_96 : decode cX6_load 96 = .ok (.invokevirtual 104, 3) := by decide +kernel
theorem dX6_load_99 : decode cX6_load 99 = .ok (.aload_n 0, 1) := by decide +kernel
theorem dX6_load_100 : decode cX6_load 100 = .ok (.invokevirtual 65, 3) := by decide +kernel
theorem dX6_load_103 : decode cX6_load 103 = .ok (.ifCond .eq 18, 3) := by decide +kernel
theorem dX6_load_106 : decode cX6_load 106 = .ok (.aload_n 0, 1) := by decide +kernel
theorem dX6_load_107 : decode cX6_load 107 = .ok (.invokevirtual 69, 3) := by decide +kernel
theorem dX6_load_110 : decode cX6_load 110 = .ok (.iconst (-1), 1) := by decide +kernel
theorem dX6_load_111 : decode cX6_load 111 = .ok (.if_icmp .eq 10, 3) := by decide +kernel
theorem dX6_load_114 : decode cX6_load 114 = .ok (.aload_n 0, 1) := by decide +kernel
theorem dX6_load_115 : decode cX6_load 115 = .ok (.invokevirtual 155, 3) := by decide +kernel
theorem dX6_load_118 : decode cX6_load 118 = .ok (.goto (-19), 3) := by decide +kernel
theorem dX6_load_121 : decode cX6_load 121 = .ok (.aload_n 0, 1) := by decide +kernel
theorem dX6_load_122 : decode cX6_load 122 = .ok (.aload_n 0, 1) := by decide +kernel
theorem dX6_load_123 : decode cX6_load 123 = .ok (.getfield 58, 3) := by decide +kernel
theorem dX6_load_126 : decode cX6_load 126 = .ok (.putfield 13, 3) := by decide +kernel
theorem dX6_load_129 : decode cX6_load 129 = .ok (.aload_n 0, 1) := by decide +kernel
theorem dX6_load_130 : decode cX6_load 130 = .ok (.invokevirtual 65, 3) := by decide +kernel
theorem dX6_load_133 : decode cX6_load 133 = .ok (.ifCond .ne 8, 3) := by decide +kernel
theorem dX6_load_136 : decode cX6_load 136 = .ok (.aload_n 0, 1) := by decide +kernel
theorem dX6_load_137 : decode cX6_load 137 = .ok (.getfield 55, 3) := by decide +kernel
theorem dX6_load_140 : decode cX6_load 140 = .ok (.ireturn, 1) := by decide +kernel
theorem dX6_load_141 : decode cX6_load 141 = .ok (.aload_n 0, 1) := by decide +kernel
theorem dX6_load_142 : decode cX6_load 142 = .ok (.invokevirtual 158, 3) := by decide +kernel
theorem dX6_load_145 : decode cX6_load 145 = .ok (.aload_n 0, 1) := by decide +kernel
theorem dX6_load_146 : decode cX6_load 146 = .ok (.getfield 20, 3) := by decide +kernel
theorem dX6_load_149 : decode cX6_load 149 = .ok (.aload_n 0, 1) := by decide +kernel
theorem dX6_load_150 : decode cX6_load 150 = .ok (.getfield 17, 3) := by decide +kernel
theorem dX6_load_153 : decode cX6_load 153 = .ok (.invokestatic 161, 3) := by decide +kernel
theorem dX6_load_156 : decode cX6_load 156 = .ok (.aload_n 0, 1) := by decide +kernel
theorem dX6_load_157 : decode cX6_load 157 = .ok (.getfield 17, 3) := by decide +kernel
theorem dX6_load_160 : decode cX6_load 160 = .ok (.iconst 4, 1) := by decide +kernel
theorem dX6_load_161 : decode cX6_load 161 = .ok (.iaload, 1) := by decide +kernel
theorem dX6_load_162 : decode cX6_load 162 = .ok (.ireturn, 1) := by decide +kernel
theorem dX6_errorOffset_0 : decode cX6_errorOffset 0 = .ok (.aload_n 0, 1) := by decide +kernel
theorem dX6_errorOffset_1 : decode cX6_errorOffset 1 = .ok (.iconst 0, 1) := by decide +kernel
theorem dX6_errorOffset_2 : decode cX6_errorOffset 2 = .ok (.putfield 39, 3) := by decide +kernel
theorem dX6_errorOffset_5 : decode cX6_errorOffset 5 = .ok (.aload_n 0, 1) := by decide +kernel
theorem dX6_errorOffset_6 : decode cX6_errorOffset 6 = .ok (.getfield 13, 3) := by decide +kernel
theorem dX6_errorOffset_9 : decode cX6_errorOffset 9 = .ok (.ireturn, 1) := by decide +kernel
theorem dX6_ofParty_0 : decode cX6_ofParty 0 = .ok (.aload_n 0, 1) := by decide +kernel
theorem dX6_ofParty_1 : decode cX6_ofParty 1 = .ok (.getfield 17, 3) := by decide +kernel
theorem dX6_ofParty_4 : decode cX6_ofParty 4 = .ok (.bipush 16, 2) := by decide +kernel
theorem dX6_ofParty_6 : decode cX6_ofParty 6 = .ok (.iconst 3, 1) := by decide +kernel
theorem dX6_ofParty_7 : decode cX6_ofParty 7 = .ok (.iload_n 1, 1) := by decide +kernel
theorem dX6_ofParty_8 : decode cX6_ofParty 8 = .ok (.imul, 1) := by decide +kernel
theorem dX6_ofParty_9 : decode cX6_ofParty 9 = .ok (.iadd, 1) := by decide +kernel
theorem dX6_ofParty_10 : decode cX6_ofParty 10 = .ok (.iload_n 2, 1) := by decide +kernel
theorem dX6_ofParty_11 : decode cX6_ofParty 11 = .ok (.iadd, 1) := by decide +kernel
theorem dX6_ofParty_12 : decode cX6_ofParty 12 = .ok (.iaload, 1) := by decide +kernel
theorem dX6_ofParty_13 : decode cX6_ofParty 13 = .ok (.ireturn, 1) := by decide +kernel
theorem dX6_callAt_0 : decode cX6_callAt 0 = .ok (.bipush 46, 2) := by decide +kernel
theorem dX6_callAt_2 : decode cX6_callAt 2 = .ok (.iconst 5, 1) := by decide +kernel
theorem dX6_callAt_3 : decode cX6_callAt 3 = .ok (.iload_n 0, 1) := by decide +kernel
theorem dX6_callAt_4 : decode cX6_callAt 4 = .ok (.imul, 1) := by decide +kernel
theorem dX6_callAt_5 : decode cX6_callAt 5 = .ok (.iadd, 1) := by decide +kernel
theorem dX6_callAt_6 : decode cX6_callAt 6 = .ok (.ireturn, 1) := by decide +kernel
theorem dX6_legAt_0 : decode cX6_legAt 0 = .ok (.sipush 146, 3) := by decide +kernel
theorem dX6_legAt_3 : decode cX6_legAt 3 = .ok (.bipush 13, 2) := by decide +kernel
theorem dX6_legAt_5 : decode cX6_legAt 5 = .ok (.iload_n 0, 1) := by decide +kernel
theorem dX6_legAt_6 : decode cX6_legAt 6 = .ok (.imul, 1) := by decide +kernel
theorem dX6_legAt_7 : decode cX6_legAt 7 = .ok (.iadd, 1) := by decide +kernel
theorem dX6_legAt_8 : decode cX6_legAt 8 = .ok (.ireturn, 1) := by decide +kernel
theorem dX6_ofCall_0 : decode cX6_ofCall 0 = .ok (.aload_n 0, 1) := by decide +kernel
theorem dX6_ofCall_1 : decode cX6_ofCall 1 = .ok (.getfield 17, 3) := by decide +kernel
theorem dX6_ofCall_4 : decode cX6_ofCall 4 = .ok (.iload_n 1, 1) := by decide +kernel
theorem dX6_ofCall_5 : decode cX6_ofCall 5 = .ok (.invokestatic 165, 3) := by decide +kernel
theorem dX6_ofCall_8 : decode cX6_ofCall 8 = .ok (.iload_n 2, 1) := by decide +kernel
theorem dX6_ofCall_9 : decode cX6_ofCall 9 = .ok (.iadd, 1) := by decide +kernel
theorem dX6_ofCall_10 : decode cX6_ofCall 10 = .ok (.iaload, 1) := by decide +kernel
theorem dX6_ofCall_11 : decode cX6_ofCall 11 = .ok (.ireturn, 1) := by decide +kernel
theorem dX6_ofLeg_0 : decode cX6_ofLeg 0 = .ok (.aload_n 0, 1) := by decide +kernel
theorem dX6_ofLeg_1 : decode cX6_ofLeg 1 = .ok (.getfield 17, 3) := by decide +kernel
theorem dX6_ofLeg_4 : decode cX6_ofLeg 4 = .ok (.iload_n 1, 1) := by decide +kernel
theorem dX6_ofLeg_5 : decode cX6_ofLeg 5 = .ok (.invokestatic 168, 3) := by decide +kernel
theorem dX6_ofLeg_8 : decode cX6_ofLeg 8 = .ok (.iload_n 2, 1) := by decide +kernel
theorem dX6_ofLeg_9 : decode cX6_ofLeg 9 = .ok (.iadd, 1) := by decide +kernel
theorem dX6_ofLeg_10 : decode cX6_ofLeg 10 = .ok (.iaload, 1) := by decide +kernel
theorem dX6_ofLeg_11 : decode cX6_ofLeg 11 = .ok (.ireturn, 1) := by decide +kernel
theorem dX6_is_0 : decode cX6_is 0 = .ok (.aload_n 0, 1) := by decide +kernel
theorem dX6_is_1 : decode cX6_is 1 = .ok (.iload_n 1, 1) := by decide +kernel
theorem dX6_is_2 : decode cX6_is 2 = .ok (.iconst 2, 1) := by decide +kernel
theorem dX6_is_3 : decode cX6_is 3 = .ok (.invokevirtual 171, 3) := by decide +kernel
theorem dX6_is_6 : decode cX6_is 6 = .ok (.iload_n 2, 1) := by decide +kernel
theorem dX6_is_7 : decode cX6_is 7 = .ok (.if_icmp .ne 7, 3) := by decide +kernel
theorem dX6_is_10 : decode cX6_is 10 = .ok (.iconst 1, 1) := by decide +kernel
theorem dX6_is_11 : decode cX6_is 11 = .ok (.goto 4, 3) := by decide +kernel
theorem dX6_is_14 : decode cX6_is 14 = .ok (.iconst 0, 1) := by decide +kernel
theorem dX6_is_15 : decode cX6_is 15 = .ok (.ireturn, 1) := by decide +kernel
theorem dX6_callerOf_0 : decode cX6_callerOf 0 = .ok (.aload_n 0, 1) := by decide +kernel
theorem dX6_callerOf_1 : decode cX6_callerOf 1 = .ok (.aload_n 0, 1) := by decide +kernel
theorem dX6_callerOf_2 : decode cX6_callerOf 2 = .ok (.iload_n 1, 1) := by decide +kernel
theorem dX6_callerOf_3 : decode cX6_callerOf 3 = .ok (.iconst 0, 1) := by decide +kernel
theorem dX6_callerOf_4 : decode cX6_callerOf 4 = .ok (.invokevirtual 171, 3) := by decide +kernel
theorem dX6_callerOf_7 : decode cX6_callerOf 7 = .ok (.iconst 0, 1) := by decide +kernel
theorem dX6_callerOf_8 : decode cX6_callerOf 8 = .ok (.invokevirtual 174, 3) := by decide +kernel
theorem dX6_callerOf_11 : decode cX6_callerOf 11 = .ok (.ireturn, 1) := by decide +kernel
theorem dX6_isIn_0 : decode cX6_isIn 0 = .ok (.aload_n 0, 1) := by decide +kernel
theorem dX6_isIn_1 : decode cX6_isIn 1 = .ok (.iload_n 2, 1) := by decide +kernel
theorem dX6_isIn_2 : decode cX6_isIn 2 = .ok (.invokevirtual 177, 3) := by decide +kernel
theorem dX6_isIn_5 : decode cX6_isIn 5 = .ok (.iload_n 1, 1) := by decide +kernel
theorem dX6_isIn_6 : decode cX6_isIn 6 = .ok (.if_icmp .eq 13, 3) := by decide +kernel
theorem dX6_isIn_9 : decode cX6_isIn 9 = .ok (.aload_n 0, 1) := by decide +kernel
theorem dX6_isIn_10 : decode cX6_isIn 10 = .ok (.iload_n 2, 1) := by decide +kernel
theorem dX6_isIn_11 : decode cX6_isIn 11 = .ok (.iconst 1, 1) := by decide +kernel
theorem dX6_isIn_12 : decode cX6_isIn 12 = .ok (.invokevirtual 171, 3) := by decide +kernel
theorem dX6_isIn_15 : decode cX6_isIn 15 = .ok (.iload_n 1, 1) := by decide +kernel
theorem dX6_isIn_16 : decode cX6_isIn 16 = .ok (.if_icmp .ne 7, 3) := by decide +kernel
theorem dX6_isIn_19 : decode cX6_isIn 19 = .ok (.iconst 1, 1) := by decide +kernel
theorem dX6_isIn_20 : decode cX6_isIn 20 = .ok (.goto 4, 3) := by decide +kernel
theorem dX6_isIn_23 : decode cX6_isIn 23 = .ok (.iconst 0, 1) := by decide +kernel
theorem dX6_isIn_24 : decode cX6_isIn 24 = .ok (.ireturn, 1) := by decide +kernel
theorem dX6_legWith_0 : decode cX6_legWith 0 = .ok (.iconst 0, 1) := by decide +kernel
theorem dX6_legWith_1 : decode cX6_legWith 1 = .ok (.istore_n 3, 1) := by decide +kernel
theorem dX6_legWith_2 : decode cX6_legWith 2 = .ok (.iload_n 3, 1) := by decide +kernel
theorem dX6_legWith_3 : decode cX6_legWith 3 = .ok (.aload_n 0, 1) := by decide +kernel
theorem dX6_legWith_4 : decode cX6_legWith 4 = .ok (.getfield 17, 3) := by decide +kernel
theorem dX6_legWith_7 : decode cX6_legWith 7 = .ok (.bipush 6, 2) := by decide +kernel
theorem dX6_legWith_9 : decode cX6_legWith 9 = .ok (.iaload, 1) := by decide +kernel
theorem dX6_legWith_10 : decode cX6_legWith 10 = .ok (.if_icmp .ge 29, 3) := by decide +kernel
theorem dX6_legWith_13 : decode cX6_legWith 13 = .ok (.aload_n 0, 1) := by decide +kernel
theorem dX6_legWith_14 : decode cX6_legWith 14 = .ok (.iload_n 3, 1) := by decide +kernel
theorem dX6_legWith_15 : decode cX6_legWith 15 = .ok (.iload_n 2, 1) := by decide +kernel
theorem dX6_legWith_16 : decode cX6_legWith 16 = .ok (.invokevirtual 180, 3) := by decide +kernel
theorem dX6_legWith_19 : decode cX6_legWith 19 = .ok (.ifCond .eq 14, 3) := by decide +kernel
theorem dX6_legWith_22 : decode cX6_legWith 22 = .ok (.aload_n 0, 1) := by decide +kernel
theorem dX6_legWith_23 : decode cX6_legWith 23 = .ok (.iload_n 1, 1) := by decide +kernel
theorem dX6_legWith_24 : decode cX6_legWith 24 = .ok (.iload_n 3, 1) := by decide +kernel
theorem dX6_legWith_25 : decode cX6_legWith 25 = .ok (.invokevirtual 184, 3) := by decide +kernel
theorem dX6_legWith_28 : decode cX6_legWith 28 = .ok (.ifCond .eq 5, 3) := by decide +kernel
theorem dX6_legWith_31 : decode cX6_legWith 31 = .ok (.iload_n 3, 1) := by decide +kernel
theorem dX6_legWith_32 : decode cX6_legWith 32 = .ok (.ireturn, 1) := by decide +kernel
theorem dX6_legWith_33 : decode cX6_legWith 33 = .ok (.iinc 3 1, 3) := by decide +kernel
theorem dX6_legWith_36 : decode cX6_legWith 36 = .ok (.goto (-34), 3) := by decide +kernel
theorem dX6_legWith_39 : decode cX6_legWith 39 = .ok (.iconst (-1), 1) := by decide +kernel
theorem dX6_legWith_40 : decode cX6_legWith 40 = .ok (.ireturn, 1) := by decide +kernel
theorem dX6_rings_0 : decode cX6_rings 0 = .ok (.iconst 0, 1) := by decide +kernel
theorem dX6_rings_1 : decode cX6_rings 1 = .ok (.istore_n 2, 1) := by decide +kernel
theorem dX6_rings_2 : decode cX6_rings 2 = .ok (.iload_n 2, 1) := by decide +kernel
theorem dX6_rings_3 : decode cX6_rings 3 = .ok (.aload_n 0, 1) := by decide +kernel
theorem dX6_rings_4 : decode cX6_rings 4 = .ok (.getfield 17, 3) := by decide +kernel
theorem dX6_rings_7 : decode cX6_rings 7 = .ok (.bipush 6, 2) := by decide +kernel
theorem dX6_rings_9 : decode cX6_rings 9 = .ok (.iaload, 1) := by decide +kernel
theorem dX6_rings_10 : decode cX6_rings 10 = .ok (.if_icmp .ge 30, 3) := by decide +kernel
theorem dX6_rings_13 : decode cX6_rings 13 = .ok (.aload_n 0, 1) := by decide +kernel
theorem dX6_rings_14 : decode cX6_rings 14 = .ok (.iload_n 2, 1) := by decide +kernel
theorem dX6_rings_15 : decode cX6_rings 15 = .ok (.iconst 0, 1) := by decide +kernel
theorem dX6_rings_16 : decode cX6_rings 16 = .ok (.invokevirtual 171, 3) := by decide +kernel
theorem dX6_rings_19 : decode cX6_rings 19 = .ok (.iload_n 1, 1) := by decide +kernel
theorem dX6_rings_20 : decode cX6_rings 20 = .ok (.if_icmp .ne 14, 3) := by decide +kernel
theorem dX6_rings_23 : decode cX6_rings 23 = .ok (.aload_n 0, 1) := by decide +kernel
theorem dX6_rings_24 : decode cX6_rings 24 = .ok (.iload_n 2, 1) := by decide +kernel
theorem dX6_rings_25 : decode cX6_rings 25 = .ok (.iconst 0, 1) := by decide +kernel
theorem dX6_rings_26 : decode cX6_rings 26 = .ok (.invokevirtual 180, 3) := by decide +kernel
theorem dX6_rings_29 : decode cX6_rings 29 = .ok (.ifCond .eq 5, 3) := by decide +kernel
theorem dX6_rings_32 : decode cX6_rings 32 = .ok (.iconst 1, 1) := by decide +kernel
theorem dX6_rings_33 : decode cX6_rings 33 = .ok (.ireturn, 1) := by decide +kernel
theorem dX6_rings_34 : decode cX6_rings 34 = .ok (.iinc 2 1, 3) := by decide +kernel
theorem dX6_rings_37 : decode cX6_rings 37 = .ok (.goto (-35), 3) := by decide +kernel
theorem dX6_rings_40 : decode cX6_rings 40 = .ok (.iconst 0, 1) := by decide +kernel
theorem dX6_rings_41 : decode cX6_rings 41 = .ok (.ireturn, 1) := by decide +kernel
theorem dX6_ringingOf_0 : decode cX6_ringingOf 0 = .ok (.iconst 0, 1) := by decide +kernel
theorem dX6_ringingOf_1 : decode cX6_ringingOf 1 = .ok (.istore_n 2, 1) := by decide +kernel
theorem dX6_ringingOf_2 : decode cX6_ringingOf 2 = .ok (.iload_n 2, 1) := by decide +kernel
theorem dX6_ringingOf_3 : decode cX6_ringingOf 3 = .ok (.aload_n 0, 1) := by decide +kernel
theorem dX6_ringingOf_4 : decode cX6_ringingOf 4 = .ok (.getfield 17, 3) := by decide +kernel
theorem dX6_ringingOf_7 : decode cX6_ringingOf 7 = .ok (.iconst 5, 1) := by decide +kernel
theorem dX6_ringingOf_8 : decode cX6_ringingOf 8 = .ok (.iaload, 1) := by decide +kernel
theorem dX6_ringingOf_9 : decode cX6_ringingOf 9 = .ok (.if_icmp .ge 29, 3) := by decide +kernel
theorem dX6_ringingOf_12 : decode cX6_ringingOf 12 = .ok (.aload_n 0, 1) := by decide +kernel
theorem dX6_ringingOf_13 : decode cX6_ringingOf 13 = .ok (.iload_n 2, 1) := by decide +kernel
theorem dX6_ringingOf_14 : decode cX6_ringingOf 14 = .ok (.iconst 0, 1) := by decide +kernel
theorem dX6_ringingOf_15 : decode cX6_ringingOf 15 = .ok (.invokevirtual 174, 3) := by decide +kernel
theorem dX6_ringingOf_18 : decode cX6_ringingOf 18 = .ok (.iload_n 1, 1) := by decide +kernel
theorem dX6_ringingOf_19 : decode cX6_ringingOf 19 = .ok (.if_icmp .ne 13, 3) := by decide +kernel
theorem dX6_ringingOf_22 : decode cX6_ringingOf 22 = .ok (.aload_n 0, 1) := by decide +kernel
theorem dX6_ringingOf_23 : decode cX6_ringingOf 23 = .ok (.iload_n 2, 1) := by decide +kernel
theorem dX6_ringingOf_24 : decode cX6_ringingOf 24 = .ok (.invokevirtual 187, 3) := by decide +kernel
theorem dX6_ringingOf_27 : decode cX6_ringingOf 27 = .ok (.ifCond .eq 5, 3) := by decide +kernel
theorem dX6_ringingOf_30 : decode cX6_ringingOf 30 = .ok (.iload_n 2, 1) := by decide +kernel
theorem dX6_ringingOf_31 : decode cX6_ringingOf 31 = .ok (.ireturn, 1) := by decide +kernel
theorem dX6_ringingOf_32 : decode cX6_ringingOf 32 = .ok (.iinc 2 1, 3) := by decide +kernel
theorem dX6_ringingOf_35 : decode cX6_ringingOf 35 = .ok (.goto (-33), 3) := by decide +kernel
theorem dX6_ringingOf_38 : decode cX6_ringingOf 38 = .ok (.iconst (-1), 1) := by decide +kernel
theorem dX6_ringingOf_39 : decode cX6_ringingOf 39 = .ok (.ireturn, 1) := by decide +kernel
theorem dX6_isEngaged_0 : decode cX6_isEngaged 0 = .ok (.aload_n 0, 1) := by decide +kernel
theorem dX6_isEngaged_1 : decode cX6_isEngaged 1 = .ok (.iload_n 1, 1) := by decide +kernel
theorem dX6_isEngaged_2 : decode cX6_isEngaged 2 = .ok (.iconst 1, 1) := by decide +kernel
theorem dX6_isEngaged_3 : decode cX6_isEngaged 3 = .ok (.invokevirtual 190, 3) := by decide +kernel
theorem dX6_isEngaged_6 : decode cX6_isEngaged 6 = .ok (.iconst (-1), 1) := by decide +kernel
theorem dX6_isEngaged_7 : decode cX6_isEngaged 7 = .ok (.if_icmp .ne 22, 3) := by decide +kernel
theorem dX6_isEngaged_10 : decode cX6_isEngaged 10 = .ok (.aload_n 0, 1) := by decide +kernel
theorem dX6_isEngaged_11 : decode cX6_isEngaged 11 = .ok (.iload_n 1, 1) := by decide +kernel
theorem dX6_isEngaged_12 : decode cX6_isEngaged 12 = .ok (.iconst 2, 1) := by decide +kernel
theorem dX6_isEngaged_13 : decode cX6_isEngaged 13 = .ok (.invokevirtual 190, 3) := by decide +kernel
theorem dX6_isEngaged_16 : decode cX6_isEngaged 16 = .ok (.iconst (-1), 1) := by decide +kernel
theorem dX6_isEngaged_17 : decode cX6_isEngaged 17 = .ok (.if_icmp .ne 12, 3) := by decide +kernel
theorem dX6_isEngaged_20 : decode cX6_isEngaged 20 = .ok (.aload_n 0, 1) := by decide +kernel
theorem dX6_isEngaged_21 : decode cX6_isEngaged 21 = .ok (.iload_n 1, 1) := by decide +kernel
theorem dX6_isEngaged_22 : decode cX6_isEngaged 22 = .ok (.invokevirtual 193, 3) := by decide +kernel
theorem dX6_isEngaged_25 : decode cX6_isEngaged 25 = .ok (.iconst (-1), 1) := by decide +kernel
theorem dX6_isEngaged_26 : decode cX6_isEngaged 26 = .ok (.if_icmp .eq 7, 3) := by decide +kernel
theorem dX6_isEngaged_29 : decode cX6_isEngaged 29 = .ok (.iconst 1, 1) := by decide +kernel
theorem dX6_isEngaged_30 : decode cX6_isEngaged 30 = .ok (.goto 4, 3) := by decide +kernel
theorem dX6_isEngaged_33 : decode cX6_isEngaged 33 = .ok (.iconst 0, 1) := by decide +kernel
theorem dX6_isEngaged_34 : decode cX6_isEngaged 34 = .ok (.ireturn, 1) := by decide +kernel
theorem dX6_countOf_0 : decode cX6_countOf 0 = .ok (.iconst 0, 1) := by decide +kernel
theorem dX6_countOf_1 : decode cX6_countOf 1 = .ok (.istore_n 2, 1) := by decide +kernel
theorem dX6_countOf_2 : decode cX6_countOf 2 = .ok (.iconst 0, 1) := by decide +kernel
theorem dX6_countOf_3 : decode cX6_countOf 3 = .ok (.istore_n 3, 1) := by decide +kernel
theorem dX6_countOf_4 : decode cX6_countOf 4 = .ok (.iload_n 3, 1) := by decide +kernel
theorem dX6_countOf_5 : decode cX6_countOf 5 = .ok (.aload_n 0, 1) := by decide +kernel
theorem dX6_countOf_6 : decode cX6_countOf 6 = .ok (.getfield 17, 3) := by decide +kernel
theorem dX6_countOf_9 : decode cX6_countOf 9 = .ok (.bipush 6, 2) := by decide +kernel
theorem dX6_countOf_11 : decode cX6_countOf 11 = .ok (.iaload, 1) := by decide +kernel
theorem dX6_countOf_12 : decode cX6_countOf 12 = .ok (.if_icmp .ge 26, 3) := by decide +kernel
theorem dX6_countOf_15 : decode cX6_countOf 15 = .ok (.iload_n 2, 1) := by decide +kernel
theorem dX6_countOf_16 : decode cX6_countOf 16 = .ok (.aload_n 0, 1) := by decide +kernel
theorem dX6_countOf_17 : decode cX6_countOf 17 = .ok (.iload_n 3, 1) := by decide +kernel
theorem dX6_countOf_18 : decode cX6_countOf 18 = .ok (.iload_n 1, 1) := by decide +kernel
theorem dX6_countOf_19 : decode cX6_countOf 19 = .ok (.invokevirtual 180, 3) := by decide +kernel
theorem dX6_countOf_22 : decode cX6_countOf 22 = .ok (.ifCond .eq 7, 3) := by decide +kernel
theorem dX6_countOf_25 : decode cX6_countOf 25 = .ok (.iconst 1, 1) := by decide +kernel
theorem dX6_countOf_26 : decode cX6_countOf 26 = .ok (.goto 4, 3) := by decide +kernel
theorem dX6_countOf_29 : decode cX6_countOf 29 = .ok (.iconst 0, 1) := by decide +kernel
theorem dX6_countOf_30 : decode cX6_countOf 30 = .ok (.iadd, 1) := by decide +kernel
theorem dX6_countOf_31 : decode cX6_countOf 31 = .ok (.istore_n 2, 1) := by decide +kernel
theorem dX6_countOf_32 : decode cX6_countOf 32 = .ok (.iinc 3 1, 3) := by decide +kernel
theorem dX6_countOf_35 : decode cX6_countOf 35 = .ok (.goto (-31), 3) := by decide +kernel
theorem dX6_countOf_38 : decode cX6_countOf 38 = .ok (.iload_n 2, 1) := by decide +kernel
theorem dX6_countOf_39 : decode cX6_countOf 39 = .ok (.ireturn, 1) := by decide +kernel
theorem dX6_rungAt_0 : decode cX6_rungAt 0 = .ok (.iconst 0, 1) := by decide +kernel
theorem dX6_rungAt_1 : decode cX6_rungAt 1 = .ok (.istore_n 2, 1) := by decide +kernel
theorem dX6_rungAt_2 : decode cX6_rungAt 2 = .ok (.iconst 0, 1) := by decide +kernel
theorem dX6_rungAt_3 : decode cX6_rungAt 3 = .ok (.istore_n 3, 1) := by decide +kernel
theorem dX6_rungAt_4 : decode cX6_rungAt 4 = .ok (.iload_n 3, 1) := by decide +kernel
theorem dX6_rungAt_5 : decode cX6_rungAt 5 = .ok (.aload_n 0, 1) := by decide +kernel
theorem dX6_rungAt_6 : decode cX6_rungAt 6 = .ok (.getfield 17, 3) := by decide +kernel
theorem dX6_rungAt_9 : decode cX6_rungAt 9 = .ok (.bipush 6, 2) := by decide +kernel
theorem dX6_rungAt_11 : decode cX6_rungAt 11 = .ok (.iaload, 1) := by decide +kernel
theorem dX6_rungAt_12 : decode cX6_rungAt 12 = .ok (.if_icmp .ge 36, 3) := by decide +kernel
theorem dX6_rungAt_15 : decode cX6_rungAt 15 = .ok (.iload_n 2, 1) := by decide +kernel
theorem dX6_rungAt_16 : decode cX6_rungAt 16 = .ok (.aload_n 0, 1) := by decide +kernel
theorem dX6_rungAt_17 : decode cX6_rungAt 17 = .ok (.iload_n 3, 1) := by decide +kernel
theorem dX6_rungAt_18 : decode cX6_rungAt 18 = .ok (.iconst 0, 1) := by decide +kernel
theorem dX6_rungAt_19 : decode cX6_rungAt 19 = .ok (.invokevirtual 180, 3) := by decide +kernel
theorem dX6_rungAt_22 : decode cX6_rungAt 22 = .ok (.ifCond .eq 17, 3) := by decide +kernel
theorem dX6_rungAt_25 : decode cX6_rungAt 25 = .ok (.aload_n 0, 1) := by decide +kernel
theorem dX6_rungAt_26 : decode cX6_rungAt 26 = .ok (.iload_n 3, 1) := by decide +kernel
theorem dX6_rungAt_27 : decode cX6_rungAt 27 = .ok (.iconst 1, 1) := by decide +kernel
theorem dX6_rungAt_28 : decode cX6_rungAt 28 = .ok (.invokevirtual 171, 3) := by decide +kernel
theorem dX6_rungAt_31 : decode cX6_rungAt 31 = .ok (.iload_n 1, 1) := by decide +kernel
theorem dX6_rungAt_32 : decode cX6_rungAt 32 = .ok (.if_icmp .ne 7, 3) := by decide +kernel
theorem dX6_rungAt_35 : decode cX6_rungAt 35 = .ok (.iconst 1, 1) := by decide +kernel
theorem dX6_rungAt_36 : decode cX6_rungAt 36 = .ok (.goto 4, 3) := by decide +kernel
theorem dX6_rungAt_39 : decode cX6_rungAt 39 = .ok (.iconst 0, 1) := by decide +kernel
theorem dX6_rungAt_40 : decode cX6_rungAt 40 = .ok (.iadd, 1) := by decide +kernel
theorem dX6_rungAt_41 : decode cX6_rungAt 41 = .ok (.istore_n 2, 1) := by decide +kernel
theorem dX6_rungAt_42 : decode cX6_rungAt 42 = .ok (.iinc 3 1, 3) := by decide +kernel
theorem dX6_rungAt_45 : decode cX6_rungAt 45 = .ok (.goto (-41), 3) := by decide +kernel
theorem dX6_rungAt_48 : decode cX6_rungAt 48 = .ok (.iload_n 2, 1) := by decide +kernel
theorem dX6_rungAt_49 : decode cX6_rungAt 49 = .ok (.ireturn, 1) := by decide +kernel
theorem dX6_adds_0 : decode cX6_adds 0 = .ok (.aload_n 0, 1) := by decide +kernel
theorem dX6_adds_1 : decode cX6_adds 1 = .ok (.getfield 17, 3) := by decide +kernel
theorem dX6_adds_4 : decode cX6_adds 4 = .ok (.bipush 9, 2) := by decide +kernel
theorem dX6_adds_6 : decode cX6_adds 6 = .ok (.iload_n 1, 1) := by decide +kernel
theorem dX6_adds_7 : decode cX6_adds 7 = .ok (.iadd, 1) := by decide +kernel
theorem dX6_adds_8 : decode cX6_adds 8 = .ok (.dup2, 1) := by decide +kernel
theorem dX6_adds_9 : decode cX6_adds 9 = .ok (.iaload, 1) := by decide +kernel
theorem dX6_adds_10 : decode cX6_adds 10 = .ok (.iconst 1, 1) := by decide +kernel
theorem dX6_adds_11 : decode cX6_adds 11 = .ok (.iadd, 1) := by decide +kernel
theorem dX6_adds_12 : decode cX6_adds 12 = .ok (.iastore, 1) := by decide +kernel
theorem dX6_adds_13 : decode cX6_adds 13 = .ok (.return_, 1) := by decide +kernel
theorem dX6_withoutOffers_0 : decode cX6_withoutOffers 0 = .ok (.iload_n 1, 1) := by decide +kernel
theorem dX6_withoutOffers_1 : decode cX6_withoutOffers 1 = .ok (.invokestatic 168, 3) := by decide +kernel
theorem dX6_withoutOffers_4 : decode cX6_withoutOffers 4 = .ok (.istore_n 2, 1) := by decide +kernel
theorem dX6_withoutOffers_5 : decode cX6_withoutOffers 5 = .ok (.aload_n 0, 1) := by decide +kernel
theorem dX6_withoutOffers_6 : decode cX6_withoutOffers 6 = .ok (.getfield 17, 3) := by decide +kernel
theorem dX6_withoutOffers_9 : decode cX6_withoutOffers 9 = .ok (.iload_n 2, 1) := by decide +kernel
theorem dX6_withoutOffers_10 : decode cX6_withoutOffers 10 = .ok (.bipush 6, 2) := by decide +kernel
theorem dX6_withoutOffers_12 : decode cX6_withoutOffers 12 = .ok (.iadd, 1) := by decide +kernel
theorem dX6_withoutOffers_13 : decode cX6_withoutOffers 13 = .ok (.iconst (-1), 1) := by decide +kernel
theorem dX6_withoutOffers_14 : decode cX6_withoutOffers 14 = .ok (.iastore, 1) := by decide +kernel
theorem dX6_withoutOffers_15 : decode cX6_withoutOffers 15 = .ok (.aload_n 0, 1) := by decide +kernel
theorem dX6_withoutOffers_16 : decode cX6_withoutOffers 16 = .ok (.getfield 17, 3) := by decide +kernel
theorem dX6_withoutOffers_19 : decode cX6_withoutOffers 19 = .ok (.iload_n 2, 1) := by decide +kernel
theorem dX6_withoutOffers_20 : decode cX6_withoutOffers 20 = .ok (.bipush 9, 2) := by decide +kernel
theorem dX6_withoutOffers_22 : decode cX6_withoutOffers 22 = .ok (.iadd, 1) := by decide +kernel
theorem dX6_withoutOffers_23 : decode cX6_withoutOffers 23 = .ok (.iconst (-1), 1) := by decide +kernel
theorem dX6_withoutOffers_24 : decode cX6_withoutOffers 24 = .ok (.iastore, 1) := by decide +kernel
theorem dX6_withoutOffers_25 : decode cX6_withoutOffers 25 = .ok (.aload_n 0, 1) := by decide +kernel
theorem dX6_withoutOffers_26 : decode cX6_withoutOffers 26 = .ok (.getfield 17, 3) := by decide +kernel
theorem dX6_withoutOffers_29 : decode cX6_withoutOffers 29 = .ok (.iload_n 2, 1) := by decide +kernel
theorem dX6_withoutOffers_30 : decode cX6_withoutOffers 30 = .ok (.bipush 9, 2) := by decide +kernel
theorem dX6_withoutOffers_32 : decode cX6_withoutOffers 32 = .ok (.iadd, 1) := by decide +kernel
theorem dX6_withoutOffers_33 : decode cX6_withoutOffers 33 = .ok (.iconst 1, 1) := by decide +kernel
theorem dX6_withoutOffers_34 : decode cX6_withoutOffers 34 = .ok (.iadd, 1) := by decide +kernel
theorem dX6_withoutOffers_35 : decode cX6_withoutOffers 35 = .ok (.iconst (-1), 1) := by decide +kernel
theorem dX6_withoutOffers_36 : decode cX6_withoutOffers 36 = .ok (.iastore, 1) := by decide +kernel
theorem dX6_withoutOffers_37 : decode cX6_withoutOffers 37 = .ok (.return_, 1) := by decide +kernel
theorem dX6_end_0 : decode cX6_end 0 = .ok (.aload_n 0, 1) := by decide +kernel
theorem dX6_end_1 : decode cX6_end 1 = .ok (.getfield 17, 3) := by decide +kernel
theorem dX6_end_4 : decode cX6_end 4 = .ok (.iload_n 1, 1) := by decide +kernel
theorem dX6_end_5 : decode cX6_end 5 = .ok (.invokestatic 168, 3) := by decide +kernel
theorem dX6_end_8 : decode cX6_end 8 = .ok (.iconst 2, 1) := by decide +kernel
theorem dX6_end_9 : decode cX6_end 9 = .ok (.iadd, 1) := by decide +kernel
theorem dX6_end_10 : decode cX6_end 10 = .ok (.iconst 3, 1) := by decide +kernel
theorem dX6_end_11 : decode cX6_end 11 = .ok (.iastore, 1) := by decide +kernel
theorem dX6_end_12 : decode cX6_end 12 = .ok (.aload_n 0, 1) := by decide +kernel
theorem dX6_end_13 : decode cX6_end 13 = .ok (.getfield 17, 3) := by decide +kernel
theorem dX6_end_16 : decode cX6_end 16 = .ok (.iload_n 1, 1) := by decide +kernel
theorem dX6_end_17 : decode cX6_end 17 = .ok (.invokestatic 168, 3) := by decide +kernel
theorem dX6_end_20 : decode cX6_end 20 = .ok (.iconst 3, 1) := by decide +kernel
theorem dX6_end_21 : decode cX6_end 21 = .ok (.iadd, 1) := by decide +kernel
theorem dX6_end_22 : decode cX6_end 22 = .ok (.iload_n 2, 1) := by decide +kernel
theorem dX6_end_23 : decode cX6_end 23 = .ok (.iastore, 1) := by decide +kernel
theorem dX6_end_24 : decode cX6_end 24 = .ok (.aload_n 0, 1) := by decide +kernel
theorem dX6_end_25 : decode cX6_end 25 = .ok (.iload_n 1, 1) := by decide +kernel
theorem dX6_end_26 : decode cX6_end 26 = .ok (.invokevirtual 196, 3) := by decide +kernel
theorem dX6_end_29 : decode cX6_end 29 = .ok (.return_, 1) := by decide +kernel
theorem dX6_takeBack_0 : decode cX6_takeBack 0 = .ok (.aload_n 0, 1) := by decide +kernel
theorem dX6_takeBack_1 : decode cX6_takeBack 1 = .ok (.iload_n 1, 1) := by decide +kernel
theorem dX6_takeBack_2 : decode cX6_takeBack 2 = .ok (.iconst 3, 1) := by decide +kernel
theorem dX6_takeBack_3 : decode cX6_takeBack 3 = .ok (.invokevirtual 174, 3) := by decide +kernel
theorem dX6_takeBack_6 : decode cX6_takeBack 6 = .ok (.istore_n 2, 1) := by decide +kernel
theorem dX6_takeBack_7 : decode cX6_takeBack 7 = .ok (.iload_n 2, 1) := by decide +kernel
theorem dX6_takeBack_8 : decode cX6_takeBack 8 = .ok (.iconst (-1), 1) := by decide +kernel
theorem dX6_takeBack_9 : decode cX6_takeBack 9 = .ok (.if_icmp .eq 24, 3) := by decide +kernel
theorem dX6_takeBack_12 : decode cX6_takeBack 12 = .ok (.aload_n 0, 1) := by decide +kernel
theorem dX6_takeBack_13 : decode cX6_takeBack 13 = .ok (.iload_n 2, 1) := by decide +kernel
theorem dX6_takeBack_14 : decode cX6_takeBack 14 = .ok (.iconst 2, 1) := by decide +kernel
theorem dX6_takeBack_15 : decode cX6_takeBack 15 = .ok (.invokevirtual 180, 3) := by decide +kernel
theorem dX6_takeBack_18 : decode cX6_takeBack 18 = .ok (.ifCond .eq 15, 3) := by decide +kernel
theorem dX6_takeBack_21 : decode cX6_takeBack 21 = .ok (.aload_n 0, 1) := by decide +kernel
theorem dX6_takeBack_22 : decode cX6_takeBack 22 = .ok (.getfield 17, 3) := by decide +kernel
theorem dX6_takeBack_25 : decode cX6_takeBack 25 = .ok (.iload_n 2, 1) := by decide +kernel
theorem dX6_takeBack_26 : decode cX6_takeBack 26 = .ok (.invokestatic 168, 3) := by decide +kernel
theorem dX6_takeBack_29 : decode cX6_takeBack 29 = .ok (.iconst 2, 1) := by decide +kernel
theorem dX6_takeBack_30 : decode cX6_takeBack 30 = .ok (.iadd, 1) := by decide +kernel
theorem dX6_takeBack_31 : decode cX6_takeBack 31 = .ok (.iconst 1, 1) := by decide +kernel
theorem dX6_takeBack_32 : decode cX6_takeBack 32 = .ok (.iastore, 1) := by decide +kernel
theorem dX6_takeBack_33 : decode cX6_takeBack 33 = .ok (.return_, 1) := by decide +kernel
theorem dX6_failCall_0 : decode cX6_failCall 0 = .ok (.aload_n 0, 1) := by decide +kernel
theorem dX6_failCall_1 : decode cX6_failCall 1 = .ok (.iconst 5, 1) := by decide +kernel
theorem dX6_failCall_2 : decode cX6_failCall 2 = .ok (.invokevirtual 199, 3) := by decide +kernel
theorem dX6_failCall_5 : decode cX6_failCall 5 = .ok (.aload_n 0, 1) := by decide +kernel
theorem dX6_failCall_6 : decode cX6_failCall 6 = .ok (.iload_n 1, 1) := by decide +kernel
theorem dX6_failCall_7 : decode cX6_failCall 7 = .ok (.invokevirtual 202, 3) := by decide +kernel
theorem dX6_failCall_10 : decode cX6_failCall 10 = .ok (.return_, 1) := by decide +kernel
theorem dX6_endAll_0 : decode cX6_endAll 0 = .ok (.iconst 0, 1) := by decide +kernel
theorem dX6_endAll_1 : decode cX6_endAll 1 = .ok (.istore 4, 2) := by decide +kernel
theorem dX6_endAll_3 : decode cX6_endAll 3 = .ok (.iload 4, 2) := by decide +kernel
theorem dX6_endAll_5 : decode cX6_endAll 5 = .ok (.aload_n 0, 1) := by decide +kernel
theorem dX6_endAll_6 : decode cX6_endAll 6 = .ok (.getfield 17, 3) := by decide +kernel
theorem dX6_endAll_9 : decode cX6_endAll 9 = .ok (.bipush 6, 2) := by decide +kernel
theorem dX6_endAll_11 : decode cX6_endAll 11 = .ok (.iaload, 1) := by decide +kernel
theorem dX6_endAll_12 : decode cX6_endAll 12 = .ok (.if_icmp .ge 43, 3) := by decide +kernel
theorem dX6_endAll_15 : decode cX6_endAll 15 = .ok (.iload 4, 2) := by decide +kernel
theorem dX6_endAll_17 : decode cX6_endAll 17 = .ok (.iload_n 2, 1) := by decide +kernel
theorem dX6_endAll_18 : decode cX6_endAll 18 = .ok (.if_icmp .eq 31, 3) := by decide +kernel
theorem dX6_endAll_21 : decode cX6_endAll 21 = .ok (.aload_n 0, 1) := by decide +kernel
theorem dX6_endAll_22 : decode cX6_endAll 22 = .ok (.iload 4, 2) := by decide +kernel
theorem dX6_endAll_24 : decode cX6_endAll 24 = .ok (.iconst 0, 1) := by decide +kernel
theorem dX6_endAll_25 : decode cX6_endAll 25 = .ok (.invokevirtual 171, 3) := by decide +kernel
theorem dX6_endAll_28 : decode cX6_endAll 28 = .ok (.iload_n 1, 1) := by decide +kernel
theorem dX6_endAll_29 : decode cX6_endAll 29 = .ok (.if_icmp .ne 20, 3) := by decide +kernel
theorem dX6_endAll_32 : decode cX6_endAll 32 = .ok (.aload_n 0, 1) := by decide +kernel
theorem dX6_endAll_33 : decode cX6_endAll 33 = .ok (.iload 4, 2) := by decide +kernel
theorem dX6_endAll_35 : decode cX6_endAll 35 = .ok (.iconst 0, 1) := by decide +kernel
theorem dX6_endAll_36 : decode cX6_endAll 36 = .ok (.invokevirtual 180, 3) := by decide +kernel
theorem dX6_endAll_39 : decode cX6_endAll 39 = .ok (.ifCond .eq 10, 3) := by decide +kernel
theorem dX6_endAll_42 : decode cX6_endAll 42 = .ok (.aload_n 0, 1) := by decide +kernel
theorem dX6_endAll_43 : decode cX6_endAll 43 = .ok (.iload 4, 2) := by decide +kernel
theorem dX6_endAll_45 : decode cX6_endAll 45 = .ok (.iload_n 3, 1) := by decide +kernel
theorem dX6_endAll_46 : decode cX6_endAll 46 = .ok (.invokevirtual 205, 3) := by decide +kernel
theorem dX6_endAll_49 : decode cX6_endAll 49 = .ok (.iinc 4 1, 3) := by decide +kernel
theorem dX6_endAll_52 : decode cX6_endAll 52 = .ok (.goto (-49), 3) := by decide +kernel
theorem dX6_endAll_55 : decode cX6_endAll 55 = .ok (.return_, 1) := by decide +kernel
theorem dX6_endAllTo_0 : decode cX6_endAllTo 0 = .ok (.lconst 0, 1) := by decide +kernel
theorem dX6_endAllTo_1 : decode cX6_endAllTo 1 = .ok (.lstore_n 3, 1) := by decide +kernel
theorem dX6_endAllTo_2 : decode cX6_endAllTo 2 = .ok (.iconst 0, 1) := by decide +kernel
theorem dX6_endAllTo_3 : decode cX6_endAllTo 3 = .ok (.istore 5, 2) := by decide +kernel
theorem dX6_endAllTo_5 : decode cX6_endAllTo 5 = .ok (.iload 5, 2) := by decide +kernel
theorem dX6_endAllTo_7 : decode cX6_endAllTo 7 = .ok (.aload_n 0, 1) := by decide +kernel
theorem dX6_endAllTo_8 : decode cX6_endAllTo 8 = .ok (.getfield 17, 3) := by decide +kernel
theorem dX6_endAllTo_11 : decode cX6_endAllTo 11 = .ok (.bipush 6, 2) := by decide +kernel
theorem dX6_endAllTo_13 : decode cX6_endAllTo 13 = .ok (.iaload, 1) := by decide +kernel
theorem dX6_endAllTo_14 : decode cX6_endAllTo 14 = .ok (.if_icmp .ge 52, 3) := by decide +kernel
theorem dX6_endAllTo_17 : decode cX6_endAllTo 17 = .ok (.aload_n 0, 1) := by decide +kernel
theorem dX6_endAllTo_18 : decode cX6_endAllTo 18 = .ok (.iload 5, 2) := by decide +kernel
theorem dX6_endAllTo_20 : decode cX6_endAllTo 20 = .ok (.iconst 1, 1) := by decide +kernel
theorem dX6_endAllTo_21 : decode cX6_endAllTo 21 = .ok (.invokevirtual 171, 3) := by decide +kernel
theorem dX6_endAllTo_24 : decode cX6_endAllTo 24 = .ok (.iload_n 1, 1) := by decide +kernel
theorem dX6_endAllTo_25 : decode cX6_endAllTo 25 = .ok (.if_icmp .ne 35, 3) := by decide +kernel
theorem dX6_endAllTo_28 : decode cX6_endAllTo 28 = .ok (.aload_n 0, 1) := by decide +kernel
theorem dX6_endAllTo_29 : decode cX6_endAllTo 29 = .ok (.iload 5, 2) := by decide +kernel
theorem dX6_endAllTo_31 : decode cX6_endAllTo 31 = .ok (.iconst 0, 1) := by decide +kernel
theorem dX6_endAllTo_32 : decode cX6_endAllTo 32 = .ok (.invokevirtual 180, 3) := by decide +kernel
theorem dX6_endAllTo_35 : decode cX6_endAllTo 35 = .ok (.ifCond .ne 6, 3) := by decide +kernel
theorem dX6_endAllTo_38 : decode cX6_endAllTo 38 = .ok (.goto 22, 3) := by decide +kernel
theorem dX6_endAllTo_41 : decode cX6_endAllTo 41 = .ok (.aload_n 0, 1) := by decide +kernel
theorem dX6_endAllTo_42 : decode cX6_endAllTo 42 = .ok (.iload 5, 2) := by decide +kernel
theorem dX6_endAllTo_44 : decode cX6_endAllTo 44 = .ok (.iload_n 2, 1) := by decide +kernel
theorem dX6_endAllTo_45 : decode cX6_endAllTo 45 = .ok (.invokevirtual 205, 3) := by decide +kernel
theorem dX6_endAllTo_48 : decode cX6_endAllTo 48 = .ok (.lload_n 3, 1) := by decide +kernel
theorem dX6_endAllTo_49 : decode cX6_endAllTo 49 = .ok (.lconst 1, 1) := by decide +kernel
theorem dX6_endAllTo_50 : decode cX6_endAllTo 50 = .ok (.aload_n 0, 1) := by decide +kernel
theorem dX6_endAllTo_51 : decode cX6_endAllTo 51 = .ok (.iload 5, 2) := by decide +kernel
theorem dX6_endAllTo_53 : decode cX6_endAllTo 53 = .ok (.iconst 0, 1) := by decide +kernel
theorem dX6_endAllTo_54 : decode cX6_endAllTo 54 = .ok (.invokevirtual 171, 3) := by decide +kernel
theorem dX6_endAllTo_57 : decode cX6_endAllTo 57 = .ok (.lshl, 1) := by decide +kernel
theorem dX6_endAllTo_58 : decode cX6_endAllTo 58 = .ok (.lor, 1) := by decide +kernel
theorem dX6_endAllTo_59 : decode cX6_endAllTo 59 = .ok (.lstore_n 3, 1) := by decide +kernel
theorem dX6_endAllTo_60 : decode cX6_endAllTo 60 = .ok (.iinc 5 1, 3) := by decide +kernel
theorem dX6_endAllTo_63 : decode cX6_endAllTo 63 = .ok (.goto (-58), 3) := by decide +kernel
theorem dX6_endAllTo_66 : decode cX6_endAllTo 66 = .ok (.iconst 0, 1) := by decide +kernel
theorem dX6_endAllTo_67 : decode cX6_endAllTo 67 = .ok (.istore 5, 2) := by decide +kernel
theorem dX6_endAllTo_69 : decode cX6_endAllTo 69 = .ok (.iload 5, 2) := by decide +kernel
theorem dX6_endAllTo_71 : decode cX6_endAllTo 71 = .ok (.aload_n 0, 1) := by decide +kernel
theorem dX6_endAllTo_72 : decode cX6_endAllTo 72 = .ok (.getfield 17, 3) := by decide +kernel
theorem dX6_endAllTo_75 : decode cX6_endAllTo 75 = .ok (.iconst 5, 1) := by decide +kernel
theorem dX6_endAllTo_76 : decode cX6_endAllTo 76 = .ok (.iaload, 1) := by decide +kernel
theorem dX6_endAllTo_77 : decode cX6_endAllTo 77 = .ok (.if_icmp .ge 35, 3) := by decide +kernel
theorem dX6_endAllTo_80 : decode cX6_endAllTo 80 = .ok (.lload_n 3, 1) := by decide +kernel
theorem dX6_endAllTo_81 : decode cX6_endAllTo 81 = .ok (.iload 5, 2) := by decide +kernel
theorem dX6_endAllTo_83 : decode cX6_endAllTo 83 = .ok (.lshr, 1) := by decide +kernel
theorem dX6_endAllTo_84 : decode cX6_endAllTo 84 = .ok (.lconst 1, 1) := by decide +kernel
theorem dX6_endAllTo_85 : decode cX6_endAllTo 85 = .ok (.land, 1) := by decide +kernel
theorem dX6_endAllTo_86 : decode cX6_endAllTo 86 = .ok (.lconst 1, 1) := by decide +kernel
theorem dX6_endAllTo_87 : decode cX6_endAllTo 87 = .ok (.lcmp, 1) := by decide +kernel
theorem dX6_endAllTo_88 : decode cX6_endAllTo 88 = .ok (.ifCond .ne 18, 3) := by decide +kernel
theorem dX6_endAllTo_91 : decode cX6_endAllTo 91 = .ok (.aload_n 0, 1) := by decide +kernel
theorem dX6_endAllTo_92 : decode cX6_endAllTo 92 = .ok (.iload 5, 2) := by decide +kernel
theorem dX6_endAllTo_94 : decode cX6_endAllTo 94 = .ok (.invokevirtual 187, 3) := by decide +kernel
theorem dX6_endAllTo_97 : decode cX6_endAllTo 97 = .ok (.ifCond .ne 9, 3) := by decide +kernel
theorem dX6_endAllTo_100 : decode cX6_endAllTo 100 = .ok (.aload_n 0, 1) := by decide +kernel
theorem dX6_endAllTo_101 : decode cX6_endAllTo 101 = .ok (.iload 5, 2) := by decide +kernel
theorem dX6_endAllTo_103 : decode cX6_endAllTo 103 = .ok (.invokevirtual 208, 3) := by decide +kernel
theorem dX6_endAllTo_106 : decode cX6_endAllTo 106 = .ok (.iinc 5 1, 3) := by decide +kernel
theorem dX6_endAllTo_109 : decode cX6_endAllTo 109 = .ok (.goto (-40), 3) := by decide +kernel
theorem dX6_endAllTo_112 : decode cX6_endAllTo 112 = .ok (.return_, 1) := by decide +kernel
theorem dX6_answer_0 : decode cX6_answer 0 = .ok (.aload_n 0, 1) := by decide +kernel
theorem dX6_answer_1 : decode cX6_answer 1 = .ok (.iload_n 1, 1) := by decide +kernel
theorem dX6_answer_2 : decode cX6_answer 2 = .ok (.iconst 0, 1) := by decide +kernel
theorem dX6_answer_3 : decode cX6_answer 3 = .ok (.invokevirtual 171, 3) := by decide +kernel
theorem dX6_answer_6 : decode cX6_answer 6 = .ok (.istore_n 2, 1) := by decide +kernel
theorem dX6_answer_7 : decode cX6_answer 7 = .ok (.aload_n 0, 1) := by decide +kernel
theorem dX6_answer_8 : decode cX6_answer 8 = .ok (.iload_n 2, 1) := by decide +kernel
theorem dX6_answer_9 : decode cX6_answer 9 = .ok (.iconst 3, 1) := by decide +kernel
theorem dX6_answer_10 : decode cX6_answer 10 = .ok (.invokevirtual 174, 3) := by decide +kernel
theorem dX6_answer_13 : decode cX6_answer 13 = .ok (.istore_n 3, 1) := by decide +kernel
theorem dX6_answer_14 : decode cX6_answer 14 = .ok (.aload_n 0, 1) := by decide +kernel
theorem dX6_answer_15 : decode cX6_answer 15 = .ok (.getfield 17, 3) := by decide +kernel
theorem dX6_answer_18 : decode cX6_answer 18 = .ok (.iload_n 1, 1) := by decide +kernel
theorem dX6_answer_19 : decode cX6_answer 19 = .ok (.invokestatic 168, 3) := by decide +kernel
theorem dX6_answer_22 : decode cX6_answer 22 = .ok (.iconst 2, 1) := by decide +kernel
theorem dX6_answer_23 : decode cX6_answer 23 = .ok (.iadd, 1) := by decide +kernel
theorem dX6_answer_24 : decode cX6_answer 24 = .ok (.iconst 1, 1) := by decide +kernel
theorem dX6_answer_25 : decode cX6_answer 25 = .ok (.iastore, 1) := by decide +kernel
theorem dX6_answer_26 : decode cX6_answer 26 = .ok (.aload_n 0, 1) := by decide +kernel
theorem dX6_answer_27 : decode cX6_answer 27 = .ok (.getfield 17, 3) := by decide +kernel
theorem dX6_answer_30 : decode cX6_answer 30 = .ok (.iload_n 2, 1) := by decide +kernel
theorem dX6_answer_31 : decode cX6_answer 31 = .ok (.invokestatic 165, 3) := by decide +kernel
theorem dX6_answer_34 : decode cX6_answer 34 = .ok (.iconst 4, 1) := by decide +kernel
theorem dX6_answer_35 : decode cX6_answer 35 = .ok (.iadd, 1) := by decide +kernel
theorem dX6_answer_36 : decode cX6_answer 36 = .ok (.iload_n 1, 1) := by decide +kernel
theorem dX6_answer_37 : decode cX6_answer 37 = .ok (.iastore, 1) := by decide +kernel
theorem dX6_answer_38 : decode cX6_answer 38 = .ok (.aload_n 0, 1) := by decide +kernel
theorem dX6_answer_39 : decode cX6_answer 39 = .ok (.iconst 4, 1) := by decide +kernel
theorem dX6_answer_40 : decode cX6_answer 40 = .ok (.invokevirtual 199, 3) := by decide +kernel
theorem dX6_answer_43 : decode cX6_answer 43 = .ok (.aload_n 0, 1) := by decide +kernel
theorem dX6_answer_44 : decode cX6_answer 44 = .ok (.iload_n 2, 1) := by decide +kernel
theorem dX6_answer_45 : decode cX6_answer 45 = .ok (.iload_n 1, 1) := by decide +kernel
theorem dX6_answer_46 : decode cX6_answer 46 = .ok (.iconst 2, 1) := by decide +kernel
theorem dX6_answer_47 : decode cX6_answer 47 = .ok (.invokevirtual 211, 3) := by decide +kernel
theorem dX6_answer_50 : decode cX6_answer 50 = .ok (.aload_n 0, 1) := by decide +kernel
theorem dX6_answer_51 : decode cX6_answer 51 = .ok (.aload_n 0, 1) := by decide +kernel
theorem dX6_answer_52 : decode cX6_answer 52 = .ok (.iload_n 1, 1) := by decide +kernel
theorem dX6_answer_53 : decode cX6_answer 53 = .ok (.iconst 1, 1) := by decide +kernel
theorem dX6_answer_54 : decode cX6_answer 54 = .ok (.invokevirtual 171, 3) := by decide +kernel
theorem dX6_answer_57 : decode cX6_answer 57 = .ok (.iconst 1, 1) := by decide +kernel
theorem dX6_answer_58 : decode cX6_answer 58 = .ok (.invokevirtual 215, 3) := by decide +kernel
theorem dX6_answer_61 : decode cX6_answer 61 = .ok (.iload_n 3, 1) := by decide +kernel
theorem dX6_answer_62 : decode cX6_answer 62 = .ok (.iconst (-1), 1) := by decide +kernel
theorem dX6_answer_63 : decode cX6_answer 63 = .ok (.if_icmp .eq 12, 3) := by decide +kernel
theorem dX6_answer_66 : decode cX6_answer 66 = .ok (.aload_n 0, 1) := by decide +kernel
theorem dX6_answer_67 : decode cX6_answer 67 = .ok (.iload_n 3, 1) := by decide +kernel
theorem dX6_answer_68 : decode cX6_answer 68 = .ok (.iconst 2, 1) := by decide +kernel
theorem dX6_answer_69 : decode cX6_answer 69 = .ok (.invokevirtual 180, 3) := by decide +kernel
theorem dX6_answer_72 : decode cX6_answer 72 = .ok (.ifCond .ne 4, 3) := by decide +kernel
theorem dX6_answer_75 : decode cX6_answer 75 = .ok (.return_, 1) := by decide +kernel
theorem dX6_answer_76 : decode cX6_answer 76 = .ok (.aload_n 0, 1) := by decide +kernel
theorem dX6_answer_77 : decode cX6_answer 77 = .ok (.iload_n 3, 1) := by decide +kernel
theorem dX6_answer_78 : decode cX6_answer 78 = .ok (.bipush 7, 2) := by decide +kernel
theorem dX6_answer_80 : decode cX6_answer 80 = .ok (.invokevirtual 205, 3) := by decide +kernel
theorem dX6_answer_83 : decode cX6_answer 83 = .ok (.aload_n 0, 1) := by decide +kernel
theorem dX6_answer_84 : decode cX6_answer 84 = .ok (.bipush 6, 2) := by decide +kernel
theorem dX6_answer_86 : decode cX6_answer 86 = .ok (.invokevirtual 199, 3) := by decide +kernel
theorem dX6_answer_89 : decode cX6_answer 89 = .ok (.return_, 1) := by decide +kernel
theorem dX6_limited_0 : decode cX6_limited 0 = .ok (.lload_n 0, 1) := by decide +kernel
theorem dX6_limited_1 : decode cX6_limited 1 = .ok (.ldc2_w 218, 3) := by decide +kernel
theorem dX6_limited_4 : decode cX6_limited 4 = .ok (.lcmp, 1) := by decide +kernel
theorem dX6_limited_5 : decode cX6_limited 5 = .ok (.ifCond .le 9, 3) := by decide +kernel
theorem dX6_limited_8 : decode cX6_limited 8 = .ok (.ldc2_w 218, 3) := by decide +kernel
theorem dX6_limited_11 : decode cX6_limited 11 = .ok (.goto 18, 3) := by decide +kernel
theorem dX6_limited_14 : decode cX6_limited 14 = .ok (.lload_n 0, 1) := by decide +kernel
theorem dX6_limited_15 : decode cX6_limited 15 = .ok (.ldc2_w 220, 3) := by decide +kernel
theorem dX6_limited_18 : decode cX6_limited 18 = .ok (.lcmp, 1) := by decide +kernel
theorem dX6_limited_19 : decode cX6_limited 19 = .ok (.ifCond .ge 9, 3) := by decide +kernel
theorem dX6_limited_22 : decode cX6_limited 22 = .ok (.ldc2_w 220, 3) := by decide +kernel
theorem dX6_limited_25 : decode cX6_limited 25 = .ok (.goto 4, 3) := by decide +kernel
theorem dX6_limited_28 : decode cX6_limited 28 = .ok (.lload_n 0, 1) := by decide +kernel
theorem dX6_limited_29 : decode cX6_limited 29 = .ok (.lreturn, 1) := by decide +kernel
theorem dX6_operate_0 : decode cX6_operate 0 = .ok (.iload_n 0, 1) := by decide +kernel
theorem dX6_operate_1 : decode cX6_operate 1 = .ok (.iconst 5, 1) := by decide +kernel
theorem dX6_operate_2 : decode cX6_operate 2 = .ok (.if_icmp .ne 17, 3) := by decide +kernel
theorem dX6_operate_5 : decode cX6_operate 5 = .ok (.lload_n 3, 1) := by decide +kernel
theorem dX6_operate_6 : decode cX6_operate 6 = .ok (.lconst 0, 1) := by decide +kernel
theorem dX6_operate_7 : decode cX6_operate 7 = .ok (.lcmp, 1) := by decide +kernel
theorem dX6_operate_8 : decode cX6_operate 8 = .ok (.ifCond .ne 7, 3) := by decide +kernel
theorem dX6_operate_11 : decode cX6_operate 11 = .ok (.lconst 0, 1) := by decide +kernel
theorem dX6_operate_12 : decode cX6_operate 12 = .ok (.goto 6, 3) := by decide +kernel
theorem dX6_operate_15 : decode cX6_operate 15 = .ok (.lload_n 1, 1) := by decide +kernel
theorem dX6_operate_16 : decode cX6_operate 16 = .ok (.lload_n 3, 1) := by decide +kernel
theorem dX6_operate_17 : decode cX6_operate 17 = .ok (.ldiv, 1) := by decide +kernel
theorem dX6_operate_18 : decode cX6_operate 18 = .ok (.lreturn, 1) := by decide +kernel
theorem dX6_operate_19 : decode cX6_operate 19 = .ok (.iload_n 0, 1) := by decide +kernel
theorem dX6_operate_20 : decode cX6_operate 20 = .ok (.iconst 2, 1) := by decide +kernel
theorem dX6_operate_21 : decode cX6_operate 21 = .ok (.if_icmp .ne 9, 3) := by decide +kernel
theorem dX6_operate_24 : decode cX6_operate 24 = .ok (.lload_n 1, 1) := by decide +kernel
theorem dX6_operate_25 : decode cX6_operate 25 = .ok (.lload_n 3, 1) := by decide +kernel
theorem dX6_operate_26 : decode cX6_operate 26 = .ok (.ladd, 1) := by decide +kernel
theorem dX6_operate_27 : decode cX6_operate 27 = .ok (.goto 17, 3) := by decide +kernel
theorem dX6_operate_30 : decode cX6_operate 30 = .ok (.iload_n 0, 1) := by decide +kernel
theorem dX6_operate_31 : decode cX6_operate 31 = .ok (.iconst 3, 1) := by decide +kernel
theorem dX6_operate_32 : decode cX6_operate 32 = .ok (.if_icmp .ne 9, 3) := by decide +kernel
theorem dX6_operate_35 : decode cX6_operate 35 = .ok (.lload_n 1, 1) := by decide +kernel
theorem dX6_operate_36 : decode cX6_operate 36 = .ok (.lload_n 3, 1) := by decide +kernel
theorem dX6_operate_37 : decode cX6_operate 37 = .ok (.lsub, 1) := by decide +kernel
theorem dX6_operate_38 : decode cX6_operate 38 = .ok (.goto 6, 3) := by decide +kernel
theorem dX6_operate_41 : decode cX6_operate 41 = .ok (.lload_n 1, 1) := by decide +kernel
theorem dX6_operate_42 : decode cX6_operate 42 = .ok (.lload_n 3, 1) := by decide +kernel
theorem dX6_operate_43 : decode cX6_operate 43 = .ok (.lmul, 1) := by decide +kernel
theorem dX6_operate_44 : decode cX6_operate 44 = .ok (.invokestatic 222, 3) := by decide +kernel
theorem dX6_operate_47 : decode cX6_operate 47 = .ok (.lreturn, 1) := by decide +kernel
theorem dX6_ringTime_0 : decode cX6_ringTime 0 = .ok (.iconst 0, 1) := by decide +kernel
theorem dX6_ringTime_1 : decode cX6_ringTime 1 = .ok (.istore 4, 2) := by decide +kernel
theorem dX6_ringTime_3 : decode cX6_ringTime 3 = .ok (.aload_n 0, 1) := by decide +kernel
theorem dX6_ringTime_4 : decode cX6_ringTime 4 = .ok (.getfield 31, 3) := by decide +kernel
theorem dX6_ringTime_7 : decode cX6_ringTime 7 = .ok (.iconst 0, 1) := by decide +kernel
theorem dX6_ringTime_8 : decode cX6_ringTime 8 = .ok (.ldc2_w 226, 3) := by decide +kernel
theorem dX6_ringTime_11 : decode cX6_ringTime 11 = .ok (.lastore, 1) := by decide +kernel
theorem dX6_ringTime_12 : decode cX6_ringTime 12 = .ok (.iconst 0, 1) := by decide +kernel
theorem dX6_ringTime_13 : decode cX6_ringTime 13 = .ok (.istore 5, 2) := by decide +kernel
theorem dX6_ringTime_15 : decode cX6_ringTime 15 = .ok (.iload 5, 2) := by decide +kernel
theorem dX6_ringTime_17 : decode cX6_ringTime 17 = .ok (.aload_n 0, 1) := by decide +kernel
theorem dX6_ringTime_18 : decode cX6_ringTime 18 = .ok (.getfield 17, 3) := by decide +kernel
theorem dX6_ringTime_21 : decode cX6_ringTime 21 = .ok (.bipush 8, 2) := by decide +kernel
theorem dX6_ringTime_23 : decode cX6_ringTime 23 = .ok (.iaload, 1) := by decide +kernel
theorem dX6_ringTime_24 : decode cX6_ringTime 24 = .ok (.if_icmp .ge 140, 3) := by decide +kernel
theorem dX6_ringTime_27 : decode cX6_ringTime 27 = .ok (.aload_n 0, 1) := by decide +kernel
theorem dX6_ringTime_28 : decode cX6_ringTime 28 = .ok (.getfield 17, 3) := by decide +kernel
theorem dX6_ringTime_31 : decode cX6_ringTime 31 = .ok (.sipush 666, 3) := by decide +kernel
theorem dX6_ringTime_34 : decode cX6_ringTime 34 = .ok (.iload 5, 2) := by decide +kernel
theorem dX6_ringTime_36 : decode cX6_ringTime 36 = .ok (.iadd, 1) := by decide +kernel
theorem dX6_ringTime_37 : decode cX6_ringTime 37 = .ok (.iaload, 1) := by decide +kernel
theorem dX6_ringTime_38 : decode cX6_ringTime 38 = .ok (.istore 6, 2) := by decide +kernel
theorem dX6_ringTime_40 : decode cX6_ringTime 40 = .ok (.iload 6, 2) := by decide +kernel
theorem dX6_ringTime_42 : decode cX6_ringTime 42 = .ok (.iconst 1, 1) := by decide +kernel
theorem dX6_ringTime_43 : decode cX6_ringTime 43 = .ok (.if_icmp .gt 82, 3) := by decide +kernel
theorem dX6_ringTime_46 : decode cX6_ringTime 46 = .ok (.iinc 5 1, 3) := by decide +kernel
theorem dX6_ringTime_49 : decode cX6_ringTime 49 = .ok (.aload_n 0, 1) := by decide +kernel
theorem dX6_ringTime_50 : decode cX6_ringTime 50 = .ok (.getfield 17, 3) := by decide +kernel
theorem dX6_ringTime_53 : decode cX6_ringTime 53 = .ok (.sipush 666, 3) := by decide +kernel
theorem dX6_ringTime_56 : decode cX6_ringTime 56 = .ok (.iload 5, 2) := by decide +kernel
theorem dX6_ringTime_58 : decode cX6_ringTime 58 = .ok (.iadd, 1) := by decide +kernel
theorem dX6_ringTime_59 : decode cX6_ringTime 59 = .ok (.iaload, 1) := by decide +kernel
theorem dX6_ringTime_60 : decode cX6_ringTime 60 = .ok (.istore 7, 2) := by decide +kernel
theorem dX6_ringTime_62 : decode cX6_ringTime 62 = .ok (.aload_n 0, 1) := by decide +kernel
theorem dX6_ringTime_63 : decode cX6_ringTime 63 = .ok (.getfield 31, 3) := by decide +kernel
theorem dX6_ringTime_66 : decode cX6_ringTime 66 = .ok (.iload 4, 2) := by decide +kernel
theorem dX6_ringTime_68 : decode cX6_ringTime 68 = .ok (.iload 6, 2) := by decide +kernel
theorem dX6_ringTime_70 : decode cX6_ringTime 70 = .ok (.ifCond .ne 9, 3) := by decide +kernel
theorem dX6_ringTime_73 : decode cX6_ringTime 73 = .ok (.iload 7, 2) := by decide +kernel
theorem dX6_ringTime_75 : decode cX6_ringTime 75 = .ok (.i2l, 1) := by decide +kernel
theorem dX6_ringTime_76 : decode cX6_ringTime 76 = .ok (.goto 42, 3) := by decide +kernel
theorem dX6_ringTime_79 : decode cX6_ringTime 79 = .ok (.iload 7, 2) := by decide +kernel
theorem dX6_ringTime_81 : decode cX6_ringTime 81 = .ok (.ifCond .ne 8, 3) := by decide +kernel
theorem dX6_ringTime_84 : decode cX6_ringTime 84 = .ok (.iload_n 1, 1) := by decide +kernel
theorem dX6_ringTime_85 : decode cX6_ringTime 85 = .ok (.i2l, 1) := by decide +kernel
theorem dX6_ringTime_86 : decode cX6_ringTime 86 = .ok (.goto 32, 3) := by decide +kernel
theorem dX6_ringTime_89 : decode cX6_ringTime 89 = .ok (.iload 7, 2) := by decide +kernel
theorem dX6_ringTime_91 : decode cX6_ringTime 91 = .ok (.iconst 1, 1) := by decide +kernel
theorem dX6_ringTime_92 : decode cX6_ringTime 92 = .ok (.if_icmp .ne 8, 3) := by decide +kernel
theorem dX6_ringTime_95 : decode cX6_ringTime 95 = .ok (.iload_n 2, 1) := by decide +kernel
theorem dX6_ringTime_96 : decode cX6_ringTime 96 = .ok (.i2l, 1) := by decide +kernel
theorem dX6_ringTime_97 : decode cX6_ringTime 97 = .ok (.goto 21, 3) := by decide +kernel
theorem dX6_ringTime_100 : decode cX6_ringTime 100 = .ok (.iload 7, 2) := by decide +kernel
theorem dX6_ringTime_102 : decode cX6_ringTime 102 = .ok (.iconst 2, 1) := by decide +kernel
theorem dX6_ringTime_103 : decode cX6_ringTime 103 = .ok (.if_icmp .ne 8, 3) := by decide +kernel
theorem dX6_ringTime_106 : decode cX6_ringTime 106 = .ok (.iload_n 3, 1) := by decide +kernel
theorem dX6_ringTime_107 : decode cX6_ringTime 107 = .ok (.i2l, 1) := by decide +kernel
theorem dX6_ringTime_108 : decode cX6_ringTime 108 = .ok (.goto 10, 3) := by decide +kernel
theorem dX6_ringTime_111 : decode cX6_ringTime 111 = .ok (.aload_n 0, 1) := by decide +kernel
theorem dX6_ringTime_112 : decode cX6_ringTime 112 = .ok (.getfield 17, 3) := by decide +kernel
theorem dX6_ringTime_115 : decode cX6_ringTime 115 = .ok (.iconst 0, 1) := by decide +kernel
theorem dX6_ringTime_116 : decode cX6_ringTime 116 = .ok (.iaload, 1) := by decide +kernel
theorem dX6_ringTime_117 : decode cX6_ringTime 117 = .ok (.i2l, 1) := by decide +kernel
theorem dX6_ringTime_118 : decode cX6_ringTime 118 = .ok (.lastore, 1) := by decide +kernel
theorem dX6_ringTime_119 : decode cX6_ringTime 119 = .ok (.iinc 4 1, 3) := by decide +kernel
theorem dX6_ringTime_122 : decode cX6_ringTime 122 = .ok (.goto 36, 3) := by decide +kernel
theorem dX6_ringTime_125 : decode cX6_ringTime 125 = .ok (.iinc 4 (-1), 3) := by decide +kernel
theorem dX6_ringTime_128 : decode cX6_ringTime 128 = .ok (.aload_n 0, 1) := by decide +kernel
theorem dX6_ringTime_129 : decode cX6_ringTime 129 = .ok (.getfield 31, 3) := by decide +kernel
theorem dX6_ringTime_132 : decode cX6_ringTime 132 = .ok (.iload 4, 2) := by decide +kernel
theorem dX6_ringTime_134 : decode cX6_ringTime 134 = .ok (.iconst 1, 1) := by decide +kernel
theorem dX6_ringTime_135 : decode cX6_ringTime 135 = .ok (.isub, 1) := by decide +kernel
theorem dX6_ringTime_136 : decode cX6_ringTime 136 = .ok (.iload 6, 2) := by decide +kernel
theorem dX6_ringTime_138 : decode cX6_ringTime 138 = .ok (.aload_n 0, 1) := by decide +kernel
theorem dX6_ringTime_139 : decode cX6_ringTime 139 = .ok (.getfield 31, 3) := by decide +kernel
theorem dX6_ringTime_142 : decode cX6_ringTime 142 = .ok (.iload 4, 2) := by decide +kernel
theorem dX6_ringTime_144 : decode cX6_ringTime 144 = .ok (.iconst 1, 1) := by decide +kernel
theorem dX6_ringTime_145 : decode cX6_ringTime 145 = .ok (.isub, 1) := by decide +kernel
theorem dX6_ringTime_146 : decode cX6_ringTime 146 = .ok (.laload, 1) := by decide +kernel
theorem dX6_ringTime_147 : decode cX6_ringTime 147 = .ok (.aload_n 0, 1) := by decide +kernel
theorem dX6_ringTime_148 : decode cX6_ringTime 148 = .ok (.getfield 31, 3) := by decide +kernel
theorem dX6_ringTime_151 : decode cX6_ringTime 151 = .ok (.iload 4, 2) := by decide +kernel
theorem dX6_ringTime_153 : decode cX6_ringTime 153 = .ok (.laload, 1) := by decide +kernel
theorem dX6_ringTime_154 : decode cX6_ringTime 154 = .ok (.invokestatic 228, 3) := by decide +kernel
theorem dX6_ringTime_157 : decode cX6_ringTime 157 = .ok (.lastore, 1) := by decide +kernel
theorem dX6_ringTime_158 : decode cX6_ringTime 158 = .ok (.iinc 5 1, 3) := by decide +kernel
theorem dX6_ringTime_161 : decode cX6_ringTime 161 = .ok (.goto (-146), 3) := by decide +kernel
theorem dX6_ringTime_164 : decode cX6_ringTime 164 = .ok (.aload_n 0, 1) := by decide +kernel
theorem dX6_ringTime_165 : decode cX6_ringTime 165 = .ok (.getfield 31, 3) := by decide +kernel
theorem dX6_ringTime_168 : decode cX6_ringTime 168 = .ok (.iconst 0, 1) := by decide +kernel
theorem dX6_ringTime_169 : decode cX6_ringTime 169 = .ok (.laload, 1) := by decide +kernel
theorem dX6_ringTime_170 : decode cX6_ringTime 170 = .ok (.lconst 1, 1) := by decide +kernel
theorem dX6_ringTime_171 : decode cX6_ringTime 171 = .ok (.lcmp, 1) := by decide +kernel
theorem dX6_ringTime_172 : decode cX6_ringTime 172 = .ok (.ifCond .ge 7, 3) := by decide +kernel
theorem dX6_ringTime_175 : decode cX6_ringTime 175 = .ok (.iconst 1, 1) := by decide +kernel
theorem dX6_ringTime_176 : decode cX6_ringTime 176 = .ok (.goto 28, 3) := by decide +kernel
theorem dX6_ringTime_179 : decode cX6_ringTime 179 = .ok (.aload_n 0, 1) := by decide +kernel
theorem dX6_ringTime_180 : decode cX6_ringTime 180 = .ok (.getfield 31, 3) := by decide +kernel
theorem dX6_ringTime_183 : decode cX6_ringTime 183 = .ok (.iconst 0, 1) := by decide +kernel
theorem dX6_ringTime_184 : decode cX6_ringTime 184 = .ok (.laload, 1) := by decide +kernel
theorem dX6_ringTime_185 : decode cX6_ringTime 185 = .ok (.ldc2_w 232, 3) := by decide +kernel
theorem dX6_ringTime_188 : decode cX6_ringTime 188 = .ok (.lcmp, 1) := by decide +kernel
theorem dX6_ringTime_189 : decode cX6_ringTime 189 = .ok (.ifCond .le 8, 3) := by decide +kernel
theorem dX6_ringTime_192 : decode cX6_ringTime 192 = .ok (.bipush 99, 2) := by decide +kernel
theorem dX6_ringTime_194 : decode cX6_ringTime 194 = .ok (.goto 10, 3) := by decide +kernel
theorem dX6_ringTime_197 : decode cX6_ringTime 197 = .ok (.aload_n 0, 1) := by decide +kernel
theorem dX6_ringTime_198 : decode cX6_ringTime 198 = .ok (.getfield 31, 3) := by decide +kernel
theorem dX6_ringTime_201 : decode cX6_ringTime 201 = .ok (.iconst 0, 1) := by decide +kernel
theorem dX6_ringTime_202 : decode cX6_ringTime 202 = .ok (.laload, 1) := by decide +kernel
theorem dX6_ringTime_203 : decode cX6_ringTime 203 = .ok (.l2i, 1) := by decide +kernel
theorem dX6_ringTime_204 : decode cX6_ringTime 204 = .ok (.ireturn, 1) := by decide +kernel
theorem dX6_makeLeg_0 : decode cX6_makeLeg 0 = .ok (.aload_n 0, 1) := by decide +kernel
theorem dX6_makeLeg_1 : decode cX6_makeLeg 1 = .ok (.getfield 17, 3) := by decide +kernel
theorem dX6_makeLeg_4 : decode cX6_makeLeg 4 = .ok (.bipush 6, 2) := by decide +kernel
theorem dX6_makeLeg_6 : decode cX6_makeLeg 6 = .ok (.iaload, 1) := by decide +kernel
theorem dX6_makeLeg_7 : decode cX6_makeLeg 7 = .ok (.istore_n 3, 1) := by decide +kernel
theorem dX6_makeLeg_8 : decode cX6_makeLeg 8 = .ok (.iload_n 3, 1) := by decide +kernel
theorem dX6_makeLeg_9 : decode cX6_makeLeg 9 = .ok (.invokestatic 168, 3) := by decide +kernel
theorem dX6_makeLeg_12 : decode cX6_makeLeg 12 = .ok (.istore 4, 2) := by decide +kernel
theorem dX6_makeLeg_14 : decode cX6_makeLeg 14 = .ok (.aload_n 0, 1) := by decide +kernel
theorem dX6_makeLeg_15 : decode cX6_makeLeg 15 = .ok (.iload_n 2, 1) := by decide +kernel
theorem dX6_makeLeg_16 : decode cX6_makeLeg 16 = .ok (.invokevirtual 234, 3) := by decide +kernel
theorem dX6_makeLeg_19 : decode cX6_makeLeg 19 = .ok (.istore 5, 2) := by decide +kernel
theorem dX6_makeLeg_21 : decode cX6_makeLeg 21 = .ok (.iconst 0, 1) := by decide +kernel
theorem dX6_makeLeg_22 : decode cX6_makeLeg 22 = .ok (.istore 6, 2) := by decide +kernel
theorem dX6_makeLeg_24 : decode cX6_makeLeg 24 = .ok (.iload 6, 2) := by decide +kernel
theorem dX6_makeLeg_26 : decode cX6_makeLeg 26 = .ok (.bipush 13, 2) := by decide +kernel
theorem dX6_makeLeg_28 : decode cX6_makeLeg 28 = .ok (.if_icmp .ge 20, 3) := by decide +kernel
theorem dX6_makeLeg_31 : decode cX6_makeLeg 31 = .ok (.aload_n 0, 1) := by decide +kernel
theorem dX6_makeLeg_32 : decode cX6_makeLeg 32 = .ok (.getfield 17, 3) := by decide +kernel
theorem dX6_makeLeg_35 : decode cX6_makeLeg 35 = .ok (.iload 4, 2) := by decide +kernel
theorem dX6_makeLeg_37 : decode cX6_makeLeg 37 = .ok (.iload 6, 2) := by decide +kernel
theorem dX6_makeLeg_39 : decode cX6_makeLeg 39 = .ok (.iadd, 1) := by decide +kernel
theorem dX6_makeLeg_40 : decode cX6_makeLeg 40 = .ok (.iconst 0, 1) := by decide +kernel
theorem dX6_makeLeg_41 : decode cX6_makeLeg 41 = .ok (.iastore, 1) := by decide +kernel
theorem dX6_makeLeg_42 : decode cX6_makeLeg 42 = .ok (.iinc 6 1, 3) := by decide +kernel
theorem dX6_makeLeg_45 : decode cX6_makeLeg 45 = .ok (.goto (-21), 3) := by decide +kernel
theorem dX6_makeLeg_48 : decode cX6_makeLeg 48 = .ok (.aload_n 0, 1) := by decide +kernel
theorem dX6_makeLeg_49 : decode cX6_makeLeg 49 = .ok (.getfield 17, 3) := by decide +kernel
theorem dX6_makeLeg_52 : decode cX6_makeLeg 52 = .ok (.iload 4, 2) := by decide +kernel
theorem dX6_makeLeg_54 : decode cX6_makeLeg 54 = .ok (.iconst 0, 1) := by decide +kernel
theorem dX6_makeLeg_55 : decode cX6_makeLeg 55 = .ok (.iadd, 1) := by decide +kernel
theorem dX6_makeLeg_56 : decode cX6_makeLeg 56 = .ok (.iload_n 1, 1) := by decide +kernel
theorem dX6_makeLeg_57 : decode cX6_makeLeg 57 = .ok (.iastore, 1) := by decide +kernel
theorem dX6_makeLeg_58 : decode cX6_makeLeg 58 = .ok (.aload_n 0, 1) := by decide +kernel
theorem dX6_makeLeg_59 : decode cX6_makeLeg 59 = .ok (.getfield 17, 3) := by decide +kernel
theorem dX6_makeLeg_62 : decode cX6_makeLeg 62 = .ok (.iload 4, 2) := by decide +kernel
theorem dX6_makeLeg_64 : decode cX6_makeLeg 64 = .ok (.iconst 1, 1) := by decide +kernel
theorem dX6_makeLeg_65 : decode cX6_makeLeg 65 = .ok (.iadd, 1) := by decide +kernel
theorem dX6_makeLeg_66 : decode cX6_makeLeg 66 = .ok (.iload_n 2, 1) := by decide +kernel
theorem dX6_makeLeg_67 : decode cX6_makeLeg 67 = .ok (.iastore, 1) := by decide +kernel
theorem dX6_makeLeg_68 : decode cX6_makeLeg 68 = .ok (.aload_n 0, 1) := by decide +kernel
theorem dX6_makeLeg_69 : decode cX6_makeLeg 69 = .ok (.getfield 17, 3) := by decide +kernel
theorem dX6_makeLeg_72 : decode cX6_makeLeg 72 = .ok (.iload 4, 2) := by decide +kernel
theorem dX6_makeLeg_74 : decode cX6_makeLeg 74 = .ok (.iconst 2, 1) := by decide +kernel
theorem dX6_makeLeg_75 : decode cX6_makeLeg 75 = .ok (.iadd, 1) := by decide +kernel
theorem dX6_makeLeg_76 : decode cX6_makeLeg 76 = .ok (.iconst 0, 1) := by decide +kernel
theorem dX6_makeLeg_77 : decode cX6_makeLeg 77 = .ok (.iastore, 1) := by decide +kernel
theorem dX6_makeLeg_78 : decode cX6_makeLeg 78 = .ok (.aload_n 0, 1) := by decide +kernel
theorem dX6_makeLeg_79 : decode cX6_makeLeg 79 = .ok (.iload_n 3, 1) := by decide +kernel
theorem dX6_makeLeg_80 : decode cX6_makeLeg 80 = .ok (.invokevirtual 196, 3) := by decide +kernel
theorem dX6_makeLeg_83 : decode cX6_makeLeg 83 = .ok (.aload_n 0, 1) := by decide +kernel
theorem dX6_makeLeg_84 : decode cX6_makeLeg 84 = .ok (.getfield 17, 3) := by decide +kernel
theorem dX6_makeLeg_87 : decode cX6_makeLeg 87 = .ok (.bipush 6, 2) := by decide +kernel
theorem dX6_makeLeg_89 : decode cX6_makeLeg 89 = .ok (.dup2, 1) := by decide +kernel
theorem dX6_makeLeg_90 : decode cX6_makeLeg 90 = .ok (.iaload, 1) := by decide +kernel
theorem dX6_makeLeg_91 : decode cX6_makeLeg 91 = .ok (.iconst 1, 1) := by decide +kernel
theorem dX6_makeLeg_92 : decode cX6_makeLeg 92 = .ok (.iadd, 1) := by decide +kernel
theorem dX6_makeLeg_93 : decode cX6_makeLeg 93 = .ok (.iastore, 1) := by decide +kernel
theorem dX6_makeLeg_94 : decode cX6_makeLeg 94 = .ok (.iload 5, 2) := by decide +kernel
theorem dX6_makeLeg_96 : decode cX6_makeLeg 96 = .ok (.ifCond .eq 9, 3) := by decide +kernel
theorem dX6_makeLeg_99 : decode cX6_makeLeg 99 = .ok (.aload_n 0, 1) := by decide +kernel
theorem dX6_makeLeg_100 : decode cX6_makeLeg 100 = .ok (.iload_n 3, 1) := by decide +kernel
theorem dX6_makeLeg_101 : decode cX6_makeLeg 101 = .ok (.iconst 1, 1) := by decide +kernel
theorem dX6_makeLeg_102 : decode cX6_makeLeg 102 = .ok (.invokevirtual 205, 3) := by decide +kernel
theorem dX6_makeLeg_105 : decode cX6_makeLeg 105 = .ok (.return_, 1) := by decide +kernel
theorem dX6_beginCall_0 : decode cX6_beginCall 0 = .ok (.aload_n 0, 1) := by decide +kernel
theorem dX6_beginCall_1 : decode cX6_beginCall 1 = .ok (.getfield 17, 3) := by decide +kernel
theorem dX6_beginCall_4 : decode cX6_beginCall 4 = .ok (.iconst 5, 1) := by decide +kernel
theorem dX6_beginCall_5 : decode cX6_beginCall 5 = .ok (.iaload, 1) := by decide +kernel
theorem dX6_beginCall_6 : decode cX6_beginCall 6 = .ok (.istore 4, 2) := by decide +kernel
theorem dX6_beginCall_8 : decode cX6_beginCall 8 = .ok (.iload 4, 2) := by decide +kernel
theorem dX6_beginCall_10 : decode cX6_beginCall 10 = .ok (.invokestatic 165, 3) := by decide +kernel
theorem dX6_beginCall_13 : decode cX6_beginCall 13 = .ok (.istore 5, 2) := by decide +kernel
theorem dX6_beginCall_15 : decode cX6_beginCall 15 = .ok (.iconst 0, 1) := by decide +kernel
theorem dX6_beginCall_16 : decode cX6_beginCall 16 = .ok (.istore 6, 2) := by decide +kernel
theorem dX6_beginCall_18 : decode cX6_beginCall 18 = .ok (.iconst 0, 1) := by decide +kernel
theorem dX6_beginCall_19 : decode cX6_beginCall 19 = .ok (.istore 7, 2) := by decide +kernel
theorem dX6_beginCall_21 : decode cX6_beginCall 21 = .ok (.iconst 0, 1) := by decide +kernel
theorem dX6_beginCall_22 : decode cX6_beginCall 22 = .ok (.istore 8, 2) := by decide +kernel
theorem dX6_beginCall_24 : decode cX6_beginCall 24 = .ok (.iload 8, 2) := by decide +kernel
theorem dX6_beginCall_26 : decode cX6_beginCall 26 = .ok (.bipush 10, 2) := by decide +kernel
theorem dX6_beginCall_28 : decode cX6_beginCall 28 = .ok (.if_icmp .ge 20, 3) := by decide +kernel
theorem dX6_beginCall_31 : decode cX6_beginCall 31 = .ok (.iload 6, 2) := by decide +kernel
theorem dX6_beginCall_33 : decode cX6_beginCall 33 = .ok (.iload_n 2, 1) := by decide +kernel
theorem dX6_beginCall_34 : decode cX6_beginCall 34 = .ok (.iload 8, 2) := by decide +kernel
theorem dX6_beginCall_36 : decode cX6_beginCall 36 = .ok (.ishr, 1) := by decide +kernel
theorem dX6_beginCall_37 : decode cX6_beginCall 37 = .ok (.iconst 1, 1) := by decide +kernel
theorem dX6_beginCall_38 : decode cX6_beginCall 38 = .ok (.iand, 1) := by decide +kernel
theorem dX6_beginCall_39 : decode cX6_beginCall 39 = .ok (.iadd, 1) := by decide +kernel
theorem dX6_beginCall_40 : decode cX6_beginCall 40 = .ok (.istore 6, 2) := by decide +kernel
theorem dX6_beginCall_42 : decode cX6_beginCall 42 = .ok (.iinc 8 1, 3) := by decide +kernel
theorem dX6_beginCall_45 : decode cX6_beginCall 45 = .ok (.goto (-21), 3) := by decide +kernel
theorem dX6_beginCall_48 : decode cX6_beginCall 48 = .ok (.aload_n 0, 1) := by decide +kernel
theorem dX6_beginCall_49 : decode cX6_beginCall 49 = .ok (.getfield 17, 3) := by decide +kernel
theorem dX6_beginCall_52 : decode cX6_beginCall 52 = .ok (.iload 5, 2) := by decide +kernel
theorem dX6_beginCall_54 : decode cX6_beginCall 54 = .ok (.iconst 0, 1) := by decide +kernel
theorem dX6_beginCall_55 : decode cX6_beginCall 55 = .ok (.iadd, 1) := by decide +kernel
theorem dX6_beginCall_56 : decode cX6_beginCall 56 = .ok (.iload_n 1, 1) := by decide +kernel
theorem dX6_beginCall_57 : decode cX6_beginCall 57 = .ok (.iastore, 1) := by decide +kernel
theorem dX6_beginCall_58 : decode cX6_beginCall 58 = .ok (.aload_n 0, 1) := by decide +kernel
theorem dX6_beginCall_59 : decode cX6_beginCall 59 = .ok (.getfield 17, 3) := by decide +kernel
theorem dX6_beginCall_62 : decode cX6_beginCall 62 = .ok (.iload 5, 2) := by decide +kernel
theorem dX6_beginCall_64 : decode cX6_beginCall 64 = .ok (.iconst 1, 1) := by decide +kernel
theorem dX6_beginCall_65 : decode cX6_beginCall 65 = .ok (.iadd, 1) := by decide +kernel
theorem dX6_beginCall_66 : decode cX6_beginCall 66 = .ok (.aload_n 0, 1) := by decide +kernel
theorem dX6_beginCall_67 : decode cX6_beginCall 67 = .ok (.getfield 17, 3) := by decide +kernel
theorem dX6_beginCall_70 : decode cX6_beginCall 70 = .ok (.iconst 0, 1) := by decide +kernel
theorem dX6_beginCall_71 : decode cX6_beginCall 71 = .ok (.iaload, 1) := by decide +kernel
theorem dX6_beginCall_72 : decode cX6_beginCall 72 = .ok (.iastore, 1) := by decide +kernel
theorem dX6_beginCall_73 : decode cX6_beginCall 73 = .ok (.aload_n 0, 1) := by decide +kernel
theorem dX6_beginCall_74 : decode cX6_beginCall 74 = .ok (.getfield 17, 3) := by decide +kernel
theorem dX6_beginCall_77 : decode cX6_beginCall 77 = .ok (.iload 5, 2) := by decide +kernel
theorem dX6_beginCall_79 : decode cX6_beginCall 79 = .ok (.iconst 2, 1) := by decide +kernel
theorem dX6_beginCall_80 : decode cX6_beginCall 80 = .ok (.iadd, 1) := by decide +kernel
theorem dX6_beginCall_81 : decode cX6_beginCall 81 = .ok (.aload_n 0, 1) := by decide +kernel
theorem dX6_beginCall_82 : decode cX6_beginCall 82 = .ok (.iload 6, 2) := by decide +kernel
theorem dX6_beginCall_84 : decode cX6_beginCall 84 = .ok (.iload_n 1, 1) := by decide +kernel
theorem dX6_beginCall_85 : decode cX6_beginCall 85 = .ok (.iload_n 3, 1) := by decide +kernel
theorem dX6_beginCall_86 : decode cX6_beginCall 86 = .ok (.iconst (-1), 1) := by decide +kernel
theorem dX6_beginCall_87 : decode cX6_beginCall 87 = .ok (.if_icmp .ne 7, 3) := by decide +kernel
theorem dX6_beginCall_90 : decode cX6_beginCall 90 = .ok (.iconst 0, 1) := by decide +kernel
theorem dX6_beginCall_91 : decode cX6_beginCall 91 = .ok (.goto 4, 3) := by decide +kernel
theorem dX6_beginCall_94 : decode cX6_beginCall 94 = .ok (.iconst 1, 1) := by decide +kernel
theorem dX6_beginCall_95 : decode cX6_beginCall 95 = .ok (.invokevirtual 237, 3) := by decide +kernel
theorem dX6_beginCall_98 : decode cX6_beginCall 98 = .ok (.iastore, 1) := by decide +kernel
theorem dX6_beginCall_99 : decode cX6_beginCall 99 = .ok (.aload_n 0, 1) := by decide +kernel
theorem dX6_beginCall_100 : decode cX6_beginCall 100 = .ok (.getfield 17, 3) := by decide +kernel
theorem dX6_beginCall_103 : decode cX6_beginCall 103 = .ok (.iload 5, 2) := by decide +kernel
theorem dX6_beginCall_105 : decode cX6_beginCall 105 = .ok (.iconst 3, 1) := by decide +kernel
theorem dX6_beginCall_106 : decode cX6_beginCall 106 = .ok (.iadd, 1) := by decide +kernel
theorem dX6_beginCall_107 : decode cX6_beginCall 107 = .ok (.iload_n 3, 1) := by decide +kernel
theorem dX6_beginCall_108 : decode cX6_beginCall 108 = .ok (.iastore, 1) := by decide +kernel
theorem dX6_beginCall_109 : decode cX6_beginCall 109 = .ok (.aload_n 0, 1) := by decide +kernel
theorem dX6_beginCall_110 : decode cX6_beginCall 110 = .ok (.getfield 17, 3) := by decide +kernel
theorem dX6_beginCall_113 : decode cX6_beginCall 113 = .ok (.iload 5, 2) := by decide +kernel
theorem dX6_beginCall_115 : decode cX6_beginCall 115 = .ok (.iconst 4, 1) := by decide +kernel
theorem dX6_beginCall_116 : decode cX6_beginCall 116 = .ok (.iadd, 1) := by decide +kernel
theorem dX6_beginCall_117 : decode cX6_beginCall 117 = .ok (.iconst (-1), 1) := by decide +kernel
theorem dX6_beginCall_118 : decode cX6_beginCall 118 = .ok (.iastore, 1) := by decide +kernel
theorem dX6_beginCall_119 : decode cX6_beginCall 119 = .ok (.aload_n 0, 1) := by decide +kernel
theorem dX6_beginCall_120 : decode cX6_beginCall 120 = .ok (.getfield 17, 3) := by decide +kernel
theorem dX6_beginCall_123 : decode cX6_beginCall 123 = .ok (.iconst 5, 1) := by decide +kernel
theorem dX6_beginCall_124 : decode cX6_beginCall 124 = .ok (.dup2, 1) := by decide +kernel
theorem dX6_beginCall_125 : decode cX6_beginCall 125 = .ok (.iaload, 1) := by decide +kernel
theorem dX6_beginCall_126 : decode cX6_beginCall 126 = .ok (.iconst 1, 1) := by decide +kernel
theorem dX6_beginCall_127 : decode cX6_beginCall 127 = .ok (.iadd, 1) := by decide +kernel
theorem dX6_beginCall_128 : decode cX6_beginCall 128 = .ok (.iastore, 1) := by decide +kernel
theorem dX6_beginCall_129 : decode cX6_beginCall 129 = .ok (.iconst 0, 1) := by decide +kernel
theorem dX6_beginCall_130 : decode cX6_beginCall 130 = .ok (.istore 8, 2) := by decide +kernel
theorem dX6_beginCall_132 : decode cX6_beginCall 132 = .ok (.iload 8, 2) := by decide +kernel
theorem dX6_beginCall_134 : decode cX6_beginCall 134 = .ok (.bipush 10, 2) := by decide +kernel
theorem dX6_beginCall_136 : decode cX6_beginCall 136 = .ok (.if_icmp .ge 27, 3) := by decide +kernel
theorem dX6_beginCall_139 : decode cX6_beginCall 139 = .ok (.iload_n 2, 1) := by decide +kernel
theorem dX6_beginCall_140 : decode cX6_beginCall 140 = .ok (.iload 8, 2) := by decide +kernel
theorem dX6_beginCall_142 : decode cX6_beginCall 142 = .ok (.ishr, 1) := by decide +kernel
theorem dX6_beginCall_143 : decode cX6_beginCall 143 = .ok (.iconst 1, 1) := by decide +kernel
theorem dX6_beginCall_144 : decode cX6_beginCall 144 = .ok (.iand, 1) := by decide +kernel
theorem dX6_beginCall_145 : decode cX6_beginCall 145 = .ok (.iconst 1, 1) := by decide +kernel
theorem dX6_beginCall_146 : decode cX6_beginCall 146 = .ok (.if_icmp .ne 11, 3) := by decide +kernel
theorem dX6_beginCall_149 : decode cX6_beginCall 149 = .ok (.aload_n 0, 1) := by decide +kernel
theorem dX6_beginCall_150 : decode cX6_beginCall 150 = .ok (.iload 4, 2) := by decide +kernel
theorem dX6_beginCall_152 : decode cX6_beginCall 152 = .ok (.iload 8, 2) := by decide +kernel
theorem dX6_beginCall_154 : decode cX6_beginCall 154 = .ok (.invokevirtual 241, 3) := by decide +kernel
theorem dX6_beginCall_157 : decode cX6_beginCall 157 = .ok (.iinc 8 1, 3) := by decide +kernel
theorem dX6_beginCall_160 : decode cX6_beginCall 160 = .ok (.goto (-28), 3) := by decide +kernel
theorem dX6_beginCall_163 : decode cX6_beginCall 163 = .ok (.aload_n 0, 1) := by decide +kernel
theorem dX6_beginCall_164 : decode cX6_beginCall 164 = .ok (.getfield 17, 3) := by decide +kernel
theorem dX6_beginCall_167 : decode cX6_beginCall 167 = .ok (.bipush 6, 2) := by decide +kernel
theorem dX6_beginCall_169 : decode cX6_beginCall 169 = .ok (.iaload, 1) := by decide +kernel
theorem dX6_beginCall_170 : decode cX6_beginCall 170 = .ok (.iload 6, 2) := by decide +kernel
theorem dX6_beginCall_172 : decode cX6_beginCall 172 = .ok (.isub, 1) := by decide +kernel
theorem dX6_beginCall_173 : decode cX6_beginCall 173 = .ok (.istore 8, 2) := by decide +kernel
theorem dX6_beginCall_175 : decode cX6_beginCall 175 = .ok (.iload 8, 2) := by decide +kernel
theorem dX6_beginCall_177 : decode cX6_beginCall 177 = .ok (.aload_n 0, 1) := by decide +kernel
theorem dX6_beginCall_178 : decode cX6_beginCall 178 = .ok (.getfield 17, 3) := by decide +kernel
theorem dX6_beginCall_181 : decode cX6_beginCall 181 = .ok (.bipush 6, 2) := by decide +kernel
theorem dX6_beginCall_183 : decode cX6_beginCall 183 = .ok (.iaload, 1) := by decide +kernel
theorem dX6_beginCall_184 : decode cX6_beginCall 184 = .ok (.if_icmp .ge 29, 3) := by decide +kernel
theorem dX6_beginCall_187 : decode cX6_beginCall 187 = .ok (.iload 7, 2) := by decide +kernel
theorem dX6_beginCall_189 : decode cX6_beginCall 189 = .ok (.aload_n 0, 1) := by decide +kernel
theorem dX6_beginCall_190 : decode cX6_beginCall 190 = .ok (.iload 8, 2) := by decide +kernel
theorem dX6_beginCall_192 : decode cX6_beginCall 192 = .ok (.iconst 0, 1) := by decide +kernel
theorem dX6_beginCall_193 : decode cX6_beginCall 193 = .ok (.invokevirtual 180, 3) := by decide +kernel
theorem dX6_beginCall_196 : decode cX6_beginCall 196 = .ok (.ifCond .eq 7, 3) := by decide +kernel
theorem dX6_beginCall_199 : decode cX6_beginCall 199 = .ok (.iconst 1, 1) := by decide +kernel
theorem dX6_beginCall_200 : decode cX6_beginCall 200 = .ok (.goto 4, 3) := by decide +kernel
theorem dX6_beginCall_203 : decode cX6_beginCall 203 = .ok (.iconst 0, 1) := by decide +kernel
theorem dX6_beginCall_204 : decode cX6_beginCall 204 = .ok (.iadd, 1) := by decide +kernel
theorem dX6_beginCall_205 : decode cX6_beginCall 205 = .ok (.istore 7, 2) := by decide +kernel
theorem dX6_beginCall_207 : decode cX6_beginCall 207 = .ok (.iinc 8 1, 3) := by decide +kernel
theorem dX6_beginCall_210 : decode cX6_beginCall 210 = .ok (.goto (-35), 3) := by decide +kernel
theorem dX6_beginCall_213 : decode cX6_beginCall 213 = .ok (.iload 7, 2) := by decide +kernel
theorem dX6_beginCall_215 : decode cX6_beginCall 215 = .ok (.ifCond .ne 9, 3) := by decide +kernel
theorem dX6_beginCall_218 : decode cX6_beginCall 218 = .ok (.aload_n 0, 1) := by decide +kernel
theorem dX6_beginCall_219 : decode cX6_beginCall 219 = .ok (.iload 4, 2) := by decide +kernel
theorem dX6_beginCall_221 : decode cX6_beginCall 221 = .ok (.invokevirtual 208, 3) := by decide +kernel
theorem dX6_beginCall_224 : decode cX6_beginCall 224 = .ok (.iload 7, 2) := by decide +kernel
theorem dX6_beginCall_226 : decode cX6_beginCall 226 = .ok (.ireturn, 1) := by decide +kernel
theorem dX6_partyOn_0 : decode cX6_partyOn 0 = .ok (.iload_n 2, 1) := by decide +kernel
theorem dX6_partyOn_1 : decode cX6_partyOn 1 = .ok (.ifCond .ne 11, 3) := by decide +kernel
theorem dX6_partyOn_4 : decode cX6_partyOn 4 = .ok (.aload_n 0, 1) := by decide +kernel
theorem dX6_partyOn_5 : decode cX6_partyOn 5 = .ok (.iload_n 1, 1) := by decide +kernel
theorem dX6_partyOn_6 : decode cX6_partyOn 6 = .ok (.invokevirtual 177, 3) := by decide +kernel
theorem dX6_partyOn_9 : decode cX6_partyOn 9 = .ok (.goto 9, 3) := by decide +kernel
theorem dX6_partyOn_12 : decode cX6_partyOn 12 = .ok (.aload_n 0, 1) := by decide +kernel
theorem dX6_partyOn_13 : decode cX6_partyOn 13 = .ok (.iload_n 1, 1) := by decide +kernel
theorem dX6_partyOn_14 : decode cX6_partyOn 14 = .ok (.iconst 1, 1) := by decide +kernel
theorem dX6_partyOn_15 : decode cX6_partyOn 15 = .ok (.invokevirtual 171, 3) := by decide +kernel
theorem dX6_partyOn_18 : decode cX6_partyOn 18 = .ok (.ireturn, 1) := by decide +kernel
theorem dX6_repeat_0 : decode cX6_repeat 0 = .ok (.iload_n 1, 1) := by decide +kernel
theorem dX6_repeat_1 : decode cX6_repeat 1 = .ok (.invokestatic 168, 3) := by decide +kernel
theorem dX6_repeat_4 : decode cX6_repeat 4 = .ok (.istore_n 3, 1) := by decide +kernel
theorem dX6_repeat_5 : decode cX6_repeat 5 = .ok (.aload_n 0, 1) := by decide +kernel
theorem dX6_repeat_6 : decode cX6_repeat 6 = .ok (.getfield 17, 3) := by decide +kernel
theorem dX6_repeat_9 : decode cX6_repeat 9 = .ok (.iload_n 3, 1) := by decide +kernel
theorem dX6_repeat_10 : decode cX6_repeat 10 = .ok (.bipush 9, 2) := by decide +kernel
theorem dX6_repeat_12 : decode cX6_repeat 12 = .ok (.iadd, 1) := by decide +kernel
theorem dX6_repeat_13 : decode cX6_repeat 13 = .ok (.iload_n 2, 1) := by decide +kernel
theorem dX6_repeat_14 : decode cX6_repeat 14 = .ok (.iadd, 1) := by decide +kernel
theorem dX6_repeat_15 : decode cX6_repeat 15 = .ok (.iaload, 1) := by decide +kernel
theorem dX6_repeat_16 : decode cX6_repeat 16 = .ok (.aload_n 0, 1) := by decide +kernel
theorem dX6_repeat_17 : decode cX6_repeat 17 = .ok (.getfield 17, 3) := by decide +kernel
theorem dX6_repeat_20 : decode cX6_repeat 20 = .ok (.iconst 0, 1) := by decide +kernel
theorem dX6_repeat_21 : decode cX6_repeat 21 = .ok (.iaload, 1) := by decide +kernel
theorem dX6_repeat_22 : decode cX6_repeat 22 = .ok (.if_icmp .eq 4, 3) := by decide +kernel
theorem dX6_repeat_25 : decode cX6_repeat 25 = .ok (.return_, 1) := by decide +kernel
theorem dX6_repeat_26 : decode cX6_repeat 26 = .ok (.aload_n 0, 1) := by decide +kernel
theorem dX6_repeat_27 : decode cX6_repeat 27 = .ok (.getfield 17, 3) := by decide +kernel
theorem dX6_repeat_30 : decode cX6_repeat 30 = .ok (.iload_n 3, 1) := by decide +kernel
theorem dX6_repeat_31 : decode cX6_repeat 31 = .ok (.bipush 9, 2) := by decide +kernel
theorem dX6_repeat_33 : decode cX6_repeat 33 = .ok (.iadd, 1) := by decide +kernel
theorem dX6_repeat_34 : decode cX6_repeat 34 = .ok (.iload_n 2, 1) := by decide +kernel
theorem dX6_repeat_35 : decode cX6_repeat 35 = .ok (.iadd, 1) := by decide +kernel
theorem dX6_repeat_36 : decode cX6_repeat 36 = .ok (.iconst (-1), 1) := by decide +kernel
theorem dX6_repeat_37 : decode cX6_repeat 37 = .ok (.iastore, 1) := by decide +kernel
theorem dX6_repeat_38 : decode cX6_repeat 38 = .ok (.aload_n 0, 1) := by decide +kernel
theorem dX6_repeat_39 : decode cX6_repeat 39 = .ok (.getfield 17, 3) := by decide +kernel
theorem dX6_repeat_42 : decode cX6_repeat 42 = .ok (.iload_n 3, 1) := by decide +kernel
theorem dX6_repeat_43 : decode cX6_repeat 43 = .ok (.bipush 6, 2) := by decide +kernel
theorem dX6_repeat_45 : decode cX6_repeat 45 = .ok (.iadd, 1) := by decide +kernel
theorem dX6_repeat_46 : decode cX6_repeat 46 = .ok (.iaload, 1) := by decide +kernel
theorem dX6_repeat_47 : decode cX6_repeat 47 = .ok (.iconst (-1), 1) := by decide +kernel
theorem dX6_repeat_48 : decode cX6_repeat 48 = .ok (.if_icmp .eq 9, 3) := by decide +kernel
theorem dX6_repeat_51 : decode cX6_repeat 51 = .ok (.aload_n 0, 1) := by decide +kernel
theorem dX6_repeat_52 : decode cX6_repeat 52 = .ok (.iconst 3, 1) := by decide +kernel
theorem dX6_repeat_53 : decode cX6_repeat 53 = .ok (.invokevirtual 199, 3) := by decide +kernel
theorem dX6_repeat_56 : decode cX6_repeat 56 = .ok (.return_, 1) := by decide +kernel
theorem dX6_repeat_57 : decode cX6_repeat 57 = .ok (.aload_n 0, 1) := by decide +kernel
theorem dX6_repeat_58 : decode cX6_repeat 58 = .ok (.iload_n 1, 1) := by decide +kernel
theorem dX6_repeat_59 : decode cX6_repeat 59 = .ok (.iload_n 2, 1) := by decide +kernel
theorem dX6_repeat_60 : decode cX6_repeat 60 = .ok (.aload_n 0, 1) := by decide +kernel
theorem dX6_repeat_61 : decode cX6_repeat 61 = .ok (.getfield 17, 3) := by decide +kernel
theorem dX6_repeat_64 : decode cX6_repeat 64 = .ok (.iload_n 3, 1) := by decide +kernel
theorem dX6_repeat_65 : decode cX6_repeat 65 = .ok (.bipush 11, 2) := by decide +kernel
theorem dX6_repeat_67 : decode cX6_repeat 67 = .ok (.iadd, 1) := by decide +kernel
theorem dX6_repeat_68 : decode cX6_repeat 68 = .ok (.iload_n 2, 1) := by decide +kernel
theorem dX6_repeat_69 : decode cX6_repeat 69 = .ok (.iadd, 1) := by decide +kernel
theorem dX6_repeat_70 : decode cX6_repeat 70 = .ok (.iaload, 1) := by decide +kernel
theorem dX6_repeat_71 : decode cX6_repeat 71 = .ok (.invokevirtual 244, 3) := by decide +kernel
theorem dX6_repeat_74 : decode cX6_repeat 74 = .ok (.return_, 1) := by decide +kernel
theorem dX6_layOffer_0 : decode cX6_layOffer 0 = .ok (.iload_n 1, 1) := by decide +kernel
theorem dX6_layOffer_1 : decode cX6_layOffer 1 = .ok (.invokestatic 168, 3) := by decide +kernel
theorem dX6_layOffer_4 : decode cX6_layOffer 4 = .ok (.istore 4, 2) := by decide +kernel
theorem dX6_layOffer_6 : decode cX6_layOffer 6 = .ok (.aload_n 0, 1) := by decide +kernel
theorem dX6_layOffer_7 : decode cX6_layOffer 7 = .ok (.getfield 17, 3) := by decide +kernel
theorem dX6_layOffer_10 : decode cX6_layOffer 10 = .ok (.iload 4, 2) := by decide +kernel
theorem dX6_layOffer_12 : decode cX6_layOffer 12 = .ok (.bipush 6, 2) := by decide +kernel
theorem dX6_layOffer_14 : decode cX6_layOffer 14 = .ok (.iadd, 1) := by decide +kernel
theorem dX6_layOffer_15 : decode cX6_layOffer 15 = .ok (.iload_n 2, 1) := by decide +kernel
theorem dX6_layOffer_16 : decode cX6_layOffer 16 = .ok (.iastore, 1) := by decide +kernel
theorem dX6_layOffer_17 : decode cX6_layOffer 17 = .ok (.aload_n 0, 1) := by decide +kernel
theorem dX6_layOffer_18 : decode cX6_layOffer 18 = .ok (.getfield 17, 3) := by decide +kernel
theorem dX6_layOffer_21 : decode cX6_layOffer 21 = .ok (.iload 4, 2) := by decide +kernel
theorem dX6_layOffer_23 : decode cX6_layOffer 23 = .ok (.bipush 7, 2) := by decide +kernel
theorem dX6_layOffer_25 : decode cX6_layOffer 25 = .ok (.iadd, 1) := by decide +kernel
theorem dX6_layOffer_26 : decode cX6_layOffer 26 = .ok (.iload_n 3, 1) := by decide +kernel
theorem dX6_layOffer_27 : decode cX6_layOffer 27 = .ok (.iastore, 1) := by decide +kernel
theorem dX6_layOffer_28 : decode cX6_layOffer 28 = .ok (.aload_n 0, 1) := by decide +kernel
theorem dX6_layOffer_29 : decode cX6_layOffer 29 = .ok (.getfield 17, 3) := by decide +kernel
theorem dX6_layOffer_32 : decode cX6_layOffer 32 = .ok (.iload 4, 2) := by decide +kernel
theorem dX6_layOffer_34 : decode cX6_layOffer 34 = .ok (.bipush 8, 2) := by decide +kernel
theorem dX6_layOffer_36 : decode cX6_layOffer 36 = .ok (.iadd, 1) := by decide +kernel
theorem dX6_layOffer_37 : decode cX6_layOffer 37 = .ok (.aload_n 0, 1) := by decide +kernel
theorem dX6_layOffer_38 : decode cX6_layOffer 38 = .ok (.getfield 17, 3) := by decide +kernel
theorem dX6_layOffer_41 : decode cX6_layOffer 41 = .ok (.iconst 0, 1) := by decide +kernel
theorem dX6_layOffer_42 : decode cX6_layOffer 42 = .ok (.iaload, 1) := by decide +kernel
theorem dX6_layOffer_43 : decode cX6_layOffer 43 = .ok (.iastore, 1) := by decide +kernel
theorem dX6_layOffer_44 : decode cX6_layOffer 44 = .ok (.return_, 1) := by decide +kernel
theorem dX6_reply_0 : decode cX6_reply 0 = .ok (.iload_n 1, 1) := by decide +kernel
theorem dX6_reply_1 : decode cX6_reply 1 = .ok (.invokestatic 168, 3) := by decide +kernel
theorem dX6_reply_4 : decode cX6_reply 4 = .ok (.istore_n 2, 1) := by decide +kernel
theorem dX6_reply_5 : decode cX6_reply 5 = .ok (.aload_n 0, 1) := by decide +kernel
theorem dX6_reply_6 : decode cX6_reply 6 = .ok (.getfield 17, 3) := by decide +kernel
theorem dX6_reply_9 : decode cX6_reply 9 = .ok (.iload_n 2, 1) := by decide +kernel
theorem dX6_reply_10 : decode cX6_reply 10 = .ok (.bipush 6, 2) := by decide +kernel
theorem dX6_reply_12 : decode cX6_reply 12 = .ok (.iadd, 1) := by decide +kernel
theorem dX6_reply_13 : decode cX6_reply 13 = .ok (.iaload, 1) := by decide +kernel
theorem dX6_reply_14 : decode cX6_reply 14 = .ok (.iconst (-1), 1) := by decide +kernel
theorem dX6_reply_15 : decode cX6_reply 15 = .ok (.if_icmp .ne 4, 3) := by decide +kernel
theorem dX6_reply_18 : decode cX6_reply 18 = .ok (.return_, 1) := by decide +kernel
theorem dX6_reply_19 : decode cX6_reply 19 = .ok (.aload_n 0, 1) := by decide +kernel
theorem dX6_reply_20 : decode cX6_reply 20 = .ok (.iload_n 1, 1) := by decide +kernel
theorem dX6_reply_21 : decode cX6_reply 21 = .ok (.iconst 1, 1) := by decide +kernel
theorem dX6_reply_22 : decode cX6_reply 22 = .ok (.aload_n 0, 1) := by decide +kernel
theorem dX6_reply_23 : decode cX6_reply 23 = .ok (.getfield 17, 3) := by decide +kernel
theorem dX6_reply_26 : decode cX6_reply 26 = .ok (.iload_n 2, 1) := by decide +kernel
theorem dX6_reply_27 : decode cX6_reply 27 = .ok (.bipush 6, 2) := by decide +kernel
theorem dX6_reply_29 : decode cX6_reply 29 = .ok (.iadd, 1) := by decide +kernel
theorem dX6_reply_30 : decode cX6_reply 30 = .ok (.iaload, 1) := by decide +kernel
theorem dX6_reply_31 : decode cX6_reply 31 = .ok (.isub, 1) := by decide +kernel
theorem dX6_reply_32 : decode cX6_reply 32 = .ok (.invokevirtual 247, 3) := by decide +kernel
theorem dX6_reply_35 : decode cX6_reply 35 = .ok (.istore_n 3, 1) := by decide +kernel
theorem dX6_reply_36 : decode cX6_reply 36 = .ok (.aload_n 0, 1) := by decide +kernel
theorem dX6_reply_37 : decode cX6_reply 37 = .ok (.iload_n 3, 1) := by decide +kernel
theorem dX6_reply_38 : decode cX6_reply 38 = .ok (.iconst 1, 1) := by decide +kernel
theorem dX6_reply_39 : decode cX6_reply 39 = .ok (.invokevirtual 250, 3) := by decide +kernel
theorem dX6_reply_42 : decode cX6_reply 42 = .ok (.istore 4, 2) := by decide +kernel
theorem dX6_reply_44 : decode cX6_reply 44 = .ok (.aload_n 0, 1) := by decide +kernel
theorem dX6_reply_45 : decode cX6_reply 45 = .ok (.getfield 17, 3) := by decide +kernel
theorem dX6_reply_48 : decode cX6_reply 48 = .ok (.iconst 0, 1) := by decide +kernel
theorem dX6_reply_49 : decode cX6_reply 49 = .ok (.iaload, 1) := by decide +kernel
theorem dX6_reply_50 : decode cX6_reply 50 = .ok (.aload_n 0, 1) := by decide +kernel
theorem dX6_reply_51 : decode cX6_reply 51 = .ok (.getfield 17, 3) := by decide +kernel
theorem dX6_reply_54 : decode cX6_reply 54 = .ok (.iload_n 2, 1) := by decide +kernel
theorem dX6_reply_55 : decode cX6_reply 55 = .ok (.bipush 8, 2) := by decide +kernel
theorem dX6_reply_57 : decode cX6_reply 57 = .ok (.iadd, 1) := by decide +kernel
theorem dX6_reply_58 : decode cX6_reply 58 = .ok (.iaload, 1) := by decide +kernel
theorem dX6_reply_59 : decode cX6_reply 59 = .ok (.isub, 1) := by decide +kernel
theorem dX6_reply_60 : decode cX6_reply 60 = .ok (.istore 5, 2) := by decide +kernel
theorem dX6_reply_62 : decode cX6_reply 62 = .ok (.iload 4, 2) := by decide +kernel
theorem dX6_reply_64 : decode cX6_reply 64 = .ok (.ifCond .le 14, 3) := by decide +kernel
theorem dX6_reply_67 : decode cX6_reply 67 = .ok (.iload 5, 2) := by decide +kernel
theorem dX6_reply_69 : decode cX6_reply 69 = .ok (.iload 4, 2) := by decide +kernel
theorem dX6_reply_71 : decode cX6_reply 71 = .ok (.if_icmp .ne 7, 3) := by decide +kernel
theorem dX6_reply_74 : decode cX6_reply 74 = .ok (.iconst 1, 1) := by decide +kernel
theorem dX6_reply_75 : decode cX6_reply 75 = .ok (.goto 4, 3) := by decide +kernel
theorem dX6_reply_78 : decode cX6_reply 78 = .ok (.iconst 0, 1) := by decide +kernel
theorem dX6_reply_79 : decode cX6_reply 79 = .ok (.istore 6, 2) := by decide +kernel
theorem dX6_reply_81 : decode cX6_reply 81 = .ok (.iload 6, 2) := by decide +kernel
theorem dX6_reply_83 : decode cX6_reply 83 = .ok (.ifCond .ne 15, 3) := by decide +kernel
theorem dX6_reply_86 : decode cX6_reply 86 = .ok (.iload 5, 2) := by decide +kernel
theorem dX6_reply_88 : decode cX6_reply 88 = .ok (.aload_n 0, 1) := by decide +kernel
theorem dX6_reply_89 : decode cX6_reply 89 = .ok (.getfield 17, 3) := by decide +kernel
theorem dX6_reply_92 : decode cX6_reply 92 = .ok (.iconst 3, 1) := by decide +kernel
theorem dX6_reply_93 : decode cX6_reply 93 = .ok (.iaload, 1) := by decide +kernel
theorem dX6_reply_94 : decode cX6_reply 94 = .ok (.if_icmp .ge 4, 3) := by decide +kernel
theorem dX6_reply_97 : decode cX6_reply 97 = .ok (.return_, 1) := by decide +kernel
theorem dX6_reply_98 : decode cX6_reply 98 = .ok (.aload_n 0, 1) := by decide +kernel
theorem dX6_reply_99 : decode cX6_reply 99 = .ok (.getfield 17, 3) := by decide +kernel
theorem dX6_reply_102 : decode cX6_reply 102 = .ok (.iload_n 2, 1) := by decide +kernel
theorem dX6_reply_103 : decode cX6_reply 103 = .ok (.bipush 6, 2) := by decide +kernel
theorem dX6_reply_105 : decode cX6_reply 105 = .ok (.iadd, 1) := by decide +kernel
theorem dX6_reply_106 : decode cX6_reply 106 = .ok (.iconst (-1), 1) := by decide +kernel
theorem dX6_reply_107 : decode cX6_reply 107 = .ok (.iastore, 1) := by decide +kernel
theorem dX6_reply_108 : decode cX6_reply 108 = .ok (.iload 6, 2) := by decide +kernel
theorem dX6_reply_110 : decode cX6_reply 110 = .ok (.ifCond .eq 21, 3) := by decide +kernel
theorem dX6_reply_113 : decode cX6_reply 113 = .ok (.aload_n 0, 1) := by decide +kernel
theorem dX6_reply_114 : decode cX6_reply 114 = .ok (.getfield 17, 3) := by decide +kernel
theorem dX6_reply_117 : decode cX6_reply 117 = .ok (.iload_n 2, 1) := by decide +kernel
theorem dX6_reply_118 : decode cX6_reply 118 = .ok (.bipush 7, 2) := by decide +kernel
theorem dX6_reply_120 : decode cX6_reply 120 = .ok (.iadd, 1) := by decide +kernel
theorem dX6_reply_121 : decode cX6_reply 121 = .ok (.iaload, 1) := by decide +kernel
theorem dX6_reply_122 : decode cX6_reply 122 = .ok (.aload_n 0, 1) := by decide +kernel
theorem dX6_reply_123 : decode cX6_reply 123 = .ok (.iload_n 3, 1) := by decide +kernel
theorem dX6_reply_124 : decode cX6_reply 124 = .ok (.iconst 2, 1) := by decide +kernel
theorem dX6_reply_125 : decode cX6_reply 125 = .ok (.invokevirtual 250, 3) := by decide +kernel
theorem dX6_reply_128 : decode cX6_reply 128 = .ok (.if_icmp .le 9, 3) := by decide +kernel
theorem dX6_reply_131 : decode cX6_reply 131 = .ok (.aload_n 0, 1) := by decide +kernel
theorem dX6_reply_132 : decode cX6_reply 132 = .ok (.iconst 1, 1) := by decide +kernel
theorem dX6_reply_133 : decode cX6_reply 133 = .ok (.invokevirtual 199, 3) := by decide +kernel
theorem dX6_reply_136 : decode cX6_reply 136 = .ok (.return_, 1) := by decide +kernel
theorem dX6_reply_137 : decode cX6_reply 137 = .ok (.aload_n 0, 1) := by decide +kernel
theorem dX6_reply_138 : decode cX6_reply 138 = .ok (.getfield 17, 3) := by decide +kernel
theorem dX6_reply_141 : decode cX6_reply 141 = .ok (.iload_n 2, 1) := by decide +kernel
theorem dX6_reply_142 : decode cX6_reply 142 = .ok (.iconst 4, 1) := by decide +kernel
theorem dX6_reply_143 : decode cX6_reply 143 = .ok (.iadd, 1) := by decide +kernel
theorem dX6_reply_144 : decode cX6_reply 144 = .ok (.aload_n 0, 1) := by decide +kernel
theorem dX6_reply_145 : decode cX6_reply 145 = .ok (.getfield 17, 3) := by decide +kernel
theorem dX6_reply_148 : decode cX6_reply 148 = .ok (.iload_n 2, 1) := by decide +kernel
theorem dX6_reply_149 : decode cX6_reply 149 = .ok (.bipush 7, 2) := by decide +kernel
theorem dX6_reply_151 : decode cX6_reply 151 = .ok (.iadd, 1) := by decide +kernel
theorem dX6_reply_152 : decode cX6_reply 152 = .ok (.iaload, 1) := by decide +kernel
theorem dX6_reply_153 : decode cX6_reply 153 = .ok (.iastore, 1) := by decide +kernel
theorem dX6_reply_154 : decode cX6_reply 154 = .ok (.aload_n 0, 1) := by decide +kernel
theorem dX6_reply_155 : decode cX6_reply 155 = .ok (.getfield 17, 3) := by decide +kernel
theorem dX6_reply_158 : decode cX6_reply 158 = .ok (.iload_n 2, 1) := by decide +kernel
theorem dX6_reply_159 : decode cX6_reply 159 = .ok (.iconst 5, 1) := by decide +kernel
theorem dX6_reply_160 : decode cX6_reply 160 = .ok (.iadd, 1) := by decide +kernel
theorem dX6_reply_161 : decode cX6_reply 161 = .ok (.dup2, 1) := by decide +kernel
theorem dX6_reply_162 : decode cX6_reply 162 = .ok (.iaload, 1) := by decide +kernel
theorem dX6_reply_163 : decode cX6_reply 163 = .ok (.iconst 1, 1) := by decide +kernel
theorem dX6_reply_164 : decode cX6_reply 164 = .ok (.iadd, 1) := by decide +kernel
theorem dX6_reply_165 : decode cX6_reply 165 = .ok (.iastore, 1) := by decide +kernel
theorem dX6_reply_166 : decode cX6_reply 166 = .ok (.aload_n 0, 1) := by decide +kernel
theorem dX6_reply_167 : decode cX6_reply 167 = .ok (.iconst 0, 1) := by decide +kernel
theorem dX6_reply_168 : decode cX6_reply 168 = .ok (.invokevirtual 199, 3) := by decide +kernel
theorem dX6_reply_171 : decode cX6_reply 171 = .ok (.return_, 1) := by decide +kernel
theorem dX6_mayAnswer_0 : decode cX6_mayAnswer 0 = .ok (.aload_n 0, 1) := by decide +kernel
theorem dX6_mayAnswer_1 : decode cX6_mayAnswer 1 = .ok (.iload_n 1, 1) := by decide +kernel
theorem dX6_mayAnswer_2 : decode cX6_mayAnswer 2 = .ok (.iconst 1, 1) := by decide +kernel
theorem dX6_mayAnswer_3 : decode cX6_mayAnswer 3 = .ok (.invokevirtual 171, 3) := by decide +kernel
theorem dX6_mayAnswer_6 : decode cX6_mayAnswer 6 = .ok (.istore_n 2, 1) := by decide +kernel
theorem dX6_mayAnswer_7 : decode cX6_mayAnswer 7 = .ok (.aload_n 0, 1) := by decide +kernel
theorem dX6_mayAnswer_8 : decode cX6_mayAnswer 8 = .ok (.iload_n 2, 1) := by decide +kernel
theorem dX6_mayAnswer_9 : decode cX6_mayAnswer 9 = .ok (.iconst 0, 1) := by decide +kernel
theorem dX6_mayAnswer_10 : decode cX6_mayAnswer 10 = .ok (.invokevirtual 250, 3) := by decide +kernel
theorem dX6_mayAnswer_13 : decode cX6_mayAnswer 13 = .ok (.istore_n 3, 1) := by decide +kernel
theorem dX6_mayAnswer_14 : decode cX6_mayAnswer 14 = .ok (.iload_n 3, 1) := by decide +kernel
theorem dX6_mayAnswer_15 : decode cX6_mayAnswer 15 = .ok (.ifCond .le 38, 3) := by decide +kernel
theorem dX6_mayAnswer_18 : decode cX6_mayAnswer 18 = .ok (.aload_n 0, 1) := by decide +kernel
theorem dX6_mayAnswer_19 : decode cX6_mayAnswer 19 = .ok (.getfield 17, 3) := by decide +kernel
theorem dX6_mayAnswer_22 : decode cX6_mayAnswer 22 = .ok (.iconst 0, 1) := by decide +kernel
theorem dX6_mayAnswer_23 : decode cX6_mayAnswer 23 = .ok (.iaload, 1) := by decide +kernel
theorem dX6_mayAnswer_24 : decode cX6_mayAnswer 24 = .ok (.aload_n 0, 1) := by decide +kernel
theorem dX6_mayAnswer_25 : decode cX6_mayAnswer 25 = .ok (.aload_n 0, 1) := by decide +kernel
theorem dX6_mayAnswer_26 : decode cX6_mayAnswer 26 = .ok (.iload_n 1, 1) := by decide +kernel
theorem dX6_mayAnswer_27 : decode cX6_mayAnswer 27 = .ok (.iconst 0, 1) := by decide +kernel
theorem dX6_mayAnswer_28 : decode cX6_mayAnswer 28 = .ok (.invokevirtual 171, 3) := by decide +kernel
theorem dX6_mayAnswer_31 : decode cX6_mayAnswer 31 = .ok (.iconst 1, 1) := by decide +kernel
theorem dX6_mayAnswer_32 : decode cX6_mayAnswer 32 = .ok (.invokevirtual 174, 3) := by decide +kernel
theorem dX6_mayAnswer_35 : decode cX6_mayAnswer 35 = .ok (.isub, 1) := by decide +kernel
theorem dX6_mayAnswer_36 : decode cX6_mayAnswer 36 = .ok (.iload_n 3, 1) := by decide +kernel
theorem dX6_mayAnswer_37 : decode cX6_mayAnswer 37 = .ok (.if_icmp .ne 16, 3) := by decide +kernel
theorem dX6_mayAnswer_40 : decode cX6_mayAnswer 40 = .ok (.aload_n 0, 1) := by decide +kernel
theorem dX6_mayAnswer_41 : decode cX6_mayAnswer 41 = .ok (.iload_n 2, 1) := by decide +kernel
theorem dX6_mayAnswer_42 : decode cX6_mayAnswer 42 = .ok (.invokevirtual 234, 3) := by decide +kernel
theorem dX6_mayAnswer_45 : decode cX6_mayAnswer 45 = .ok (.ifCond .ne 8, 3) := by decide +kernel
theorem dX6_mayAnswer_48 : decode cX6_mayAnswer 48 = .ok (.aload_n 0, 1) := by decide +kernel
theorem dX6_mayAnswer_49 : decode cX6_mayAnswer 49 = .ok (.iload_n 1, 1) := by decide +kernel
theorem dX6_mayAnswer_50 : decode cX6_mayAnswer 50 = .ok (.invokevirtual 253, 3) := by decide +kernel
theorem dX6_mayAnswer_53 : decode cX6_mayAnswer 53 = .ok (.return_, 1) := by decide +kernel
theorem dX6_second_0 : decode cX6_second 0 = .ok (.aload_n 0, 1) := by decide +kernel
theorem dX6_second_1 : decode cX6_second 1 = .ok (.getfield 17, 3) := by decide +kernel
theorem dX6_second_4 : decode cX6_second 4 = .ok (.iconst 0, 1) := by decide +kernel
theorem dX6_second_5 : decode cX6_second 5 = .ok (.dup2, 1) := by decide +kernel
theorem dX6_second_6 : decode cX6_second 6 = .ok (.iaload, 1) := by decide +kernel
theorem dX6_second_7 : decode cX6_second 7 = .ok (.iconst 1, 1) := by decide +kernel
theorem dX6_second_8 : decode cX6_second 8 = .ok (.iadd, 1) := by decide +kernel
theorem dX6_second_9 : decode cX6_second 9 = .ok (.iastore, 1) := by decide +kernel
theorem dX6_second_10 : decode cX6_second 10 = .ok (.iconst 0, 1) := by decide +kernel
theorem dX6_second_11 : decode cX6_second 11 = .ok (.istore_n 1, 1) := by decide +kernel
theorem dX6_second_12 : decode cX6_second 12 = .ok (.iload_n 1, 1) := by decide +kernel
theorem dX6_second_13 : decode cX6_second 13 = .ok (.aload_n 0, 1) := by decide +kernel
theorem dX6_second_14 : decode cX6_second 14 = .ok (.getfield 17, 3) := by decide +kernel
theorem dX6_second_17 : decode cX6_second 17 = .ok (.bipush 6, 2) := by decide +kernel
theorem dX6_second_19 : decode cX6_second 19 = .ok (.iaload, 1) := by decide +kernel
theorem dX6_second_20 : decode cX6_second 20 = .ok (.if_icmp .ge 33, 3) := by decide +kernel
theorem dX6_second_23 : decode cX6_second 23 = .ok (.aload_n 0, 1) := by decide +kernel
theorem dX6_second_24 : decode cX6_second 24 = .ok (.iload_n 1, 1) := by decide +kernel
theorem dX6_second_25 : decode cX6_second 25 = .ok (.iconst 1, 1) := by decide +kernel
theorem dX6_second_26 : decode cX6_second 26 = .ok (.invokevirtual 180, 3) := by decide +kernel
theorem dX6_second_29 : decode cX6_second 29 = .ok (.ifCond .ne 6, 3) := by decide +kernel
theorem dX6_second_32 : decode cX6_second 32 = .ok (.goto 15, 3) := by decide +kernel
theorem dX6_second_35 : decode cX6_second 35 = .ok (.aload_n 0, 1) := by decide +kernel
theorem dX6_second_36 : decode cX6_second 36 = .ok (.iload_n 1, 1) := by decide +kernel
theorem dX6_second_37 : decode cX6_second 37 = .ok (.iconst 0, 1) := by decide +kernel
theorem dX6_second_38 : decode cX6_second 38 = .ok (.invokevirtual 256, 3) := by decide +kernel
theorem dX6_second_41 : decode cX6_second 41 = .ok (.aload_n 0, 1) := by decide +kernel
theorem dX6_second_42 : decode cX6_second 42 = .ok (.iload_n 1, 1) := by decide +kernel
theorem dX6_second_43 : decode cX6_second 43 = .ok (.iconst 1, 1) := by decide +kernel
theorem dX6_second_44 : decode cX6_second 44 = .ok (.invokevirtual 256, 3) := by decide +kernel
theorem dX6_second_47 : decode cX6_second 47 = .ok (.iinc 1 1, 3) := by decide +kernel
theorem dX6_second_50 : decode cX6_second 50 = .ok (.goto (-38), 3) := by decide +kernel
theorem dX6_second_53 : decode cX6_second 53 = .ok (.iconst 0, 1) := by decide +kernel
theorem dX6_second_54 : decode cX6_second 54 = .ok (.istore_n 1, 1) := by decide +kernel
theorem dX6_second_55 : decode cX6_second 55 = .ok (.iload_n 1, 1) := by decide +kernel
theorem dX6_second_56 : decode cX6_second 56 = .ok (.aload_n 0, 1) := by decide +kernel
theorem dX6_second_57 : decode cX6_second 57 = .ok (.getfield 17, 3) := by decide +kernel
theorem dX6_second_60 : decode cX6_second 60 = .ok (.bipush 6, 2) := by decide +kernel
theorem dX6_second_62 : decode cX6_second 62 = .ok (.iaload, 1) := by decide +kernel
theorem dX6_second_63 : decode cX6_second 63 = .ok (.if_icmp .ge 23, 3) := by decide +kernel
theorem dX6_second_66 : decode cX6_second 66 = .ok (.aload_n 0, 1) := by decide +kernel
theorem dX6_second_67 : decode cX6_second 67 = .ok (.iload_n 1, 1) := by decide +kernel
theorem dX6_second_68 : decode cX6_second 68 = .ok (.iconst 1, 1) := by decide +kernel
theorem dX6_second_69 : decode cX6_second 69 = .ok (.invokevirtual 180, 3) := by decide +kernel
theorem dX6_second_72 : decode cX6_second 72 = .ok (.ifCond .eq 8, 3) := by decide +kernel
theorem dX6_second_75 : decode cX6_second 75 = .ok (.aload_n 0, 1) := by decide +kernel
theorem dX6_second_76 : decode cX6_second 76 = .ok (.iload_n 1, 1) := by decide +kernel
theorem dX6_second_77 : decode cX6_second 77 = .ok (.invokevirtual 259, 3) := by decide +kernel
theorem dX6_second_80 : decode cX6_second 80 = .ok (.iinc 1 1, 3) := by decide +kernel
theorem dX6_second_83 : decode cX6_second 83 = .ok (.goto (-28), 3) := by decide +kernel
theorem dX6_second_86 : decode cX6_second 86 = .ok (.iconst 0, 1) := by decide +kernel
theorem dX6_second_87 : decode cX6_second 87 = .ok (.istore_n 1, 1) := by decide +kernel
theorem dX6_second_88 : decode cX6_second 88 = .ok (.iload_n 1, 1) := by decide +kernel
theorem dX6_second_89 : decode cX6_second 89 = .ok (.aload_n 0, 1) := by decide +kernel
theorem dX6_second_90 : decode cX6_second 90 = .ok (.getfield 17, 3) := by decide +kernel
theorem dX6_second_93 : decode cX6_second 93 = .ok (.bipush 6, 2) := by decide +kernel
theorem dX6_second_95 : decode cX6_second 95 = .ok (.iaload, 1) := by decide +kernel
theorem dX6_second_96 : decode cX6_second 96 = .ok (.if_icmp .ge 23, 3) := by decide +kernel
theorem dX6_second_99 : decode cX6_second 99 = .ok (.aload_n 0, 1) := by decide +kernel
theorem dX6_second_100 : decode cX6_second 100 = .ok (.iload_n 1, 1) := by decide +kernel
theorem dX6_second_101 : decode cX6_second 101 = .ok (.iconst 0, 1) := by decide +kernel
theorem dX6_second_102 : decode cX6_second 102 = .ok (.invokevirtual 180, 3) := by decide +kernel
theorem dX6_second_105 : decode cX6_second 105 = .ok (.ifCond .eq 8, 3) := by decide +kernel
theorem dX6_second_108 : decode cX6_second 108 = .ok (.aload_n 0, 1) := by decide +kernel
theorem dX6_second_109 : decode cX6_second 109 = .ok (.iload_n 1, 1) := by decide +kernel
theorem dX6_second_110 : decode cX6_second 110 = .ok (.invokevirtual 262, 3) := by decide +kernel
theorem dX6_second_113 : decode cX6_second 113 = .ok (.iinc 1 1, 3) := by decide +kernel
theorem dX6_second_116 : decode cX6_second 116 = .ok (.goto (-28), 3) := by decide +kernel
theorem dX6_second_119 : decode cX6_second 119 = .ok (.iconst 0, 1) := by decide +kernel
theorem dX6_second_120 : decode cX6_second 120 = .ok (.istore_n 1, 1) := by decide +kernel
theorem dX6_second_121 : decode cX6_second 121 = .ok (.iload_n 1, 1) := by decide +kernel
theorem dX6_second_122 : decode cX6_second 122 = .ok (.aload_n 0, 1) := by decide +kernel
theorem dX6_second_123 : decode cX6_second 123 = .ok (.getfield 17, 3) := by decide +kernel
theorem dX6_second_126 : decode cX6_second 126 = .ok (.iconst 5, 1) := by decide +kernel
theorem dX6_second_127 : decode cX6_second 127 = .ok (.iaload, 1) := by decide +kernel
theorem dX6_second_128 : decode cX6_second 128 = .ok (.if_icmp .ge 54, 3) := by decide +kernel
theorem dX6_second_131 : decode cX6_second 131 = .ok (.aload_n 0, 1) := by decide +kernel
theorem dX6_second_132 : decode cX6_second 132 = .ok (.iload_n 1, 1) := by decide +kernel
theorem dX6_second_133 : decode cX6_second 133 = .ok (.invokevirtual 187, 3) := by decide +kernel
theorem dX6_second_136 : decode cX6_second 136 = .ok (.ifCond .eq 40, 3) := by decide +kernel
theorem dX6_second_139 : decode cX6_second 139 = .ok (.aload_n 0, 1) := by decide +kernel
theorem dX6_second_140 : decode cX6_second 140 = .ok (.getfield 17, 3) := by decide +kernel
theorem dX6_second_143 : decode cX6_second 143 = .ok (.iconst 0, 1) := by decide +kernel
theorem dX6_second_144 : decode cX6_second 144 = .ok (.iaload, 1) := by decide +kernel
theorem dX6_second_145 : decode cX6_second 145 = .ok (.aload_n 0, 1) := by decide +kernel
theorem dX6_second_146 : decode cX6_second 146 = .ok (.iload_n 1, 1) := by decide +kernel
theorem dX6_second_147 : decode cX6_second 147 = .ok (.iconst 1, 1) := by decide +kernel
theorem dX6_second_148 : decode cX6_second 148 = .ok (.invokevirtual 174, 3) := by decide +kernel
theorem dX6_second_151 : decode cX6_second 151 = .ok (.isub, 1) := by decide +kernel
theorem dX6_second_152 : decode cX6_second 152 = .ok (.aload_n 0, 1) := by decide +kernel
theorem dX6_second_153 : decode cX6_second 153 = .ok (.iload_n 1, 1) := by decide +kernel
theorem dX6_second_154 : decode cX6_second 154 = .ok (.iconst 2, 1) := by decide +kernel
theorem dX6_second_155 : decode cX6_second 155 = .ok (.invokevirtual 174, 3) := by decide +kernel
theorem dX6_second_158 : decode cX6_second 158 = .ok (.if_icmp .ge 6, 3) := by decide +kernel
theorem dX6_second_161 : decode cX6_second 161 = .ok (.goto 15, 3) := by decide +kernel
theorem dX6_second_164 : decode cX6_second 164 = .ok (.aload_n 0, 1) := by decide +kernel
theorem dX6_second_165 : decode cX6_second 165 = .ok (.iload_n 1, 1) := by decide +kernel
theorem dX6_second_166 : decode cX6_second 166 = .ok (.iconst (-1), 1) := by decide +kernel
theorem dX6_second_167 : decode cX6_second 167 = .ok (.iconst 3, 1) := by decide +kernel
theorem dX6_second_168 : decode cX6_second 168 = .ok (.invokevirtual 211, 3) := by decide +kernel
theorem dX6_second_171 : decode cX6_second 171 = .ok (.aload_n 0, 1) := by decide +kernel
theorem dX6_second_172 : decode cX6_second 172 = .ok (.iload_n 1, 1) := by decide +kernel
theorem dX6_second_173 : decode cX6_second 173 = .ok (.invokevirtual 208, 3) := by decide +kernel
theorem dX6_second_176 : decode cX6_second 176 = .ok (.iinc 1 1, 3) := by decide +kernel
theorem dX6_second_179 : decode cX6_second 179 = .ok (.goto (-58), 3) := by decide +kernel
theorem dX6_second_182 : decode cX6_second 182 = .ok (.return_, 1) := by decide +kernel
theorem dX6_noParty_0 : decode cX6_noParty 0 = .ok (.aload_n 0, 1) := by decide +kernel
theorem dX6_noParty_1 : decode cX6_noParty 1 = .ok (.iload_n 1, 1) := by decide +kernel
theorem dX6_noParty_2 : decode cX6_noParty 2 = .ok (.iconst 0, 1) := by decide +kernel
theorem dX6_noParty_3 : decode cX6_noParty 3 = .ok (.aload_n 0, 1) := by decide +kernel
theorem dX6_noParty_4 : decode cX6_noParty 4 = .ok (.getfield 17, 3) := by decide +kernel
theorem dX6_noParty_7 : decode cX6_noParty 7 = .ok (.iconst 4, 1) := by decide +kernel
theorem dX6_noParty_8 : decode cX6_noParty 8 = .ok (.iaload, 1) := by decide +kernel
theorem dX6_noParty_9 : decode cX6_noParty 9 = .ok (.iconst 1, 1) := by decide +kernel
theorem dX6_noParty_10 : decode cX6_noParty 10 = .ok (.isub, 1) := by decide +kernel
theorem dX6_noParty_11 : decode cX6_noParty 11 = .ok (.invokestatic 61, 3) := by decide +kernel
theorem dX6_noParty_14 : decode cX6_noParty 14 = .ok (.ifCond .ne 7, 3) := by decide +kernel
theorem dX6_noParty_17 : decode cX6_noParty 17 = .ok (.iconst 1, 1) := by decide +kernel
theorem dX6_noParty_18 : decode cX6_noParty 18 = .ok (.goto 4, 3) := by decide +kernel
theorem dX6_noParty_21 : decode cX6_noParty 21 = .ok (.iconst 0, 1) := by decide +kernel
theorem dX6_noParty_22 : decode cX6_noParty 22 = .ok (.iconst 1, 1) := by decide +kernel
theorem dX6_noParty_23 : decode cX6_noParty 23 = .ok (.invokevirtual 149, 3) := by decide +kernel
theorem dX6_noParty_26 : decode cX6_noParty 26 = .ok (.ireturn, 1) := by decide +kernel
theorem dX6_noCall_0 : decode cX6_noCall 0 = .ok (.aload_n 0, 1) := by decide +kernel
theorem dX6_noCall_1 : decode cX6_noCall 1 = .ok (.iload_n 1, 1) := by decide +kernel
theorem dX6_noCall_2 : decode cX6_noCall 2 = .ok (.iconst 0, 1) := by decide +kernel
theorem dX6_noCall_3 : decode cX6_noCall 3 = .ok (.aload_n 0, 1) := by decide +kernel
theorem dX6_noCall_4 : decode cX6_noCall 4 = .ok (.getfield 17, 3) := by decide +kernel
theorem dX6_noCall_7 : decode cX6_noCall 7 = .ok (.iconst 5, 1) := by decide +kernel
theorem dX6_noCall_8 : decode cX6_noCall 8 = .ok (.iaload, 1) := by decide +kernel
theorem dX6_noCall_9 : decode cX6_noCall 9 = .ok (.iconst 1, 1) := by decide +kernel
theorem dX6_noCall_10 : decode cX6_noCall 10 = .ok (.isub, 1) := by decide +kernel
theorem dX6_noCall_11 : decode cX6_noCall 11 = .ok (.invokestatic 61, 3) := by decide +kernel
theorem dX6_noCall_14 : decode cX6_noCall 14 = .ok (.ifCond .ne 7, 3) := by decide +kernel
theorem dX6_noCall_17 : decode cX6_noCall 17 = .ok (.iconst 1, 1) := by decide +kernel
theorem dX6_noCall_18 : decode cX6_noCall 18 = .ok (.goto 4, 3) := by decide +kernel
theorem dX6_noCall_21 : decode cX6_noCall 21 = .ok (.iconst 0, 1) := by decide +kernel
theorem dX6_noCall_22 : decode cX6_noCall 22 = .ok (.iconst 1, 1) := by decide +kernel
theorem dX6_noCall_23 : decode cX6_noCall 23 = .ok (.invokevirtual 149, 3) := by decide +kernel
theorem dX6_noCall_26 : decode cX6_noCall 26 = .ok (.ireturn, 1) := by decide +kernel
theorem dX6_noLeg_0 : decode cX6_noLeg 0 = .ok (.aload_n 0, 1) := by decide +kernel
theorem dX6_noLeg_1 : decode cX6_noLeg 1 = .ok (.iload_n 1, 1) := by decide +kernel
theorem dX6_noLeg_2 : decode cX6_noLeg 2 = .ok (.iconst 0, 1) := by decide +kernel
theorem dX6_noLeg_3 : decode cX6_noLeg 3 = .ok (.aload_n 0, 1) := by decide +kernel
theorem dX6_noLeg_4 : decode cX6_noLeg 4 = .ok (.getfield 17, 3) := by decide +kernel
theorem dX6_noLeg_7 : decode cX6_noLeg 7 = .ok (.bipush 6, 2) := by decide +kernel
theorem dX6_noLeg_9 : decode cX6_noLeg 9 = .ok (.iaload, 1) := by decide +kernel
theorem dX6_noLeg_10 : decode cX6_noLeg 10 = .ok (.iconst 1, 1) := by decide +kernel
theorem dX6_noLeg_11 : decode cX6_noLeg 11 = .ok (.isub, 1) := by decide +kernel
theorem dX6_noLeg_12 : decode cX6_noLeg 12 = .ok (.invokestatic 61, 3) := by decide +kernel
theorem dX6_noLeg_15 : decode cX6_noLeg 15 = .ok (.ifCond .ne 7, 3) := by decide +kernel
theorem dX6_noLeg_18 : decode cX6_noLeg 18 = .ok (.iconst 1, 1) := by decide +kernel
theorem dX6_noLeg_19 : decode cX6_noLeg 19 = .ok (.goto 4, 3) := by decide +kernel
theorem dX6_noLeg_22 : decode cX6_noLeg 22 = .ok (.iconst 0, 1) := by decide +kernel
theorem dX6_noLeg_23 : decode cX6_noLeg 23 = .ok (.iconst 1, 1) := by decide +kernel
theorem dX6_noLeg_24 : decode cX6_noLeg 24 = .ok (.invokevirtual 149, 3) := by decide +kernel
theorem dX6_noLeg_27 : decode cX6_noLeg 27 = .ok (.ireturn, 1) := by decide +kernel
theorem dX6_noWhat_0 : decode cX6_noWhat 0 = .ok (.aload_n 0, 1) := by decide +kernel
theorem dX6_noWhat_1 : decode cX6_noWhat 1 = .ok (.iload_n 1, 1) := by decide +kernel
theorem dX6_noWhat_2 : decode cX6_noWhat 2 = .ok (.iconst 0, 1) := by decide +kernel
theorem dX6_noWhat_3 : decode cX6_noWhat 3 = .ok (.iload_n 2, 1) := by decide +kernel
theorem dX6_noWhat_4 : decode cX6_noWhat 4 = .ok (.invokestatic 61, 3) := by decide +kernel
theorem dX6_noWhat_7 : decode cX6_noWhat 7 = .ok (.ifCond .ne 7, 3) := by decide +kernel
theorem dX6_noWhat_10 : decode cX6_noWhat 10 = .ok (.iconst 1, 1) := by decide +kernel
theorem dX6_noWhat_11 : decode cX6_noWhat 11 = .ok (.goto 4, 3) := by decide +kernel
theorem dX6_noWhat_14 : decode cX6_noWhat 14 = .ok (.iconst 0, 1) := by decide +kernel
theorem dX6_noWhat_15 : decode cX6_noWhat 15 = .ok (.iload_n 3, 1) := by decide +kernel
theorem dX6_noWhat_16 : decode cX6_noWhat 16 = .ok (.invokevirtual 149, 3) := by decide +kernel
theorem dX6_noWhat_19 : decode cX6_noWhat 19 = .ok (.ireturn, 1) := by decide +kernel
theorem dX6_time_0 : decode cX6_time 0 = .ok (.aload_n 0, 1) := by decide +kernel
theorem dX6_time_1 : decode cX6_time 1 = .ok (.iconst 0, 1) := by decide +kernel
theorem dX6_time_2 : decode cX6_time 2 = .ok (.putfield 39, 3) := by decide +kernel
theorem dX6_time_5 : decode cX6_time 5 = .ok (.aload_n 0, 1) := by decide +kernel
theorem dX6_time_6 : decode cX6_time 6 = .ok (.getfield 17, 3) := by decide +kernel
theorem dX6_time_9 : decode cX6_time 9 = .ok (.iconst 0, 1) := by decide +kernel
theorem dX6_time_10 : decode cX6_time 10 = .ok (.iaload, 1) := by decide +kernel
theorem dX6_time_11 : decode cX6_time 11 = .ok (.ireturn, 1) := by decide +kernel
theorem dX6_count_0 : decode cX6_count 0 = .ok (.aload_n 0, 1) := by decide +kernel
theorem dX6_count_1 : decode cX6_count 1 = .ok (.iconst 0, 1) := by decide +kernel
theorem dX6_count_2 : decode cX6_count 2 = .ok (.putfield 39, 3) := by decide +kernel
theorem dX6_count_5 : decode cX6_count 5 = .ok (.aload_n 0, 1) := by decide +kernel
theorem dX6_count_6 : decode cX6_count 6 = .ok (.iload_n 1, 1) := by decide +kernel
theorem dX6_count_7 : decode cX6_count 7 = .ok (.bipush 7, 2) := by decide +kernel
theorem dX6_count_9 : decode cX6_count 9 = .ok (.iconst 1, 1) := by decide +kernel
theorem dX6_count_10 : decode cX6_count 10 = .ok (.invokevirtual 265, 3) := by decide +kernel
theorem dX6_count_13 : decode cX6_count 13 = .ok (.ifCond .eq 5, 3) := by decide +kernel
theorem dX6_count_16 : decode cX6_count 16 = .ok (.iconst 0, 1) := by decide +kernel
theorem dX6_count_17 : decode cX6_count 17 = .ok (.ireturn, 1) := by decide +kernel
theorem dX6_count_18 : decode cX6_count 18 = .ok (.iload_n 1, 1) := by decide +kernel
theorem dX6_count_19 : decode cX6_count 19 = .ok (.iconst 3, 1) := by decide +kernel
theorem dX6_count_20 : decode cX6_count 20 = .ok (.if_icmp .ge 14, 3) := by decide +kernel
theorem dX6_count_23 : decode cX6_count 23 = .ok (.aload_n 0, 1) := by decide +kernel
theorem dX6_count_24 : decode cX6_count 24 = .ok (.getfield 17, 3) := by decide +kernel
theorem dX6_count_27 : decode cX6_count 27 = .ok (.iconst 4, 1) := by decide +kernel
theorem dX6_count_28 : decode cX6_count 28 = .ok (.iload_n 1, 1) := by decide +kernel
theorem dX6_count_29 : decode cX6_count 29 = .ok (.iadd, 1) := by decide +kernel
theorem dX6_count_30 : decode cX6_count 30 = .ok (.iaload, 1) := by decide +kernel
theorem dX6_count_31 : decode cX6_count 31 = .ok (.goto 39, 3) := by decide +kernel
theorem dX6_count_34 : decode cX6_count 34 = .ok (.iload_n 1, 1) := by decide +kernel
theorem dX6_count_35 : decode cX6_count 35 = .ok (.iconst 3, 1) := by decide +kernel
theorem dX6_count_36 : decode cX6_count 36 = .ok (.if_icmp .ne 11, 3) := by decide +kernel
theorem dX6_count_39 : decode cX6_count 39 = .ok (.aload_n 0, 1) := by decide +kernel
theorem dX6_count_40 : decode cX6_count 40 = .ok (.iconst 1, 1) := by decide +kernel
theorem dX6_count_41 : decode cX6_count 41 = .ok (.invokevirtual 268, 3) := by decide +kernel
theorem dX6_count_44 : decode cX6_count 44 = .ok (.goto 26, 3) := by decide +kernel
theorem dX6_count_47 : decode cX6_count 47 = .ok (.iload_n 1, 1) := by decide +kernel
theorem dX6_count_48 : decode cX6_count 48 = .ok (.iconst 4, 1) := by decide +kernel
theorem dX6_count_49 : decode cX6_count 49 = .ok (.if_icmp .ne 11, 3) := by decide +kernel
theorem dX6_count_52 : decode cX6_count 52 = .ok (.aload_n 0, 1) := by decide +kernel
theorem dX6_count_53 : decode cX6_count 53 = .ok (.iconst 0, 1) := by decide +kernel
theorem dX6_count_54 : decode cX6_count 54 = .ok (.invokevirtual 268, 3) := by decide +kernel
theorem dX6_count_57 : decode cX6_count 57 = .ok (.goto 13, 3) := by decide +kernel
theorem dX6_count_60 : decode cX6_count 60 = .ok (.aload_n 0, 1) := by decide +kernel
theorem dX6_count_61 : decode cX6_count 61 = .ok (.getfield 17, 3) := by decide +kernel
theorem dX6_count_64 : decode cX6_count 64 = .ok (.iconst 1, 1) := by decide +kernel
theorem dX6_count_65 : decode cX6_count 65 = .ok (.iload_n 1, 1) := by decide +kernel
theorem dX6_count_66 : decode cX6_count 66 = .ok (.iadd, 1) := by decide +kernel
theorem dX6_count_67 : decode cX6_count 67 = .ok (.iconst 5, 1) := by decide +kernel
theorem dX6_count_68 : decode cX6_count 68 = .ok (.isub, 1) := by decide +kernel
theorem dX6_count_69 : decode cX6_count 69 = .ok (.iaload, 1) := by decide +kernel
theorem dX6_count_70 : decode cX6_count 70 = .ok (.ireturn, 1) := by decide +kernel
theorem dX6_tellParty_0 : decode cX6_tellParty 0 = .ok (.iload_n 2, 1) := by decide +kernel
theorem dX6_tellParty_1 : decode cX6_tellParty 1 = .ok (.iconst 3, 1) := by decide +kernel
theorem dX6_tellParty_2 : decode cX6_tellParty 2 = .ok (.if_icmp .ge 12, 3) := by decide +kernel
theorem dX6_tellParty_5 : decode cX6_tellParty 5 = .ok (.aload_n 0, 1) := by decide +kernel
theorem dX6_tellParty_6 : decode cX6_tellParty 6 = .ok (.iload_n 1, 1) := by decide +kernel
theorem dX6_tellParty_7 : decode cX6_tellParty 7 = .ok (.iload_n 2, 1) := by decide +kernel
theorem dX6_tellParty_8 : decode cX6_tellParty 8 = .ok (.invokevirtual 250, 3) := by decide +kernel
theorem dX6_tellParty_11 : decode cX6_tellParty 11 = .ok (.goto 43, 3) := by decide +kernel
theorem dX6_tellParty_14 : decode cX6_tellParty 14 = .ok (.iload_n 2, 1) := by decide +kernel
theorem dX6_tellParty_15 : decode cX6_tellParty 15 = .ok (.iconst 3, 1) := by decide +kernel
theorem dX6_tellParty_16 : decode cX6_tellParty 16 = .ok (.if_icmp .ne 19, 3) := by decide +kernel
theorem dX6_tellParty_19 : decode cX6_tellParty 19 = .ok (.aload_n 0, 1) := by decide +kernel
theorem dX6_tellParty_20 : decode cX6_tellParty 20 = .ok (.iload_n 1, 1) := by decide +kernel
theorem dX6_tellParty_21 : decode cX6_tellParty 21 = .ok (.invokevirtual 234, 3) := by decide +kernel
theorem dX6_tellParty_24 : decode cX6_tellParty 24 = .ok (.ifCond .eq 7, 3) := by decide +kernel
theorem dX6_tellParty_27 : decode cX6_tellParty 27 = .ok (.iconst 1, 1) := by decide +kernel
theorem dX6_tellParty_28 : decode cX6_tellParty 28 = .ok (.goto 26, 3) := by decide +kernel
theorem dX6_tellParty_31 : decode cX6_tellParty 31 = .ok (.iconst 0, 1) := by decide +kernel
theorem dX6_tellParty_32 : decode cX6_tellParty 32 = .ok (.goto 22, 3) := by decide +kernel
theorem dX6_tellParty_35 : decode cX6_tellParty 35 = .ok (.iload_n 2, 1) := by decide +kernel
theorem dX6_tellParty_36 : decode cX6_tellParty 36 = .ok (.iconst 4, 1) := by decide +kernel
theorem dX6_tellParty_37 : decode cX6_tellParty 37 = .ok (.if_icmp .ne 12, 3) := by decide +kernel
theorem dX6_tellParty_40 : decode cX6_tellParty 40 = .ok (.aload_n 0, 1) := by decide +kernel
theorem dX6_tellParty_41 : decode cX6_tellParty 41 = .ok (.iload_n 1, 1) := by decide +kernel
theorem dX6_tellParty_42 : decode cX6_tellParty 42 = .ok (.iconst 1, 1) := by decide +kernel
theorem dX6_tellParty_43 : decode cX6_tellParty 43 = .ok (.invokevirtual 190, 3) := by decide +kernel
theorem dX6_tellParty_46 : decode cX6_tellParty 46 = .ok (.goto 8, 3) := by decide +kernel
theorem dX6_tellParty_49 : decode cX6_tellParty 49 = .ok (.aload_n 0, 1) := by decide +kernel
theorem dX6_tellParty_50 : decode cX6_tellParty 50 = .ok (.iload_n 1, 1) := by decide +kernel
theorem dX6_tellParty_51 : decode cX6_tellParty 51 = .ok (.invokevirtual 271, 3) := by decide +kernel
theorem dX6_tellParty_54 : decode cX6_tellParty 54 = .ok (.ireturn, 1) := by decide +kernel
theorem dX6_party_0 : decode cX6_party 0 = .ok (.aload_n 0, 1) := by decide +kernel
theorem dX6_party_1 : decode cX6_party 1 = .ok (.iconst 0, 1) := by decide +kernel
theorem dX6_party_2 : decode cX6_party 2 = .ok (.putfield 39, 3) := by decide +kernel
theorem dX6_party_5 : decode cX6_party 5 = .ok (.aload_n 0, 1) := by decide +kernel
theorem dX6_party_6 : decode cX6_party 6 = .ok (.iload_n 1, 1) := by decide +kernel
theorem dX6_party_7 : decode cX6_party 7 = .ok (.invokevirtual 274, 3) := by decide +kernel
theorem dX6_party_10 : decode cX6_party 10 = .ok (.ifCond .ne 13, 3) := by decide +kernel
theorem dX6_party_13 : decode cX6_party 13 = .ok (.aload_n 0, 1) := by decide +kernel
theorem dX6_party_14 : decode cX6_party 14 = .ok (.iload_n 2, 1) := by decide +kernel
theorem dX6_party_15 : decode cX6_party 15 = .ok (.iconst 5, 1) := by decide +kernel
theorem dX6_party_16 : decode cX6_party 16 = .ok (.iconst 2, 1) := by decide +kernel
theorem dX6_party_17 : decode cX6_party 17 = .ok (.invokevirtual 265, 3) := by decide +kernel
theorem dX6_party_20 : decode cX6_party 20 = .ok (.ifCond .eq 7, 3) := by decide +kernel
theorem dX6_party_23 : decode cX6_party 23 = .ok (.iconst 0, 1) := by decide +kernel
theorem dX6_party_24 : decode cX6_party 24 = .ok (.goto 9, 3) := by decide +kernel
theorem dX6_party_27 : decode cX6_party 27 = .ok (.aload_n 0, 1) := by decide +kernel
theorem dX6_party_28 : decode cX6_party 28 = .ok (.iload_n 1, 1) := by decide +kernel
theorem dX6_party_29 : decode cX6_party 29 = .ok (.iload_n 2, 1) := by decide +kernel
theorem dX6_party_30 : decode cX6_party 30 = .ok (.invokevirtual 277, 3) := by decide +kernel
theorem dX6_party_33 : decode cX6_party 33 = .ok (.ireturn, 1) := by decide +kernel
theorem dX6_tellCall_0 : decode cX6_tellCall 0 = .ok (.iload_n 2, 1) := by decide +kernel
theorem dX6_tellCall_1 : decode cX6_tellCall 1 = .ok (.iconst 4, 1) := by decide +kernel
theorem dX6_tellCall_2 : decode cX6_tellCall 2 = .ok (.if_icmp .ge 12, 3) := by decide +kernel
theorem dX6_tellCall_5 : decode cX6_tellCall 5 = .ok (.aload_n 0, 1) := by decide +kernel
theorem dX6_tellCall_6 : decode cX6_tellCall 6 = .ok (.iload_n 1, 1) := by decide +kernel
theorem dX6_tellCall_7 : decode cX6_tellCall 7 = .ok (.iload_n 2, 1) := by decide +kernel
theorem dX6_tellCall_8 : decode cX6_tellCall 8 = .ok (.invokevirtual 174, 3) := by decide +kernel
theorem dX6_tellCall_11 : decode cX6_tellCall 11 = .ok (.goto 30, 3) := by decide +kernel
theorem dX6_tellCall_14 : decode cX6_tellCall 14 = .ok (.iload_n 2, 1) := by decide +kernel
theorem dX6_tellCall_15 : decode cX6_tellCall 15 = .ok (.iconst 4, 1) := by decide +kernel
theorem dX6_tellCall_16 : decode cX6_tellCall 16 = .ok (.if_icmp .ne 19, 3) := by decide +kernel
theorem dX6_tellCall_19 : decode cX6_tellCall 19 = .ok (.aload_n 0, 1) := by decide +kernel
theorem dX6_tellCall_20 : decode cX6_tellCall 20 = .ok (.iload_n 1, 1) := by decide +kernel
theorem dX6_tellCall_21 : decode cX6_tellCall 21 = .ok (.invokevirtual 187, 3) := by decide +kernel
theorem dX6_tellCall_24 : decode cX6_tellCall 24 = .ok (.ifCond .eq 7, 3) := by decide +kernel
theorem dX6_tellCall_27 : decode cX6_tellCall 27 = .ok (.iconst 1, 1) := by decide +kernel
theorem dX6_tellCall_28 : decode cX6_tellCall 28 = .ok (.goto 13, 3) := by decide +kernel
theorem dX6_tellCall_31 : decode cX6_tellCall 31 = .ok (.iconst 0, 1) := by decide +kernel
theorem dX6_tellCall_32 : decode cX6_tellCall 32 = .ok (.goto 9, 3) := by decide +kernel
theorem dX6_tellCall_35 : decode cX6_tellCall 35 = .ok (.aload_n 0, 1) := by decide +kernel
theorem dX6_tellCall_36 : decode cX6_tellCall 36 = .ok (.iload_n 1, 1) := by decide +kernel
theorem dX6_tellCall_37 : decode cX6_tellCall 37 = .ok (.iconst 4, 1) := by decide +kernel
theorem dX6_tellCall_38 : decode cX6_tellCall 38 = .ok (.invokevirtual 174, 3) := by decide +kernel
theorem dX6_tellCall_41 : decode cX6_tellCall 41 = .ok (.ireturn, 1) := by decide +kernel
theorem dX6_call_0 : decode cX6_call 0 = .ok (.aload_n 0, 1) := by decide +kernel
theorem dX6_call_1 : decode cX6_call 1 = .ok (.iconst 0, 1) := by decide +kernel
theorem dX6_call_2 : decode cX6_call 2 = .ok (.putfield 39, 3) := by decide +kernel
theorem dX6_call_5 : decode cX6_call 5 = .ok (.aload_n 0, 1) := by decide +kernel
theorem dX6_call_6 : decode cX6_call 6 = .ok (.iload_n 1, 1) := by decide +kernel
theorem dX6_call_7 : decode cX6_call 7 = .ok (.invokevirtual 280, 3) := by decide +kernel
theorem dX6_call_10 : decode cX6_call 10 = .ok (.ifCond .ne 13, 3) := by decide +kernel
theorem dX6_call_13 : decode cX6_call 13 = .ok (.aload_n 0, 1) := by decide +kernel
theorem dX6_call_14 : decode cX6_call 14 = .ok (.iload_n 2, 1) := by decide +kernel
theorem dX6_call_15 : decode cX6_call 15 = .ok (.iconst 5, 1) := by decide +kernel
theorem dX6_call_16 : decode cX6_call 16 = .ok (.iconst 2, 1) := by decide +kernel
theorem dX6_call_17 : decode cX6_call 17 = .ok (.invokevirtual 265, 3) := by decide +kernel
theorem dX6_call_20 : decode cX6_call 20 = .ok (.ifCond .eq 7, 3) := by decide +kernel
theorem dX6_call_23 : decode cX6_call 23 = .ok (.iconst 0, 1) := by decide +kernel
theorem dX6_call_24 : decode cX6_call 24 = .ok (.goto 9, 3) := by decide +kernel
theorem dX6_call_27 : decode cX6_call 27 = .ok (.aload_n 0, 1) := by decide +kernel
theorem dX6_call_28 : decode cX6_call 28 = .ok (.iload_n 1, 1) := by decide +kernel
theorem dX6_call_29 : decode cX6_call 29 = .ok (.iload_n 2, 1) := by decide +kernel
theorem dX6_call_30 : decode cX6_call 30 = .ok (.invokevirtual 283, 3) := by decide +kernel
theorem dX6_call_33 : decode cX6_call 33 = .ok (.ireturn, 1) := by decide +kernel
theorem dX6_leg_0 : decode cX6_leg 0 = .ok (.aload_n 0, 1) := by decide +kernel
theorem dX6_leg_1 : decode cX6_leg 1 = .ok (.iconst 0, 1) := by decide +kernel
theorem dX6_leg_2 : decode cX6_leg 2 = .ok (.putfield 39, 3) := by decide +kernel
theorem dX6_leg_5 : decode cX6_leg 5 = .ok (.aload_n 0, 1) := by decide +kernel
theorem dX6_leg_6 : decode cX6_leg 6 = .ok (.iload_n 1, 1) := by decide +kernel
theorem dX6_leg_7 : decode cX6_leg 7 = .ok (.invokevirtual 286, 3) := by decide +kernel
theorem dX6_leg_10 : decode cX6_leg 10 = .ok (.ifCond .ne 13, 3) := by decide +kernel
theorem dX6_leg_13 : decode cX6_leg 13 = .ok (.aload_n 0, 1) := by decide +kernel
theorem dX6_leg_14 : decode cX6_leg 14 = .ok (.iload_n 2, 1) := by decide +kernel
theorem dX6_leg_15 : decode cX6_leg 15 = .ok (.iconst 5, 1) := by decide +kernel
theorem dX6_leg_16 : decode cX6_leg 16 = .ok (.iconst 2, 1) := by decide +kernel
theorem dX6_leg_17 : decode cX6_leg 17 = .ok (.invokevirtual 265, 3) := by decide +kernel
theorem dX6_leg_20 : decode cX6_leg 20 = .ok (.ifCond .eq 7, 3) := by decide +kernel
theorem dX6_leg_23 : decode cX6_leg 23 = .ok (.iconst 0, 1) := by decide +kernel
theorem dX6_leg_24 : decode cX6_leg 24 = .ok (.goto 9, 3) := by decide +kernel
theorem dX6_leg_27 : decode cX6_leg 27 = .ok (.aload_n 0, 1) := by decide +kernel
theorem dX6_leg_28 : decode cX6_leg 28 = .ok (.iload_n 1, 1) := by decide +kernel
theorem dX6_leg_29 : decode cX6_leg 29 = .ok (.iload_n 2, 1) := by decide +kernel
theorem dX6_leg_30 : decode cX6_leg 30 = .ok (.invokevirtual 171, 3) := by decide +kernel
theorem dX6_leg_33 : decode cX6_leg 33 = .ok (.ireturn, 1) := by decide +kernel
theorem dX6_pending_0 : decode cX6_pending 0 = .ok (.aload_n 0, 1) := by decide +kernel
theorem dX6_pending_1 : decode cX6_pending 1 = .ok (.iconst 0, 1) := by decide +kernel
theorem dX6_pending_2 : decode cX6_pending 2 = .ok (.putfield 39, 3) := by decide +kernel
theorem dX6_pending_5 : decode cX6_pending 5 = .ok (.aload_n 0, 1) := by decide +kernel
theorem dX6_pending_6 : decode cX6_pending 6 = .ok (.iload_n 1, 1) := by decide +kernel
theorem dX6_pending_7 : decode cX6_pending 7 = .ok (.invokevirtual 286, 3) := by decide +kernel
theorem dX6_pending_10 : decode cX6_pending 10 = .ok (.ifCond .ne 37, 3) := by decide +kernel
theorem dX6_pending_13 : decode cX6_pending 13 = .ok (.aload_n 0, 1) := by decide +kernel
theorem dX6_pending_14 : decode cX6_pending 14 = .ok (.aload_n 0, 1) := by decide +kernel
theorem dX6_pending_15 : decode cX6_pending 15 = .ok (.iload_n 1, 1) := by decide +kernel
theorem dX6_pending_16 : decode cX6_pending 16 = .ok (.bipush 6, 2) := by decide +kernel
theorem dX6_pending_18 : decode cX6_pending 18 = .ok (.invokevirtual 171, 3) := by decide +kernel
theorem dX6_pending_21 : decode cX6_pending 21 = .ok (.iconst (-1), 1) := by decide +kernel
theorem dX6_pending_22 : decode cX6_pending 22 = .ok (.if_icmp .ne 7, 3) := by decide +kernel
theorem dX6_pending_25 : decode cX6_pending 25 = .ok (.iconst 1, 1) := by decide +kernel
theorem dX6_pending_26 : decode cX6_pending 26 = .ok (.goto 4, 3) := by decide +kernel
theorem dX6_pending_29 : decode cX6_pending 29 = .ok (.iconst 0, 1) := by decide +kernel
theorem dX6_pending_30 : decode cX6_pending 30 = .ok (.iconst 2, 1) := by decide +kernel
theorem dX6_pending_31 : decode cX6_pending 31 = .ok (.invokevirtual 149, 3) := by decide +kernel
theorem dX6_pending_34 : decode cX6_pending 34 = .ok (.ifCond .ne 13, 3) := by decide +kernel
theorem dX6_pending_37 : decode cX6_pending 37 = .ok (.aload_n 0, 1) := by decide +kernel
theorem dX6_pending_38 : decode cX6_pending 38 = .ok (.iload_n 2, 1) := by decide +kernel
theorem dX6_pending_39 : decode cX6_pending 39 = .ok (.iconst 2, 1) := by decide +kernel
theorem dX6_pending_40 : decode cX6_pending 40 = .ok (.iconst 3, 1) := by decide +kernel
theorem dX6_pending_41 : decode cX6_pending 41 = .ok (.invokevirtual 265, 3) := by decide +kernel
theorem dX6_pending_44 : decode cX6_pending 44 = .ok (.ifCond .eq 7, 3) := by decide +kernel
theorem dX6_pending_47 : decode cX6_pending 47 = .ok (.iconst 0, 1) := by decide +kernel
theorem dX6_pending_48 : decode cX6_pending 48 = .ok (.goto 12, 3) := by decide +kernel
theorem dX6_pending_51 : decode cX6_pending 51 = .ok (.aload_n 0, 1) := by decide +kernel
theorem dX6_pending_52 : decode cX6_pending 52 = .ok (.iload_n 1, 1) := by decide +kernel
theorem dX6_pending_53 : decode cX6_pending 53 = .ok (.bipush 6, 2) := by decide +kernel
theorem dX6_pending_55 : decode cX6_pending 55 = .ok (.iload_n 2, 1) := by decide +kernel
theorem dX6_pending_56 : decode cX6_pending 56 = .ok (.iadd, 1) := by decide +kernel
theorem dX6_pending_57 : decode cX6_pending 57 = .ok (.invokevirtual 171, 3) := by decide +kernel
theorem dX6_pending_60 : decode cX6_pending 60 = .ok (.ireturn, 1) := by decide +kernel
theorem dX6_repetition_0 : decode cX6_repetition 0 = .ok (.aload_n 0, 1) := by decide +kernel
theorem dX6_repetition_1 : decode cX6_repetition 1 = .ok (.iconst 0, 1) := by decide +kernel
theorem dX6_repetition_2 : decode cX6_repetition 2 = .ok (.putfield 39, 3) := by decide +kernel
theorem dX6_repetition_5 : decode cX6_repetition 5 = .ok (.aload_n 0, 1) := by decide +kernel
theorem dX6_repetition_6 : decode cX6_repetition 6 = .ok (.iload_n 1, 1) := by decide +kernel
theorem dX6_repetition_7 : decode cX6_repetition 7 = .ok (.invokevirtual 286, 3) := by decide +kernel
theorem dX6_repetition_10 : decode cX6_repetition 10 = .ok (.ifCond .ne 13, 3) := by decide +kernel
theorem dX6_repetition_13 : decode cX6_repetition 13 = .ok (.aload_n 0, 1) := by decide +kernel
theorem dX6_repetition_14 : decode cX6_repetition 14 = .ok (.iload_n 2, 1) := by decide +kernel
theorem dX6_repetition_15 : decode cX6_repetition 15 = .ok (.iconst 1, 1) := by decide +kernel
theorem dX6_repetition_16 : decode cX6_repetition 16 = .ok (.iconst 2, 1) := by decide +kernel
theorem dX6_repetition_17 : decode cX6_repetition 17 = .ok (.invokevirtual 265, 3) := by decide +kernel
theorem dX6_repetition_20 : decode cX6_repetition 20 = .ok (.ifCond .eq 7, 3) := by decide +kernel
theorem dX6_repetition_23 : decode cX6_repetition 23 = .ok (.iconst 0, 1) := by decide +kernel
theorem dX6_repetition_24 : decode cX6_repetition 24 = .ok (.goto 12, 3) := by decide +kernel
theorem dX6_repetition_27 : decode cX6_repetition 27 = .ok (.aload_n 0, 1) := by decide +kernel
theorem dX6_repetition_28 : decode cX6_repetition 28 = .ok (.iload_n 1, 1) := by decide +kernel
theorem dX6_repetition_29 : decode cX6_repetition 29 = .ok (.bipush 9, 2) := by decide +kernel
theorem dX6_repetition_31 : decode cX6_repetition 31 = .ok (.iload_n 2, 1) := by decide +kernel
theorem dX6_repetition_32 : decode cX6_repetition 32 = .ok (.iadd, 1) := by decide +kernel
theorem dX6_repetition_33 : decode cX6_repetition 33 = .ok (.invokevirtual 171, 3) := by decide +kernel
theorem dX6_repetition_36 : decode cX6_repetition 36 = .ok (.ireturn, 1) := by decide +kernel
theorem dX6_total_0 : decode cX6_total 0 = .ok (.aload_n 0, 1) := by decide +kernel
theorem dX6_total_1 : decode cX6_total 1 = .ok (.iconst 0, 1) := by decide +kernel
theorem dX6_total_2 : decode cX6_total 2 = .ok (.putfield 39, 3) := by decide +kernel
theorem dX6_total_5 : decode cX6_total 5 = .ok (.aload_n 0, 1) := by decide +kernel
theorem dX6_total_6 : decode cX6_total 6 = .ok (.iload_n 1, 1) := by decide +kernel
theorem dX6_total_7 : decode cX6_total 7 = .ok (.bipush 6, 2) := by decide +kernel
theorem dX6_total_9 : decode cX6_total 9 = .ok (.iconst 1, 1) := by decide +kernel
theorem dX6_total_10 : decode cX6_total 10 = .ok (.invokevirtual 265, 3) := by decide +kernel
theorem dX6_total_13 : decode cX6_total 13 = .ok (.ifCond .eq 7, 3) := by decide +kernel
theorem dX6_total_16 : decode cX6_total 16 = .ok (.iconst 0, 1) := by decide +kernel
theorem dX6_total_17 : decode cX6_total 17 = .ok (.goto 12, 3) := by decide +kernel
theorem dX6_total_20 : decode cX6_total 20 = .ok (.aload_n 0, 1) := by decide +kernel
theorem dX6_total_21 : decode cX6_total 21 = .ok (.getfield 17, 3) := by decide +kernel
theorem dX6_total_24 : decode cX6_total 24 = .ok (.bipush 9, 2) := by decide +kernel
theorem dX6_total_26 : decode cX6_total 26 = .ok (.iload_n 1, 1) := by decide +kernel
theorem dX6_total_27 : decode cX6_total 27 = .ok (.iadd, 1) := by decide +kernel
theorem dX6_total_28 : decode cX6_total 28 = .ok (.iaload, 1) := by decide +kernel
theorem dX6_total_29 : decode cX6_total 29 = .ok (.ireturn, 1) := by decide +kernel
theorem dX6_settle_0 : decode cX6_settle 0 = .ok (.iconst 0, 1) := by decide +kernel
theorem dX6_settle_1 : decode cX6_settle 1 = .ok (.istore_n 2, 1) := by decide +kernel
theorem dX6_settle_2 : decode cX6_settle 2 = .ok (.aload_n 0, 1) := by decide +kernel
theorem dX6_settle_3 : decode cX6_settle 3 = .ok (.iload_n 1, 1) := by decide +kernel
theorem dX6_settle_4 : decode cX6_settle 4 = .ok (.invokevirtual 187, 3) := by decide +kernel
theorem dX6_settle_7 : decode cX6_settle 7 = .ok (.ifCond .eq 13, 3) := by decide +kernel
theorem dX6_settle_10 : decode cX6_settle 10 = .ok (.aload_n 0, 1) := by decide +kernel
theorem dX6_settle_11 : decode cX6_settle 11 = .ok (.invokevirtual 289, 3) := by decide +kernel
theorem dX6_settle_14 : decode cX6_settle 14 = .ok (.iinc 2 1, 3) := by decide +kernel
theorem dX6_settle_17 : decode cX6_settle 17 = .ok (.goto (-15), 3) := by decide +kernel
theorem dX6_settle_20 : decode cX6_settle 20 = .ok (.iload_n 2, 1) := by decide +kernel
theorem dX6_settle_21 : decode cX6_settle 21 = .ok (.ireturn, 1) := by decide +kernel
theorem dX6_settlesIn_0 : decode cX6_settlesIn 0 = .ok (.aload_n 0, 1) := by decide +kernel
theorem dX6_settlesIn_1 : decode cX6_settlesIn 1 = .ok (.iconst 0, 1) := by decide +kernel
theorem dX6_settlesIn_2 : decode cX6_settlesIn 2 = .ok (.putfield 39, 3) := by decide +kernel
theorem dX6_settlesIn_5 : decode cX6_settlesIn 5 = .ok (.aload_n 0, 1) := by decide +kernel
theorem dX6_settlesIn_6 : decode cX6_settlesIn 6 = .ok (.iload_n 1, 1) := by decide +kernel
theorem dX6_settlesIn_7 : decode cX6_settlesIn 7 = .ok (.invokevirtual 280, 3) := by decide +kernel
theorem dX6_settlesIn_10 : decode cX6_settlesIn 10 = .ok (.ifCond .eq 5, 3) := by decide +kernel
theorem dX6_settlesIn_13 : decode cX6_settlesIn 13 = .ok (.iconst 0, 1) := by decide +kernel
theorem dX6_settlesIn_14 : decode cX6_settlesIn 14 = .ok (.ireturn, 1) := by decide +kernel
theorem dX6_settlesIn_15 : decode cX6_settlesIn 15 = .ok (.aload_n 0, 1) := by decide +kernel
theorem dX6_settlesIn_16 : decode cX6_settlesIn 16 = .ok (.getfield 17, 3) := by decide +kernel
theorem dX6_settlesIn_19 : decode cX6_settlesIn 19 = .ok (.aload_n 0, 1) := by decide +kernel
theorem dX6_settlesIn_20 : decode cX6_settlesIn 20 = .ok (.getfield 23, 3) := by decide +kernel
theorem dX6_settlesIn_23 : decode cX6_settlesIn 23 = .ok (.invokestatic 161, 3) := by decide +kernel
theorem dX6_settlesIn_26 : decode cX6_settlesIn 26 = .ok (.aload_n 0, 1) := by decide +kernel
theorem dX6_settlesIn_27 : decode cX6_settlesIn 27 = .ok (.iload_n 1, 1) := by decide +kernel
theorem dX6_settlesIn_28 : decode cX6_settlesIn 28 = .ok (.invokevirtual 292, 3) := by decide +kernel
theorem dX6_settlesIn_31 : decode cX6_settlesIn 31 = .ok (.istore_n 2, 1) := by decide +kernel
theorem dX6_settlesIn_32 : decode cX6_settlesIn 32 = .ok (.aload_n 0, 1) := by decide +kernel
theorem dX6_settlesIn_33 : decode cX6_settlesIn 33 = .ok (.getfield 23, 3) := by decide +kernel
theorem dX6_settlesIn_36 : decode cX6_settlesIn 36 = .ok (.aload_n 0, 1) := by decide +kernel
theorem dX6_settlesIn_37 : decode cX6_settlesIn 37 = .ok (.getfield 17, 3) := by decide +kernel
theorem dX6_settlesIn_40 : decode cX6_settlesIn 40 = .ok (.invokestatic 161, 3) := by decide +kernel
theorem dX6_settlesIn_43 : decode cX6_settlesIn 43 = .ok (.iload_n 2, 1) := by decide +kernel
theorem dX6_settlesIn_44 : decode cX6_settlesIn 44 = .ok (.ireturn, 1) := by decide +kernel
theorem dX6_answeredBy_0 : decode cX6_answeredBy 0 = .ok (.aload_n 0, 1) := by decide +kernel
theorem dX6_answeredBy_1 : decode cX6_answeredBy 1 = .ok (.iconst 0, 1) := by decide +kernel
theorem dX6_answeredBy_2 : decode cX6_answeredBy 2 = .ok (.putfield 39, 3) := by decide +kernel
theorem dX6_answeredBy_5 : decode cX6_answeredBy 5 = .ok (.aload_n 0, 1) := by decide +kernel
theorem dX6_answeredBy_6 : decode cX6_answeredBy 6 = .ok (.iload_n 1, 1) := by decide +kernel
theorem dX6_answeredBy_7 : decode cX6_answeredBy 7 = .ok (.invokevirtual 280, 3) := by decide +kernel
theorem dX6_answeredBy_10 : decode cX6_answeredBy 10 = .ok (.ifCond .eq 5, 3) := by decide +kernel
theorem dX6_answeredBy_13 : decode cX6_answeredBy 13 = .ok (.iconst 0, 1) := by decide +kernel
theorem dX6_answeredBy_14 : decode cX6_answeredBy 14 = .ok (.ireturn, 1) := by decide +kernel
theorem dX6_answeredBy_15 : decode cX6_answeredBy 15 = .ok (.aload_n 0, 1) := by decide +kernel
theorem dX6_answeredBy_16 : decode cX6_answeredBy 16 = .ok (.getfield 17, 3) := by decide +kernel
theorem dX6_answeredBy_19 : decode cX6_answeredBy 19 = .ok (.aload_n 0, 1) := by decide +kernel
theorem dX6_answeredBy_20 : decode cX6_answeredBy 20 = .ok (.getfield 23, 3) := by decide +kernel
theorem dX6_answeredBy_23 : decode cX6_answeredBy 23 = .ok (.invokestatic 161, 3) := by decide +kernel
theorem dX6_answeredBy_26 : decode cX6_answeredBy 26 = .ok (.aload_n 0, 1) := by decide +kernel
theorem dX6_answeredBy_27 : decode cX6_answeredBy 27 = .ok (.iload_n 1, 1) := by decide +kernel
theorem dX6_answeredBy_28 : decode cX6_answeredBy 28 = .ok (.invokevirtual 292, 3) := by decide +kernel
theorem dX6_answeredBy_31 : decode cX6_answeredBy 31 = .ok (.istore_n 2, 1) := by decide +kernel
theorem dX6_answeredBy_32 : decode cX6_answeredBy 32 = .ok (.aload_n 0, 1) := by decide +kernel
theorem dX6_answeredBy_33 : decode cX6_answeredBy 33 = .ok (.iload_n 1, 1) := by decide +kernel
theorem dX6_answeredBy_34 : decode cX6_answeredBy 34 = .ok (.iconst 4, 1) := by decide +kernel
theorem dX6_answeredBy_35 : decode cX6_answeredBy 35 = .ok (.invokevirtual 174, 3) := by decide +kernel
theorem dX6_answeredBy_38 : decode cX6_answeredBy 38 = .ok (.istore_n 3, 1) := by decide +kernel
theorem dX6_answeredBy_39 : decode cX6_answeredBy 39 = .ok (.aload_n 0, 1) := by decide +kernel
theorem dX6_answeredBy_40 : decode cX6_answeredBy 40 = .ok (.getfield 23, 3) := by decide +kernel
theorem dX6_answeredBy_43 : decode cX6_answeredBy 43 = .ok (.aload_n 0, 1) := by decide +kernel
theorem dX6_answeredBy_44 : decode cX6_answeredBy 44 = .ok (.getfield 17, 3) := by decide +kernel
theorem dX6_answeredBy_47 : decode cX6_answeredBy 47 = .ok (.invokestatic 161, 3) := by decide +kernel
theorem dX6_answeredBy_50 : decode cX6_answeredBy 50 = .ok (.iload_n 3, 1) := by decide +kernel
theorem dX6_answeredBy_51 : decode cX6_answeredBy 51 = .ok (.ireturn, 1) := by decide +kernel
theorem dX6_remember_0 : decode cX6_remember 0 = .ok (.aload_n 0, 1) := by decide +kernel
theorem dX6_remember_1 : decode cX6_remember 1 = .ok (.getfield 295, 3) := by decide +kernel
theorem dX6_remember_4 : decode cX6_remember 4 = .ok (.bipush 8, 2) := by decide +kernel
theorem dX6_remember_6 : decode cX6_remember 6 = .ok (.if_icmp .ne 44, 3) := by decide +kernel
theorem dX6_remember_9 : decode cX6_remember 9 = .ok (.iconst 1, 1) := by decide +kernel
theorem dX6_remember_10 : decode cX6_remember 10 = .ok (.istore_n 1, 1) := by decide +kernel
theorem dX6_remember_11 : decode cX6_remember 11 = .ok (.iload_n 1, 1) := by decide +kernel
theorem dX6_remember_12 : decode cX6_remember 12 = .ok (.bipush 8, 2) := by decide +kernel
theorem dX6_remember_14 : decode cX6_remember 14 = .ok (.if_icmp .ge 26, 3) := by decide +kernel
theorem dX6_remember_17 : decode cX6_remember 17 = .ok (.aload_n 0, 1) := by decide +kernel
theorem dX6_remember_18 : decode cX6_remember 18 = .ok (.getfield 28, 3) := by decide +kernel
theorem dX6_remember_21 : decode cX6_remember 21 = .ok (.iload_n 1, 1) := by decide +kernel
theorem dX6_remember_22 : decode cX6_remember 22 = .ok (.aaload, 1) := by decide +kernel
theorem dX6_remember_23 : decode cX6_remember 23 = .ok (.aload_n 0, 1) := by decide +kernel
theorem dX6_remember_24 : decode cX6_remember 24 = .ok (.getfield 28, 3) := by decide +kernel
theorem dX6_remember_27 : decode cX6_remember 27 = .ok (.iload_n 1, 1) := by decide +kernel
theorem dX6_remember_28 : decode cX6_remember 28 = .ok (.iconst 1, 1) := by decide +kernel
theorem dX6_remember_29 : decode cX6_remember 29 = .ok (.isub, 1) := by decide +kernel
theorem dX6_remember_30 : decode cX6_remember 30 = .ok (.aaload, 1) := by decide +kernel
theorem dX6_remember_31 : decode cX6_remember 31 = .ok (.invokestatic 161, 3) := by decide +kernel
theorem dX6_remember_34 : decode cX6_remember 34 = .ok (.iinc 1 1, 3) := by decide +kernel
theorem dX6_remember_37 : decode cX6_remember 37 = .ok (.goto (-26), 3) := by decide +kernel
theorem dX6_remember_40 : decode cX6_remember 40 = .ok (.aload_n 0, 1) := by decide +kernel
theorem dX6_remember_41 : decode cX6_remember 41 = .ok (.dup, 1) := by decide +kernel
theorem dX6_remember_42 : decode cX6_remember 42 = .ok (.getfield 295, 3) := by decide +kernel
theorem dX6_remember_45 : decode cX6_remember 45 = .ok (.iconst 1, 1) := by decide +kernel
theorem dX6_remember_46 : decode cX6_remember 46 = .ok (.isub, 1) := by decide +kernel
theorem dX6_remember_47 : decode cX6_remember 47 = .ok (.putfield 295, 3) := by decide +kernel
theorem dX6_remember_50 : decode cX6_remember 50 = .ok (.aload_n 0, 1) := by decide +kernel
theorem dX6_remember_51 : decode cX6_remember 51 = .ok (.getfield 17, 3) := by decide +kernel
theorem dX6_remember_54 : decode cX6_remember 54 = .ok (.aload_n 0, 1) := by decide +kernel
theorem dX6_remember_55 : decode cX6_remember 55 = .ok (.getfield 28, 3) := by decide +kernel
theorem dX6_remember_58 : decode cX6_remember 58 = .ok (.aload_n 0, 1) := by decide +kernel
theorem dX6_remember_59 : decode cX6_remember 59 = .ok (.getfield 295, 3) := by decide +kernel
theorem dX6_remember_62 : decode cX6_remember 62 = .ok (.aaload, 1) := by decide +kernel
theorem dX6_remember_63 : decode cX6_remember 63 = .ok (.invokestatic 161, 3) := by decide +kernel
theorem dX6_remember_66 : decode cX6_remember 66 = .ok (.aload_n 0, 1) := by decide +kernel
theorem dX6_remember_67 : decode cX6_remember 67 = .ok (.dup, 1) := by decide +kernel
theorem dX6_remember_68 : decode cX6_remember 68 = .ok (.getfield 295, 3) := by decide +kernel
theorem dX6_remember_71 : decode cX6_remember 71 = .ok (.iconst 1, 1) := by decide +kernel
theorem dX6_remember_72 : decode cX6_remember 72 = .ok (.iadd, 1) := by decide +kernel
theorem dX6_remember_73 : decode cX6_remember 73 = .ok (.putfield 295, 3) := by decide +kernel
theorem dX6_remember_76 : decode cX6_remember 76 = .ok (.return_, 1) := by decide +kernel
theorem dX6_pass_0 : decode cX6_pass 0 = .ok (.aload_n 0, 1) := by decide +kernel
theorem dX6_pass_1 : decode cX6_pass 1 = .ok (.iconst 0, 1) := by decide +kernel
theorem dX6_pass_2 : decode cX6_pass 2 = .ok (.putfield 39, 3) := by decide +kernel
theorem dX6_pass_5 : decode cX6_pass 5 = .ok (.aload_n 0, 1) := by decide +kernel
theorem dX6_pass_6 : decode cX6_pass 6 = .ok (.iload_n 1, 1) := by decide +kernel
theorem dX6_pass_7 : decode cX6_pass 7 = .ok (.iconst 1, 1) := by decide +kernel
theorem dX6_pass_8 : decode cX6_pass 8 = .ok (.sipush 200, 3) := by decide +kernel
theorem dX6_pass_11 : decode cX6_pass 11 = .ok (.invokestatic 61, 3) := by decide +kernel
theorem dX6_pass_14 : decode cX6_pass 14 = .ok (.ifCond .eq 17, 3) := by decide +kernel
theorem dX6_pass_17 : decode cX6_pass 17 = .ok (.aload_n 0, 1) := by decide +kernel
theorem dX6_pass_18 : decode cX6_pass 18 = .ok (.getfield 17, 3) := by decide +kernel
theorem dX6_pass_21 : decode cX6_pass 21 = .ok (.iconst 0, 1) := by decide +kernel
theorem dX6_pass_22 : decode cX6_pass 22 = .ok (.iaload, 1) := by decide +kernel
theorem dX6_pass_23 : decode cX6_pass 23 = .ok (.iload_n 1, 1) := by decide +kernel
theorem dX6_pass_24 : decode cX6_pass 24 = .ok (.iadd, 1) := by decide +kernel
theorem dX6_pass_25 : decode cX6_pass 25 = .ok (.sipush 9999, 3) := by decide +kernel
theorem dX6_pass_28 : decode cX6_pass 28 = .ok (.if_icmp .le 7, 3) := by decide +kernel
theorem dX6_pass_31 : decode cX6_pass 31 = .ok (.iconst 1, 1) := by decide +kernel
theorem dX6_pass_32 : decode cX6_pass 32 = .ok (.goto 4, 3) := by decide +kernel
theorem dX6_pass_35 : decode cX6_pass 35 = .ok (.iconst 0, 1) := by decide +kernel
theorem dX6_pass_36 : decode cX6_pass 36 = .ok (.iconst 1, 1) := by decide +kernel
theorem dX6_pass_37 : decode cX6_pass 37 = .ok (.invokevirtual 149, 3) := by decide +kernel
theorem dX6_pass_40 : decode cX6_pass 40 = .ok (.ifCond .eq 5, 3) := by decide +kernel
theorem dX6_pass_43 : decode cX6_pass 43 = .ok (.iconst 0, 1) := by decide +kernel
theorem dX6_pass_44 : decode cX6_pass 44 = .ok (.ireturn, 1) := by decide +kernel
theorem dX6_pass_45 : decode cX6_pass 45 = .ok (.aload_n 0, 1) := by decide +kernel
theorem dX6_pass_46 : decode cX6_pass 46 = .ok (.invokevirtual 158, 3) := by decide +kernel
theorem dX6_pass_49 : decode cX6_pass 49 = .ok (.iconst 0, 1) := by decide +kernel
theorem dX6_pass_50 : decode cX6_pass 50 = .ok (.istore_n 2, 1) := by decide +kernel
theorem dX6_pass_51 : decode cX6_pass 51 = .ok (.iload_n 2, 1) := by decide +kernel
theorem dX6_pass_52 : decode cX6_pass 52 = .ok (.iload_n 1, 1) := by decide +kernel
theorem dX6_pass_53 : decode cX6_pass 53 = .ok (.if_icmp .ge 13, 3) := by decide +kernel
theorem dX6_pass_56 : decode cX6_pass 56 = .ok (.aload_n 0, 1) := by decide +kernel
theorem dX6_pass_57 : decode cX6_pass 57 = .ok (.invokevirtual 289, 3) := by decide +kernel
theorem dX6_pass_60 : decode cX6_pass 60 = .ok (.iinc 2 1, 3) := by decide +kernel
theorem dX6_pass_63 : decode cX6_pass 63 = .ok (.goto (-12), 3) := by decide +kernel
theorem dX6_pass_66 : decode cX6_pass 66 = .ok (.aload_n 0, 1) := by decide +kernel
theorem dX6_pass_67 : decode cX6_pass 67 = .ok (.iconst 1, 1) := by decide +kernel
theorem dX6_pass_68 : decode cX6_pass 68 = .ok (.invokevirtual 268, 3) := by decide +kernel
theorem dX6_pass_71 : decode cX6_pass 71 = .ok (.ireturn, 1) := by decide +kernel
theorem dX6_dial_0 : decode cX6_dial 0 = .ok (.aload_n 0, 1) := by decide +kernel
theorem dX6_dial_1 : decode cX6_dial 1 = .ok (.iconst 0, 1) := by decide +kernel
theorem dX6_dial_2 : decode cX6_dial 2 = .ok (.putfield 39, 3) := by decide +kernel
theorem dX6_dial_5 : decode cX6_dial 5 = .ok (.aload_n 0, 1) := by decide +kernel
theorem dX6_dial_6 : decode cX6_dial 6 = .ok (.iload_n 1, 1) := by decide +kernel
theorem dX6_dial_7 : decode cX6_dial 7 = .ok (.invokevirtual 274, 3) := by decide +kernel
theorem dX6_dial_10 : decode cX6_dial 10 = .ok (.ifCond .ne 41, 3) := by decide +kernel
theorem dX6_dial_13 : decode cX6_dial 13 = .ok (.aload_n 0, 1) := by decide +kernel
theorem dX6_dial_14 : decode cX6_dial 14 = .ok (.iload_n 2, 1) := by decide +kernel
theorem dX6_dial_15 : decode cX6_dial 15 = .ok (.ifCond .le 24, 3) := by decide +kernel
theorem dX6_dial_18 : decode cX6_dial 18 = .ok (.iload_n 2, 1) := by decide +kernel
theorem dX6_dial_19 : decode cX6_dial 19 = .ok (.iconst 1, 1) := by decide +kernel
theorem dX6_dial_20 : decode cX6_dial 20 = .ok (.aload_n 0, 1) := by decide +kernel
theorem dX6_dial_21 : decode cX6_dial 21 = .ok (.getfield 17, 3) := by decide +kernel
theorem dX6_dial_24 : decode cX6_dial 24 = .ok (.iconst 4, 1) := by decide +kernel
theorem dX6_dial_25 : decode cX6_dial 25 = .ok (.iaload, 1) := by decide +kernel
theorem dX6_dial_26 : decode cX6_dial 26 = .ok (.ishl, 1) := by decide +kernel
theorem dX6_dial_27 : decode cX6_dial 27 = .ok (.if_icmp .ge 12, 3) := by decide +kernel
theorem dX6_dial_30 : decode cX6_dial 30 = .ok (.iload_n 2, 1) := by decide +kernel
theorem dX6_dial_31 : decode cX6_dial 31 = .ok (.iload_n 1, 1) := by decide +kernel
theorem dX6_dial_32 : decode cX6_dial 32 = .ok (.ishr, 1) := by decide +kernel
theorem dX6_dial_33 : decode cX6_dial 33 = .ok (.iconst 1, 1) := by decide +kernel
theorem dX6_dial_34 : decode cX6_dial 34 = .ok (.iand, 1) := by decide +kernel
theorem dX6_dial_35 : decode cX6_dial 35 = .ok (.iconst 1, 1) := by decide +kernel
theorem dX6_dial_36 : decode cX6_dial 36 = .ok (.if_icmp .ne 7, 3) := by decide +kernel
theorem dX6_dial_39 : decode cX6_dial 39 = .ok (.iconst 1, 1) := by decide +kernel
theorem dX6_dial_40 : decode cX6_dial 40 = .ok (.goto 4, 3) := by decide +kernel
theorem dX6_dial_43 : decode cX6_dial 43 = .ok (.iconst 0, 1) := by decide +kernel
theorem dX6_dial_44 : decode cX6_dial 44 = .ok (.iconst 2, 1) := by decide +kernel
theorem dX6_dial_45 : decode cX6_dial 45 = .ok (.invokevirtual 149, 3) := by decide +kernel
theorem dX6_dial_48 : decode cX6_dial 48 = .ok (.ifCond .eq 5, 3) := by decide +kernel
theorem dX6_dial_51 : decode cX6_dial 51 = .ok (.iconst 0, 1) := by decide +kernel
theorem dX6_dial_52 : decode cX6_dial 52 = .ok (.ireturn, 1) := by decide +kernel
theorem dX6_dial_53 : decode cX6_dial 53 = .ok (.iconst 0, 1) := by decide +kernel
theorem dX6_dial_54 : decode cX6_dial 54 = .ok (.istore_n 3, 1) := by decide +kernel
theorem dX6_dial_55 : decode cX6_dial 55 = .ok (.iconst 0, 1) := by decide +kernel
theorem dX6_dial_56 : decode cX6_dial 56 = .ok (.istore 4, 2) := by decide +kernel
theorem dX6_dial_58 : decode cX6_dial 58 = .ok (.iload 4, 2) := by decide +kernel
theorem dX6_dial_60 : decode cX6_dial 60 = .ok (.bipush 10, 2) := by decide +kernel
theorem dX6_dial_62 : decode cX6_dial 62 = .ok (.if_icmp .ge 18, 3) := by decide +kernel
theorem dX6_dial_65 : decode cX6_dial 65 = .ok (.iload_n 3, 1) := by decide +kernel
theorem dX6_dial_66 : decode cX6_dial 66 = .ok (.iload_n 2, 1) := by decide +kernel
theorem dX6_dial_67 : decode cX6_dial 67 = .ok (.iload 4, 2) := by decide +kernel
theorem dX6_dial_69 : decode cX6_dial 69 = .ok (.ishr, 1) := by decide +kernel
theorem dX6_dial_70 : decode cX6_dial 70 = .ok (.iconst 1, 1) := by decide +kernel
theorem dX6_dial_71 : decode cX6_dial 71 = .ok (.iand, 1) := by decide +kernel
theorem dX6_dial_72 : decode cX6_dial 72 = .ok (.iadd, 1) := by decide +kernel
theorem dX6_dial_73 : decode cX6_dial 73 = .ok (.istore_n 3, 1) := by decide +kernel
theorem dX6_dial_74 : decode cX6_dial 74 = .ok (.iinc 4 1, 3) := by decide +kernel
theorem dX6_dial_77 : decode cX6_dial 77 = .ok (.goto (-19), 3) := by decide +kernel
theorem dX6_dial_80 : decode cX6_dial 80 = .ok (.aload_n 0, 1) := by decide +kernel
theorem dX6_dial_81 : decode cX6_dial 81 = .ok (.aload_n 0, 1) := by decide +kernel
theorem dX6_dial_82 : decode cX6_dial 82 = .ok (.iload_n 1, 1) := by decide +kernel
theorem dX6_dial_83 : decode cX6_dial 83 = .ok (.invokevirtual 234, 3) := by decide +kernel
theorem dX6_dial_86 : decode cX6_dial 86 = .ok (.ifCond .ne 28, 3) := by decide +kernel
theorem dX6_dial_89 : decode cX6_dial 89 = .ok (.aload_n 0, 1) := by decide +kernel
theorem dX6_dial_90 : decode cX6_dial 90 = .ok (.getfield 17, 3) := by decide +kernel
theorem dX6_dial_93 : decode cX6_dial 93 = .ok (.iconst 5, 1) := by decide +kernel
theorem dX6_dial_94 : decode cX6_dial 94 = .ok (.iaload, 1) := by decide +kernel
theorem dX6_dial_95 : decode cX6_dial 95 = .ok (.bipush 20, 2) := by decide +kernel
theorem dX6_dial_97 : decode cX6_dial 97 = .ok (.if_icmp .eq 17, 3) := by decide +kernel
theorem dX6_dial_100 : decode cX6_dial 100 = .ok (.aload_n 0, 1) := by decide +kernel
theorem dX6_dial_101 : decode cX6_dial 101 = .ok (.getfield 17, 3) := by decide +kernel
theorem dX6_dial_104 : decode cX6_dial 104 = .ok (.bipush 6, 2) := by decide +kernel
theorem dX6_dial_106 : decode cX6_dial 106 = .ok (.iaload, 1) := by decide +kernel
theorem dX6_dial_107 : decode cX6_dial 107 = .ok (.iload_n 3, 1) := by decide +kernel
theorem dX6_dial_108 : decode cX6_dial 108 = .ok (.iadd, 1) := by decide +kernel
theorem dX6_dial_109 : decode cX6_dial 109 = .ok (.bipush 40, 2) := by decide +kernel
theorem dX6_dial_111 : decode cX6_dial 111 = .ok (.if_icmp .le 7, 3) := by decide +kernel
theorem dX6_dial_114 : decode cX6_dial 114 = .ok (.iconst 1, 1) := by decide +kernel
theorem dX6_dial_115 : decode cX6_dial 115 = .ok (.goto 4, 3) := by decide +kernel
theorem dX6_dial_118 : decode cX6_dial 118 = .ok (.iconst 0, 1) := by decide +kernel
theorem dX6_dial_119 : decode cX6_dial 119 = .ok (.iconst 3, 1) := by decide +kernel
theorem dX6_dial_120 : decode cX6_dial 120 = .ok (.invokevirtual 149, 3) := by decide +kernel
theorem dX6_dial_123 : decode cX6_dial 123 = .ok (.ifCond .eq 5, 3) := by decide +kernel
theorem dX6_dial_126 : decode cX6_dial 126 = .ok (.iconst 0, 1) := by decide +kernel
theorem dX6_dial_127 : decode cX6_dial 127 = .ok (.ireturn, 1) := by decide +kernel
theorem dX6_dial_128 : decode cX6_dial 128 = .ok (.aload_n 0, 1) := by decide +kernel
theorem dX6_dial_129 : decode cX6_dial 129 = .ok (.invokevirtual 158, 3) := by decide +kernel
theorem dX6_dial_132 : decode cX6_dial 132 = .ok (.aload_n 0, 1) := by decide +kernel
theorem dX6_dial_133 : decode cX6_dial 133 = .ok (.iload_n 1, 1) := by decide +kernel
theorem dX6_dial_134 : decode cX6_dial 134 = .ok (.iload_n 2, 1) := by decide +kernel
theorem dX6_dial_135 : decode cX6_dial 135 = .ok (.iconst (-1), 1) := by decide +kernel
theorem dX6_dial_136 : decode cX6_dial 136 = .ok (.invokevirtual 298, 3) := by decide +kernel
theorem dX6_dial_139 : decode cX6_dial 139 = .ok (.ireturn, 1) := by decide +kernel
theorem dX6_transfer_0 : decode cX6_transfer 0 = .ok (.aload_n 0, 1) := by decide +kernel
theorem dX6_transfer_1 : decode cX6_transfer 1 = .ok (.iconst 0, 1) := by decide +kernel
theorem dX6_transfer_2 : decode cX6_transfer 2 = .ok (.putfield 39, 3) := by decide +kernel
theorem dX6_transfer_5 : decode cX6_transfer 5 = .ok (.aload_n 0, 1) := by decide +kernel
theorem dX6_transfer_6 : decode cX6_transfer 6 = .ok (.iload_n 1, 1) := by decide +kernel
theorem dX6_transfer_7 : decode cX6_transfer 7 = .ok (.invokevirtual 274, 3) := by decide +kernel
theorem dX6_transfer_10 : decode cX6_transfer 10 = .ok (.ifCond .ne 11, 3) := by decide +kernel
theorem dX6_transfer_13 : decode cX6_transfer 13 = .ok (.aload_n 0, 1) := by decide +kernel
theorem dX6_transfer_14 : decode cX6_transfer 14 = .ok (.iload_n 2, 1) := by decide +kernel
theorem dX6_transfer_15 : decode cX6_transfer 15 = .ok (.invokevirtual 274, 3) := by decide +kernel
theorem dX6_transfer_18 : decode cX6_transfer 18 = .ok (.ifCond .eq 5, 3) := by decide +kernel
theorem dX6_transfer_21 : decode cX6_transfer 21 = .ok (.iconst 0, 1) := by decide +kernel
theorem dX6_transfer_22 : decode cX6_transfer 22 = .ok (.ireturn, 1) := by decide +kernel
theorem dX6_transfer_23 : decode cX6_transfer 23 = .ok (.aload_n 0, 1) := by decide +kernel
theorem dX6_transfer_24 : decode cX6_transfer 24 = .ok (.iload_n 1, 1) := by decide +kernel
theorem dX6_transfer_25 : decode cX6_transfer 25 = .ok (.iconst 1, 1) := by decide +kernel
theorem dX6_transfer_26 : decode cX6_transfer 26 = .ok (.invokevirtual 190, 3) := by decide +kernel
theorem dX6_transfer_29 : decode cX6_transfer 29 = .ok (.istore_n 3, 1) := by decide +kernel
theorem dX6_transfer_30 : decode cX6_transfer 30 = .ok (.aload_n 0, 1) := by decide +kernel
theorem dX6_transfer_31 : decode cX6_transfer 31 = .ok (.iload_n 3, 1) := by decide +kernel
theorem dX6_transfer_32 : decode cX6_transfer 32 = .ok (.iconst (-1), 1) := by decide +kernel
theorem dX6_transfer_33 : decode cX6_transfer 33 = .ok (.if_icmp .eq 26, 3) := by decide +kernel
theorem dX6_transfer_36 : decode cX6_transfer 36 = .ok (.aload_n 0, 1) := by decide +kernel
theorem dX6_transfer_37 : decode cX6_transfer 37 = .ok (.getfield 17, 3) := by decide +kernel
theorem dX6_transfer_40 : decode cX6_transfer 40 = .ok (.iconst 5, 1) := by decide +kernel
theorem dX6_transfer_41 : decode cX6_transfer 41 = .ok (.iaload, 1) := by decide +kernel
theorem dX6_transfer_42 : decode cX6_transfer 42 = .ok (.bipush 20, 2) := by decide +kernel
theorem dX6_transfer_44 : decode cX6_transfer 44 = .ok (.if_icmp .eq 15, 3) := by decide +kernel
theorem dX6_transfer_47 : decode cX6_transfer 47 = .ok (.aload_n 0, 1) := by decide +kernel
theorem dX6_transfer_48 : decode cX6_transfer 48 = .ok (.getfield 17, 3) := by decide +kernel
theorem dX6_transfer_51 : decode cX6_transfer 51 = .ok (.bipush 6, 2) := by decide +kernel
theorem dX6_transfer_53 : decode cX6_transfer 53 = .ok (.iaload, 1) := by decide +kernel
theorem dX6_transfer_54 : decode cX6_transfer 54 = .ok (.bipush 40, 2) := by decide +kernel
theorem dX6_transfer_56 : decode cX6_transfer 56 = .ok (.if_icmp .ne 7, 3) := by decide +kernel
theorem dX6_transfer_59 : decode cX6_transfer 59 = .ok (.iconst 1, 1) := by decide +kernel
theorem dX6_transfer_60 : decode cX6_transfer 60 = .ok (.goto 4, 3) := by decide +kernel
theorem dX6_transfer_63 : decode cX6_transfer 63 = .ok (.iconst 0, 1) := by decide +kernel
theorem dX6_transfer_64 : decode cX6_transfer 64 = .ok (.iconst 2, 1) := by decide +kernel
theorem dX6_transfer_65 : decode cX6_transfer 65 = .ok (.invokevirtual 149, 3) := by decide +kernel
theorem dX6_transfer_68 : decode cX6_transfer 68 = .ok (.ifCond .ne 17, 3) := by decide +kernel
theorem dX6_transfer_71 : decode cX6_transfer 71 = .ok (.aload_n 0, 1) := by decide +kernel
theorem dX6_transfer_72 : decode cX6_transfer 72 = .ok (.aload_n 0, 1) := by decide +kernel
theorem dX6_transfer_73 : decode cX6_transfer 73 = .ok (.iload_n 2, 1) := by decide +kernel
theorem dX6_transfer_74 : decode cX6_transfer 74 = .ok (.iload_n 3, 1) := by decide +kernel
theorem dX6_transfer_75 : decode cX6_transfer 75 = .ok (.invokevirtual 184, 3) := by decide +kernel
theorem dX6_transfer_78 : decode cX6_transfer 78 = .ok (.iconst 3, 1) := by decide +kernel
theorem dX6_transfer_79 : decode cX6_transfer 79 = .ok (.invokevirtual 149, 3) := by decide +kernel
theorem dX6_transfer_82 : decode cX6_transfer 82 = .ok (.ifCond .eq 5, 3) := by decide +kernel
theorem dX6_transfer_85 : decode cX6_transfer 85 = .ok (.iconst 0, 1) := by decide +kernel
theorem dX6_transfer_86 : decode cX6_transfer 86 = .ok (.ireturn, 1) := by decide +kernel
theorem dX6_transfer_87 : decode cX6_transfer 87 = .ok (.aload_n 0, 1) := by decide +kernel
theorem dX6_transfer_88 : decode cX6_transfer 88 = .ok (.invokevirtual 158, 3) := by decide +kernel
theorem dX6_transfer_91 : decode cX6_transfer 91 = .ok (.aload_n 0, 1) := by decide +kernel
theorem dX6_transfer_92 : decode cX6_transfer 92 = .ok (.iload_n 3, 1) := by decide +kernel
theorem dX6_transfer_93 : decode cX6_transfer 93 = .ok (.invokevirtual 177, 3) := by decide +kernel
theorem dX6_transfer_96 : decode cX6_transfer 96 = .ok (.iload_n 1, 1) := by decide +kernel
theorem dX6_transfer_97 : decode cX6_transfer 97 = .ok (.if_icmp .ne 12, 3) := by decide +kernel
theorem dX6_transfer_100 : decode cX6_transfer 100 = .ok (.aload_n 0, 1) := by decide +kernel
theorem dX6_transfer_101 : decode cX6_transfer 101 = .ok (.iload_n 3, 1) := by decide +kernel
theorem dX6_transfer_102 : decode cX6_transfer 102 = .ok (.iconst 1, 1) := by decide +kernel
theorem dX6_transfer_103 : decode cX6_transfer 103 = .ok (.invokevirtual 171, 3) := by decide +kernel
theorem dX6_transfer_106 : decode cX6_transfer 106 = .ok (.goto 8, 3) := by decide +kernel
theorem dX6_transfer_109 : decode cX6_transfer 109 = .ok (.aload_n 0, 1) := by decide +kernel
theorem dX6_transfer_110 : decode cX6_transfer 110 = .ok (.iload_n 3, 1) := by decide +kernel
theorem dX6_transfer_111 : decode cX6_transfer 111 = .ok (.invokevirtual 177, 3) := by decide +kernel
theorem dX6_transfer_114 : decode cX6_transfer 114 = .ok (.istore 4, 2) := by decide +kernel
theorem dX6_transfer_116 : decode cX6_transfer 116 = .ok (.aload_n 0, 1) := by decide +kernel
theorem dX6_transfer_117 : decode cX6_transfer 117 = .ok (.getfield 17, 3) := by decide +kernel
theorem dX6_transfer_120 : decode cX6_transfer 120 = .ok (.iload_n 3, 1) := by decide +kernel
theorem dX6_transfer_121 : decode cX6_transfer 121 = .ok (.invokestatic 168, 3) := by decide +kernel
theorem dX6_transfer_124 : decode cX6_transfer 124 = .ok (.iconst 2, 1) := by decide +kernel
theorem dX6_transfer_125 : decode cX6_transfer 125 = .ok (.iadd, 1) := by decide +kernel
theorem dX6_transfer_126 : decode cX6_transfer 126 = .ok (.iconst 2, 1) := by decide +kernel
theorem dX6_transfer_127 : decode cX6_transfer 127 = .ok (.iastore, 1) := by decide +kernel
theorem dX6_transfer_128 : decode cX6_transfer 128 = .ok (.aload_n 0, 1) := by decide +kernel
theorem dX6_transfer_129 : decode cX6_transfer 129 = .ok (.iload_n 3, 1) := by decide +kernel
theorem dX6_transfer_130 : decode cX6_transfer 130 = .ok (.invokevirtual 196, 3) := by decide +kernel
theorem dX6_transfer_133 : decode cX6_transfer 133 = .ok (.aload_n 0, 1) := by decide +kernel
theorem dX6_transfer_134 : decode cX6_transfer 134 = .ok (.iload 4, 2) := by decide +kernel
theorem dX6_transfer_136 : decode cX6_transfer 136 = .ok (.iconst 1, 1) := by decide +kernel
theorem dX6_transfer_137 : decode cX6_transfer 137 = .ok (.iload_n 2, 1) := by decide +kernel
theorem dX6_transfer_138 : decode cX6_transfer 138 = .ok (.ishl, 1) := by decide +kernel
theorem dX6_transfer_139 : decode cX6_transfer 139 = .ok (.iload_n 3, 1) := by decide +kernel
theorem dX6_transfer_140 : decode cX6_transfer 140 = .ok (.invokevirtual 298, 3) := by decide +kernel
theorem dX6_transfer_143 : decode cX6_transfer 143 = .ok (.ireturn, 1) := by decide +kernel
theorem dX6_hangUp_0 : decode cX6_hangUp 0 = .ok (.aload_n 0, 1) := by decide +kernel
theorem dX6_hangUp_1 : decode cX6_hangUp 1 = .ok (.iconst 0, 1) := by decide +kernel
theorem dX6_hangUp_2 : decode cX6_hangUp 2 = .ok (.putfield 39, 3) := by decide +kernel
theorem dX6_hangUp_5 : decode cX6_hangUp 5 = .ok (.aload_n 0, 1) := by decide +kernel
theorem dX6_hangUp_6 : decode cX6_hangUp 6 = .ok (.iload_n 1, 1) := by decide +kernel
theorem dX6_hangUp_7 : decode cX6_hangUp 7 = .ok (.invokevirtual 274, 3) := by decide +kernel
theorem dX6_hangUp_10 : decode cX6_hangUp 10 = .ok (.ifCond .eq 5, 3) := by decide +kernel
theorem dX6_hangUp_13 : decode cX6_hangUp 13 = .ok (.iconst 0, 1) := by decide +kernel
theorem dX6_hangUp_14 : decode cX6_hangUp 14 = .ok (.ireturn, 1) := by decide +kernel
theorem dX6_hangUp_15 : decode cX6_hangUp 15 = .ok (.aload_n 0, 1) := by decide +kernel
theorem dX6_hangUp_16 : decode cX6_hangUp 16 = .ok (.invokevirtual 158, 3) := by decide +kernel
theorem dX6_hangUp_19 : decode cX6_hangUp 19 = .ok (.aload_n 0, 1) := by decide +kernel
theorem dX6_hangUp_20 : decode cX6_hangUp 20 = .ok (.iload_n 1, 1) := by decide +kernel
theorem dX6_hangUp_21 : decode cX6_hangUp 21 = .ok (.iconst 1, 1) := by decide +kernel
theorem dX6_hangUp_22 : decode cX6_hangUp 22 = .ok (.invokevirtual 190, 3) := by decide +kernel
theorem dX6_hangUp_25 : decode cX6_hangUp 25 = .ok (.istore_n 2, 1) := by decide +kernel
theorem dX6_hangUp_26 : decode cX6_hangUp 26 = .ok (.aload_n 0, 1) := by decide +kernel
theorem dX6_hangUp_27 : decode cX6_hangUp 27 = .ok (.iload_n 1, 1) := by decide +kernel
theorem dX6_hangUp_28 : decode cX6_hangUp 28 = .ok (.invokevirtual 193, 3) := by decide +kernel
theorem dX6_hangUp_31 : decode cX6_hangUp 31 = .ok (.istore_n 3, 1) := by decide +kernel
theorem dX6_hangUp_32 : decode cX6_hangUp 32 = .ok (.aload_n 0, 1) := by decide +kernel
theorem dX6_hangUp_33 : decode cX6_hangUp 33 = .ok (.iload_n 1, 1) := by decide +kernel
theorem dX6_hangUp_34 : decode cX6_hangUp 34 = .ok (.iconst 2, 1) := by decide +kernel
theorem dX6_hangUp_35 : decode cX6_hangUp 35 = .ok (.invokevirtual 190, 3) := by decide +kernel
theorem dX6_hangUp_38 : decode cX6_hangUp 38 = .ok (.istore 4, 2) := by decide +kernel
theorem dX6_hangUp_40 : decode cX6_hangUp 40 = .ok (.iload_n 2, 1) := by decide +kernel
theorem dX6_hangUp_41 : decode cX6_hangUp 41 = .ok (.iconst (-1), 1) := by decide +kernel
theorem dX6_hangUp_42 : decode cX6_hangUp 42 = .ok (.if_icmp .eq 12, 3) := by decide +kernel
theorem dX6_hangUp_45 : decode cX6_hangUp 45 = .ok (.aload_n 0, 1) := by decide +kernel
theorem dX6_hangUp_46 : decode cX6_hangUp 46 = .ok (.iload_n 2, 1) := by decide +kernel
theorem dX6_hangUp_47 : decode cX6_hangUp 47 = .ok (.bipush 6, 2) := by decide +kernel
theorem dX6_hangUp_49 : decode cX6_hangUp 49 = .ok (.invokevirtual 205, 3) := by decide +kernel
theorem dX6_hangUp_52 : decode cX6_hangUp 52 = .ok (.iconst 1, 1) := by decide +kernel
theorem dX6_hangUp_53 : decode cX6_hangUp 53 = .ok (.ireturn, 1) := by decide +kernel
theorem dX6_hangUp_54 : decode cX6_hangUp 54 = .ok (.iload_n 3, 1) := by decide +kernel
theorem dX6_hangUp_55 : decode cX6_hangUp 55 = .ok (.iconst (-1), 1) := by decide +kernel
theorem dX6_hangUp_56 : decode cX6_hangUp 56 = .ok (.if_icmp .eq 17, 3) := by decide +kernel
theorem dX6_hangUp_59 : decode cX6_hangUp 59 = .ok (.aload_n 0, 1) := by decide +kernel
theorem dX6_hangUp_60 : decode cX6_hangUp 60 = .ok (.iload_n 3, 1) := by decide +kernel
theorem dX6_hangUp_61 : decode cX6_hangUp 61 = .ok (.iconst (-1), 1) := by decide +kernel
theorem dX6_hangUp_62 : decode cX6_hangUp 62 = .ok (.iconst 4, 1) := by decide +kernel
theorem dX6_hangUp_63 : decode cX6_hangUp 63 = .ok (.invokevirtual 211, 3) := by decide +kernel
theorem dX6_hangUp_66 : decode cX6_hangUp 66 = .ok (.aload_n 0, 1) := by decide +kernel
theorem dX6_hangUp_67 : decode cX6_hangUp 67 = .ok (.iload_n 3, 1) := by decide +kernel
theorem dX6_hangUp_68 : decode cX6_hangUp 68 = .ok (.invokevirtual 202, 3) := by decide +kernel
theorem dX6_hangUp_71 : decode cX6_hangUp 71 = .ok (.iconst 2, 1) := by decide +kernel
theorem dX6_hangUp_72 : decode cX6_hangUp 72 = .ok (.ireturn, 1) := by decide +kernel
theorem dX6_hangUp_73 : decode cX6_hangUp 73 = .ok (.iload 4, 2) := by decide +kernel
theorem dX6_hangUp_75 : decode cX6_hangUp 75 = .ok (.iconst (-1), 1) := by decide +kernel
theorem dX6_hangUp_76 : decode cX6_hangUp 76 = .ok (.if_icmp .eq 13, 3) := by decide +kernel
theorem dX6_hangUp_79 : decode cX6_hangUp 79 = .ok (.aload_n 0, 1) := by decide +kernel
theorem dX6_hangUp_80 : decode cX6_hangUp 80 = .ok (.iload 4, 2) := by decide +kernel
theorem dX6_hangUp_82 : decode cX6_hangUp 82 = .ok (.bipush 6, 2) := by decide +kernel
theorem dX6_hangUp_84 : decode cX6_hangUp 84 = .ok (.invokevirtual 205, 3) := by decide +kernel
theorem dX6_hangUp_87 : decode cX6_hangUp 87 = .ok (.iconst 3, 1) := by decide +kernel
theorem dX6_hangUp_88 : decode cX6_hangUp 88 = .ok (.ireturn, 1) := by decide +kernel
theorem dX6_hangUp_89 : decode cX6_hangUp 89 = .ok (.aload_n 0, 1) := by decide +kernel
theorem dX6_hangUp_90 : decode cX6_hangUp 90 = .ok (.iload_n 1, 1) := by decide +kernel
theorem dX6_hangUp_91 : decode cX6_hangUp 91 = .ok (.invokevirtual 271, 3) := by decide +kernel
theorem dX6_hangUp_94 : decode cX6_hangUp 94 = .ok (.ifCond .ne 5, 3) := by decide +kernel
theorem dX6_hangUp_97 : decode cX6_hangUp 97 = .ok (.iconst 0, 1) := by decide +kernel
theorem dX6_hangUp_98 : decode cX6_hangUp 98 = .ok (.ireturn, 1) := by decide +kernel
theorem dX6_hangUp_99 : decode cX6_hangUp 99 = .ok (.aload_n 0, 1) := by decide +kernel
theorem dX6_hangUp_100 : decode cX6_hangUp 100 = .ok (.iload_n 1, 1) := by decide +kernel
theorem dX6_hangUp_101 : decode cX6_hangUp 101 = .ok (.iconst 5, 1) := by decide +kernel
theorem dX6_hangUp_102 : decode cX6_hangUp 102 = .ok (.invokevirtual 215, 3) := by decide +kernel
theorem dX6_hangUp_105 : decode cX6_hangUp 105 = .ok (.iconst 4, 1) := by decide +kernel
theorem dX6_hangUp_106 : decode cX6_hangUp 106 = .ok (.ireturn, 1) := by decide +kernel
theorem dX6_offer_0 : decode cX6_offer 0 = .ok (.aload_n 0, 1) := by decide +kernel
theorem dX6_offer_1 : decode cX6_offer 1 = .ok (.iconst 0, 1) := by decide +kernel
theorem dX6_offer_2 : decode cX6_offer 2 = .ok (.putfield 39, 3) := by decide +kernel
theorem dX6_offer_5 : decode cX6_offer 5 = .ok (.aload_n 0, 1) := by decide +kernel
theorem dX6_offer_6 : decode cX6_offer 6 = .ok (.iload_n 1, 1) := by decide +kernel
theorem dX6_offer_7 : decode cX6_offer 7 = .ok (.invokevirtual 274, 3) := by decide +kernel
theorem dX6_offer_10 : decode cX6_offer 10 = .ok (.ifCond .ne 27, 3) := by decide +kernel
theorem dX6_offer_13 : decode cX6_offer 13 = .ok (.aload_n 0, 1) := by decide +kernel
theorem dX6_offer_14 : decode cX6_offer 14 = .ok (.iload_n 2, 1) := by decide +kernel
theorem dX6_offer_15 : decode cX6_offer 15 = .ok (.iconst 0, 1) := by decide +kernel
theorem dX6_offer_16 : decode cX6_offer 16 = .ok (.sipush 999, 3) := by decide +kernel
theorem dX6_offer_19 : decode cX6_offer 19 = .ok (.invokestatic 61, 3) := by decide +kernel
theorem dX6_offer_22 : decode cX6_offer 22 = .ok (.ifCond .ne 7, 3) := by decide +kernel
theorem dX6_offer_25 : decode cX6_offer 25 = .ok (.iconst 1, 1) := by decide +kernel
theorem dX6_offer_26 : decode cX6_offer 26 = .ok (.goto 4, 3) := by decide +kernel
theorem dX6_offer_29 : decode cX6_offer 29 = .ok (.iconst 0, 1) := by decide +kernel
theorem dX6_offer_30 : decode cX6_offer 30 = .ok (.iconst 2, 1) := by decide +kernel
theorem dX6_offer_31 : decode cX6_offer 31 = .ok (.invokevirtual 149, 3) := by decide +kernel
theorem dX6_offer_34 : decode cX6_offer 34 = .ok (.ifCond .eq 5, 3) := by decide +kernel
theorem dX6_offer_37 : decode cX6_offer 37 = .ok (.iconst 0, 1) := by decide +kernel
theorem dX6_offer_38 : decode cX6_offer 38 = .ok (.ireturn, 1) := by decide +kernel
theorem dX6_offer_39 : decode cX6_offer 39 = .ok (.aload_n 0, 1) := by decide +kernel
theorem dX6_offer_40 : decode cX6_offer 40 = .ok (.iload_n 1, 1) := by decide +kernel
theorem dX6_offer_41 : decode cX6_offer 41 = .ok (.iconst 1, 1) := by decide +kernel
theorem dX6_offer_42 : decode cX6_offer 42 = .ok (.invokevirtual 190, 3) := by decide +kernel
theorem dX6_offer_45 : decode cX6_offer 45 = .ok (.istore_n 3, 1) := by decide +kernel
theorem dX6_offer_46 : decode cX6_offer 46 = .ok (.aload_n 0, 1) := by decide +kernel
theorem dX6_offer_47 : decode cX6_offer 47 = .ok (.iload_n 3, 1) := by decide +kernel
theorem dX6_offer_48 : decode cX6_offer 48 = .ok (.iconst (-1), 1) := by decide +kernel
theorem dX6_offer_49 : decode cX6_offer 49 = .ok (.if_icmp .ne 7, 3) := by decide +kernel
theorem dX6_offer_52 : decode cX6_offer 52 = .ok (.iconst 1, 1) := by decide +kernel
theorem dX6_offer_53 : decode cX6_offer 53 = .ok (.goto 4, 3) := by decide +kernel
theorem dX6_offer_56 : decode cX6_offer 56 = .ok (.iconst 0, 1) := by decide +kernel
theorem dX6_offer_57 : decode cX6_offer 57 = .ok (.iconst 3, 1) := by decide +kernel
theorem dX6_offer_58 : decode cX6_offer 58 = .ok (.invokevirtual 149, 3) := by decide +kernel
theorem dX6_offer_61 : decode cX6_offer 61 = .ok (.ifCond .eq 5, 3) := by decide +kernel
theorem dX6_offer_64 : decode cX6_offer 64 = .ok (.iconst 0, 1) := by decide +kernel
theorem dX6_offer_65 : decode cX6_offer 65 = .ok (.ireturn, 1) := by decide +kernel
theorem dX6_offer_66 : decode cX6_offer 66 = .ok (.aload_n 0, 1) := by decide +kernel
theorem dX6_offer_67 : decode cX6_offer 67 = .ok (.invokevirtual 158, 3) := by decide +kernel
theorem dX6_offer_70 : decode cX6_offer 70 = .ok (.iload_n 3, 1) := by decide +kernel
theorem dX6_offer_71 : decode cX6_offer 71 = .ok (.invokestatic 168, 3) := by decide +kernel
theorem dX6_offer_74 : decode cX6_offer 74 = .ok (.istore 4, 2) := by decide +kernel
theorem dX6_offer_76 : decode cX6_offer 76 = .ok (.aload_n 0, 1) := by decide +kernel
theorem dX6_offer_77 : decode cX6_offer 77 = .ok (.iload_n 3, 1) := by decide +kernel
theorem dX6_offer_78 : decode cX6_offer 78 = .ok (.invokevirtual 177, 3) := by decide +kernel
theorem dX6_offer_81 : decode cX6_offer 81 = .ok (.iload_n 1, 1) := by decide +kernel
theorem dX6_offer_82 : decode cX6_offer 82 = .ok (.if_icmp .ne 7, 3) := by decide +kernel
theorem dX6_offer_85 : decode cX6_offer 85 = .ok (.iconst 0, 1) := by decide +kernel
theorem dX6_offer_86 : decode cX6_offer 86 = .ok (.goto 4, 3) := by decide +kernel
theorem dX6_offer_89 : decode cX6_offer 89 = .ok (.iconst 1, 1) := by decide +kernel
theorem dX6_offer_90 : decode cX6_offer 90 = .ok (.istore 5, 2) := by decide +kernel
theorem dX6_offer_92 : decode cX6_offer 92 = .ok (.aload_n 0, 1) := by decide +kernel
theorem dX6_offer_93 : decode cX6_offer 93 = .ok (.getfield 17, 3) := by decide +kernel
theorem dX6_offer_96 : decode cX6_offer 96 = .ok (.iload 4, 2) := by decide +kernel
theorem dX6_offer_98 : decode cX6_offer 98 = .ok (.bipush 6, 2) := by decide +kernel
theorem dX6_offer_100 : decode cX6_offer 100 = .ok (.iadd, 1) := by decide +kernel
theorem dX6_offer_101 : decode cX6_offer 101 = .ok (.iaload, 1) := by decide +kernel
theorem dX6_offer_102 : decode cX6_offer 102 = .ok (.istore 6, 2) := by decide +kernel
theorem dX6_offer_104 : decode cX6_offer 104 = .ok (.iload 6, 2) := by decide +kernel
theorem dX6_offer_106 : decode cX6_offer 106 = .ok (.iload 5, 2) := by decide +kernel
theorem dX6_offer_108 : decode cX6_offer 108 = .ok (.if_icmp .ne 5, 3) := by decide +kernel
theorem dX6_offer_111 : decode cX6_offer 111 = .ok (.iconst 0, 1) := by decide +kernel
theorem dX6_offer_112 : decode cX6_offer 112 = .ok (.ireturn, 1) := by decide +kernel
theorem dX6_offer_113 : decode cX6_offer 113 = .ok (.iload 6, 2) := by decide +kernel
theorem dX6_offer_115 : decode cX6_offer 115 = .ok (.iconst (-1), 1) := by decide +kernel
theorem dX6_offer_116 : decode cX6_offer 116 = .ok (.if_icmp .ne 13, 3) := by decide +kernel
theorem dX6_offer_119 : decode cX6_offer 119 = .ok (.aload_n 0, 1) := by decide +kernel
theorem dX6_offer_120 : decode cX6_offer 120 = .ok (.iload_n 3, 1) := by decide +kernel
theorem dX6_offer_121 : decode cX6_offer 121 = .ok (.iload 5, 2) := by decide +kernel
theorem dX6_offer_123 : decode cX6_offer 123 = .ok (.iload_n 2, 1) := by decide +kernel
theorem dX6_offer_124 : decode cX6_offer 124 = .ok (.invokevirtual 244, 3) := by decide +kernel
theorem dX6_offer_127 : decode cX6_offer 127 = .ok (.iconst 1, 1) := by decide +kernel
theorem dX6_offer_128 : decode cX6_offer 128 = .ok (.ireturn, 1) := by decide +kernel
theorem dX6_offer_129 : decode cX6_offer 129 = .ok (.aload_n 0, 1) := by decide +kernel
theorem dX6_offer_130 : decode cX6_offer 130 = .ok (.getfield 17, 3) := by decide +kernel
theorem dX6_offer_133 : decode cX6_offer 133 = .ok (.iload 4, 2) := by decide +kernel
theorem dX6_offer_135 : decode cX6_offer 135 = .ok (.bipush 11, 2) := by decide +kernel
theorem dX6_offer_137 : decode cX6_offer 137 = .ok (.iadd, 1) := by decide +kernel
theorem dX6_offer_138 : decode cX6_offer 138 = .ok (.iload 6, 2) := by decide +kernel
theorem dX6_offer_140 : decode cX6_offer 140 = .ok (.iadd, 1) := by decide +kernel
theorem dX6_offer_141 : decode cX6_offer 141 = .ok (.aload_n 0, 1) := by decide +kernel
theorem dX6_offer_142 : decode cX6_offer 142 = .ok (.getfield 17, 3) := by decide +kernel
theorem dX6_offer_145 : decode cX6_offer 145 = .ok (.iload 4, 2) := by decide +kernel
theorem dX6_offer_147 : decode cX6_offer 147 = .ok (.bipush 7, 2) := by decide +kernel
theorem dX6_offer_149 : decode cX6_offer 149 = .ok (.iadd, 1) := by decide +kernel
theorem dX6_offer_150 : decode cX6_offer 150 = .ok (.iaload, 1) := by decide +kernel
theorem dX6_offer_151 : decode cX6_offer 151 = .ok (.iastore, 1) := by decide +kernel
theorem dX6_offer_152 : decode cX6_offer 152 = .ok (.aload_n 0, 1) := by decide +kernel
theorem dX6_offer_153 : decode cX6_offer 153 = .ok (.getfield 17, 3) := by decide +kernel
theorem dX6_offer_156 : decode cX6_offer 156 = .ok (.iload 4, 2) := by decide +kernel
theorem dX6_offer_158 : decode cX6_offer 158 = .ok (.bipush 11, 2) := by decide +kernel
theorem dX6_offer_160 : decode cX6_offer 160 = .ok (.iadd, 1) := by decide +kernel
theorem dX6_offer_161 : decode cX6_offer 161 = .ok (.iload 5, 2) := by decide +kernel
theorem dX6_offer_163 : decode cX6_offer 163 = .ok (.iadd, 1) := by decide +kernel
theorem dX6_offer_164 : decode cX6_offer 164 = .ok (.iload_n 2, 1) := by decide +kernel
theorem dX6_offer_165 : decode cX6_offer 165 = .ok (.iastore, 1) := by decide +kernel
theorem dX6_offer_166 : decode cX6_offer 166 = .ok (.aload_n 0, 1) := by decide +kernel
theorem dX6_offer_167 : decode cX6_offer 167 = .ok (.getfield 17, 3) := by decide +kernel
theorem dX6_offer_170 : decode cX6_offer 170 = .ok (.iload 4, 2) := by decide +kernel
theorem dX6_offer_172 : decode cX6_offer 172 = .ok (.bipush 9, 2) := by decide +kernel
theorem dX6_offer_174 : decode cX6_offer 174 = .ok (.iadd, 1) := by decide +kernel
theorem dX6_offer_175 : decode cX6_offer 175 = .ok (.aload_n 0, 1) := by decide +kernel
theorem dX6_offer_176 : decode cX6_offer 176 = .ok (.getfield 17, 3) := by decide +kernel
theorem dX6_offer_179 : decode cX6_offer 179 = .ok (.iconst 0, 1) := by decide +kernel
theorem dX6_offer_180 : decode cX6_offer 180 = .ok (.iaload, 1) := by decide +kernel
theorem dX6_offer_181 : decode cX6_offer 181 = .ok (.aload_n 0, 1) := by decide +kernel
theorem dX6_offer_182 : decode cX6_offer 182 = .ok (.getfield 17, 3) := by decide +kernel
theorem dX6_offer_185 : decode cX6_offer 185 = .ok (.iconst 1, 1) := by decide +kernel
theorem dX6_offer_186 : decode cX6_offer 186 = .ok (.iaload, 1) := by decide +kernel
theorem dX6_offer_187 : decode cX6_offer 187 = .ok (.iadd, 1) := by decide +kernel
theorem dX6_offer_188 : decode cX6_offer 188 = .ok (.iastore, 1) := by decide +kernel
theorem dX6_offer_189 : decode cX6_offer 189 = .ok (.aload_n 0, 1) := by decide +kernel
theorem dX6_offer_190 : decode cX6_offer 190 = .ok (.getfield 17, 3) := by decide +kernel
theorem dX6_offer_193 : decode cX6_offer 193 = .ok (.iload 4, 2) := by decide +kernel
theorem dX6_offer_195 : decode cX6_offer 195 = .ok (.bipush 9, 2) := by decide +kernel
theorem dX6_offer_197 : decode cX6_offer 197 = .ok (.iadd, 1) := by decide +kernel
theorem dX6_offer_198 : decode cX6_offer 198 = .ok (.iconst 1, 1) := by decide +kernel
theorem dX6_offer_199 : decode cX6_offer 199 = .ok (.iadd, 1) := by decide +kernel
theorem dX6_offer_200 : decode cX6_offer 200 = .ok (.aload_n 0, 1) := by decide +kernel
theorem dX6_offer_201 : decode cX6_offer 201 = .ok (.getfield 17, 3) := by decide +kernel
theorem dX6_offer_204 : decode cX6_offer 204 = .ok (.iconst 0, 1) := by decide +kernel
theorem dX6_offer_205 : decode cX6_offer 205 = .ok (.iaload, 1) := by decide +kernel
theorem dX6_offer_206 : decode cX6_offer 206 = .ok (.aload_n 0, 1) := by decide +kernel
theorem dX6_offer_207 : decode cX6_offer 207 = .ok (.getfield 17, 3) := by decide +kernel
theorem dX6_offer_210 : decode cX6_offer 210 = .ok (.iconst 2, 1) := by decide +kernel
theorem dX6_offer_211 : decode cX6_offer 211 = .ok (.iaload, 1) := by decide +kernel
theorem dX6_offer_212 : decode cX6_offer 212 = .ok (.iadd, 1) := by decide +kernel
theorem dX6_offer_213 : decode cX6_offer 213 = .ok (.iastore, 1) := by decide +kernel
theorem dX6_offer_214 : decode cX6_offer 214 = .ok (.aload_n 0, 1) := by decide +kernel
theorem dX6_offer_215 : decode cX6_offer 215 = .ok (.getfield 17, 3) := by decide +kernel
theorem dX6_offer_218 : decode cX6_offer 218 = .ok (.iload 4, 2) := by decide +kernel
theorem dX6_offer_220 : decode cX6_offer 220 = .ok (.bipush 6, 2) := by decide +kernel
theorem dX6_offer_222 : decode cX6_offer 222 = .ok (.iadd, 1) := by decide +kernel
theorem dX6_offer_223 : decode cX6_offer 223 = .ok (.iconst (-1), 1) := by decide +kernel
theorem dX6_offer_224 : decode cX6_offer 224 = .ok (.iastore, 1) := by decide +kernel
theorem dX6_offer_225 : decode cX6_offer 225 = .ok (.aload_n 0, 1) := by decide +kernel
theorem dX6_offer_226 : decode cX6_offer 226 = .ok (.iconst 2, 1) := by decide +kernel
theorem dX6_offer_227 : decode cX6_offer 227 = .ok (.invokevirtual 199, 3) := by decide +kernel
theorem dX6_offer_230 : decode cX6_offer 230 = .ok (.iconst (-1), 1) := by decide +kernel
theorem dX6_offer_231 : decode cX6_offer 231 = .ok (.ireturn, 1) := by decide +kernel
theorem dX6_setParty_0 : decode cX6_setParty 0 = .ok (.aload_n 0, 1) := by decide +kernel
theorem dX6_setParty_1 : decode cX6_setParty 1 = .ok (.iconst 0, 1) := by decide +kernel
theorem dX6_setParty_2 : decode cX6_setParty 2 = .ok (.putfield 39, 3) := by decide +kernel
theorem dX6_setParty_5 : decode cX6_setParty 5 = .ok (.aload_n 0, 1) := by decide +kernel
theorem dX6_setParty_6 : decode cX6_setParty 6 = .ok (.iload_n 1, 1) := by decide +kernel
theorem dX6_setParty_7 : decode cX6_setParty 7 = .ok (.invokevirtual 274, 3) := by decide +kernel
theorem dX6_setParty_10 : decode cX6_setParty 10 = .ok (.ifCond .ne 46, 3) := by decide +kernel
theorem dX6_setParty_13 : decode cX6_setParty 13 = .ok (.aload_n 0, 1) := by decide +kernel
theorem dX6_setParty_14 : decode cX6_setParty 14 = .ok (.iload_n 2, 1) := by decide +kernel
theorem dX6_setParty_15 : decode cX6_setParty 15 = .ok (.iconst 0, 1) := by decide +kernel
theorem dX6_setParty_16 : decode cX6_setParty 16 = .ok (.iconst 2, 1) := by decide +kernel
theorem dX6_setParty_17 : decode cX6_setParty 17 = .ok (.invokestatic 61, 3) := by decide +kernel
theorem dX6_setParty_20 : decode cX6_setParty 20 = .ok (.ifCond .eq 24, 3) := by decide +kernel
theorem dX6_setParty_23 : decode cX6_setParty 23 = .ok (.iload_n 3, 1) := by decide +kernel
theorem dX6_setParty_24 : decode cX6_setParty 24 = .ok (.iconst 0, 1) := by decide +kernel
theorem dX6_setParty_25 : decode cX6_setParty 25 = .ok (.iload_n 2, 1) := by decide +kernel
theorem dX6_setParty_26 : decode cX6_setParty 26 = .ok (.iconst 2, 1) := by decide +kernel
theorem dX6_setParty_27 : decode cX6_setParty 27 = .ok (.if_icmp .ne 9, 3) := by decide +kernel
theorem dX6_setParty_30 : decode cX6_setParty 30 = .ok (.sipush 999, 3) := by decide +kernel
theorem dX6_setParty_33 : decode cX6_setParty 33 = .ok (.goto 5, 3) := by decide +kernel
theorem dX6_setParty_36 : decode cX6_setParty 36 = .ok (.bipush 99, 2) := by decide +kernel
theorem dX6_setParty_38 : decode cX6_setParty 38 = .ok (.invokestatic 61, 3) := by decide +kernel
theorem dX6_setParty_41 : decode cX6_setParty 41 = .ok (.ifCond .ne 7, 3) := by decide +kernel
theorem dX6_setParty_44 : decode cX6_setParty 44 = .ok (.iconst 1, 1) := by decide +kernel
theorem dX6_setParty_45 : decode cX6_setParty 45 = .ok (.goto 4, 3) := by decide +kernel
theorem dX6_setParty_48 : decode cX6_setParty 48 = .ok (.iconst 0, 1) := by decide +kernel
theorem dX6_setParty_49 : decode cX6_setParty 49 = .ok (.iconst 2, 1) := by decide +kernel
theorem dX6_setParty_50 : decode cX6_setParty 50 = .ok (.invokevirtual 149, 3) := by decide +kernel
theorem dX6_setParty_53 : decode cX6_setParty 53 = .ok (.ifCond .eq 5, 3) := by decide +kernel
theorem dX6_setParty_56 : decode cX6_setParty 56 = .ok (.iconst 0, 1) := by decide +kernel
theorem dX6_setParty_57 : decode cX6_setParty 57 = .ok (.ireturn, 1) := by decide +kernel
theorem dX6_setParty_58 : decode cX6_setParty 58 = .ok (.aload_n 0, 1) := by decide +kernel
theorem dX6_setParty_59 : decode cX6_setParty 59 = .ok (.invokevirtual 158, 3) := by decide +kernel
theorem dX6_setParty_62 : decode cX6_setParty 62 = .ok (.aload_n 0, 1) := by decide +kernel
theorem dX6_setParty_63 : decode cX6_setParty 63 = .ok (.iload_n 1, 1) := by decide +kernel
theorem dX6_setParty_64 : decode cX6_setParty 64 = .ok (.iload_n 2, 1) := by decide +kernel
theorem dX6_setParty_65 : decode cX6_setParty 65 = .ok (.invokevirtual 250, 3) := by decide +kernel
theorem dX6_setParty_68 : decode cX6_setParty 68 = .ok (.istore 4, 2) := by decide +kernel
theorem dX6_setParty_70 : decode cX6_setParty 70 = .ok (.aload_n 0, 1) := by decide +kernel
theorem dX6_setParty_71 : decode cX6_setParty 71 = .ok (.getfield 17, 3) := by decide +kernel
theorem dX6_setParty_74 : decode cX6_setParty 74 = .ok (.bipush 16, 2) := by decide +kernel
theorem dX6_setParty_76 : decode cX6_setParty 76 = .ok (.iconst 3, 1) := by decide +kernel
theorem dX6_setParty_77 : decode cX6_setParty 77 = .ok (.iload_n 1, 1) := by decide +kernel
theorem dX6_setParty_78 : decode cX6_setParty 78 = .ok (.imul, 1) := by decide +kernel
theorem dX6_setParty_79 : decode cX6_setParty 79 = .ok (.iadd, 1) := by decide +kernel
theorem dX6_setParty_80 : decode cX6_setParty 80 = .ok (.iload_n 2, 1) := by decide +kernel
theorem dX6_setParty_81 : decode cX6_setParty 81 = .ok (.iadd, 1) := by decide +kernel
theorem dX6_setParty_82 : decode cX6_setParty 82 = .ok (.iload_n 3, 1) := by decide +kernel
theorem dX6_setParty_83 : decode cX6_setParty 83 = .ok (.iastore, 1) := by decide +kernel
theorem dX6_setParty_84 : decode cX6_setParty 84 = .ok (.iload 4, 2) := by decide +kernel
theorem dX6_setParty_86 : decode cX6_setParty 86 = .ok (.ireturn, 1) := by decide +kernel
theorem dX6_undo_0 : decode cX6_undo 0 = .ok (.aload_n 0, 1) := by decide +kernel
theorem dX6_undo_1 : decode cX6_undo 1 = .ok (.iconst 0, 1) := by decide +kernel
theorem dX6_undo_2 : decode cX6_undo 2 = .ok (.putfield 39, 3) := by decide +kernel
theorem dX6_undo_5 : decode cX6_undo 5 = .ok (.aload_n 0, 1) := by decide +kernel
theorem dX6_undo_6 : decode cX6_undo 6 = .ok (.getfield 295, 3) := by decide +kernel
theorem dX6_undo_9 : decode cX6_undo 9 = .ok (.ifCond .ne 5, 3) := by decide +kernel
theorem dX6_undo_12 : decode cX6_undo 12 = .ok (.iconst (-1), 1) := by decide +kernel
theorem dX6_undo_13 : decode cX6_undo 13 = .ok (.ireturn, 1) := by decide +kernel
theorem dX6_undo_14 : decode cX6_undo 14 = .ok (.aload_n 0, 1) := by decide +kernel
theorem dX6_undo_15 : decode cX6_undo 15 = .ok (.dup, 1) := by decide +kernel
theorem dX6_undo_16 : decode cX6_undo 16 = .ok (.getfield 295, 3) := by decide +kernel
theorem dX6_undo_19 : decode cX6_undo 19 = .ok (.iconst 1, 1) := by decide +kernel
theorem dX6_undo_20 : decode cX6_undo 20 = .ok (.isub, 1) := by decide +kernel
theorem dX6_undo_21 : decode cX6_undo 21 = .ok (.putfield 295, 3) := by decide +kernel
theorem dX6_undo_24 : decode cX6_undo 24 = .ok (.aload_n 0, 1) := by decide +kernel
theorem dX6_undo_25 : decode cX6_undo 25 = .ok (.getfield 28, 3) := by decide +kernel
theorem dX6_undo_28 : decode cX6_undo 28 = .ok (.aload_n 0, 1) := by decide +kernel
theorem dX6_undo_29 : decode cX6_undo 29 = .ok (.getfield 295, 3) := by decide +kernel
theorem dX6_undo_32 : decode cX6_undo 32 = .ok (.aaload, 1) := by decide +kernel
theorem dX6_undo_33 : decode cX6_undo 33 = .ok (.aload_n 0, 1) := by decide +kernel
theorem dX6_undo_34 : decode cX6_undo 34 = .ok (.getfield 17, 3) := by decide +kernel
theorem dX6_undo_37 : decode cX6_undo 37 = .ok (.invokestatic 161, 3) := by decide +kernel
theorem dX6_undo_40 : decode cX6_undo 40 = .ok (.aload_n 0, 1) := by decide +kernel
theorem dX6_undo_41 : decode cX6_undo 41 = .ok (.getfield 295, 3) := by decide +kernel
theorem dX6_undo_44 : decode cX6_undo 44 = .ok (.ireturn, 1) := by decide +kernel
theorem dX6_checksum_0 : decode cX6_checksum 0 = .ok (.aload_n 0, 1) := by decide +kernel
theorem dX6_checksum_1 : decode cX6_checksum 1 = .ok (.iconst 0, 1) := by decide +kernel
theorem dX6_checksum_2 : decode cX6_checksum 2 = .ok (.putfield 39, 3) := by decide +kernel
theorem dX6_checksum_5 : decode cX6_checksum 5 = .ok (.aload_n 0, 1) := by decide +kernel
theorem dX6_checksum_6 : decode cX6_checksum 6 = .ok (.getfield 17, 3) := by decide +kernel
theorem dX6_checksum_9 : decode cX6_checksum 9 = .ok (.iconst 0, 1) := by decide +kernel
theorem dX6_checksum_10 : decode cX6_checksum 10 = .ok (.iaload, 1) := by decide +kernel
theorem dX6_checksum_11 : decode cX6_checksum 11 = .ok (.i2l, 1) := by decide +kernel
theorem dX6_checksum_12 : decode cX6_checksum 12 = .ok (.lstore_n 1, 1) := by decide +kernel
theorem dX6_checksum_13 : decode cX6_checksum 13 = .ok (.iconst 0, 1) := by decide +kernel
theorem dX6_checksum_14 : decode cX6_checksum 14 = .ok (.istore_n 3, 1) := by decide +kernel
theorem dX6_checksum_15 : decode cX6_checksum 15 = .ok (.iload_n 3, 1) := by decide +kernel
theorem dX6_checksum_16 : decode cX6_checksum 16 = .ok (.aload_n 0, 1) := by decide +kernel
theorem dX6_checksum_17 : decode cX6_checksum 17 = .ok (.getfield 17, 3) := by decide +kernel
theorem dX6_checksum_20 : decode cX6_checksum 20 = .ok (.iconst 4, 1) := by decide +kernel
theorem dX6_checksum_21 : decode cX6_checksum 21 = .ok (.iaload, 1) := by decide +kernel
theorem dX6_checksum_22 : decode cX6_checksum 22 = .ok (.if_icmp .ge 40, 3) := by decide +kernel
theorem dX6_checksum_25 : decode cX6_checksum 25 = .ok (.iconst 0, 1) := by decide +kernel
theorem dX6_checksum_26 : decode cX6_checksum 26 = .ok (.istore 4, 2) := by decide +kernel
theorem dX6_checksum_28 : decode cX6_checksum 28 = .ok (.iload 4, 2) := by decide +kernel
theorem dX6_checksum_30 : decode cX6_checksum 30 = .ok (.bipush 6, 2) := by decide +kernel
theorem dX6_checksum_32 : decode cX6_checksum 32 = .ok (.if_icmp .ge 24, 3) := by decide +kernel
theorem dX6_checksum_35 : decode cX6_checksum 35 = .ok (.ldc2_w 301, 3) := by decide +kernel
theorem dX6_checksum_38 : decode cX6_checksum 38 = .ok (.lload_n 1, 1) := by decide +kernel
theorem dX6_checksum_39 : decode cX6_checksum 39 = .ok (.lmul, 1) := by decide +kernel
theorem dX6_checksum_40 : decode cX6_checksum 40 = .ok (.aload_n 0, 1) := by decide +kernel
theorem dX6_checksum_41 : decode cX6_checksum 41 = .ok (.iload_n 3, 1) := by decide +kernel
theorem dX6_checksum_42 : decode cX6_checksum 42 = .ok (.iload 4, 2) := by decide +kernel
theorem dX6_checksum_44 : decode cX6_checksum 44 = .ok (.invokevirtual 277, 3) := by decide +kernel
theorem dX6_checksum_47 : decode cX6_checksum 47 = .ok (.i2l, 1) := by decide +kernel
theorem dX6_checksum_48 : decode cX6_checksum 48 = .ok (.ladd, 1) := by decide +kernel
theorem dX6_checksum_49 : decode cX6_checksum 49 = .ok (.lstore_n 1, 1) := by decide +kernel
theorem dX6_checksum_50 : decode cX6_checksum 50 = .ok (.iinc 4 1, 3) := by decide +kernel
theorem dX6_checksum_53 : decode cX6_checksum 53 = .ok (.goto (-25), 3) := by decide +kernel
theorem dX6_checksum_56 : decode cX6_checksum 56 = .ok (.iinc 3 1, 3) := by decide +kernel
theorem dX6_checksum_59 : decode cX6_checksum 59 = .ok (.goto (-44), 3) := by decide +kernel
theorem dX6_checksum_62 : decode cX6_checksum 62 = .ok (.iconst 0, 1) := by decide +kernel
theorem dX6_checksum_63 : decode cX6_checksum 63 = .ok (.istore_n 3, 1) := by decide +kernel
theorem dX6_checksum_64 : decode cX6_checksum 64 = .ok (.iload_n 3, 1) := by decide +kernel
theorem dX6_checksum_65 : decode cX6_checksum 65 = .ok (.aload_n 0, 1) := by decide +kernel
theorem dX6_checksum_66 : decode cX6_checksum 66 = .ok (.getfield 17, 3) := by decide +kernel
theorem dX6_checksum_69 : decode cX6_checksum 69 = .ok (.iconst 5, 1) := by decide +kernel
theorem dX6_checksum_70 : decode cX6_checksum 70 = .ok (.iaload, 1) := by decide +kernel
theorem dX6_checksum_71 : decode cX6_checksum 71 = .ok (.if_icmp .ge 40, 3) := by decide +kernel
theorem dX6_checksum_74 : decode cX6_checksum 74 = .ok (.iconst 0, 1) := by decide +kernel
theorem dX6_checksum_75 : decode cX6_checksum 75 = .ok (.istore 4, 2) := by decide +kernel
theorem dX6_checksum_77 : decode cX6_checksum 77 = .ok (.iload 4, 2) := by decide +kernel
theorem dX6_checksum_79 : decode cX6_checksum 79 = .ok (.bipush 6, 2) := by decide +kernel
theorem dX6_checksum_81 : decode cX6_checksum 81 = .ok (.if_icmp .ge 24, 3) := by decide +kernel
theorem dX6_checksum_84 : decode cX6_checksum 84 = .ok (.ldc2_w 301, 3) := by decide +kernel
theorem dX6_checksum_87 : decode cX6_checksum 87 = .ok (.lload_n 1, 1) := by decide +kernel
theorem dX6_checksum_88 : decode cX6_checksum 88 = .ok (.lmul, 1) := by decide +kernel
theorem dX6_checksum_89 : decode cX6_checksum 89 = .ok (.aload_n 0, 1) := by decide +kernel
theorem dX6_checksum_90 : decode cX6_checksum 90 = .ok (.iload_n 3, 1) := by decide +kernel
theorem dX6_checksum_91 : decode cX6_checksum 91 = .ok (.iload 4, 2) := by decide +kernel
theorem dX6_checksum_93 : decode cX6_checksum 93 = .ok (.invokevirtual 283, 3) := by decide +kernel
theorem dX6_checksum_96 : decode cX6_checksum 96 = .ok (.i2l, 1) := by decide +kernel
theorem dX6_checksum_97 : decode cX6_checksum 97 = .ok (.ladd, 1) := by decide +kernel
theorem dX6_checksum_98 : decode cX6_checksum 98 = .ok (.lstore_n 1, 1) := by decide +kernel
theorem dX6_checksum_99 : decode cX6_checksum 99 = .ok (.iinc 4 1, 3) := by decide +kernel
theorem dX6_checksum_102 : decode cX6_checksum 102 = .ok (.goto (-25), 3) := by decide +kernel
theorem dX6_checksum_105 : decode cX6_checksum 105 = .ok (.iinc 3 1, 3) := by decide +kernel
theorem dX6_checksum_108 : decode cX6_checksum 108 = .ok (.goto (-44), 3) := by decide +kernel
theorem dX6_checksum_111 : decode cX6_checksum 111 = .ok (.iconst 0, 1) := by decide +kernel
theorem dX6_checksum_112 : decode cX6_checksum 112 = .ok (.istore_n 3, 1) := by decide +kernel
theorem dX6_checksum_113 : decode cX6_checksum 113 = .ok (.iload_n 3, 1) := by decide +kernel
theorem dX6_checksum_114 : decode cX6_checksum 114 = .ok (.aload_n 0, 1) := by decide +kernel
theorem dX6_checksum_115 : decode cX6_checksum 115 = .ok (.getfield 17, 3) := by decide +kernel
theorem dX6_checksum_118 : decode cX6_checksum 118 = .ok (.bipush 6, 2) := by decide +kernel
theorem dX6_checksum_120 : decode cX6_checksum 120 = .ok (.iaload, 1) := by decide +kernel
theorem dX6_checksum_121 : decode cX6_checksum 121 = .ok (.if_icmp .ge 68, 3) := by decide +kernel
theorem dX6_checksum_124 : decode cX6_checksum 124 = .ok (.iconst 0, 1) := by decide +kernel
theorem dX6_checksum_125 : decode cX6_checksum 125 = .ok (.istore 4, 2) := by decide +kernel
theorem dX6_checksum_127 : decode cX6_checksum 127 = .ok (.iload 4, 2) := by decide +kernel
theorem dX6_checksum_129 : decode cX6_checksum 129 = .ok (.bipush 6, 2) := by decide +kernel
theorem dX6_checksum_131 : decode cX6_checksum 131 = .ok (.if_icmp .ge 24, 3) := by decide +kernel
theorem dX6_checksum_134 : decode cX6_checksum 134 = .ok (.ldc2_w 301, 3) := by decide +kernel
theorem dX6_checksum_137 : decode cX6_checksum 137 = .ok (.lload_n 1, 1) := by decide +kernel
theorem dX6_checksum_138 : decode cX6_checksum 138 = .ok (.lmul, 1) := by decide +kernel
theorem dX6_checksum_139 : decode cX6_checksum 139 = .ok (.aload_n 0, 1) := by decide +kernel
theorem dX6_checksum_140 : decode cX6_checksum 140 = .ok (.iload_n 3, 1) := by decide +kernel
theorem dX6_checksum_141 : decode cX6_checksum 141 = .ok (.iload 4, 2) := by decide +kernel
theorem dX6_checksum_143 : decode cX6_checksum 143 = .ok (.invokevirtual 171, 3) := by decide +kernel
theorem dX6_checksum_146 : decode cX6_checksum 146 = .ok (.i2l, 1) := by decide +kernel
theorem dX6_checksum_147 : decode cX6_checksum 147 = .ok (.ladd, 1) := by decide +kernel
theorem dX6_checksum_148 : decode cX6_checksum 148 = .ok (.lstore_n 1, 1) := by decide +kernel
theorem dX6_checksum_149 : decode cX6_checksum 149 = .ok (.iinc 4 1, 3) := by decide +kernel
theorem dX6_checksum_152 : decode cX6_checksum 152 = .ok (.goto (-25), 3) := by decide +kernel
theorem dX6_checksum_155 : decode cX6_checksum 155 = .ok (.ldc2_w 301, 3) := by decide +kernel
theorem dX6_checksum_158 : decode cX6_checksum 158 = .ok (.ldc2_w 301, 3) := by decide +kernel
theorem dX6_checksum_161 : decode cX6_checksum 161 = .ok (.lload_n 1, 1) := by decide +kernel
theorem dX6_checksum_162 : decode cX6_checksum 162 = .ok (.lmul, 1) := by decide +kernel
theorem dX6_checksum_163 : decode cX6_checksum 163 = .ok (.aload_n 0, 1) := by decide +kernel
theorem dX6_checksum_164 : decode cX6_checksum 164 = .ok (.iload_n 3, 1) := by decide +kernel
theorem dX6_checksum_165 : decode cX6_checksum 165 = .ok (.bipush 9, 2) := by decide +kernel
theorem dX6_checksum_167 : decode cX6_checksum 167 = .ok (.invokevirtual 171, 3) := by decide +kernel
theorem dX6_checksum_170 : decode cX6_checksum 170 = .ok (.i2l, 1) := by decide +kernel
theorem dX6_checksum_171 : decode cX6_checksum 171 = .ok (.ladd, 1) := by decide +kernel
theorem dX6_checksum_172 : decode cX6_checksum 172 = .ok (.lmul, 1) := by decide +kernel
theorem dX6_checksum_173 : decode cX6_checksum 173 = .ok (.aload_n 0, 1) := by decide +kernel
theorem dX6_checksum_174 : decode cX6_checksum 174 = .ok (.iload_n 3, 1) := by decide +kernel
theorem dX6_checksum_175 : decode cX6_checksum 175 = .ok (.bipush 10, 2) := by decide +kernel
theorem dX6_checksum_177 : decode cX6_checksum 177 = .ok (.invokevirtual 171, 3) := by decide +kernel
theorem dX6_checksum_180 : decode cX6_checksum 180 = .ok (.i2l, 1) := by decide +kernel
theorem dX6_checksum_181 : decode cX6_checksum 181 = .ok (.ladd, 1) := by decide +kernel
theorem dX6_checksum_182 : decode cX6_checksum 182 = .ok (.lstore_n 1, 1) := by decide +kernel
theorem dX6_checksum_183 : decode cX6_checksum 183 = .ok (.iinc 3 1, 3) := by decide +kernel
theorem dX6_checksum_186 : decode cX6_checksum 186 = .ok (.goto (-73), 3) := by decide +kernel
theorem dX6_checksum_189 : decode cX6_checksum 189 = .ok (.iconst 0, 1) := by decide +kernel
theorem dX6_checksum_190 : decode cX6_checksum 190 = .ok (.istore_n 3, 1) := by decide +kernel
theorem dX6_checksum_191 : decode cX6_checksum 191 = .ok (.iload_n 3, 1) := by decide +kernel
theorem dX6_checksum_192 : decode cX6_checksum 192 = .ok (.bipush 7, 2) := by decide +kernel
theorem dX6_checksum_194 : decode cX6_checksum 194 = .ok (.if_icmp .ge 26, 3) := by decide +kernel
theorem dX6_checksum_197 : decode cX6_checksum 197 = .ok (.ldc2_w 301, 3) := by decide +kernel
theorem dX6_checksum_200 : decode cX6_checksum 200 = .ok (.lload_n 1, 1) := by decide +kernel
theorem dX6_checksum_201 : decode cX6_checksum 201 = .ok (.lmul, 1) := by decide +kernel
theorem dX6_checksum_202 : decode cX6_checksum 202 = .ok (.aload_n 0, 1) := by decide +kernel
theorem dX6_checksum_203 : decode cX6_checksum 203 = .ok (.getfield 17, 3) := by decide +kernel
theorem dX6_checksum_206 : decode cX6_checksum 206 = .ok (.bipush 9, 2) := by decide +kernel
theorem dX6_checksum_208 : decode cX6_checksum 208 = .ok (.iload_n 3, 1) := by decide +kernel
theorem dX6_checksum_209 : decode cX6_checksum 209 = .ok (.iadd, 1) := by decide +kernel
theorem dX6_checksum_210 : decode cX6_checksum 210 = .ok (.iaload, 1) := by decide +kernel
theorem dX6_checksum_211 : decode cX6_checksum 211 = .ok (.i2l, 1) := by decide +kernel
theorem dX6_checksum_212 : decode cX6_checksum 212 = .ok (.ladd, 1) := by decide +kernel
theorem dX6_checksum_213 : decode cX6_checksum 213 = .ok (.lstore_n 1, 1) := by decide +kernel
theorem dX6_checksum_214 : decode cX6_checksum 214 = .ok (.iinc 3 1, 3) := by decide +kernel
theorem dX6_checksum_217 : decode cX6_checksum 217 = .ok (.goto (-26), 3) := by decide +kernel
theorem dX6_checksum_220 : decode cX6_checksum 220 = .ok (.lload_n 1, 1) := by decide +kernel
theorem dX6_checksum_221 : decode cX6_checksum 221 = .ok (.lreturn, 1) := by decide +kernel
