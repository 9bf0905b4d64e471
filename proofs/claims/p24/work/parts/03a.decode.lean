theorem dX0_init_0 : decode cX0_init 0 = .ok (.aload_n 0, 1) := by decide +kernel
theorem dX0_init_1 : decode cX0_init 1 = .ok (.invokespecial 3, 3) := by decide +kernel
theorem dX0_init_4 : decode cX0_init 4 = .ok (.aload_n 0, 1) := by decide +kernel
theorem dX0_init_5 : decode cX0_init 5 = .ok (.new 9, 3) := by decide +kernel
theorem dX0_init_8 : decode cX0_init 8 = .ok (.dup, 1) := by decide +kernel
theorem dX0_init_9 : decode cX0_init 9 = .ok (.bipush 30, 2) := by decide +kernel
theorem dX0_init_11 : decode cX0_init 11 = .ok (.newarray .int, 2) := by decide +kernel
theorem dX0_init_13 : decode cX0_init 13 = .ok (.iconst 3, 1) := by decide +kernel
theorem dX0_init_14 : decode cX0_init 14 = .ok (.invokespecial 11, 3) := by decide +kernel
theorem dX0_init_17 : decode cX0_init 17 = .ok (.putfield 14, 3) := by decide +kernel
theorem dX0_init_20 : decode cX0_init 20 = .ok (.aload_n 0, 1) := by decide +kernel
theorem dX0_init_21 : decode cX0_init 21 = .ok (.new 9, 3) := by decide +kernel
theorem dX0_init_24 : decode cX0_init 24 = .ok (.dup, 1) := by decide +kernel
theorem dX0_init_25 : decode cX0_init 25 = .ok (.sipush 160, 3) := by decide +kernel
theorem dX0_init_28 : decode cX0_init 28 = .ok (.newarray .int, 2) := by decide +kernel
theorem dX0_init_30 : decode cX0_init 30 = .ok (.bipush 8, 2) := by decide +kernel
theorem dX0_init_32 : decode cX0_init 32 = .ok (.invokespecial 11, 3) := by decide +kernel
theorem dX0_init_35 : decode cX0_init 35 = .ok (.putfield 20, 3) := by decide +kernel
theorem dX0_init_38 : decode cX0_init 38 = .ok (.aload_n 0, 1) := by decide +kernel
theorem dX0_init_39 : decode cX0_init 39 = .ok (.new 9, 3) := by decide +kernel
theorem dX0_init_42 : decode cX0_init 42 = .ok (.dup, 1) := by decide +kernel
theorem dX0_init_43 : decode cX0_init 43 = .ok (.sipush 520, 3) := by decide +kernel
theorem dX0_init_46 : decode cX0_init 46 = .ok (.newarray .int, 2) := by decide +kernel
theorem dX0_init_48 : decode cX0_init 48 = .ok (.bipush 13, 2) := by decide +kernel
theorem dX0_init_50 : decode cX0_init 50 = .ok (.invokespecial 11, 3) := by decide +kernel
theorem dX0_init_53 : decode cX0_init 53 = .ok (.putfield 23, 3) := by decide +kernel
theorem dX0_init_56 : decode cX0_init 56 = .ok (.aload_n 0, 1) := by decide +kernel
theorem dX0_init_57 : decode cX0_init 57 = .ok (.new 9, 3) := by decide +kernel
theorem dX0_init_60 : decode cX0_init 60 = .ok (.dup, 1) := by decide +kernel
theorem dX0_init_61 : decode cX0_init 61 = .ok (.bipush 7, 2) := by decide +kernel
theorem dX0_init_63 : decode cX0_init 63 = .ok (.newarray .int, 2) := by decide +kernel
theorem dX0_init_65 : decode cX0_init 65 = .ok (.bipush 7, 2) := by decide +kernel
theorem dX0_init_67 : decode cX0_init 67 = .ok (.invokespecial 11, 3) := by decide +kernel
theorem dX0_init_70 : decode cX0_init 70 = .ok (.putfield 26, 3) := by decide +kernel
theorem dX0_init_73 : decode cX0_init 73 = .ok (.aload_n 0, 1) := by decide +kernel
theorem dX0_init_74 : decode cX0_init 74 = .ok (.iconst 3, 1) := by decide +kernel
theorem dX0_init_75 : decode cX0_init 75 = .ok (.putfield 29, 3) := by decide +kernel
theorem dX0_init_78 : decode cX0_init 78 = .ok (.aload_n 0, 1) := by decide +kernel
theorem dX0_init_79 : decode cX0_init 79 = .ok (.iconst 5, 1) := by decide +kernel
theorem dX0_init_80 : decode cX0_init 80 = .ok (.putfield 33, 3) := by decide +kernel
theorem dX0_init_83 : decode cX0_init 83 = .ok (.aload_n 0, 1) := by decide +kernel
theorem dX0_init_84 : decode cX0_init 84 = .ok (.bipush 20, 2) := by decide +kernel
theorem dX0_init_86 : decode cX0_init 86 = .ok (.putfield 36, 3) := by decide +kernel
theorem dX0_init_89 : decode cX0_init 89 = .ok (.aload_n 0, 1) := by decide +kernel
theorem dX0_init_90 : decode cX0_init 90 = .ok (.getfield 26, 3) := by decide +kernel
theorem dX0_init_93 : decode cX0_init 93 = .ok (.invokevirtual 39, 3) := by decide +kernel
theorem dX0_init_96 : decode cX0_init 96 = .ok (.pop, 1) := by decide +kernel
theorem dX0_init_97 : decode cX0_init 97 = .ok (.return_, 1) := by decide +kernel
theorem dX0_clear_0 : decode cX0_clear 0 = .ok (.aload_n 0, 1) := by decide +kernel
theorem dX0_clear_1 : decode cX0_clear 1 = .ok (.getfield 14, 3) := by decide +kernel
theorem dX0_clear_4 : decode cX0_clear 4 = .ok (.invokevirtual 43, 3) := by decide +kernel
theorem dX0_clear_7 : decode cX0_clear 7 = .ok (.aload_n 0, 1) := by decide +kernel
theorem dX0_clear_8 : decode cX0_clear 8 = .ok (.getfield 20, 3) := by decide +kernel
theorem dX0_clear_11 : decode cX0_clear 11 = .ok (.invokevirtual 43, 3) := by decide +kernel
theorem dX0_clear_14 : decode cX0_clear 14 = .ok (.aload_n 0, 1) := by decide +kernel
theorem dX0_clear_15 : decode cX0_clear 15 = .ok (.getfield 23, 3) := by decide +kernel
theorem dX0_clear_18 : decode cX0_clear 18 = .ok (.invokevirtual 43, 3) := by decide +kernel
theorem dX0_clear_21 : decode cX0_clear 21 = .ok (.aload_n 0, 1) := by decide +kernel
theorem dX0_clear_22 : decode cX0_clear 22 = .ok (.getfield 26, 3) := by decide +kernel
theorem dX0_clear_25 : decode cX0_clear 25 = .ok (.invokevirtual 43, 3) := by decide +kernel
theorem dX0_clear_28 : decode cX0_clear 28 = .ok (.aload_n 0, 1) := by decide +kernel
theorem dX0_clear_29 : decode cX0_clear 29 = .ok (.getfield 26, 3) := by decide +kernel
theorem dX0_clear_32 : decode cX0_clear 32 = .ok (.invokevirtual 39, 3) := by decide +kernel
theorem dX0_clear_35 : decode cX0_clear 35 = .ok (.pop, 1) := by decide +kernel
theorem dX0_clear_36 : decode cX0_clear 36 = .ok (.aload_n 0, 1) := by decide +kernel
theorem dX0_clear_37 : decode cX0_clear 37 = .ok (.aconst_null, 1) := by decide +kernel
theorem dX0_clear_38 : decode cX0_clear 38 = .ok (.putfield 46, 3) := by decide +kernel
theorem dX0_clear_41 : decode cX0_clear 41 = .ok (.aload_n 0, 1) := by decide +kernel
theorem dX0_clear_42 : decode cX0_clear 42 = .ok (.iconst 0, 1) := by decide +kernel
theorem dX0_clear_43 : decode cX0_clear 43 = .ok (.putfield 50, 3) := by decide +kernel
theorem dX0_clear_46 : decode cX0_clear 46 = .ok (.aload_n 0, 1) := by decide +kernel
theorem dX0_clear_47 : decode cX0_clear 47 = .ok (.iconst 3, 1) := by decide +kernel
theorem dX0_clear_48 : decode cX0_clear 48 = .ok (.putfield 29, 3) := by decide +kernel
theorem dX0_clear_51 : decode cX0_clear 51 = .ok (.aload_n 0, 1) := by decide +kernel
theorem dX0_clear_52 : decode cX0_clear 52 = .ok (.iconst 5, 1) := by decide +kernel
theorem dX0_clear_53 : decode cX0_clear 53 = .ok (.putfield 33, 3) := by decide +kernel
theorem dX0_clear_56 : decode cX0_clear 56 = .ok (.aload_n 0, 1) := by decide +kernel
theorem dX0_clear_57 : decode cX0_clear 57 = .ok (.bipush 20, 2) := by decide +kernel
theorem dX0_clear_59 : decode cX0_clear 59 = .ok (.putfield 36, 3) := by decide +kernel
theorem dX0_clear_62 : decode cX0_clear 62 = .ok (.return_, 1) := by decide +kernel
theorem dX0_copyFrom_0 : decode cX0_copyFrom 0 = .ok (.aload_n 0, 1) := by decide +kernel
theorem dX0_copyFrom_1 : decode cX0_copyFrom 1 = .ok (.getfield 14, 3) := by decide +kernel
theorem dX0_copyFrom_4 : decode cX0_copyFrom 4 = .ok (.aload_n 1, 1) := by decide +kernel
theorem dX0_copyFrom_5 : decode cX0_copyFrom 5 = .ok (.getfield 14, 3) := by decide +kernel
theorem dX0_copyFrom_8 : decode cX0_copyFrom 8 = .ok (.invokevirtual 53, 3) := by decide +kernel
theorem dX0_copyFrom_11 : decode cX0_copyFrom 11 = .ok (.aload_n 0, 1) := by decide +kernel
theorem dX0_copyFrom_12 : decode cX0_copyFrom 12 = .ok (.getfield 20, 3) := by decide +kernel
theorem dX0_copyFrom_15 : decode cX0_copyFrom 15 = .ok (.aload_n 1, 1) := by decide +kernel
theorem dX0_copyFrom_16 : decode cX0_copyFrom 16 = .ok (.getfield 20, 3) := by decide +kernel
theorem dX0_copyFrom_19 : decode cX0_copyFrom 19 = .ok (.invokevirtual 53, 3) := by decide +kernel
theorem dX0_copyFrom_22 : decode cX0_copyFrom 22 = .ok (.aload_n 0, 1) := by decide +kernel
theorem dX0_copyFrom_23 : decode cX0_copyFrom 23 = .ok (.getfield 23, 3) := by decide +kernel
theorem dX0_copyFrom_26 : decode cX0_copyFrom 26 = .ok (.aload_n 1, 1) := by decide +kernel
theorem dX0_copyFrom_27 : decode cX0_copyFrom 27 = .ok (.getfield 23, 3) := by decide +kernel
theorem dX0_copyFrom_30 : decode cX0_copyFrom 30 = .ok (.invokevirtual 53, 3) := by decide +kernel
theorem dX0_copyFrom_33 : decode cX0_copyFrom 33 = .ok (.aload_n 0, 1) := by decide +kernel
theorem dX0_copyFrom_34 : decode cX0_copyFrom 34 = .ok (.getfield 26, 3) := by decide +kernel
theorem dX0_copyFrom_37 : decode cX0_copyFrom 37 = .ok (.aload_n 1, 1) := by decide +kernel
theorem dX0_copyFrom_38 : decode cX0_copyFrom 38 = .ok (.getfield 26, 3) := by decide +kernel
theorem dX0_copyFrom_41 : decode cX0_copyFrom 41 = .ok (.invokevirtual 53, 3) := by decide +kernel
theorem dX0_copyFrom_44 : decode cX0_copyFrom 44 = .ok (.aload_n 0, 1) := by decide +kernel
theorem dX0_copyFrom_45 : decode cX0_copyFrom 45 = .ok (.aload_n 1, 1) := by decide +kernel
theorem dX0_copyFrom_46 : decode cX0_copyFrom 46 = .ok (.getfield 46, 3) := by decide +kernel
theorem dX0_copyFrom_49 : decode cX0_copyFrom 49 = .ok (.putfield 46, 3) := by decide +kernel
theorem dX0_copyFrom_52 : decode cX0_copyFrom 52 = .ok (.aload_n 0, 1) := by decide +kernel
theorem dX0_copyFrom_53 : decode cX0_copyFrom 53 = .ok (.aload_n 1, 1) := by decide +kernel
theorem dX0_copyFrom_54 : decode cX0_copyFrom 54 = .ok (.getfield 50, 3) := by decide +kernel
theorem dX0_copyFrom_57 : decode cX0_copyFrom 57 = .ok (.putfield 50, 3) := by decide +kernel
theorem dX0_copyFrom_60 : decode cX0_copyFrom 60 = .ok (.aload_n 0, 1) := by decide +kernel
theorem dX0_copyFrom_61 : decode cX0_copyFrom 61 = .ok (.aload_n 1, 1) := by decide +kernel
theorem dX0_copyFrom_62 : decode cX0_copyFrom 62 = .ok (.getfield 29, 3) := by decide +kernel
theorem dX0_copyFrom_65 : decode cX0_copyFrom 65 = .ok (.putfield 29, 3) := by decide +kernel
theorem dX0_copyFrom_68 : decode cX0_copyFrom 68 = .ok (.aload_n 0, 1) := by decide +kernel
theorem dX0_copyFrom_69 : decode cX0_copyFrom 69 = .ok (.aload_n 1, 1) := by decide +kernel
theorem dX0_copyFrom_70 : decode cX0_copyFrom 70 = .ok (.getfield 33, 3) := by decide +kernel
theorem dX0_copyFrom_73 : decode cX0_copyFrom 73 = .ok (.putfield 33, 3) := by decide +kernel
theorem dX0_copyFrom_76 : decode cX0_copyFrom 76 = .ok (.aload_n 0, 1) := by decide +kernel
theorem dX0_copyFrom_77 : decode cX0_copyFrom 77 = .ok (.aload_n 1, 1) := by decide +kernel
theorem dX0_copyFrom_78 : decode cX0_copyFrom 78 = .ok (.getfield 36, 3) := by decide +kernel
theorem dX0_copyFrom_81 : decode cX0_copyFrom 81 = .ok (.putfield 36, 3) := by decide +kernel
theorem dX0_copyFrom_84 : decode cX0_copyFrom 84 = .ok (.return_, 1) := by decide +kernel
theorem dX0_addParty_0 : decode cX0_addParty 0 = .ok (.aload_n 0, 1) := by decide +kernel
theorem dX0_addParty_1 : decode cX0_addParty 1 = .ok (.getfield 14, 3) := by decide +kernel
theorem dX0_addParty_4 : decode cX0_addParty 4 = .ok (.invokevirtual 39, 3) := by decide +kernel
theorem dX0_addParty_7 : decode cX0_addParty 7 = .ok (.istore 4, 2) := by decide +kernel
theorem dX0_addParty_9 : decode cX0_addParty 9 = .ok (.aload_n 0, 1) := by decide +kernel
theorem dX0_addParty_10 : decode cX0_addParty 10 = .ok (.getfield 14, 3) := by decide +kernel
theorem dX0_addParty_13 : decode cX0_addParty 13 = .ok (.iload 4, 2) := by decide +kernel
theorem dX0_addParty_15 : decode cX0_addParty 15 = .ok (.iconst 0, 1) := by decide +kernel
theorem dX0_addParty_16 : decode cX0_addParty 16 = .ok (.iload_n 1, 1) := by decide +kernel
theorem dX0_addParty_17 : decode cX0_addParty 17 = .ok (.invokevirtual 57, 3) := by decide +kernel
theorem dX0_addParty_20 : decode cX0_addParty 20 = .ok (.aload_n 0, 1) := by decide +kernel
theorem dX0_addParty_21 : decode cX0_addParty 21 = .ok (.getfield 14, 3) := by decide +kernel
theorem dX0_addParty_24 : decode cX0_addParty 24 = .ok (.iload 4, 2) := by decide +kernel
theorem dX0_addParty_26 : decode cX0_addParty 26 = .ok (.iconst 1, 1) := by decide +kernel
theorem dX0_addParty_27 : decode cX0_addParty 27 = .ok (.iload_n 2, 1) := by decide +kernel
theorem dX0_addParty_28 : decode cX0_addParty 28 = .ok (.invokevirtual 57, 3) := by decide +kernel
theorem dX0_addParty_31 : decode cX0_addParty 31 = .ok (.aload_n 0, 1) := by decide +kernel
theorem dX0_addParty_32 : decode cX0_addParty 32 = .ok (.getfield 14, 3) := by decide +kernel
theorem dX0_addParty_35 : decode cX0_addParty 35 = .ok (.iload 4, 2) := by decide +kernel
theorem dX0_addParty_37 : decode cX0_addParty 37 = .ok (.iconst 2, 1) := by decide +kernel
theorem dX0_addParty_38 : decode cX0_addParty 38 = .ok (.iload_n 3, 1) := by decide +kernel
theorem dX0_addParty_39 : decode cX0_addParty 39 = .ok (.invokevirtual 57, 3) := by decide +kernel
theorem dX0_addParty_42 : decode cX0_addParty 42 = .ok (.return_, 1) := by decide +kernel
theorem dX0_legsInState_0 : decode cX0_legsInState 0 = .ok (.iconst 0, 1) := by decide +kernel
theorem dX0_legsInState_1 : decode cX0_legsInState 1 = .ok (.istore_n 2, 1) := by decide +kernel
theorem dX0_legsInState_2 : decode cX0_legsInState 2 = .ok (.iconst 0, 1) := by decide +kernel
theorem dX0_legsInState_3 : decode cX0_legsInState 3 = .ok (.istore_n 3, 1) := by decide +kernel
theorem dX0_legsInState_4 : decode cX0_legsInState 4 = .ok (.iload_n 3, 1) := by decide +kernel
theorem dX0_legsInState_5 : decode cX0_legsInState 5 = .ok (.aload_n 0, 1) := by decide +kernel
theorem dX0_legsInState_6 : decode cX0_legsInState 6 = .ok (.getfield 23, 3) := by decide +kernel
theorem dX0_legsInState_9 : decode cX0_legsInState 9 = .ok (.getfield 61, 3) := by decide +kernel
theorem dX0_legsInState_12 : decode cX0_legsInState 12 = .ok (.if_icmp .ge 25, 3) := by decide +kernel
theorem dX0_legsInState_15 : decode cX0_legsInState 15 = .ok (.aload_n 0, 1) := by decide +kernel
theorem dX0_legsInState_16 : decode cX0_legsInState 16 = .ok (.getfield 23, 3) := by decide +kernel
theorem dX0_legsInState_19 : decode cX0_legsInState 19 = .ok (.iload_n 3, 1) := by decide +kernel
theorem dX0_legsInState_20 : decode cX0_legsInState 20 = .ok (.iconst 2, 1) := by decide +kernel
theorem dX0_legsInState_21 : decode cX0_legsInState 21 = .ok (.invokevirtual 64, 3) := by decide +kernel
theorem dX0_legsInState_24 : decode cX0_legsInState 24 = .ok (.iload_n 1, 1) := by decide +kernel
theorem dX0_legsInState_25 : decode cX0_legsInState 25 = .ok (.if_icmp .ne 6, 3) := by decide +kernel
theorem dX0_legsInState_28 : decode cX0_legsInState 28 = .ok (.iinc 2 1, 3) := by decide +kernel
theorem dX0_legsInState_31 : decode cX0_legsInState 31 = .ok (.iinc 3 1, 3) := by decide +kernel
theorem dX0_legsInState_34 : decode cX0_legsInState 34 = .ok (.goto (-30), 3) := by decide +kernel
theorem dX0_legsInState_37 : decode cX0_legsInState 37 = .ok (.iload_n 2, 1) := by decide +kernel
theorem dX0_legsInState_38 : decode cX0_legsInState 38 = .ok (.ireturn, 1) := by decide +kernel
theorem dX0_legsRingingAt_0 : decode cX0_legsRingingAt 0 = .ok (.iconst 0, 1) := by decide +kernel
theorem dX0_legsRingingAt_1 : decode cX0_legsRingingAt 1 = .ok (.istore_n 2, 1) := by decide +kernel
theorem dX0_legsRingingAt_2 : decode cX0_legsRingingAt 2 = .ok (.iconst 0, 1) := by decide +kernel
theorem dX0_legsRingingAt_3 : decode cX0_legsRingingAt 3 = .ok (.istore_n 3, 1) := by decide +kernel
theorem dX0_legsRingingAt_4 : decode cX0_legsRingingAt 4 = .ok (.iload_n 3, 1) := by decide +kernel
theorem dX0_legsRingingAt_5 : decode cX0_legsRingingAt 5 = .ok (.aload_n 0, 1) := by decide +kernel
theorem dX0_legsRingingAt_6 : decode cX0_legsRingingAt 6 = .ok (.getfield 23, 3) := by decide +kernel
theorem dX0_legsRingingAt_9 : decode cX0_legsRingingAt 9 = .ok (.getfield 61, 3) := by decide +kernel
theorem dX0_legsRingingAt_12 : decode cX0_legsRingingAt 12 = .ok (.if_icmp .ge 21, 3) := by decide +kernel
theorem dX0_legsRingingAt_15 : decode cX0_legsRingingAt 15 = .ok (.aload_n 0, 1) := by decide +kernel
theorem dX0_legsRingingAt_16 : decode cX0_legsRingingAt 16 = .ok (.iload_n 3, 1) := by decide +kernel
theorem dX0_legsRingingAt_17 : decode cX0_legsRingingAt 17 = .ok (.iload_n 1, 1) := by decide +kernel
theorem dX0_legsRingingAt_18 : decode cX0_legsRingingAt 18 = .ok (.invokevirtual 68, 3) := by decide +kernel
theorem dX0_legsRingingAt_21 : decode cX0_legsRingingAt 21 = .ok (.ifCond .eq 6, 3) := by decide +kernel
theorem dX0_legsRingingAt_24 : decode cX0_legsRingingAt 24 = .ok (.iinc 2 1, 3) := by decide +kernel
theorem dX0_legsRingingAt_27 : decode cX0_legsRingingAt 27 = .ok (.iinc 3 1, 3) := by decide +kernel
theorem dX0_legsRingingAt_30 : decode cX0_legsRingingAt 30 = .ok (.goto (-26), 3) := by decide +kernel
theorem dX0_legsRingingAt_33 : decode cX0_legsRingingAt 33 = .ok (.iload_n 2, 1) := by decide +kernel
theorem dX0_legsRingingAt_34 : decode cX0_legsRingingAt 34 = .ok (.ireturn, 1) := by decide +kernel
theorem dX0_hasRoomFor_0 : decode cX0_hasRoomFor 0 = .ok (.aload_n 0, 1) := by decide +kernel
theorem dX0_hasRoomFor_1 : decode cX0_hasRoomFor 1 = .ok (.getfield 20, 3) := by decide +kernel
theorem dX0_hasRoomFor_4 : decode cX0_hasRoomFor 4 = .ok (.getfield 61, 3) := by decide +kernel
theorem dX0_hasRoomFor_7 : decode cX0_hasRoomFor 7 = .ok (.bipush 20, 2) := by decide +kernel
theorem dX0_hasRoomFor_9 : decode cX0_hasRoomFor 9 = .ok (.if_icmp .ge 21, 3) := by decide +kernel
theorem dX0_hasRoomFor_12 : decode cX0_hasRoomFor 12 = .ok (.aload_n 0, 1) := by decide +kernel
theorem dX0_hasRoomFor_13 : decode cX0_hasRoomFor 13 = .ok (.getfield 23, 3) := by decide +kernel
theorem dX0_hasRoomFor_16 : decode cX0_hasRoomFor 16 = .ok (.getfield 61, 3) := by decide +kernel
theorem dX0_hasRoomFor_19 : decode cX0_hasRoomFor 19 = .ok (.iload_n 1, 1) := by decide +kernel
theorem dX0_hasRoomFor_20 : decode cX0_hasRoomFor 20 = .ok (.iadd, 1) := by decide +kernel
theorem dX0_hasRoomFor_21 : decode cX0_hasRoomFor 21 = .ok (.bipush 40, 2) := by decide +kernel
theorem dX0_hasRoomFor_23 : decode cX0_hasRoomFor 23 = .ok (.if_icmp .gt 7, 3) := by decide +kernel
theorem dX0_hasRoomFor_26 : decode cX0_hasRoomFor 26 = .ok (.iconst 1, 1) := by decide +kernel
theorem dX0_hasRoomFor_27 : decode cX0_hasRoomFor 27 = .ok (.goto 4, 3) := by decide +kernel
theorem dX0_hasRoomFor_30 : decode cX0_hasRoomFor 30 = .ok (.iconst 0, 1) := by decide +kernel
theorem dX0_hasRoomFor_31 : decode cX0_hasRoomFor 31 = .ok (.ireturn, 1) := by decide +kernel
theorem dX0_isEngaged_0 : decode cX0_isEngaged 0 = .ok (.iconst 0, 1) := by decide +kernel
theorem dX0_isEngaged_1 : decode cX0_isEngaged 1 = .ok (.istore_n 2, 1) := by decide +kernel
theorem dX0_isEngaged_2 : decode cX0_isEngaged 2 = .ok (.iload_n 2, 1) := by decide +kernel
theorem dX0_isEngaged_3 : decode cX0_isEngaged 3 = .ok (.aload_n 0, 1) := by decide +kernel
theorem dX0_isEngaged_4 : decode cX0_isEngaged 4 = .ok (.getfield 23, 3) := by decide +kernel
theorem dX0_isEngaged_7 : decode cX0_isEngaged 7 = .ok (.getfield 61, 3) := by decide +kernel
theorem dX0_isEngaged_10 : decode cX0_isEngaged 10 = .ok (.if_icmp .ge 60, 3) := by decide +kernel
theorem dX0_isEngaged_13 : decode cX0_isEngaged 13 = .ok (.aload_n 0, 1) := by decide +kernel
theorem dX0_isEngaged_14 : decode cX0_isEngaged 14 = .ok (.getfield 23, 3) := by decide +kernel
theorem dX0_isEngaged_17 : decode cX0_isEngaged 17 = .ok (.iload_n 2, 1) := by decide +kernel
theorem dX0_isEngaged_18 : decode cX0_isEngaged 18 = .ok (.iconst 2, 1) := by decide +kernel
theorem dX0_isEngaged_19 : decode cX0_isEngaged 19 = .ok (.invokevirtual 64, 3) := by decide +kernel
theorem dX0_isEngaged_22 : decode cX0_isEngaged 22 = .ok (.istore_n 3, 1) := by decide +kernel
theorem dX0_isEngaged_23 : decode cX0_isEngaged 23 = .ok (.iload_n 3, 1) := by decide +kernel
theorem dX0_isEngaged_24 : decode cX0_isEngaged 24 = .ok (.iconst 3, 1) := by decide +kernel
theorem dX0_isEngaged_25 : decode cX0_isEngaged 25 = .ok (.if_icmp .eq 14, 3) := by decide +kernel
theorem dX0_isEngaged_28 : decode cX0_isEngaged 28 = .ok (.aload_n 0, 1) := by decide +kernel
theorem dX0_isEngaged_29 : decode cX0_isEngaged 29 = .ok (.iload_n 2, 1) := by decide +kernel
theorem dX0_isEngaged_30 : decode cX0_isEngaged 30 = .ok (.invokevirtual 72, 3) := by decide +kernel
theorem dX0_isEngaged_33 : decode cX0_isEngaged 33 = .ok (.iload_n 1, 1) := by decide +kernel
theorem dX0_isEngaged_34 : decode cX0_isEngaged 34 = .ok (.if_icmp .ne 5, 3) := by decide +kernel
theorem dX0_isEngaged_37 : decode cX0_isEngaged 37 = .ok (.iconst 1, 1) := by decide +kernel
theorem dX0_isEngaged_38 : decode cX0_isEngaged 38 = .ok (.ireturn, 1) := by decide +kernel
theorem dX0_isEngaged_39 : decode cX0_isEngaged 39 = .ok (.iload_n 3, 1) := by decide +kernel
theorem dX0_isEngaged_40 : decode cX0_isEngaged 40 = .ok (.iconst 1, 1) := by decide +kernel
theorem dX0_isEngaged_41 : decode cX0_isEngaged 41 = .ok (.if_icmp .eq 8, 3) := by decide +kernel
theorem dX0_isEngaged_44 : decode cX0_isEngaged 44 = .ok (.iload_n 3, 1) := by decide +kernel
theorem dX0_isEngaged_45 : decode cX0_isEngaged 45 = .ok (.iconst 2, 1) := by decide +kernel
theorem dX0_isEngaged_46 : decode cX0_isEngaged 46 = .ok (.if_icmp .ne 18, 3) := by decide +kernel
theorem dX0_isEngaged_49 : decode cX0_isEngaged 49 = .ok (.aload_n 0, 1) := by decide +kernel
theorem dX0_isEngaged_50 : decode cX0_isEngaged 50 = .ok (.getfield 23, 3) := by decide +kernel
theorem dX0_isEngaged_53 : decode cX0_isEngaged 53 = .ok (.iload_n 2, 1) := by decide +kernel
theorem dX0_isEngaged_54 : decode cX0_isEngaged 54 = .ok (.iconst 1, 1) := by decide +kernel
theorem dX0_isEngaged_55 : decode cX0_isEngaged 55 = .ok (.invokevirtual 64, 3) := by decide +kernel
theorem dX0_isEngaged_58 : decode cX0_isEngaged 58 = .ok (.iload_n 1, 1) := by decide +kernel
theorem dX0_isEngaged_59 : decode cX0_isEngaged 59 = .ok (.if_icmp .ne 5, 3) := by decide +kernel
theorem dX0_isEngaged_62 : decode cX0_isEngaged 62 = .ok (.iconst 1, 1) := by decide +kernel
theorem dX0_isEngaged_63 : decode cX0_isEngaged 63 = .ok (.ireturn, 1) := by decide +kernel
theorem dX0_isEngaged_64 : decode cX0_isEngaged 64 = .ok (.iinc 2 1, 3) := by decide +kernel
theorem dX0_isEngaged_67 : decode cX0_isEngaged 67 = .ok (.goto (-65), 3) := by decide +kernel
theorem dX0_isEngaged_70 : decode cX0_isEngaged 70 = .ok (.iconst 0, 1) := by decide +kernel
theorem dX0_isEngaged_71 : decode cX0_isEngaged 71 = .ok (.ireturn, 1) := by decide +kernel
theorem dX0_legOf_0 : decode cX0_legOf 0 = .ok (.iconst 0, 1) := by decide +kernel
theorem dX0_legOf_1 : decode cX0_legOf 1 = .ok (.istore_n 3, 1) := by decide +kernel
theorem dX0_legOf_2 : decode cX0_legOf 2 = .ok (.iload_n 3, 1) := by decide +kernel
theorem dX0_legOf_3 : decode cX0_legOf 3 = .ok (.aload_n 0, 1) := by decide +kernel
theorem dX0_legOf_4 : decode cX0_legOf 4 = .ok (.getfield 23, 3) := by decide +kernel
theorem dX0_legOf_7 : decode cX0_legOf 7 = .ok (.getfield 61, 3) := by decide +kernel
theorem dX0_legOf_10 : decode cX0_legOf 10 = .ok (.if_icmp .ge 33, 3) := by decide +kernel
theorem dX0_legOf_13 : decode cX0_legOf 13 = .ok (.aload_n 0, 1) := by decide +kernel
theorem dX0_legOf_14 : decode cX0_legOf 14 = .ok (.getfield 23, 3) := by decide +kernel
theorem dX0_legOf_17 : decode cX0_legOf 17 = .ok (.iload_n 3, 1) := by decide +kernel
theorem dX0_legOf_18 : decode cX0_legOf 18 = .ok (.iconst 2, 1) := by decide +kernel
theorem dX0_legOf_19 : decode cX0_legOf 19 = .ok (.invokevirtual 64, 3) := by decide +kernel
theorem dX0_legOf_22 : decode cX0_legOf 22 = .ok (.iload_n 2, 1) := by decide +kernel
theorem dX0_legOf_23 : decode cX0_legOf 23 = .ok (.if_icmp .ne 14, 3) := by decide +kernel
theorem dX0_legOf_26 : decode cX0_legOf 26 = .ok (.aload_n 0, 1) := by decide +kernel
theorem dX0_legOf_27 : decode cX0_legOf 27 = .ok (.iload_n 3, 1) := by decide +kernel
theorem dX0_legOf_28 : decode cX0_legOf 28 = .ok (.iload_n 1, 1) := by decide +kernel
theorem dX0_legOf_29 : decode cX0_legOf 29 = .ok (.invokevirtual 76, 3) := by decide +kernel
theorem dX0_legOf_32 : decode cX0_legOf 32 = .ok (.ifCond .eq 5, 3) := by decide +kernel
theorem dX0_legOf_35 : decode cX0_legOf 35 = .ok (.iload_n 3, 1) := by decide +kernel
theorem dX0_legOf_36 : decode cX0_legOf 36 = .ok (.ireturn, 1) := by decide +kernel
theorem dX0_legOf_37 : decode cX0_legOf 37 = .ok (.iinc 3 1, 3) := by decide +kernel
theorem dX0_legOf_40 : decode cX0_legOf 40 = .ok (.goto (-38), 3) := by decide +kernel
theorem dX0_legOf_43 : decode cX0_legOf 43 = .ok (.iconst (-1), 1) := by decide +kernel
theorem dX0_legOf_44 : decode cX0_legOf 44 = .ok (.ireturn, 1) := by decide +kernel
theorem dX0_isIn_0 : decode cX0_isIn 0 = .ok (.aload_n 0, 1) := by decide +kernel
theorem dX0_isIn_1 : decode cX0_isIn 1 = .ok (.iload_n 1, 1) := by decide +kernel
theorem dX0_isIn_2 : decode cX0_isIn 2 = .ok (.invokevirtual 72, 3) := by decide +kernel
theorem dX0_isIn_5 : decode cX0_isIn 5 = .ok (.iload_n 2, 1) := by decide +kernel
theorem dX0_isIn_6 : decode cX0_isIn 6 = .ok (.if_icmp .eq 16, 3) := by decide +kernel
theorem dX0_isIn_9 : decode cX0_isIn 9 = .ok (.aload_n 0, 1) := by decide +kernel
theorem dX0_isIn_10 : decode cX0_isIn 10 = .ok (.getfield 23, 3) := by decide +kernel
theorem dX0_isIn_13 : decode cX0_isIn 13 = .ok (.iload_n 1, 1) := by decide +kernel
theorem dX0_isIn_14 : decode cX0_isIn 14 = .ok (.iconst 1, 1) := by decide +kernel
theorem dX0_isIn_15 : decode cX0_isIn 15 = .ok (.invokevirtual 64, 3) := by decide +kernel
theorem dX0_isIn_18 : decode cX0_isIn 18 = .ok (.iload_n 2, 1) := by decide +kernel
theorem dX0_isIn_19 : decode cX0_isIn 19 = .ok (.if_icmp .ne 7, 3) := by decide +kernel
theorem dX0_isIn_22 : decode cX0_isIn 22 = .ok (.iconst 1, 1) := by decide +kernel
theorem dX0_isIn_23 : decode cX0_isIn 23 = .ok (.goto 4, 3) := by decide +kernel
theorem dX0_isIn_26 : decode cX0_isIn 26 = .ok (.iconst 0, 1) := by decide +kernel
theorem dX0_isIn_27 : decode cX0_isIn 27 = .ok (.ireturn, 1) := by decide +kernel
theorem dX0_sideOf_0 : decode cX0_sideOf 0 = .ok (.aload_n 0, 1) := by decide +kernel
theorem dX0_sideOf_1 : decode cX0_sideOf 1 = .ok (.iload_n 1, 1) := by decide +kernel
theorem dX0_sideOf_2 : decode cX0_sideOf 2 = .ok (.invokevirtual 72, 3) := by decide +kernel
theorem dX0_sideOf_5 : decode cX0_sideOf 5 = .ok (.iload_n 2, 1) := by decide +kernel
theorem dX0_sideOf_6 : decode cX0_sideOf 6 = .ok (.if_icmp .ne 7, 3) := by decide +kernel
theorem dX0_sideOf_9 : decode cX0_sideOf 9 = .ok (.iconst 0, 1) := by decide +kernel
theorem dX0_sideOf_10 : decode cX0_sideOf 10 = .ok (.goto 4, 3) := by decide +kernel
theorem dX0_sideOf_13 : decode cX0_sideOf 13 = .ok (.iconst 1, 1) := by decide +kernel
theorem dX0_sideOf_14 : decode cX0_sideOf 14 = .ok (.ireturn, 1) := by decide +kernel
theorem dX0_rings_0 : decode cX0_rings 0 = .ok (.aload_n 0, 1) := by decide +kernel
theorem dX0_rings_1 : decode cX0_rings 1 = .ok (.getfield 20, 3) := by decide +kernel
theorem dX0_rings_4 : decode cX0_rings 4 = .ok (.iload_n 1, 1) := by decide +kernel
theorem dX0_rings_5 : decode cX0_rings 5 = .ok (.bipush 6, 2) := by decide +kernel
theorem dX0_rings_7 : decode cX0_rings 7 = .ok (.invokevirtual 64, 3) := by decide +kernel
theorem dX0_rings_10 : decode cX0_rings 10 = .ok (.istore_n 2, 1) := by decide +kernel
theorem dX0_rings_11 : decode cX0_rings 11 = .ok (.iload_n 2, 1) := by decide +kernel
theorem dX0_rings_12 : decode cX0_rings 12 = .ok (.aload_n 0, 1) := by decide +kernel
theorem dX0_rings_13 : decode cX0_rings 13 = .ok (.getfield 20, 3) := by decide +kernel
theorem dX0_rings_16 : decode cX0_rings 16 = .ok (.iload_n 1, 1) := by decide +kernel
theorem dX0_rings_17 : decode cX0_rings 17 = .ok (.bipush 7, 2) := by decide +kernel
theorem dX0_rings_19 : decode cX0_rings 19 = .ok (.invokevirtual 64, 3) := by decide +kernel
theorem dX0_rings_22 : decode cX0_rings 22 = .ok (.if_icmp .ge 23, 3) := by decide +kernel
theorem dX0_rings_25 : decode cX0_rings 25 = .ok (.aload_n 0, 1) := by decide +kernel
theorem dX0_rings_26 : decode cX0_rings 26 = .ok (.getfield 23, 3) := by decide +kernel
theorem dX0_rings_29 : decode cX0_rings 29 = .ok (.iload_n 2, 1) := by decide +kernel
theorem dX0_rings_30 : decode cX0_rings 30 = .ok (.iconst 2, 1) := by decide +kernel
theorem dX0_rings_31 : decode cX0_rings 31 = .ok (.invokevirtual 64, 3) := by decide +kernel
theorem dX0_rings_34 : decode cX0_rings 34 = .ok (.ifCond .ne 5, 3) := by decide +kernel
theorem dX0_rings_37 : decode cX0_rings 37 = .ok (.iconst 1, 1) := by decide +kernel
theorem dX0_rings_38 : decode cX0_rings 38 = .ok (.ireturn, 1) := by decide +kernel
theorem dX0_rings_39 : decode cX0_rings 39 = .ok (.iinc 2 1, 3) := by decide +kernel
theorem dX0_rings_42 : decode cX0_rings 42 = .ok (.goto (-31), 3) := by decide +kernel
theorem dX0_rings_45 : decode cX0_rings 45 = .ok (.iconst 0, 1) := by decide +kernel
theorem dX0_rings_46 : decode cX0_rings 46 = .ok (.ireturn, 1) := by decide +kernel
theorem dX0_beginCall_0 : decode cX0_beginCall 0 = .ok (.aload_n 0, 1) := by decide +kernel
theorem dX0_beginCall_1 : decode cX0_beginCall 1 = .ok (.getfield 20, 3) := by decide +kernel
theorem dX0_beginCall_4 : decode cX0_beginCall 4 = .ok (.invokevirtual 39, 3) := by decide +kernel
theorem dX0_beginCall_7 : decode cX0_beginCall 7 = .ok (.istore 4, 2) := by decide +kernel
theorem dX0_beginCall_9 : decode cX0_beginCall 9 = .ok (.iload_n 2, 1) := by decide +kernel
theorem dX0_beginCall_10 : decode cX0_beginCall 10 = .ok (.invokestatic 79, 3) := by decide +kernel
theorem dX0_beginCall_13 : decode cX0_beginCall 13 = .ok (.istore 5, 2) := by decide +kernel
theorem dX0_beginCall_15 : decode cX0_beginCall 15 = .ok (.iload_n 3, 1) := by decide +kernel
theorem dX0_beginCall_16 : decode cX0_beginCall 16 = .ok (.iconst (-1), 1) := by decide +kernel
theorem dX0_beginCall_17 : decode cX0_beginCall 17 = .ok (.if_icmp .ne 7, 3) := by decide +kernel
theorem dX0_beginCall_20 : decode cX0_beginCall 20 = .ok (.iconst 0, 1) := by decide +kernel
theorem dX0_beginCall_21 : decode cX0_beginCall 21 = .ok (.goto 4, 3) := by decide +kernel
theorem dX0_beginCall_24 : decode cX0_beginCall 24 = .ok (.iconst 1, 1) := by decide +kernel
theorem dX0_beginCall_25 : decode cX0_beginCall 25 = .ok (.istore 6, 2) := by decide +kernel
theorem dX0_beginCall_27 : decode cX0_beginCall 27 = .ok (.aload_n 0, 1) := by decide +kernel
theorem dX0_beginCall_28 : decode cX0_beginCall 28 = .ok (.getfield 20, 3) := by decide +kernel
theorem dX0_beginCall_31 : decode cX0_beginCall 31 = .ok (.iload 4, 2) := by decide +kernel
theorem dX0_beginCall_33 : decode cX0_beginCall 33 = .ok (.iconst 0, 1) := by decide +kernel
theorem dX0_beginCall_34 : decode cX0_beginCall 34 = .ok (.iload_n 1, 1) := by decide +kernel
theorem dX0_beginCall_35 : decode cX0_beginCall 35 = .ok (.invokevirtual 57, 3) := by decide +kernel
theorem dX0_beginCall_38 : decode cX0_beginCall 38 = .ok (.aload_n 0, 1) := by decide +kernel
theorem dX0_beginCall_39 : decode cX0_beginCall 39 = .ok (.getfield 20, 3) := by decide +kernel
theorem dX0_beginCall_42 : decode cX0_beginCall 42 = .ok (.iload 4, 2) := by decide +kernel
theorem dX0_beginCall_44 : decode cX0_beginCall 44 = .ok (.iconst 1, 1) := by decide +kernel
theorem dX0_beginCall_45 : decode cX0_beginCall 45 = .ok (.aload_n 0, 1) := by decide +kernel
theorem dX0_beginCall_46 : decode cX0_beginCall 46 = .ok (.getfield 50, 3) := by decide +kernel
theorem dX0_beginCall_49 : decode cX0_beginCall 49 = .ok (.invokevirtual 57, 3) := by decide +kernel
theorem dX0_beginCall_52 : decode cX0_beginCall 52 = .ok (.aload_n 0, 1) := by decide +kernel
theorem dX0_beginCall_53 : decode cX0_beginCall 53 = .ok (.getfield 20, 3) := by decide +kernel
theorem dX0_beginCall_56 : decode cX0_beginCall 56 = .ok (.iload 4, 2) := by decide +kernel
theorem dX0_beginCall_58 : decode cX0_beginCall 58 = .ok (.iconst 2, 1) := by decide +kernel
theorem dX0_beginCall_59 : decode cX0_beginCall 59 = .ok (.aload_n 0, 1) := by decide +kernel
theorem dX0_beginCall_60 : decode cX0_beginCall 60 = .ok (.iload 5, 2) := by decide +kernel
theorem dX0_beginCall_62 : decode cX0_beginCall 62 = .ok (.iload_n 1, 1) := by decide +kernel
theorem dX0_beginCall_63 : decode cX0_beginCall 63 = .ok (.iload 6, 2) := by decide +kernel
theorem dX0_beginCall_65 : decode cX0_beginCall 65 = .ok (.invokevirtual 84, 3) := by decide +kernel
theorem dX0_beginCall_68 : decode cX0_beginCall 68 = .ok (.invokevirtual 57, 3) := by decide +kernel
theorem dX0_beginCall_71 : decode cX0_beginCall 71 = .ok (.aload_n 0, 1) := by decide +kernel
theorem dX0_beginCall_72 : decode cX0_beginCall 72 = .ok (.getfield 20, 3) := by decide +kernel
theorem dX0_beginCall_75 : decode cX0_beginCall 75 = .ok (.iload 4, 2) := by decide +kernel
theorem dX0_beginCall_77 : decode cX0_beginCall 77 = .ok (.iconst 3, 1) := by decide +kernel
theorem dX0_beginCall_78 : decode cX0_beginCall 78 = .ok (.iload_n 3, 1) := by decide +kernel
theorem dX0_beginCall_79 : decode cX0_beginCall 79 = .ok (.invokevirtual 57, 3) := by decide +kernel
theorem dX0_beginCall_82 : decode cX0_beginCall 82 = .ok (.aload_n 0, 1) := by decide +kernel
theorem dX0_beginCall_83 : decode cX0_beginCall 83 = .ok (.getfield 20, 3) := by decide +kernel
theorem dX0_beginCall_86 : decode cX0_beginCall 86 = .ok (.iload 4, 2) := by decide +kernel
theorem dX0_beginCall_88 : decode cX0_beginCall 88 = .ok (.iconst 5, 1) := by decide +kernel
theorem dX0_beginCall_89 : decode cX0_beginCall 89 = .ok (.iconst (-1), 1) := by decide +kernel
theorem dX0_beginCall_90 : decode cX0_beginCall 90 = .ok (.invokevirtual 57, 3) := by decide +kernel
theorem dX0_beginCall_93 : decode cX0_beginCall 93 = .ok (.aload_n 0, 1) := by decide +kernel
theorem dX0_beginCall_94 : decode cX0_beginCall 94 = .ok (.getfield 20, 3) := by decide +kernel
theorem dX0_beginCall_97 : decode cX0_beginCall 97 = .ok (.iload 4, 2) := by decide +kernel
theorem dX0_beginCall_99 : decode cX0_beginCall 99 = .ok (.bipush 6, 2) := by decide +kernel
theorem dX0_beginCall_101 : decode cX0_beginCall 101 = .ok (.aload_n 0, 1) := by decide +kernel
theorem dX0_beginCall_102 : decode cX0_beginCall 102 = .ok (.getfield 23, 3) := by decide +kernel
theorem dX0_beginCall_105 : decode cX0_beginCall 105 = .ok (.getfield 61, 3) := by decide +kernel
theorem dX0_beginCall_108 : decode cX0_beginCall 108 = .ok (.invokevirtual 57, 3) := by decide +kernel
theorem dX0_beginCall_111 : decode cX0_beginCall 111 = .ok (.aload_n 0, 1) := by decide +kernel
theorem dX0_beginCall_112 : decode cX0_beginCall 112 = .ok (.getfield 20, 3) := by decide +kernel
theorem dX0_beginCall_115 : decode cX0_beginCall 115 = .ok (.iload 4, 2) := by decide +kernel
theorem dX0_beginCall_117 : decode cX0_beginCall 117 = .ok (.bipush 7, 2) := by decide +kernel
theorem dX0_beginCall_119 : decode cX0_beginCall 119 = .ok (.aload_n 0, 1) := by decide +kernel
theorem dX0_beginCall_120 : decode cX0_beginCall 120 = .ok (.getfield 23, 3) := by decide +kernel
theorem dX0_beginCall_123 : decode cX0_beginCall 123 = .ok (.getfield 61, 3) := by decide +kernel
theorem dX0_beginCall_126 : decode cX0_beginCall 126 = .ok (.iload 5, 2) := by decide +kernel
theorem dX0_beginCall_128 : decode cX0_beginCall 128 = .ok (.iadd, 1) := by decide +kernel
theorem dX0_beginCall_129 : decode cX0_beginCall 129 = .ok (.invokevirtual 57, 3) := by decide +kernel
theorem dX0_beginCall_132 : decode cX0_beginCall 132 = .ok (.iconst 0, 1) := by decide +kernel
theorem dX0_beginCall_133 : decode cX0_beginCall 133 = .ok (.istore 7, 2) := by decide +kernel
theorem dX0_beginCall_135 : decode cX0_beginCall 135 = .ok (.iconst 0, 1) := by decide +kernel
theorem dX0_beginCall_136 : decode cX0_beginCall 136 = .ok (.istore 8, 2) := by decide +kernel
theorem dX0_beginCall_138 : decode cX0_beginCall 138 = .ok (.iload 8, 2) := by decide +kernel
theorem dX0_beginCall_140 : decode cX0_beginCall 140 = .ok (.aload_n 0, 1) := by decide +kernel
theorem dX0_beginCall_141 : decode cX0_beginCall 141 = .ok (.getfield 14, 3) := by decide +kernel
theorem dX0_beginCall_144 : decode cX0_beginCall 144 = .ok (.getfield 61, 3) := by decide +kernel
theorem dX0_beginCall_147 : decode cX0_beginCall 147 = .ok (.if_icmp .ge 31, 3) := by decide +kernel
theorem dX0_beginCall_150 : decode cX0_beginCall 150 = .ok (.iload_n 2, 1) := by decide +kernel
theorem dX0_beginCall_151 : decode cX0_beginCall 151 = .ok (.iload 8, 2) := by decide +kernel
theorem dX0_beginCall_153 : decode cX0_beginCall 153 = .ok (.ishr, 1) := by decide +kernel
theorem dX0_beginCall_154 : decode cX0_beginCall 154 = .ok (.iconst 1, 1) := by decide +kernel
theorem dX0_beginCall_155 : decode cX0_beginCall 155 = .ok (.iand, 1) := by decide +kernel
theorem dX0_beginCall_156 : decode cX0_beginCall 156 = .ok (.ifCond .eq 16, 3) := by decide +kernel
theorem dX0_beginCall_159 : decode cX0_beginCall 159 = .ok (.iload 7, 2) := by decide +kernel
theorem dX0_beginCall_161 : decode cX0_beginCall 161 = .ok (.aload_n 0, 1) := by decide +kernel
theorem dX0_beginCall_162 : decode cX0_beginCall 162 = .ok (.iload 4, 2) := by decide +kernel
theorem dX0_beginCall_164 : decode cX0_beginCall 164 = .ok (.iload 8, 2) := by decide +kernel
theorem dX0_beginCall_166 : decode cX0_beginCall 166 = .ok (.invokevirtual 88, 3) := by decide +kernel
theorem dX0_beginCall_169 : decode cX0_beginCall 169 = .ok (.iadd, 1) := by decide +kernel
theorem dX0_beginCall_170 : decode cX0_beginCall 170 = .ok (.istore 7, 2) := by decide +kernel
theorem dX0_beginCall_172 : decode cX0_beginCall 172 = .ok (.iinc 8 1, 3) := by decide +kernel
theorem dX0_beginCall_175 : decode cX0_beginCall 175 = .ok (.goto (-37), 3) := by decide +kernel
theorem dX0_beginCall_178 : decode cX0_beginCall 178 = .ok (.iload 7, 2) := by decide +kernel
theorem dX0_beginCall_180 : decode cX0_beginCall 180 = .ok (.ifCond .ne 9, 3) := by decide +kernel
theorem dX0_beginCall_183 : decode cX0_beginCall 183 = .ok (.aload_n 0, 1) := by decide +kernel
theorem dX0_beginCall_184 : decode cX0_beginCall 184 = .ok (.iload 4, 2) := by decide +kernel
theorem dX0_beginCall_186 : decode cX0_beginCall 186 = .ok (.invokevirtual 91, 3) := by decide +kernel
theorem dX0_beginCall_189 : decode cX0_beginCall 189 = .ok (.iload 7, 2) := by decide +kernel
theorem dX0_beginCall_191 : decode cX0_beginCall 191 = .ok (.ireturn, 1) := by decide +kernel
theorem dX0_referOtherParty_0 : decode cX0_referOtherParty 0 = .ok (.aload_n 0, 1) := by decide +kernel
theorem dX0_referOtherParty_1 : decode cX0_referOtherParty 1 = .ok (.iload_n 1, 1) := by decide +kernel
theorem dX0_referOtherParty_2 : decode cX0_referOtherParty 2 = .ok (.iconst 1, 1) := by decide +kernel
theorem dX0_referOtherParty_3 : decode cX0_referOtherParty 3 = .ok (.aload_n 0, 1) := by decide +kernel
theorem dX0_referOtherParty_4 : decode cX0_referOtherParty 4 = .ok (.iload_n 1, 1) := by decide +kernel
theorem dX0_referOtherParty_5 : decode cX0_referOtherParty 5 = .ok (.iload_n 2, 1) := by decide +kernel
theorem dX0_referOtherParty_6 : decode cX0_referOtherParty 6 = .ok (.invokevirtual 95, 3) := by decide +kernel
theorem dX0_referOtherParty_9 : decode cX0_referOtherParty 9 = .ok (.isub, 1) := by decide +kernel
theorem dX0_referOtherParty_10 : decode cX0_referOtherParty 10 = .ok (.invokevirtual 98, 3) := by decide +kernel
theorem dX0_referOtherParty_13 : decode cX0_referOtherParty 13 = .ok (.istore 4, 2) := by decide +kernel
theorem dX0_referOtherParty_15 : decode cX0_referOtherParty 15 = .ok (.aload_n 0, 1) := by decide +kernel
theorem dX0_referOtherParty_16 : decode cX0_referOtherParty 16 = .ok (.getfield 23, 3) := by decide +kernel
theorem dX0_referOtherParty_19 : decode cX0_referOtherParty 19 = .ok (.iload_n 1, 1) := by decide +kernel
theorem dX0_referOtherParty_20 : decode cX0_referOtherParty 20 = .ok (.iconst 2, 1) := by decide +kernel
theorem dX0_referOtherParty_21 : decode cX0_referOtherParty 21 = .ok (.iconst 2, 1) := by decide +kernel
theorem dX0_referOtherParty_22 : decode cX0_referOtherParty 22 = .ok (.invokevirtual 57, 3) := by decide +kernel
theorem dX0_referOtherParty_25 : decode cX0_referOtherParty 25 = .ok (.aload_n 0, 1) := by decide +kernel
theorem dX0_referOtherParty_26 : decode cX0_referOtherParty 26 = .ok (.iload_n 1, 1) := by decide +kernel
theorem dX0_referOtherParty_27 : decode cX0_referOtherParty 27 = .ok (.invokevirtual 101, 3) := by decide +kernel
theorem dX0_referOtherParty_30 : decode cX0_referOtherParty 30 = .ok (.aload_n 0, 1) := by decide +kernel
theorem dX0_referOtherParty_31 : decode cX0_referOtherParty 31 = .ok (.iload 4, 2) := by decide +kernel
theorem dX0_referOtherParty_33 : decode cX0_referOtherParty 33 = .ok (.iconst 1, 1) := by decide +kernel
theorem dX0_referOtherParty_34 : decode cX0_referOtherParty 34 = .ok (.iload_n 3, 1) := by decide +kernel
theorem dX0_referOtherParty_35 : decode cX0_referOtherParty 35 = .ok (.ishl, 1) := by decide +kernel
theorem dX0_referOtherParty_36 : decode cX0_referOtherParty 36 = .ok (.iload_n 1, 1) := by decide +kernel
theorem dX0_referOtherParty_37 : decode cX0_referOtherParty 37 = .ok (.invokevirtual 104, 3) := by decide +kernel
theorem dX0_referOtherParty_40 : decode cX0_referOtherParty 40 = .ok (.ireturn, 1) := by decide +kernel
theorem dX0_leave_0 : decode cX0_leave 0 = .ok (.aload_n 0, 1) := by decide +kernel
theorem dX0_leave_1 : decode cX0_leave 1 = .ok (.iload_n 1, 1) := by decide +kernel
theorem dX0_leave_2 : decode cX0_leave 2 = .ok (.iconst 1, 1) := by decide +kernel
theorem dX0_leave_3 : decode cX0_leave 3 = .ok (.invokevirtual 107, 3) := by decide +kernel
theorem dX0_leave_6 : decode cX0_leave 6 = .ok (.istore_n 2, 1) := by decide +kernel
theorem dX0_leave_7 : decode cX0_leave 7 = .ok (.iload_n 2, 1) := by decide +kernel
theorem dX0_leave_8 : decode cX0_leave 8 = .ok (.iconst (-1), 1) := by decide +kernel
theorem dX0_leave_9 : decode cX0_leave 9 = .ok (.if_icmp .eq 12, 3) := by decide +kernel
theorem dX0_leave_12 : decode cX0_leave 12 = .ok (.aload_n 0, 1) := by decide +kernel
theorem dX0_leave_13 : decode cX0_leave 13 = .ok (.iload_n 2, 1) := by decide +kernel
theorem dX0_leave_14 : decode cX0_leave 14 = .ok (.bipush 6, 2) := by decide +kernel
theorem dX0_leave_16 : decode cX0_leave 16 = .ok (.invokevirtual 110, 3) := by decide +kernel
theorem dX0_leave_19 : decode cX0_leave 19 = .ok (.iconst 1, 1) := by decide +kernel
theorem dX0_leave_20 : decode cX0_leave 20 = .ok (.ireturn, 1) := by decide +kernel
theorem dX0_leave_21 : decode cX0_leave 21 = .ok (.aload_n 0, 1) := by decide +kernel
theorem dX0_leave_22 : decode cX0_leave 22 = .ok (.iload_n 1, 1) := by decide +kernel
theorem dX0_leave_23 : decode cX0_leave 23 = .ok (.invokevirtual 114, 3) := by decide +kernel
theorem dX0_leave_26 : decode cX0_leave 26 = .ok (.istore_n 3, 1) := by decide +kernel
theorem dX0_leave_27 : decode cX0_leave 27 = .ok (.iload_n 3, 1) := by decide +kernel
theorem dX0_leave_28 : decode cX0_leave 28 = .ok (.iconst (-1), 1) := by decide +kernel
theorem dX0_leave_29 : decode cX0_leave 29 = .ok (.if_icmp .eq 16, 3) := by decide +kernel
theorem dX0_leave_32 : decode cX0_leave 32 = .ok (.aload_n 0, 1) := by decide +kernel
theorem dX0_leave_33 : decode cX0_leave 33 = .ok (.iload_n 3, 1) := by decide +kernel
theorem dX0_leave_34 : decode cX0_leave 34 = .ok (.iconst 4, 1) := by decide +kernel
theorem dX0_leave_35 : decode cX0_leave 35 = .ok (.invokevirtual 117, 3) := by decide +kernel
theorem dX0_leave_38 : decode cX0_leave 38 = .ok (.aload_n 0, 1) := by decide +kernel
theorem dX0_leave_39 : decode cX0_leave 39 = .ok (.iload_n 3, 1) := by decide +kernel
theorem dX0_leave_40 : decode cX0_leave 40 = .ok (.invokevirtual 120, 3) := by decide +kernel
theorem dX0_leave_43 : decode cX0_leave 43 = .ok (.iconst 2, 1) := by decide +kernel
theorem dX0_leave_44 : decode cX0_leave 44 = .ok (.ireturn, 1) := by decide +kernel
theorem dX0_leave_45 : decode cX0_leave 45 = .ok (.aload_n 0, 1) := by decide +kernel
theorem dX0_leave_46 : decode cX0_leave 46 = .ok (.iload_n 1, 1) := by decide +kernel
theorem dX0_leave_47 : decode cX0_leave 47 = .ok (.iconst 2, 1) := by decide +kernel
theorem dX0_leave_48 : decode cX0_leave 48 = .ok (.invokevirtual 107, 3) := by decide +kernel
theorem dX0_leave_51 : decode cX0_leave 51 = .ok (.istore 4, 2) := by decide +kernel
theorem dX0_leave_53 : decode cX0_leave 53 = .ok (.iload 4, 2) := by decide +kernel
theorem dX0_leave_55 : decode cX0_leave 55 = .ok (.iconst (-1), 1) := by decide +kernel
theorem dX0_leave_56 : decode cX0_leave 56 = .ok (.if_icmp .eq 13, 3) := by decide +kernel
theorem dX0_leave_59 : decode cX0_leave 59 = .ok (.aload_n 0, 1) := by decide +kernel
theorem dX0_leave_60 : decode cX0_leave 60 = .ok (.iload 4, 2) := by decide +kernel
theorem dX0_leave_62 : decode cX0_leave 62 = .ok (.bipush 6, 2) := by decide +kernel
theorem dX0_leave_64 : decode cX0_leave 64 = .ok (.invokevirtual 110, 3) := by decide +kernel
theorem dX0_leave_67 : decode cX0_leave 67 = .ok (.iconst 3, 1) := by decide +kernel
theorem dX0_leave_68 : decode cX0_leave 68 = .ok (.ireturn, 1) := by decide +kernel
theorem dX0_leave_69 : decode cX0_leave 69 = .ok (.aload_n 0, 1) := by decide +kernel
theorem dX0_leave_70 : decode cX0_leave 70 = .ok (.iload_n 1, 1) := by decide +kernel
theorem dX0_leave_71 : decode cX0_leave 71 = .ok (.iconst 5, 1) := by decide +kernel
theorem dX0_leave_72 : decode cX0_leave 72 = .ok (.invokevirtual 123, 3) := by decide +kernel
theorem dX0_leave_75 : decode cX0_leave 75 = .ok (.ifCond .le 7, 3) := by decide +kernel
theorem dX0_leave_78 : decode cX0_leave 78 = .ok (.iconst 4, 1) := by decide +kernel
theorem dX0_leave_79 : decode cX0_leave 79 = .ok (.goto 4, 3) := by decide +kernel
theorem dX0_leave_82 : decode cX0_leave 82 = .ok (.iconst 0, 1) := by decide +kernel
theorem dX0_leave_83 : decode cX0_leave 83 = .ok (.ireturn, 1) := by decide +kernel
theorem dX0_makeOffer_0 : decode cX0_makeOffer 0 = .ok (.aload_n 0, 1) := by decide +kernel
theorem dX0_makeOffer_1 : decode cX0_makeOffer 1 = .ok (.getfield 23, 3) := by decide +kernel
theorem dX0_makeOffer_4 : decode cX0_makeOffer 4 = .ok (.iload_n 1, 1) := by decide +kernel
theorem dX0_makeOffer_5 : decode cX0_makeOffer 5 = .ok (.bipush 6, 2) := by decide +kernel
theorem dX0_makeOffer_7 : decode cX0_makeOffer 7 = .ok (.invokevirtual 64, 3) := by decide +kernel
theorem dX0_makeOffer_10 : decode cX0_makeOffer 10 = .ok (.istore 4, 2) := by decide +kernel
theorem dX0_makeOffer_12 : decode cX0_makeOffer 12 = .ok (.iload 4, 2) := by decide +kernel
theorem dX0_makeOffer_14 : decode cX0_makeOffer 14 = .ok (.iload_n 2, 1) := by decide +kernel
theorem dX0_makeOffer_15 : decode cX0_makeOffer 15 = .ok (.if_icmp .ne 5, 3) := by decide +kernel
theorem dX0_makeOffer_18 : decode cX0_makeOffer 18 = .ok (.iconst 0, 1) := by decide +kernel
theorem dX0_makeOffer_19 : decode cX0_makeOffer 19 = .ok (.ireturn, 1) := by decide +kernel
theorem dX0_makeOffer_20 : decode cX0_makeOffer 20 = .ok (.iload 4, 2) := by decide +kernel
theorem dX0_makeOffer_22 : decode cX0_makeOffer 22 = .ok (.iconst (-1), 1) := by decide +kernel
theorem dX0_makeOffer_23 : decode cX0_makeOffer 23 = .ok (.if_icmp .ne 12, 3) := by decide +kernel
theorem dX0_makeOffer_26 : decode cX0_makeOffer 26 = .ok (.aload_n 0, 1) := by decide +kernel
theorem dX0_makeOffer_27 : decode cX0_makeOffer 27 = .ok (.iload_n 1, 1) := by decide +kernel
theorem dX0_makeOffer_28 : decode cX0_makeOffer 28 = .ok (.iload_n 2, 1) := by decide +kernel
theorem dX0_makeOffer_29 : decode cX0_makeOffer 29 = .ok (.iload_n 3, 1) := by decide +kernel
theorem dX0_makeOffer_30 : decode cX0_makeOffer 30 = .ok (.invokevirtual 126, 3) := by decide +kernel
theorem dX0_makeOffer_33 : decode cX0_makeOffer 33 = .ok (.iconst 1, 1) := by decide +kernel
theorem dX0_makeOffer_34 : decode cX0_makeOffer 34 = .ok (.ireturn, 1) := by decide +kernel
theorem dX0_makeOffer_35 : decode cX0_makeOffer 35 = .ok (.aload_n 0, 1) := by decide +kernel
theorem dX0_makeOffer_36 : decode cX0_makeOffer 36 = .ok (.iload_n 1, 1) := by decide +kernel
theorem dX0_makeOffer_37 : decode cX0_makeOffer 37 = .ok (.iload 4, 2) := by decide +kernel
theorem dX0_makeOffer_39 : decode cX0_makeOffer 39 = .ok (.aload_n 0, 1) := by decide +kernel
theorem dX0_makeOffer_40 : decode cX0_makeOffer 40 = .ok (.getfield 23, 3) := by decide +kernel
theorem dX0_makeOffer_43 : decode cX0_makeOffer 43 = .ok (.iload_n 1, 1) := by decide +kernel
theorem dX0_makeOffer_44 : decode cX0_makeOffer 44 = .ok (.bipush 7, 2) := by decide +kernel
theorem dX0_makeOffer_46 : decode cX0_makeOffer 46 = .ok (.invokevirtual 64, 3) := by decide +kernel
theorem dX0_makeOffer_49 : decode cX0_makeOffer 49 = .ok (.invokevirtual 129, 3) := by decide +kernel
theorem dX0_makeOffer_52 : decode cX0_makeOffer 52 = .ok (.aload_n 0, 1) := by decide +kernel
theorem dX0_makeOffer_53 : decode cX0_makeOffer 53 = .ok (.iload_n 1, 1) := by decide +kernel
theorem dX0_makeOffer_54 : decode cX0_makeOffer 54 = .ok (.iload_n 2, 1) := by decide +kernel
theorem dX0_makeOffer_55 : decode cX0_makeOffer 55 = .ok (.iload_n 3, 1) := by decide +kernel
theorem dX0_makeOffer_56 : decode cX0_makeOffer 56 = .ok (.invokevirtual 129, 3) := by decide +kernel
theorem dX0_makeOffer_59 : decode cX0_makeOffer 59 = .ok (.aload_n 0, 1) := by decide +kernel
theorem dX0_makeOffer_60 : decode cX0_makeOffer 60 = .ok (.getfield 23, 3) := by decide +kernel
theorem dX0_makeOffer_63 : decode cX0_makeOffer 63 = .ok (.iload_n 1, 1) := by decide +kernel
theorem dX0_makeOffer_64 : decode cX0_makeOffer 64 = .ok (.bipush 6, 2) := by decide +kernel
theorem dX0_makeOffer_66 : decode cX0_makeOffer 66 = .ok (.iconst (-1), 1) := by decide +kernel
theorem dX0_makeOffer_67 : decode cX0_makeOffer 67 = .ok (.invokevirtual 57, 3) := by decide +kernel
theorem dX0_makeOffer_70 : decode cX0_makeOffer 70 = .ok (.aload_n 0, 1) := by decide +kernel
theorem dX0_makeOffer_71 : decode cX0_makeOffer 71 = .ok (.iconst 2, 1) := by decide +kernel
theorem dX0_makeOffer_72 : decode cX0_makeOffer 72 = .ok (.invokevirtual 132, 3) := by decide +kernel
theorem dX0_makeOffer_75 : decode cX0_makeOffer 75 = .ok (.iconst (-1), 1) := by decide +kernel
theorem dX0_makeOffer_76 : decode cX0_makeOffer 76 = .ok (.ireturn, 1) := by decide +kernel
theorem dX0_passSecond_0 : decode cX0_passSecond 0 = .ok (.aload_n 0, 1) := by decide +kernel
theorem dX0_passSecond_1 : decode cX0_passSecond 1 = .ok (.dup, 1) := by decide +kernel
theorem dX0_passSecond_2 : decode cX0_passSecond 2 = .ok (.getfield 50, 3) := by decide +kernel
theorem dX0_passSecond_5 : decode cX0_passSecond 5 = .ok (.iconst 1, 1) := by decide +kernel
theorem dX0_passSecond_6 : decode cX0_passSecond 6 = .ok (.iadd, 1) := by decide +kernel
theorem dX0_passSecond_7 : decode cX0_passSecond 7 = .ok (.putfield 50, 3) := by decide +kernel
theorem dX0_passSecond_10 : decode cX0_passSecond 10 = .ok (.iconst 0, 1) := by decide +kernel
theorem dX0_passSecond_11 : decode cX0_passSecond 11 = .ok (.istore_n 1, 1) := by decide +kernel
theorem dX0_passSecond_12 : decode cX0_passSecond 12 = .ok (.iload_n 1, 1) := by decide +kernel
theorem dX0_passSecond_13 : decode cX0_passSecond 13 = .ok (.aload_n 0, 1) := by decide +kernel
theorem dX0_passSecond_14 : decode cX0_passSecond 14 = .ok (.getfield 23, 3) := by decide +kernel
theorem dX0_passSecond_17 : decode cX0_passSecond 17 = .ok (.getfield 61, 3) := by decide +kernel
theorem dX0_passSecond_20 : decode cX0_passSecond 20 = .ok (.if_icmp .ge 21, 3) := by decide +kernel
theorem dX0_passSecond_23 : decode cX0_passSecond 23 = .ok (.aload_n 0, 1) := by decide +kernel
theorem dX0_passSecond_24 : decode cX0_passSecond 24 = .ok (.iload_n 1, 1) := by decide +kernel
theorem dX0_passSecond_25 : decode cX0_passSecond 25 = .ok (.iconst 0, 1) := by decide +kernel
theorem dX0_passSecond_26 : decode cX0_passSecond 26 = .ok (.invokevirtual 135, 3) := by decide +kernel
theorem dX0_passSecond_29 : decode cX0_passSecond 29 = .ok (.aload_n 0, 1) := by decide +kernel
theorem dX0_passSecond_30 : decode cX0_passSecond 30 = .ok (.iload_n 1, 1) := by decide +kernel
theorem dX0_passSecond_31 : decode cX0_passSecond 31 = .ok (.iconst 1, 1) := by decide +kernel
theorem dX0_passSecond_32 : decode cX0_passSecond 32 = .ok (.invokevirtual 135, 3) := by decide +kernel
theorem dX0_passSecond_35 : decode cX0_passSecond 35 = .ok (.iinc 1 1, 3) := by decide +kernel
theorem dX0_passSecond_38 : decode cX0_passSecond 38 = .ok (.goto (-26), 3) := by decide +kernel
theorem dX0_passSecond_41 : decode cX0_passSecond 41 = .ok (.iconst 0, 1) := by decide +kernel
theorem dX0_passSecond_42 : decode cX0_passSecond 42 = .ok (.istore_n 1, 1) := by decide +kernel
theorem dX0_passSecond_43 : decode cX0_passSecond 43 = .ok (.iload_n 1, 1) := by decide +kernel
theorem dX0_passSecond_44 : decode cX0_passSecond 44 = .ok (.aload_n 0, 1) := by decide +kernel
theorem dX0_passSecond_45 : decode cX0_passSecond 45 = .ok (.getfield 23, 3) := by decide +kernel
theorem dX0_passSecond_48 : decode cX0_passSecond 48 = .ok (.getfield 61, 3) := by decide +kernel
theorem dX0_passSecond_51 : decode cX0_passSecond 51 = .ok (.if_icmp .ge 14, 3) := by decide +kernel
theorem dX0_passSecond_54 : decode cX0_passSecond 54 = .ok (.aload_n 0, 1) := by decide +kernel
theorem dX0_passSecond_55 : decode cX0_passSecond 55 = .ok (.iload_n 1, 1) := by decide +kernel
theorem dX0_passSecond_56 : decode cX0_passSecond 56 = .ok (.invokevirtual 138, 3) := by decide +kernel
theorem dX0_passSecond_59 : decode cX0_passSecond 59 = .ok (.iinc 1 1, 3) := by decide +kernel
theorem dX0_passSecond_62 : decode cX0_passSecond 62 = .ok (.goto (-19), 3) := by decide +kernel
theorem dX0_passSecond_65 : decode cX0_passSecond 65 = .ok (.iconst 0, 1) := by decide +kernel
theorem dX0_passSecond_66 : decode cX0_passSecond 66 = .ok (.istore_n 1, 1) := by decide +kernel
theorem dX0_passSecond_67 : decode cX0_passSecond 67 = .ok (.iload_n 1, 1) := by decide +kernel
theorem dX0_passSecond_68 : decode cX0_passSecond 68 = .ok (.aload_n 0, 1) := by decide +kernel
theorem dX0_passSecond_69 : decode cX0_passSecond 69 = .ok (.getfield 23, 3) := by decide +kernel
theorem dX0_passSecond_72 : decode cX0_passSecond 72 = .ok (.getfield 61, 3) := by decide +kernel
theorem dX0_passSecond_75 : decode cX0_passSecond 75 = .ok (.if_icmp .ge 22, 3) := by decide +kernel
theorem dX0_passSecond_78 : decode cX0_passSecond 78 = .ok (.aload_n 0, 1) := by decide +kernel
theorem dX0_passSecond_79 : decode cX0_passSecond 79 = .ok (.iload_n 1, 1) := by decide +kernel
theorem dX0_passSecond_80 : decode cX0_passSecond 80 = .ok (.invokevirtual 141, 3) := by decide +kernel
theorem dX0_passSecond_83 : decode cX0_passSecond 83 = .ok (.ifCond .eq 8, 3) := by decide +kernel
theorem dX0_passSecond_86 : decode cX0_passSecond 86 = .ok (.aload_n 0, 1) := by decide +kernel
theorem dX0_passSecond_87 : decode cX0_passSecond 87 = .ok (.iload_n 1, 1) := by decide +kernel
theorem dX0_passSecond_88 : decode cX0_passSecond 88 = .ok (.invokevirtual 145, 3) := by decide +kernel
theorem dX0_passSecond_91 : decode cX0_passSecond 91 = .ok (.iinc 1 1, 3) := by decide +kernel
theorem dX0_passSecond_94 : decode cX0_passSecond 94 = .ok (.goto (-27), 3) := by decide +kernel
theorem dX0_passSecond_97 : decode cX0_passSecond 97 = .ok (.iconst 0, 1) := by decide +kernel
theorem dX0_passSecond_98 : decode cX0_passSecond 98 = .ok (.istore_n 1, 1) := by decide +kernel
theorem dX0_passSecond_99 : decode cX0_passSecond 99 = .ok (.iload_n 1, 1) := by decide +kernel
theorem dX0_passSecond_100 : decode cX0_passSecond 100 = .ok (.aload_n 0, 1) := by decide +kernel
theorem dX0_passSecond_101 : decode cX0_passSecond 101 = .ok (.getfield 20, 3) := by decide +kernel
theorem dX0_passSecond_104 : decode cX0_passSecond 104 = .ok (.getfield 61, 3) := by decide +kernel
theorem dX0_passSecond_107 : decode cX0_passSecond 107 = .ok (.if_icmp .ge 54, 3) := by decide +kernel
theorem dX0_passSecond_110 : decode cX0_passSecond 110 = .ok (.aload_n 0, 1) := by decide +kernel
theorem dX0_passSecond_111 : decode cX0_passSecond 111 = .ok (.getfield 50, 3) := by decide +kernel
theorem dX0_passSecond_114 : decode cX0_passSecond 114 = .ok (.aload_n 0, 1) := by decide +kernel
theorem dX0_passSecond_115 : decode cX0_passSecond 115 = .ok (.getfield 20, 3) := by decide +kernel
theorem dX0_passSecond_118 : decode cX0_passSecond 118 = .ok (.iload_n 1, 1) := by decide +kernel
theorem dX0_passSecond_119 : decode cX0_passSecond 119 = .ok (.iconst 1, 1) := by decide +kernel
theorem dX0_passSecond_120 : decode cX0_passSecond 120 = .ok (.invokevirtual 64, 3) := by decide +kernel
theorem dX0_passSecond_123 : decode cX0_passSecond 123 = .ok (.isub, 1) := by decide +kernel
theorem dX0_passSecond_124 : decode cX0_passSecond 124 = .ok (.aload_n 0, 1) := by decide +kernel
theorem dX0_passSecond_125 : decode cX0_passSecond 125 = .ok (.getfield 20, 3) := by decide +kernel
theorem dX0_passSecond_128 : decode cX0_passSecond 128 = .ok (.iload_n 1, 1) := by decide +kernel
theorem dX0_passSecond_129 : decode cX0_passSecond 129 = .ok (.iconst 2, 1) := by decide +kernel
theorem dX0_passSecond_130 : decode cX0_passSecond 130 = .ok (.invokevirtual 64, 3) := by decide +kernel
theorem dX0_passSecond_133 : decode cX0_passSecond 133 = .ok (.if_icmp .lt 22, 3) := by decide +kernel
theorem dX0_passSecond_136 : decode cX0_passSecond 136 = .ok (.aload_n 0, 1) := by decide +kernel
theorem dX0_passSecond_137 : decode cX0_passSecond 137 = .ok (.iload_n 1, 1) := by decide +kernel
theorem dX0_passSecond_138 : decode cX0_passSecond 138 = .ok (.invokevirtual 148, 3) := by decide +kernel
theorem dX0_passSecond_141 : decode cX0_passSecond 141 = .ok (.ifCond .eq 14, 3) := by decide +kernel
theorem dX0_passSecond_144 : decode cX0_passSecond 144 = .ok (.aload_n 0, 1) := by decide +kernel
theorem dX0_passSecond_145 : decode cX0_passSecond 145 = .ok (.iload_n 1, 1) := by decide +kernel
theorem dX0_passSecond_146 : decode cX0_passSecond 146 = .ok (.iconst 3, 1) := by decide +kernel
theorem dX0_passSecond_147 : decode cX0_passSecond 147 = .ok (.invokevirtual 117, 3) := by decide +kernel
theorem dX0_passSecond_150 : decode cX0_passSecond 150 = .ok (.aload_n 0, 1) := by decide +kernel
theorem dX0_passSecond_151 : decode cX0_passSecond 151 = .ok (.iload_n 1, 1) := by decide +kernel
theorem dX0_passSecond_152 : decode cX0_passSecond 152 = .ok (.invokevirtual 91, 3) := by decide +kernel
theorem dX0_passSecond_155 : decode cX0_passSecond 155 = .ok (.iinc 1 1, 3) := by decide +kernel
theorem dX0_passSecond_158 : decode cX0_passSecond 158 = .ok (.goto (-59), 3) := by decide +kernel
theorem dX0_passSecond_161 : decode cX0_passSecond 161 = .ok (.return_, 1) := by decide +kernel
theorem dX0_ringTime_0 : decode cX0_ringTime 0 = .ok (.aload_n 0, 1) := by decide +kernel
theorem dX0_ringTime_1 : decode cX0_ringTime 1 = .ok (.getfield 46, 3) := by decide +kernel
theorem dX0_ringTime_4 : decode cX0_ringTime 4 = .ok (.ifnonnull 6, 3) := by decide +kernel
theorem dX0_ringTime_7 : decode cX0_ringTime 7 = .ok (.bipush 30, 2) := by decide +kernel
theorem dX0_ringTime_9 : decode cX0_ringTime 9 = .ok (.ireturn, 1) := by decide +kernel
theorem dX0_ringTime_10 : decode cX0_ringTime 10 = .ok (.aload_n 0, 1) := by decide +kernel
theorem dX0_ringTime_11 : decode cX0_ringTime 11 = .ok (.getfield 46, 3) := by decide +kernel
theorem dX0_ringTime_14 : decode cX0_ringTime 14 = .ok (.iload_n 1, 1) := by decide +kernel
theorem dX0_ringTime_15 : decode cX0_ringTime 15 = .ok (.iload_n 2, 1) := by decide +kernel
theorem dX0_ringTime_16 : decode cX0_ringTime 16 = .ok (.iload_n 3, 1) := by decide +kernel
theorem dX0_ringTime_17 : decode cX0_ringTime 17 = .ok (.aload_n 0, 1) := by decide +kernel
theorem dX0_ringTime_18 : decode cX0_ringTime 18 = .ok (.getfield 50, 3) := by decide +kernel
theorem dX0_ringTime_21 : decode cX0_ringTime 21 = .ok (.invokevirtual 151, 3) := by decide +kernel
theorem dX0_ringTime_24 : decode cX0_ringTime 24 = .ok (.i2l, 1) := by decide +kernel
theorem dX0_ringTime_25 : decode cX0_ringTime 25 = .ok (.iconst 1, 1) := by decide +kernel
theorem dX0_ringTime_26 : decode cX0_ringTime 26 = .ok (.bipush 99, 2) := by decide +kernel
theorem dX0_ringTime_28 : decode cX0_ringTime 28 = .ok (.invokestatic 157, 3) := by decide +kernel
theorem dX0_ringTime_31 : decode cX0_ringTime 31 = .ok (.ireturn, 1) := by decide +kernel
theorem dX0_callerOf_0 : decode cX0_callerOf 0 = .ok (.aload_n 0, 1) := by decide +kernel
theorem dX0_callerOf_1 : decode cX0_callerOf 1 = .ok (.getfield 20, 3) := by decide +kernel
theorem dX0_callerOf_4 : decode cX0_callerOf 4 = .ok (.aload_n 0, 1) := by decide +kernel
theorem dX0_callerOf_5 : decode cX0_callerOf 5 = .ok (.getfield 23, 3) := by decide +kernel
theorem dX0_callerOf_8 : decode cX0_callerOf 8 = .ok (.iload_n 1, 1) := by decide +kernel
theorem dX0_callerOf_9 : decode cX0_callerOf 9 = .ok (.iconst 0, 1) := by decide +kernel
theorem dX0_callerOf_10 : decode cX0_callerOf 10 = .ok (.invokevirtual 64, 3) := by decide +kernel
theorem dX0_callerOf_13 : decode cX0_callerOf 13 = .ok (.iconst 0, 1) := by decide +kernel
theorem dX0_callerOf_14 : decode cX0_callerOf 14 = .ok (.invokevirtual 64, 3) := by decide +kernel
theorem dX0_callerOf_17 : decode cX0_callerOf 17 = .ok (.ireturn, 1) := by decide +kernel
theorem dX0_partyOn_0 : decode cX0_partyOn 0 = .ok (.iload_n 2, 1) := by decide +kernel
theorem dX0_partyOn_1 : decode cX0_partyOn 1 = .ok (.ifCond .ne 11, 3) := by decide +kernel
theorem dX0_partyOn_4 : decode cX0_partyOn 4 = .ok (.aload_n 0, 1) := by decide +kernel
theorem dX0_partyOn_5 : decode cX0_partyOn 5 = .ok (.iload_n 1, 1) := by decide +kernel
theorem dX0_partyOn_6 : decode cX0_partyOn 6 = .ok (.invokevirtual 72, 3) := by decide +kernel
theorem dX0_partyOn_9 : decode cX0_partyOn 9 = .ok (.goto 12, 3) := by decide +kernel
theorem dX0_partyOn_12 : decode cX0_partyOn 12 = .ok (.aload_n 0, 1) := by decide +kernel
theorem dX0_partyOn_13 : decode cX0_partyOn 13 = .ok (.getfield 23, 3) := by decide +kernel
theorem dX0_partyOn_16 : decode cX0_partyOn 16 = .ok (.iload_n 1, 1) := by decide +kernel
theorem dX0_partyOn_17 : decode cX0_partyOn 17 = .ok (.iconst 1, 1) := by decide +kernel
theorem dX0_partyOn_18 : decode cX0_partyOn 18 = .ok (.invokevirtual 64, 3) := by decide +kernel
theorem dX0_partyOn_21 : decode cX0_partyOn 21 = .ok (.ireturn, 1) := by decide +kernel
theorem dX0_ringsAt_0 : decode cX0_ringsAt 0 = .ok (.aload_n 0, 1) := by decide +kernel
theorem dX0_ringsAt_1 : decode cX0_ringsAt 1 = .ok (.getfield 23, 3) := by decide +kernel
theorem dX0_ringsAt_4 : decode cX0_ringsAt 4 = .ok (.iload_n 1, 1) := by decide +kernel
theorem dX0_ringsAt_5 : decode cX0_ringsAt 5 = .ok (.iconst 2, 1) := by decide +kernel
theorem dX0_ringsAt_6 : decode cX0_ringsAt 6 = .ok (.invokevirtual 64, 3) := by decide +kernel
theorem dX0_ringsAt_9 : decode cX0_ringsAt 9 = .ok (.ifCond .ne 20, 3) := by decide +kernel
theorem dX0_ringsAt_12 : decode cX0_ringsAt 12 = .ok (.aload_n 0, 1) := by decide +kernel
theorem dX0_ringsAt_13 : decode cX0_ringsAt 13 = .ok (.getfield 23, 3) := by decide +kernel
theorem dX0_ringsAt_16 : decode cX0_ringsAt 16 = .ok (.iload_n 1, 1) := by decide +kernel
theorem dX0_ringsAt_17 : decode cX0_ringsAt 17 = .ok (.iconst 1, 1) := by decide +kernel
theorem dX0_ringsAt_18 : decode cX0_ringsAt 18 = .ok (.invokevirtual 64, 3) := by decide +kernel
theorem dX0_ringsAt_21 : decode cX0_ringsAt 21 = .ok (.iload_n 2, 1) := by decide +kernel
theorem dX0_ringsAt_22 : decode cX0_ringsAt 22 = .ok (.if_icmp .ne 7, 3) := by decide +kernel
theorem dX0_ringsAt_25 : decode cX0_ringsAt 25 = .ok (.iconst 1, 1) := by decide +kernel
theorem dX0_ringsAt_26 : decode cX0_ringsAt 26 = .ok (.goto 4, 3) := by decide +kernel
theorem dX0_ringsAt_29 : decode cX0_ringsAt 29 = .ok (.iconst 0, 1) := by decide +kernel
theorem dX0_ringsAt_30 : decode cX0_ringsAt 30 = .ok (.ireturn, 1) := by decide +kernel
theorem dX0_ringingCallOf_0 : decode cX0_ringingCallOf 0 = .ok (.iconst 0, 1) := by decide +kernel
theorem dX0_ringingCallOf_1 : decode cX0_ringingCallOf 1 = .ok (.istore_n 2, 1) := by decide +kernel
theorem dX0_ringingCallOf_2 : decode cX0_ringingCallOf 2 = .ok (.iload_n 2, 1) := by decide +kernel
theorem dX0_ringingCallOf_3 : decode cX0_ringingCallOf 3 = .ok (.aload_n 0, 1) := by decide +kernel
theorem dX0_ringingCallOf_4 : decode cX0_ringingCallOf 4 = .ok (.getfield 20, 3) := by decide +kernel
theorem dX0_ringingCallOf_7 : decode cX0_ringingCallOf 7 = .ok (.getfield 61, 3) := by decide +kernel
theorem dX0_ringingCallOf_10 : decode cX0_ringingCallOf 10 = .ok (.if_icmp .ge 32, 3) := by decide +kernel
theorem dX0_ringingCallOf_13 : decode cX0_ringingCallOf 13 = .ok (.aload_n 0, 1) := by decide +kernel
theorem dX0_ringingCallOf_14 : decode cX0_ringingCallOf 14 = .ok (.getfield 20, 3) := by decide +kernel
theorem dX0_ringingCallOf_17 : decode cX0_ringingCallOf 17 = .ok (.iload_n 2, 1) := by decide +kernel
theorem dX0_ringingCallOf_18 : decode cX0_ringingCallOf 18 = .ok (.iconst 0, 1) := by decide +kernel
theorem dX0_ringingCallOf_19 : decode cX0_ringingCallOf 19 = .ok (.invokevirtual 64, 3) := by decide +kernel
theorem dX0_ringingCallOf_22 : decode cX0_ringingCallOf 22 = .ok (.iload_n 1, 1) := by decide +kernel
theorem dX0_ringingCallOf_23 : decode cX0_ringingCallOf 23 = .ok (.if_icmp .ne 13, 3) := by decide +kernel
theorem dX0_ringingCallOf_26 : decode cX0_ringingCallOf 26 = .ok (.aload_n 0, 1) := by decide +kernel
theorem dX0_ringingCallOf_27 : decode cX0_ringingCallOf 27 = .ok (.iload_n 2, 1) := by decide +kernel
theorem dX0_ringingCallOf_28 : decode cX0_ringingCallOf 28 = .ok (.invokevirtual 148, 3) := by decide +kernel
theorem dX0_ringingCallOf_31 : decode cX0_ringingCallOf 31 = .ok (.ifCond .eq 5, 3) := by decide +kernel
theorem dX0_ringingCallOf_34 : decode cX0_ringingCallOf 34 = .ok (.iload_n 2, 1) := by decide +kernel
theorem dX0_ringingCallOf_35 : decode cX0_ringingCallOf 35 = .ok (.ireturn, 1) := by decide +kernel
theorem dX0_ringingCallOf_36 : decode cX0_ringingCallOf 36 = .ok (.iinc 2 1, 3) := by decide +kernel
theorem dX0_ringingCallOf_39 : decode cX0_ringingCallOf 39 = .ok (.goto (-37), 3) := by decide +kernel
theorem dX0_ringingCallOf_42 : decode cX0_ringingCallOf 42 = .ok (.iconst (-1), 1) := by decide +kernel
theorem dX0_ringingCallOf_43 : decode cX0_ringingCallOf 43 = .ok (.ireturn, 1) := by decide +kernel
theorem dX0_addLeg_0 : decode cX0_addLeg 0 = .ok (.aload_n 0, 1) := by decide +kernel
theorem dX0_addLeg_1 : decode cX0_addLeg 1 = .ok (.iload_n 2, 1) := by decide +kernel
theorem dX0_addLeg_2 : decode cX0_addLeg 2 = .ok (.invokevirtual 161, 3) := by decide +kernel
theorem dX0_addLeg_5 : decode cX0_addLeg 5 = .ok (.istore_n 3, 1) := by decide +kernel
theorem dX0_addLeg_6 : decode cX0_addLeg 6 = .ok (.aload_n 0, 1) := by decide +kernel
theorem dX0_addLeg_7 : decode cX0_addLeg 7 = .ok (.getfield 23, 3) := by decide +kernel
theorem dX0_addLeg_10 : decode cX0_addLeg 10 = .ok (.invokevirtual 39, 3) := by decide +kernel
theorem dX0_addLeg_13 : decode cX0_addLeg 13 = .ok (.istore 4, 2) := by decide +kernel
theorem dX0_addLeg_15 : decode cX0_addLeg 15 = .ok (.aload_n 0, 1) := by decide +kernel
theorem dX0_addLeg_16 : decode cX0_addLeg 16 = .ok (.getfield 23, 3) := by decide +kernel
theorem dX0_addLeg_19 : decode cX0_addLeg 19 = .ok (.iload 4, 2) := by decide +kernel
theorem dX0_addLeg_21 : decode cX0_addLeg 21 = .ok (.iconst 0, 1) := by decide +kernel
theorem dX0_addLeg_22 : decode cX0_addLeg 22 = .ok (.iload_n 1, 1) := by decide +kernel
theorem dX0_addLeg_23 : decode cX0_addLeg 23 = .ok (.invokevirtual 57, 3) := by decide +kernel
theorem dX0_addLeg_26 : decode cX0_addLeg 26 = .ok (.aload_n 0, 1) := by decide +kernel
theorem dX0_addLeg_27 : decode cX0_addLeg 27 = .ok (.getfield 23, 3) := by decide +kernel
theorem dX0_addLeg_30 : decode cX0_addLeg 30 = .ok (.iload 4, 2) := by decide +kernel
theorem dX0_addLeg_32 : decode cX0_addLeg 32 = .ok (.iconst 1, 1) := by decide +kernel
theorem dX0_addLeg_33 : decode cX0_addLeg 33 = .ok (.iload_n 2, 1) := by decide +kernel
theorem dX0_addLeg_34 : decode cX0_addLeg 34 = .ok (.invokevirtual 57, 3) := by decide +kernel
theorem dX0_addLeg_37 : decode cX0_addLeg 37 = .ok (.aload_n 0, 1) := by decide +kernel
theorem dX0_addLeg_38 : decode cX0_addLeg 38 = .ok (.getfield 23, 3) := by decide +kernel
theorem dX0_addLeg_41 : decode cX0_addLeg 41 = .ok (.iload 4, 2) := by decide +kernel
theorem dX0_addLeg_43 : decode cX0_addLeg 43 = .ok (.iconst 2, 1) := by decide +kernel
theorem dX0_addLeg_44 : decode cX0_addLeg 44 = .ok (.iconst 0, 1) := by decide +kernel
theorem dX0_addLeg_45 : decode cX0_addLeg 45 = .ok (.invokevirtual 57, 3) := by decide +kernel
theorem dX0_addLeg_48 : decode cX0_addLeg 48 = .ok (.aload_n 0, 1) := by decide +kernel
theorem dX0_addLeg_49 : decode cX0_addLeg 49 = .ok (.iload 4, 2) := by decide +kernel
theorem dX0_addLeg_51 : decode cX0_addLeg 51 = .ok (.invokevirtual 101, 3) := by decide +kernel
theorem dX0_addLeg_54 : decode cX0_addLeg 54 = .ok (.iload_n 3, 1) := by decide +kernel
theorem dX0_addLeg_55 : decode cX0_addLeg 55 = .ok (.ifCond .eq 10, 3) := by decide +kernel
theorem dX0_addLeg_58 : decode cX0_addLeg 58 = .ok (.aload_n 0, 1) := by decide +kernel
theorem dX0_addLeg_59 : decode cX0_addLeg 59 = .ok (.iload 4, 2) := by decide +kernel
theorem dX0_addLeg_61 : decode cX0_addLeg 61 = .ok (.iconst 1, 1) := by decide +kernel
theorem dX0_addLeg_62 : decode cX0_addLeg 62 = .ok (.invokevirtual 110, 3) := by decide +kernel
theorem dX0_addLeg_65 : decode cX0_addLeg 65 = .ok (.iload_n 3, 1) := by decide +kernel
theorem dX0_addLeg_66 : decode cX0_addLeg 66 = .ok (.ifCond .eq 7, 3) := by decide +kernel
theorem dX0_addLeg_69 : decode cX0_addLeg 69 = .ok (.iconst 0, 1) := by decide +kernel
theorem dX0_addLeg_70 : decode cX0_addLeg 70 = .ok (.goto 4, 3) := by decide +kernel
theorem dX0_addLeg_73 : decode cX0_addLeg 73 = .ok (.iconst 1, 1) := by decide +kernel
theorem dX0_addLeg_74 : decode cX0_addLeg 74 = .ok (.ireturn, 1) := by decide +kernel
theorem dX0_endLeg_0 : decode cX0_endLeg 0 = .ok (.aload_n 0, 1) := by decide +kernel
theorem dX0_endLeg_1 : decode cX0_endLeg 1 = .ok (.getfield 23, 3) := by decide +kernel
theorem dX0_endLeg_4 : decode cX0_endLeg 4 = .ok (.iload_n 1, 1) := by decide +kernel
theorem dX0_endLeg_5 : decode cX0_endLeg 5 = .ok (.iconst 2, 1) := by decide +kernel
theorem dX0_endLeg_6 : decode cX0_endLeg 6 = .ok (.iconst 3, 1) := by decide +kernel
theorem dX0_endLeg_7 : decode cX0_endLeg 7 = .ok (.invokevirtual 57, 3) := by decide +kernel
theorem dX0_endLeg_10 : decode cX0_endLeg 10 = .ok (.aload_n 0, 1) := by decide +kernel
theorem dX0_endLeg_11 : decode cX0_endLeg 11 = .ok (.getfield 23, 3) := by decide +kernel
theorem dX0_endLeg_14 : decode cX0_endLeg 14 = .ok (.iload_n 1, 1) := by decide +kernel
theorem dX0_endLeg_15 : decode cX0_endLeg 15 = .ok (.iconst 3, 1) := by decide +kernel
theorem dX0_endLeg_16 : decode cX0_endLeg 16 = .ok (.iload_n 2, 1) := by decide +kernel
theorem dX0_endLeg_17 : decode cX0_endLeg 17 = .ok (.invokevirtual 57, 3) := by decide +kernel
theorem dX0_endLeg_20 : decode cX0_endLeg 20 = .ok (.aload_n 0, 1) := by decide +kernel
theorem dX0_endLeg_21 : decode cX0_endLeg 21 = .ok (.iload_n 1, 1) := by decide +kernel
theorem dX0_endLeg_22 : decode cX0_endLeg 22 = .ok (.invokevirtual 101, 3) := by decide +kernel
theorem dX0_endLeg_25 : decode cX0_endLeg 25 = .ok (.return_, 1) := by decide +kernel
theorem dX0_endRinging_0 : decode cX0_endRinging 0 = .ok (.aload_n 0, 1) := by decide +kernel
theorem dX0_endRinging_1 : decode cX0_endRinging 1 = .ok (.getfield 20, 3) := by decide +kernel
theorem dX0_endRinging_4 : decode cX0_endRinging 4 = .ok (.iload_n 1, 1) := by decide +kernel
theorem dX0_endRinging_5 : decode cX0_endRinging 5 = .ok (.bipush 6, 2) := by decide +kernel
theorem dX0_endRinging_7 : decode cX0_endRinging 7 = .ok (.invokevirtual 64, 3) := by decide +kernel
theorem dX0_endRinging_10 : decode cX0_endRinging 10 = .ok (.istore_n 3, 1) := by decide +kernel
theorem dX0_endRinging_11 : decode cX0_endRinging 11 = .ok (.iload_n 3, 1) := by decide +kernel
theorem dX0_endRinging_12 : decode cX0_endRinging 12 = .ok (.aload_n 0, 1) := by decide +kernel
theorem dX0_endRinging_13 : decode cX0_endRinging 13 = .ok (.getfield 20, 3) := by decide +kernel
theorem dX0_endRinging_16 : decode cX0_endRinging 16 = .ok (.iload_n 1, 1) := by decide +kernel
theorem dX0_endRinging_17 : decode cX0_endRinging 17 = .ok (.bipush 7, 2) := by decide +kernel
theorem dX0_endRinging_19 : decode cX0_endRinging 19 = .ok (.invokevirtual 64, 3) := by decide +kernel
theorem dX0_endRinging_22 : decode cX0_endRinging 22 = .ok (.if_icmp .ge 27, 3) := by decide +kernel
theorem dX0_endRinging_25 : decode cX0_endRinging 25 = .ok (.aload_n 0, 1) := by decide +kernel
theorem dX0_endRinging_26 : decode cX0_endRinging 26 = .ok (.getfield 23, 3) := by decide +kernel
theorem dX0_endRinging_29 : decode cX0_endRinging 29 = .ok (.iload_n 3, 1) := by decide +kernel
theorem dX0_endRinging_30 : decode cX0_endRinging 30 = .ok (.iconst 2, 1) := by decide +kernel
theorem dX0_endRinging_31 : decode cX0_endRinging 31 = .ok (.invokevirtual 64, 3) := by decide +kernel
theorem dX0_endRinging_34 : decode cX0_endRinging 34 = .ok (.ifCond .ne 9, 3) := by decide +kernel
theorem dX0_endRinging_37 : decode cX0_endRinging 37 = .ok (.aload_n 0, 1) := by decide +kernel
theorem dX0_endRinging_38 : decode cX0_endRinging 38 = .ok (.iload_n 3, 1) := by decide +kernel
theorem dX0_endRinging_39 : decode cX0_endRinging 39 = .ok (.iload_n 2, 1) := by decide +kernel
theorem dX0_endRinging_40 : decode cX0_endRinging 40 = .ok (.invokevirtual 110, 3) := by decide +kernel
theorem dX0_endRinging_43 : decode cX0_endRinging 43 = .ok (.iinc 3 1, 3) := by decide +kernel
theorem dX0_endRinging_46 : decode cX0_endRinging 46 = .ok (.goto (-35), 3) := by decide +kernel
theorem dX0_endRinging_49 : decode cX0_endRinging 49 = .ok (.return_, 1) := by decide +kernel
theorem dX0_endRingingAt_0 : decode cX0_endRingingAt 0 = .ok (.iconst 0, 1) := by decide +kernel
theorem dX0_endRingingAt_1 : decode cX0_endRingingAt 1 = .ok (.istore_n 3, 1) := by decide +kernel
theorem dX0_endRingingAt_2 : decode cX0_endRingingAt 2 = .ok (.iconst 0, 1) := by decide +kernel
theorem dX0_endRingingAt_3 : decode cX0_endRingingAt 3 = .ok (.istore 4, 2) := by decide +kernel
theorem dX0_endRingingAt_5 : decode cX0_endRingingAt 5 = .ok (.iload 4, 2) := by decide +kernel
theorem dX0_endRingingAt_7 : decode cX0_endRingingAt 7 = .ok (.aload_n 0, 1) := by decide +kernel
theorem dX0_endRingingAt_8 : decode cX0_endRingingAt 8 = .ok (.getfield 23, 3) := by decide +kernel
theorem dX0_endRingingAt_11 : decode cX0_endRingingAt 11 = .ok (.getfield 61, 3) := by decide +kernel
theorem dX0_endRingingAt_14 : decode cX0_endRingingAt 14 = .ok (.if_icmp .ge 56, 3) := by decide +kernel
theorem dX0_endRingingAt_17 : decode cX0_endRingingAt 17 = .ok (.aload_n 0, 1) := by decide +kernel
theorem dX0_endRingingAt_18 : decode cX0_endRingingAt 18 = .ok (.iload 4, 2) := by decide +kernel
theorem dX0_endRingingAt_20 : decode cX0_endRingingAt 20 = .ok (.iload_n 1, 1) := by decide +kernel
theorem dX0_endRingingAt_21 : decode cX0_endRingingAt 21 = .ok (.invokevirtual 68, 3) := by decide +kernel
theorem dX0_endRingingAt_24 : decode cX0_endRingingAt 24 = .ok (.ifCond .eq 40, 3) := by decide +kernel
theorem dX0_endRingingAt_27 : decode cX0_endRingingAt 27 = .ok (.aload_n 0, 1) := by decide +kernel
theorem dX0_endRingingAt_28 : decode cX0_endRingingAt 28 = .ok (.iload 4, 2) := by decide +kernel
theorem dX0_endRingingAt_30 : decode cX0_endRingingAt 30 = .ok (.iload_n 2, 1) := by decide +kernel
theorem dX0_endRingingAt_31 : decode cX0_endRingingAt 31 = .ok (.invokevirtual 110, 3) := by decide +kernel
theorem dX0_endRingingAt_34 : decode cX0_endRingingAt 34 = .ok (.iinc 3 1, 3) := by decide +kernel
theorem dX0_endRingingAt_37 : decode cX0_endRingingAt 37 = .ok (.aload_n 0, 1) := by decide +kernel
theorem dX0_endRingingAt_38 : decode cX0_endRingingAt 38 = .ok (.getfield 23, 3) := by decide +kernel
theorem dX0_endRingingAt_41 : decode cX0_endRingingAt 41 = .ok (.iload 4, 2) := by decide +kernel
theorem dX0_endRingingAt_43 : decode cX0_endRingingAt 43 = .ok (.iconst 0, 1) := by decide +kernel
theorem dX0_endRingingAt_44 : decode cX0_endRingingAt 44 = .ok (.invokevirtual 64, 3) := by decide +kernel
theorem dX0_endRingingAt_47 : decode cX0_endRingingAt 47 = .ok (.istore 5, 2) := by decide +kernel
theorem dX0_endRingingAt_49 : decode cX0_endRingingAt 49 = .ok (.aload_n 0, 1) := by decide +kernel
theorem dX0_endRingingAt_50 : decode cX0_endRingingAt 50 = .ok (.iload 5, 2) := by decide +kernel
theorem dX0_endRingingAt_52 : decode cX0_endRingingAt 52 = .ok (.invokevirtual 148, 3) := by decide +kernel
theorem dX0_endRingingAt_55 : decode cX0_endRingingAt 55 = .ok (.ifCond .ne 9, 3) := by decide +kernel
theorem dX0_endRingingAt_58 : decode cX0_endRingingAt 58 = .ok (.aload_n 0, 1) := by decide +kernel
theorem dX0_endRingingAt_59 : decode cX0_endRingingAt 59 = .ok (.iload 5, 2) := by decide +kernel
theorem dX0_endRingingAt_61 : decode cX0_endRingingAt 61 = .ok (.invokevirtual 91, 3) := by decide +kernel
theorem dX0_endRingingAt_64 : decode cX0_endRingingAt 64 = .ok (.iinc 4 1, 3) := by decide +kernel
theorem dX0_endRingingAt_67 : decode cX0_endRingingAt 67 = .ok (.goto (-62), 3) := by decide +kernel
theorem dX0_endRingingAt_70 : decode cX0_endRingingAt 70 = .ok (.iload_n 3, 1) := by decide +kernel
theorem dX0_endRingingAt_71 : decode cX0_endRingingAt 71 = .ok (.ireturn, 1) := by decide +kernel
theorem dX0_failCall_0 : decode cX0_failCall 0 = .ok (.aload_n 0, 1) := by decide +kernel
theorem dX0_failCall_1 : decode cX0_failCall 1 = .ok (.iconst 5, 1) := by decide +kernel
theorem dX0_failCall_2 : decode cX0_failCall 2 = .ok (.invokevirtual 132, 3) := by decide +kernel
theorem dX0_failCall_5 : decode cX0_failCall 5 = .ok (.aload_n 0, 1) := by decide +kernel
theorem dX0_failCall_6 : decode cX0_failCall 6 = .ok (.iload_n 1, 1) := by decide +kernel
theorem dX0_failCall_7 : decode cX0_failCall 7 = .ok (.invokevirtual 120, 3) := by decide +kernel
theorem dX0_failCall_10 : decode cX0_failCall 10 = .ok (.return_, 1) := by decide +kernel
theorem dX0_resumeReferrer_0 : decode cX0_resumeReferrer 0 = .ok (.aload_n 0, 1) := by decide +kernel
theorem dX0_resumeReferrer_1 : decode cX0_resumeReferrer 1 = .ok (.getfield 20, 3) := by decide +kernel
theorem dX0_resumeReferrer_4 : decode cX0_resumeReferrer 4 = .ok (.iload_n 1, 1) := by decide +kernel
theorem dX0_resumeReferrer_5 : decode cX0_resumeReferrer 5 = .ok (.iconst 3, 1) := by decide +kernel
theorem dX0_resumeReferrer_6 : decode cX0_resumeReferrer 6 = .ok (.invokevirtual 64, 3) := by decide +kernel
theorem dX0_resumeReferrer_9 : decode cX0_resumeReferrer 9 = .ok (.istore_n 2, 1) := by decide +kernel
theorem dX0_resumeReferrer_10 : decode cX0_resumeReferrer 10 = .ok (.iload_n 2, 1) := by decide +kernel
theorem dX0_resumeReferrer_11 : decode cX0_resumeReferrer 11 = .ok (.iconst (-1), 1) := by decide +kernel
theorem dX0_resumeReferrer_12 : decode cX0_resumeReferrer 12 = .ok (.if_icmp .eq 26, 3) := by decide +kernel
theorem dX0_resumeReferrer_15 : decode cX0_resumeReferrer 15 = .ok (.aload_n 0, 1) := by decide +kernel
theorem dX0_resumeReferrer_16 : decode cX0_resumeReferrer 16 = .ok (.getfield 23, 3) := by decide +kernel
theorem dX0_resumeReferrer_19 : decode cX0_resumeReferrer 19 = .ok (.iload_n 2, 1) := by decide +kernel
theorem dX0_resumeReferrer_20 : decode cX0_resumeReferrer 20 = .ok (.iconst 2, 1) := by decide +kernel
theorem dX0_resumeReferrer_21 : decode cX0_resumeReferrer 21 = .ok (.invokevirtual 64, 3) := by decide +kernel
theorem dX0_resumeReferrer_24 : decode cX0_resumeReferrer 24 = .ok (.iconst 2, 1) := by decide +kernel
theorem dX0_resumeReferrer_25 : decode cX0_resumeReferrer 25 = .ok (.if_icmp .ne 13, 3) := by decide +kernel
theorem dX0_resumeReferrer_28 : decode cX0_resumeReferrer 28 = .ok (.aload_n 0, 1) := by decide +kernel
theorem dX0_resumeReferrer_29 : decode cX0_resumeReferrer 29 = .ok (.getfield 23, 3) := by decide +kernel
theorem dX0_resumeReferrer_32 : decode cX0_resumeReferrer 32 = .ok (.iload_n 2, 1) := by decide +kernel
theorem dX0_resumeReferrer_33 : decode cX0_resumeReferrer 33 = .ok (.iconst 2, 1) := by decide +kernel
theorem dX0_resumeReferrer_34 : decode cX0_resumeReferrer 34 = .ok (.iconst 1, 1) := by decide +kernel
theorem dX0_resumeReferrer_35 : decode cX0_resumeReferrer 35 = .ok (.invokevirtual 57, 3) := by decide +kernel
theorem dX0_resumeReferrer_38 : decode cX0_resumeReferrer 38 = .ok (.return_, 1) := by decide +kernel
theorem dX0_isAnsweredNow_0 : decode cX0_isAnsweredNow 0 = .ok (.aload_n 0, 1) := by decide +kernel
theorem dX0_isAnsweredNow_1 : decode cX0_isAnsweredNow 1 = .ok (.getfield 23, 3) := by decide +kernel
theorem dX0_isAnsweredNow_4 : decode cX0_isAnsweredNow 4 = .ok (.iload_n 1, 1) := by decide +kernel
theorem dX0_isAnsweredNow_5 : decode cX0_isAnsweredNow 5 = .ok (.iconst 2, 1) := by decide +kernel
theorem dX0_isAnsweredNow_6 : decode cX0_isAnsweredNow 6 = .ok (.invokevirtual 64, 3) := by decide +kernel
theorem dX0_isAnsweredNow_9 : decode cX0_isAnsweredNow 9 = .ok (.ifCond .eq 5, 3) := by decide +kernel
theorem dX0_isAnsweredNow_12 : decode cX0_isAnsweredNow 12 = .ok (.iconst 0, 1) := by decide +kernel
theorem dX0_isAnsweredNow_13 : decode cX0_isAnsweredNow 13 = .ok (.ireturn, 1) := by decide +kernel
theorem dX0_isAnsweredNow_14 : decode cX0_isAnsweredNow 14 = .ok (.aload_n 0, 1) := by decide +kernel
theorem dX0_isAnsweredNow_15 : decode cX0_isAnsweredNow 15 = .ok (.getfield 23, 3) := by decide +kernel
theorem dX0_isAnsweredNow_18 : decode cX0_isAnsweredNow 18 = .ok (.iload_n 1, 1) := by decide +kernel
theorem dX0_isAnsweredNow_19 : decode cX0_isAnsweredNow 19 = .ok (.iconst 1, 1) := by decide +kernel
theorem dX0_isAnsweredNow_20 : decode cX0_isAnsweredNow 20 = .ok (.invokevirtual 64, 3) := by decide +kernel
theorem dX0_isAnsweredNow_23 : decode cX0_isAnsweredNow 23 = .ok (.istore_n 2, 1) := by decide +kernel
theorem dX0_isAnsweredNow_24 : decode cX0_isAnsweredNow 24 = .ok (.aload_n 0, 1) := by decide +kernel
theorem dX0_isAnsweredNow_25 : decode cX0_isAnsweredNow 25 = .ok (.getfield 14, 3) := by decide +kernel
theorem dX0_isAnsweredNow_28 : decode cX0_isAnsweredNow 28 = .ok (.iload_n 2, 1) := by decide +kernel
theorem dX0_isAnsweredNow_29 : decode cX0_isAnsweredNow 29 = .ok (.iconst 0, 1) := by decide +kernel
theorem dX0_isAnsweredNow_30 : decode cX0_isAnsweredNow 30 = .ok (.invokevirtual 64, 3) := by decide +kernel
theorem dX0_isAnsweredNow_33 : decode cX0_isAnsweredNow 33 = .ok (.istore_n 3, 1) := by decide +kernel
theorem dX0_isAnsweredNow_34 : decode cX0_isAnsweredNow 34 = .ok (.aload_n 0, 1) := by decide +kernel
theorem dX0_isAnsweredNow_35 : decode cX0_isAnsweredNow 35 = .ok (.getfield 50, 3) := by decide +kernel
theorem dX0_isAnsweredNow_38 : decode cX0_isAnsweredNow 38 = .ok (.aload_n 0, 1) := by decide +kernel
theorem dX0_isAnsweredNow_39 : decode cX0_isAnsweredNow 39 = .ok (.getfield 20, 3) := by decide +kernel
theorem dX0_isAnsweredNow_42 : decode cX0_isAnsweredNow 42 = .ok (.aload_n 0, 1) := by decide +kernel
theorem dX0_isAnsweredNow_43 : decode cX0_isAnsweredNow 43 = .ok (.getfield 23, 3) := by decide +kernel
theorem dX0_isAnsweredNow_46 : decode cX0_isAnsweredNow 46 = .ok (.iload_n 1, 1) := by decide +kernel
theorem dX0_isAnsweredNow_47 : decode cX0_isAnsweredNow 47 = .ok (.iconst 0, 1) := by decide +kernel
theorem dX0_isAnsweredNow_48 : decode cX0_isAnsweredNow 48 = .ok (.invokevirtual 64, 3) := by decide +kernel
theorem dX0_isAnsweredNow_51 : decode cX0_isAnsweredNow 51 = .ok (.iconst 1, 1) := by decide +kernel
theorem dX0_isAnsweredNow_52 : decode cX0_isAnsweredNow 52 = .ok (.invokevirtual 64, 3) := by decide +kernel
theorem dX0_isAnsweredNow_55 : decode cX0_isAnsweredNow 55 = .ok (.isub, 1) := by decide +kernel
theorem dX0_isAnsweredNow_56 : decode cX0_isAnsweredNow 56 = .ok (.istore 4, 2) := by decide +kernel
theorem dX0_isAnsweredNow_58 : decode cX0_isAnsweredNow 58 = .ok (.iload_n 3, 1) := by decide +kernel
theorem dX0_isAnsweredNow_59 : decode cX0_isAnsweredNow 59 = .ok (.ifCond .eq 21, 3) := by decide +kernel
theorem dX0_isAnsweredNow_62 : decode cX0_isAnsweredNow 62 = .ok (.iload 4, 2) := by decide +kernel
theorem dX0_isAnsweredNow_64 : decode cX0_isAnsweredNow 64 = .ok (.iload_n 3, 1) := by decide +kernel
theorem dX0_isAnsweredNow_65 : decode cX0_isAnsweredNow 65 = .ok (.if_icmp .ne 15, 3) := by decide +kernel
theorem dX0_isAnsweredNow_68 : decode cX0_isAnsweredNow 68 = .ok (.aload_n 0, 1) := by decide +kernel
theorem dX0_isAnsweredNow_69 : decode cX0_isAnsweredNow 69 = .ok (.iload_n 2, 1) := by decide +kernel
theorem dX0_isAnsweredNow_70 : decode cX0_isAnsweredNow 70 = .ok (.invokevirtual 161, 3) := by decide +kernel
theorem dX0_isAnsweredNow_73 : decode cX0_isAnsweredNow 73 = .ok (.ifCond .ne 7, 3) := by decide +kernel
theorem dX0_isAnsweredNow_76 : decode cX0_isAnsweredNow 76 = .ok (.iconst 1, 1) := by decide +kernel
theorem dX0_isAnsweredNow_77 : decode cX0_isAnsweredNow 77 = .ok (.goto 4, 3) := by decide +kernel
theorem dX0_isAnsweredNow_80 : decode cX0_isAnsweredNow 80 = .ok (.iconst 0, 1) := by decide +kernel
theorem dX0_isAnsweredNow_81 : decode cX0_isAnsweredNow 81 = .ok (.ireturn, 1) := by decide +kernel
theorem dX0_answer_0 : decode cX0_answer 0 = .ok (.aload_n 0, 1) := by decide +kernel
theorem dX0_answer_1 : decode cX0_answer 1 = .ok (.getfield 23, 3) := by decide +kernel
theorem dX0_answer_4 : decode cX0_answer 4 = .ok (.iload_n 1, 1) := by decide +kernel
theorem dX0_answer_5 : decode cX0_answer 5 = .ok (.iconst 0, 1) := by decide +kernel
theorem dX0_answer_6 : decode cX0_answer 6 = .ok (.invokevirtual 64, 3) := by decide +kernel
theorem dX0_answer_9 : decode cX0_answer 9 = .ok (.istore_n 2, 1) := by decide +kernel
theorem dX0_answer_10 : decode cX0_answer 10 = .ok (.aload_n 0, 1) := by decide +kernel
theorem dX0_answer_11 : decode cX0_answer 11 = .ok (.getfield 23, 3) := by decide +kernel
theorem dX0_answer_14 : decode cX0_answer 14 = .ok (.iload_n 1, 1) := by decide +kernel
theorem dX0_answer_15 : decode cX0_answer 15 = .ok (.iconst 2, 1) := by decide +kernel
theorem dX0_answer_16 : decode cX0_answer 16 = .ok (.iconst 1, 1) := by decide +kernel
theorem dX0_answer_17 : decode cX0_answer 17 = .ok (.invokevirtual 57, 3) := by decide +kernel
theorem dX0_answer_20 : decode cX0_answer 20 = .ok (.aload_n 0, 1) := by decide +kernel
theorem dX0_answer_21 : decode cX0_answer 21 = .ok (.getfield 20, 3) := by decide +kernel
theorem dX0_answer_24 : decode cX0_answer 24 = .ok (.iload_n 2, 1) := by decide +kernel
theorem dX0_answer_25 : decode cX0_answer 25 = .ok (.iconst 5, 1) := by decide +kernel
theorem dX0_answer_26 : decode cX0_answer 26 = .ok (.iload_n 1, 1) := by decide +kernel
theorem dX0_answer_27 : decode cX0_answer 27 = .ok (.invokevirtual 57, 3) := by decide +kernel
theorem dX0_answer_30 : decode cX0_answer 30 = .ok (.aload_n 0, 1) := by decide +kernel
theorem dX0_answer_31 : decode cX0_answer 31 = .ok (.iconst 4, 1) := by decide +kernel
theorem dX0_answer_32 : decode cX0_answer 32 = .ok (.invokevirtual 132, 3) := by decide +kernel
theorem dX0_answer_35 : decode cX0_answer 35 = .ok (.aload_n 0, 1) := by decide +kernel
theorem dX0_answer_36 : decode cX0_answer 36 = .ok (.iload_n 2, 1) := by decide +kernel
theorem dX0_answer_37 : decode cX0_answer 37 = .ok (.iconst 2, 1) := by decide +kernel
theorem dX0_answer_38 : decode cX0_answer 38 = .ok (.invokevirtual 117, 3) := by decide +kernel
theorem dX0_answer_41 : decode cX0_answer 41 = .ok (.aload_n 0, 1) := by decide +kernel
theorem dX0_answer_42 : decode cX0_answer 42 = .ok (.aload_n 0, 1) := by decide +kernel
theorem dX0_answer_43 : decode cX0_answer 43 = .ok (.getfield 23, 3) := by decide +kernel
theorem dX0_answer_46 : decode cX0_answer 46 = .ok (.iload_n 1, 1) := by decide +kernel
theorem dX0_answer_47 : decode cX0_answer 47 = .ok (.iconst 1, 1) := by decide +kernel
theorem dX0_answer_48 : decode cX0_answer 48 = .ok (.invokevirtual 64, 3) := by decide +kernel
theorem dX0_answer_51 : decode cX0_answer 51 = .ok (.iconst 1, 1) := by decide +kernel
theorem dX0_answer_52 : decode cX0_answer 52 = .ok (.invokevirtual 123, 3) := by decide +kernel
theorem dX0_answer_55 : decode cX0_answer 55 = .ok (.pop, 1) := by decide +kernel
theorem dX0_answer_56 : decode cX0_answer 56 = .ok (.aload_n 0, 1) := by decide +kernel
theorem dX0_answer_57 : decode cX0_answer 57 = .ok (.getfield 20, 3) := by decide +kernel
theorem dX0_answer_60 : decode cX0_answer 60 = .ok (.iload_n 2, 1) := by decide +kernel
theorem dX0_answer_61 : decode cX0_answer 61 = .ok (.iconst 3, 1) := by decide +kernel
theorem dX0_answer_62 : decode cX0_answer 62 = .ok (.invokevirtual 64, 3) := by decide +kernel
theorem dX0_answer_65 : decode cX0_answer 65 = .ok (.istore_n 3, 1) := by decide +kernel
theorem dX0_answer_66 : decode cX0_answer 66 = .ok (.iload_n 3, 1) := by decide +kernel
theorem dX0_answer_67 : decode cX0_answer 67 = .ok (.iconst (-1), 1) := by decide +kernel
theorem dX0_answer_68 : decode cX0_answer 68 = .ok (.if_icmp .eq 29, 3) := by decide +kernel
theorem dX0_answer_71 : decode cX0_answer 71 = .ok (.aload_n 0, 1) := by decide +kernel
theorem dX0_answer_72 : decode cX0_answer 72 = .ok (.getfield 23, 3) := by decide +kernel
theorem dX0_answer_75 : decode cX0_answer 75 = .ok (.iload_n 3, 1) := by decide +kernel
theorem dX0_answer_76 : decode cX0_answer 76 = .ok (.iconst 2, 1) := by decide +kernel
theorem dX0_answer_77 : decode cX0_answer 77 = .ok (.invokevirtual 64, 3) := by decide +kernel
theorem dX0_answer_80 : decode cX0_answer 80 = .ok (.iconst 2, 1) := by decide +kernel
theorem dX0_answer_81 : decode cX0_answer 81 = .ok (.if_icmp .ne 16, 3) := by decide +kernel
theorem dX0_answer_84 : decode cX0_answer 84 = .ok (.aload_n 0, 1) := by decide +kernel
theorem dX0_answer_85 : decode cX0_answer 85 = .ok (.iload_n 3, 1) := by decide +kernel
theorem dX0_answer_86 : decode cX0_answer 86 = .ok (.bipush 7, 2) := by decide +kernel
theorem dX0_answer_88 : decode cX0_answer 88 = .ok (.invokevirtual 110, 3) := by decide +kernel
theorem dX0_answer_91 : decode cX0_answer 91 = .ok (.aload_n 0, 1) := by decide +kernel
theorem dX0_answer_92 : decode cX0_answer 92 = .ok (.bipush 6, 2) := by decide +kernel
theorem dX0_answer_94 : decode cX0_answer 94 = .ok (.invokevirtual 132, 3) := by decide +kernel
theorem dX0_answer_97 : decode cX0_answer 97 = .ok (.return_, 1) := by decide +kernel
theorem dX0_setOffer_0 : decode cX0_setOffer 0 = .ok (.aload_n 0, 1) := by decide +kernel
theorem dX0_setOffer_1 : decode cX0_setOffer 1 = .ok (.getfield 23, 3) := by decide +kernel
theorem dX0_setOffer_4 : decode cX0_setOffer 4 = .ok (.iload_n 1, 1) := by decide +kernel
theorem dX0_setOffer_5 : decode cX0_setOffer 5 = .ok (.bipush 6, 2) := by decide +kernel
theorem dX0_setOffer_7 : decode cX0_setOffer 7 = .ok (.iload_n 2, 1) := by decide +kernel
theorem dX0_setOffer_8 : decode cX0_setOffer 8 = .ok (.invokevirtual 57, 3) := by decide +kernel
theorem dX0_setOffer_11 : decode cX0_setOffer 11 = .ok (.aload_n 0, 1) := by decide +kernel
theorem dX0_setOffer_12 : decode cX0_setOffer 12 = .ok (.getfield 23, 3) := by decide +kernel
theorem dX0_setOffer_15 : decode cX0_setOffer 15 = .ok (.iload_n 1, 1) := by decide +kernel
theorem dX0_setOffer_16 : decode cX0_setOffer 16 = .ok (.bipush 7, 2) := by decide +kernel
theorem dX0_setOffer_18 : decode cX0_setOffer 18 = .ok (.iload_n 3, 1) := by decide +kernel
theorem dX0_setOffer_19 : decode cX0_setOffer 19 = .ok (.invokevirtual 57, 3) := by decide +kernel
theorem dX0_setOffer_22 : decode cX0_setOffer 22 = .ok (.aload_n 0, 1) := by decide +kernel
theorem dX0_setOffer_23 : decode cX0_setOffer 23 = .ok (.getfield 23, 3) := by decide +kernel
theorem dX0_setOffer_26 : decode cX0_setOffer 26 = .ok (.iload_n 1, 1) := by decide +kernel
theorem dX0_setOffer_27 : decode cX0_setOffer 27 = .ok (.bipush 8, 2) := by decide +kernel
theorem dX0_setOffer_29 : decode cX0_setOffer 29 = .ok (.aload_n 0, 1) := by decide +kernel
theorem dX0_setOffer_30 : decode cX0_setOffer 30 = .ok (.getfield 50, 3) := by decide +kernel
theorem dX0_setOffer_33 : decode cX0_setOffer 33 = .ok (.invokevirtual 57, 3) := by decide +kernel
theorem dX0_setOffer_36 : decode cX0_setOffer 36 = .ok (.return_, 1) := by decide +kernel
theorem dX0_planRepetition_0 : decode cX0_planRepetition 0 = .ok (.iload_n 2, 1) := by decide +kernel
theorem dX0_planRepetition_1 : decode cX0_planRepetition 1 = .ok (.ifCond .ne 10, 3) := by decide +kernel
theorem dX0_planRepetition_4 : decode cX0_planRepetition 4 = .ok (.aload_n 0, 1) := by decide +kernel
theorem dX0_planRepetition_5 : decode cX0_planRepetition 5 = .ok (.getfield 29, 3) := by decide +kernel
theorem dX0_planRepetition_8 : decode cX0_planRepetition 8 = .ok (.goto 7, 3) := by decide +kernel
theorem dX0_planRepetition_11 : decode cX0_planRepetition 11 = .ok (.aload_n 0, 1) := by decide +kernel
theorem dX0_planRepetition_12 : decode cX0_planRepetition 12 = .ok (.getfield 33, 3) := by decide +kernel
theorem dX0_planRepetition_15 : decode cX0_planRepetition 15 = .ok (.istore 4, 2) := by decide +kernel
theorem dX0_planRepetition_17 : decode cX0_planRepetition 17 = .ok (.aload_n 0, 1) := by decide +kernel
theorem dX0_planRepetition_18 : decode cX0_planRepetition 18 = .ok (.getfield 23, 3) := by decide +kernel
theorem dX0_planRepetition_21 : decode cX0_planRepetition 21 = .ok (.iload_n 1, 1) := by decide +kernel
theorem dX0_planRepetition_22 : decode cX0_planRepetition 22 = .ok (.bipush 9, 2) := by decide +kernel
theorem dX0_planRepetition_24 : decode cX0_planRepetition 24 = .ok (.iload_n 2, 1) := by decide +kernel
theorem dX0_planRepetition_25 : decode cX0_planRepetition 25 = .ok (.iadd, 1) := by decide +kernel
theorem dX0_planRepetition_26 : decode cX0_planRepetition 26 = .ok (.aload_n 0, 1) := by decide +kernel
theorem dX0_planRepetition_27 : decode cX0_planRepetition 27 = .ok (.getfield 50, 3) := by decide +kernel
theorem dX0_planRepetition_30 : decode cX0_planRepetition 30 = .ok (.iload 4, 2) := by decide +kernel
theorem dX0_planRepetition_32 : decode cX0_planRepetition 32 = .ok (.iadd, 1) := by decide +kernel
theorem dX0_planRepetition_33 : decode cX0_planRepetition 33 = .ok (.invokevirtual 57, 3) := by decide +kernel
theorem dX0_planRepetition_36 : decode cX0_planRepetition 36 = .ok (.aload_n 0, 1) := by decide +kernel
theorem dX0_planRepetition_37 : decode cX0_planRepetition 37 = .ok (.getfield 23, 3) := by decide +kernel
theorem dX0_planRepetition_40 : decode cX0_planRepetition 40 = .ok (.iload_n 1, 1) := by decide +kernel
theorem dX0_planRepetition_41 : decode cX0_planRepetition 41 = .ok (.bipush 11, 2) := by decide +kernel
theorem dX0_planRepetition_43 : decode cX0_planRepetition 43 = .ok (.iload_n 2, 1) := by decide +kernel
theorem dX0_planRepetition_44 : decode cX0_planRepetition 44 = .ok (.iadd, 1) := by decide +kernel
theorem dX0_planRepetition_45 : decode cX0_planRepetition 45 = .ok (.iload_n 3, 1) := by decide +kernel
theorem dX0_planRepetition_46 : decode cX0_planRepetition 46 = .ok (.invokevirtual 57, 3) := by decide +kernel
theorem dX0_planRepetition_49 : decode cX0_planRepetition 49 = .ok (.return_, 1) := by decide +kernel
theorem dX0_dropOffers_0 : decode cX0_dropOffers 0 = .ok (.aload_n 0, 1) := by decide +kernel
theorem dX0_dropOffers_1 : decode cX0_dropOffers 1 = .ok (.getfield 23, 3) := by decide +kernel
theorem dX0_dropOffers_4 : decode cX0_dropOffers 4 = .ok (.iload_n 1, 1) := by decide +kernel
theorem dX0_dropOffers_5 : decode cX0_dropOffers 5 = .ok (.bipush 6, 2) := by decide +kernel
theorem dX0_dropOffers_7 : decode cX0_dropOffers 7 = .ok (.iconst (-1), 1) := by decide +kernel
theorem dX0_dropOffers_8 : decode cX0_dropOffers 8 = .ok (.invokevirtual 57, 3) := by decide +kernel
theorem dX0_dropOffers_11 : decode cX0_dropOffers 11 = .ok (.aload_n 0, 1) := by decide +kernel
theorem dX0_dropOffers_12 : decode cX0_dropOffers 12 = .ok (.getfield 23, 3) := by decide +kernel
theorem dX0_dropOffers_15 : decode cX0_dropOffers 15 = .ok (.iload_n 1, 1) := by decide +kernel
theorem dX0_dropOffers_16 : decode cX0_dropOffers 16 = .ok (.bipush 9, 2) := by decide +kernel
theorem dX0_dropOffers_18 : decode cX0_dropOffers 18 = .ok (.iconst (-1), 1) := by decide +kernel
theorem dX0_dropOffers_19 : decode cX0_dropOffers 19 = .ok (.invokevirtual 57, 3) := by decide +kernel
theorem dX0_dropOffers_22 : decode cX0_dropOffers 22 = .ok (.aload_n 0, 1) := by decide +kernel
theorem dX0_dropOffers_23 : decode cX0_dropOffers 23 = .ok (.getfield 23, 3) := by decide +kernel
theorem dX0_dropOffers_26 : decode cX0_dropOffers 26 = .ok (.iload_n 1, 1) := by decide +kernel
theorem dX0_dropOffers_27 : decode cX0_dropOffers 27 = .ok (.bipush 10, 2) := by decide +kernel
theorem dX0_dropOffers_29 : decode cX0_dropOffers 29 = .ok (.iconst (-1), 1) := by decide +kernel
theorem dX0_dropOffers_30 : decode cX0_dropOffers 30 = .ok (.invokevirtual 57, 3) := by decide +kernel
theorem dX0_dropOffers_33 : decode cX0_dropOffers 33 = .ok (.return_, 1) := by decide +kernel
theorem dX0_repeatOffer_0 : decode cX0_repeatOffer 0 = .ok (.aload_n 0, 1) := by decide +kernel
theorem dX0_repeatOffer_1 : decode cX0_repeatOffer 1 = .ok (.getfield 23, 3) := by decide +kernel
theorem dX0_repeatOffer_4 : decode cX0_repeatOffer 4 = .ok (.iload_n 1, 1) := by decide +kernel
theorem dX0_repeatOffer_5 : decode cX0_repeatOffer 5 = .ok (.bipush 9, 2) := by decide +kernel
theorem dX0_repeatOffer_7 : decode cX0_repeatOffer 7 = .ok (.iload_n 2, 1) := by decide +kernel
theorem dX0_repeatOffer_8 : decode cX0_repeatOffer 8 = .ok (.iadd, 1) := by decide +kernel
theorem dX0_repeatOffer_9 : decode cX0_repeatOffer 9 = .ok (.invokevirtual 64, 3) := by decide +kernel
theorem dX0_repeatOffer_12 : decode cX0_repeatOffer 12 = .ok (.aload_n 0, 1) := by decide +kernel
theorem dX0_repeatOffer_13 : decode cX0_repeatOffer 13 = .ok (.getfield 50, 3) := by decide +kernel
theorem dX0_repeatOffer_16 : decode cX0_repeatOffer 16 = .ok (.if_icmp .eq 4, 3) := by decide +kernel
theorem dX0_repeatOffer_19 : decode cX0_repeatOffer 19 = .ok (.return_, 1) := by decide +kernel
theorem dX0_repeatOffer_20 : decode cX0_repeatOffer 20 = .ok (.aload_n 0, 1) := by decide +kernel
theorem dX0_repeatOffer_21 : decode cX0_repeatOffer 21 = .ok (.getfield 23, 3) := by decide +kernel
theorem dX0_repeatOffer_24 : decode cX0_repeatOffer 24 = .ok (.iload_n 1, 1) := by decide +kernel
theorem dX0_repeatOffer_25 : decode cX0_repeatOffer 25 = .ok (.bipush 9, 2) := by decide +kernel
theorem dX0_repeatOffer_27 : decode cX0_repeatOffer 27 = .ok (.iload_n 2, 1) := by decide +kernel
theorem dX0_repeatOffer_28 : decode cX0_repeatOffer 28 = .ok (.iadd, 1) := by decide +kernel
theorem dX0_repeatOffer_29 : decode cX0_repeatOffer 29 = .ok (.iconst (-1), 1) := by decide +kernel
theorem dX0_repeatOffer_30 : decode cX0_repeatOffer 30 = .ok (.invokevirtual 57, 3) := by decide +kernel
theorem dX0_repeatOffer_33 : decode cX0_repeatOffer 33 = .ok (.aload_n 0, 1) := by decide +kernel
theorem dX0_repeatOffer_34 : decode cX0_repeatOffer 34 = .ok (.getfield 23, 3) := by decide +kernel
theorem dX0_repeatOffer_37 : decode cX0_repeatOffer 37 = .ok (.iload_n 1, 1) := by decide +kernel
theorem dX0_repeatOffer_38 : decode cX0_repeatOffer 38 = .ok (.bipush 6, 2) := by decide +kernel
theorem dX0_repeatOffer_40 : decode cX0_repeatOffer 40 = .ok (.invokevirtual 64, 3) := by decide +kernel
theorem dX0_repeatOffer_43 : decode cX0_repeatOffer 43 = .ok (.iconst (-1), 1) := by decide +kernel
theorem dX0_repeatOffer_44 : decode cX0_repeatOffer 44 = .ok (.if_icmp .ne 24, 3) := by decide +kernel
theorem dX0_repeatOffer_47 : decode cX0_repeatOffer 47 = .ok (.aload_n 0, 1) := by decide +kernel
theorem dX0_repeatOffer_48 : decode cX0_repeatOffer 48 = .ok (.iload_n 1, 1) := by decide +kernel
theorem dX0_repeatOffer_49 : decode cX0_repeatOffer 49 = .ok (.iload_n 2, 1) := by decide +kernel
theorem dX0_repeatOffer_50 : decode cX0_repeatOffer 50 = .ok (.aload_n 0, 1) := by decide +kernel
theorem dX0_repeatOffer_51 : decode cX0_repeatOffer 51 = .ok (.getfield 23, 3) := by decide +kernel
theorem dX0_repeatOffer_54 : decode cX0_repeatOffer 54 = .ok (.iload_n 1, 1) := by decide +kernel
theorem dX0_repeatOffer_55 : decode cX0_repeatOffer 55 = .ok (.bipush 11, 2) := by decide +kernel
theorem dX0_repeatOffer_57 : decode cX0_repeatOffer 57 = .ok (.iload_n 2, 1) := by decide +kernel
theorem dX0_repeatOffer_58 : decode cX0_repeatOffer 58 = .ok (.iadd, 1) := by decide +kernel
theorem dX0_repeatOffer_59 : decode cX0_repeatOffer 59 = .ok (.invokevirtual 64, 3) := by decide +kernel
theorem dX0_repeatOffer_62 : decode cX0_repeatOffer 62 = .ok (.invokevirtual 126, 3) := by decide +kernel
theorem dX0_repeatOffer_65 : decode cX0_repeatOffer 65 = .ok (.goto 8, 3) := by decide +kernel
theorem dX0_repeatOffer_68 : decode cX0_repeatOffer 68 = .ok (.aload_n 0, 1) := by decide +kernel
theorem dX0_repeatOffer_69 : decode cX0_repeatOffer 69 = .ok (.iconst 3, 1) := by decide +kernel
theorem dX0_repeatOffer_70 : decode cX0_repeatOffer 70 = .ok (.invokevirtual 132, 3) := by decide +kernel
theorem dX0_repeatOffer_73 : decode cX0_repeatOffer 73 = .ok (.return_, 1) := by decide +kernel
theorem dX0_settleOffer_0 : decode cX0_settleOffer 0 = .ok (.aload_n 0, 1) := by decide +kernel
theorem dX0_settleOffer_1 : decode cX0_settleOffer 1 = .ok (.getfield 23, 3) := by decide +kernel
theorem dX0_settleOffer_4 : decode cX0_settleOffer 4 = .ok (.iload_n 1, 1) := by decide +kernel
theorem dX0_settleOffer_5 : decode cX0_settleOffer 5 = .ok (.bipush 6, 2) := by decide +kernel
theorem dX0_settleOffer_7 : decode cX0_settleOffer 7 = .ok (.invokevirtual 64, 3) := by decide +kernel
theorem dX0_settleOffer_10 : decode cX0_settleOffer 10 = .ok (.istore_n 2, 1) := by decide +kernel
theorem dX0_settleOffer_11 : decode cX0_settleOffer 11 = .ok (.iload_n 2, 1) := by decide +kernel
theorem dX0_settleOffer_12 : decode cX0_settleOffer 12 = .ok (.iconst (-1), 1) := by decide +kernel
theorem dX0_settleOffer_13 : decode cX0_settleOffer 13 = .ok (.if_icmp .ne 4, 3) := by decide +kernel
theorem dX0_settleOffer_16 : decode cX0_settleOffer 16 = .ok (.return_, 1) := by decide +kernel
theorem dX0_settleOffer_17 : decode cX0_settleOffer 17 = .ok (.aload_n 0, 1) := by decide +kernel
theorem dX0_settleOffer_18 : decode cX0_settleOffer 18 = .ok (.iload_n 1, 1) := by decide +kernel
theorem dX0_settleOffer_19 : decode cX0_settleOffer 19 = .ok (.iconst 1, 1) := by decide +kernel
theorem dX0_settleOffer_20 : decode cX0_settleOffer 20 = .ok (.iload_n 2, 1) := by decide +kernel
theorem dX0_settleOffer_21 : decode cX0_settleOffer 21 = .ok (.isub, 1) := by decide +kernel
theorem dX0_settleOffer_22 : decode cX0_settleOffer 22 = .ok (.invokevirtual 98, 3) := by decide +kernel
theorem dX0_settleOffer_25 : decode cX0_settleOffer 25 = .ok (.istore_n 3, 1) := by decide +kernel
theorem dX0_settleOffer_26 : decode cX0_settleOffer 26 = .ok (.aload_n 0, 1) := by decide +kernel
theorem dX0_settleOffer_27 : decode cX0_settleOffer 27 = .ok (.getfield 14, 3) := by decide +kernel
theorem dX0_settleOffer_30 : decode cX0_settleOffer 30 = .ok (.iload_n 3, 1) := by decide +kernel
theorem dX0_settleOffer_31 : decode cX0_settleOffer 31 = .ok (.iconst 1, 1) := by decide +kernel
theorem dX0_settleOffer_32 : decode cX0_settleOffer 32 = .ok (.invokevirtual 64, 3) := by decide +kernel
theorem dX0_settleOffer_35 : decode cX0_settleOffer 35 = .ok (.istore 4, 2) := by decide +kernel
theorem dX0_settleOffer_37 : decode cX0_settleOffer 37 = .ok (.aload_n 0, 1) := by decide +kernel
theorem dX0_settleOffer_38 : decode cX0_settleOffer 38 = .ok (.getfield 23, 3) := by decide +kernel
theorem dX0_settleOffer_41 : decode cX0_settleOffer 41 = .ok (.iload_n 1, 1) := by decide +kernel
theorem dX0_settleOffer_42 : decode cX0_settleOffer 42 = .ok (.bipush 7, 2) := by decide +kernel
theorem dX0_settleOffer_44 : decode cX0_settleOffer 44 = .ok (.invokevirtual 64, 3) := by decide +kernel
theorem dX0_settleOffer_47 : decode cX0_settleOffer 47 = .ok (.istore 5, 2) := by decide +kernel
theorem dX0_settleOffer_49 : decode cX0_settleOffer 49 = .ok (.aload_n 0, 1) := by decide +kernel
theorem dX0_settleOffer_50 : decode cX0_settleOffer 50 = .ok (.getfield 50, 3) := by decide +kernel
theorem dX0_settleOffer_53 : decode cX0_settleOffer 53 = .ok (.aload_n 0, 1) := by decide +kernel
theorem dX0_settleOffer_54 : decode cX0_settleOffer 54 = .ok (.getfield 23, 3) := by decide +kernel
theorem dX0_settleOffer_57 : decode cX0_settleOffer 57 = .ok (.iload_n 1, 1) := by decide +kernel
theorem dX0_settleOffer_58 : decode cX0_settleOffer 58 = .ok (.bipush 8, 2) := by decide +kernel
theorem dX0_settleOffer_60 : decode cX0_settleOffer 60 = .ok (.invokevirtual 64, 3) := by decide +kernel
theorem dX0_settleOffer_63 : decode cX0_settleOffer 63 = .ok (.isub, 1) := by decide +kernel
theorem dX0_settleOffer_64 : decode cX0_settleOffer 64 = .ok (.istore 6, 2) := by decide +kernel
theorem dX0_settleOffer_66 : decode cX0_settleOffer 66 = .ok (.iload 4, 2) := by decide +kernel
theorem dX0_settleOffer_68 : decode cX0_settleOffer 68 = .ok (.ifCond .eq 14, 3) := by decide +kernel
theorem dX0_settleOffer_71 : decode cX0_settleOffer 71 = .ok (.iload 6, 2) := by decide +kernel
theorem dX0_settleOffer_73 : decode cX0_settleOffer 73 = .ok (.iload 4, 2) := by decide +kernel
theorem dX0_settleOffer_75 : decode cX0_settleOffer 75 = .ok (.if_icmp .ne 7, 3) := by decide +kernel
theorem dX0_settleOffer_78 : decode cX0_settleOffer 78 = .ok (.iconst 1, 1) := by decide +kernel
theorem dX0_settleOffer_79 : decode cX0_settleOffer 79 = .ok (.goto 4, 3) := by decide +kernel
theorem dX0_settleOffer_82 : decode cX0_settleOffer 82 = .ok (.iconst 0, 1) := by decide +kernel
theorem dX0_settleOffer_83 : decode cX0_settleOffer 83 = .ok (.istore 7, 2) := by decide +kernel
theorem dX0_settleOffer_85 : decode cX0_settleOffer 85 = .ok (.iload 7, 2) := by decide +kernel
theorem dX0_settleOffer_87 : decode cX0_settleOffer 87 = .ok (.ifCond .eq 67, 3) := by decide +kernel
theorem dX0_settleOffer_90 : decode cX0_settleOffer 90 = .ok (.iload 5, 2) := by decide +kernel
theorem dX0_settleOffer_92 : decode cX0_settleOffer 92 = .ok (.aload_n 0, 1) := by decide +kernel
theorem dX0_settleOffer_93 : decode cX0_settleOffer 93 = .ok (.getfield 14, 3) := by decide +kernel
theorem dX0_settleOffer_96 : decode cX0_settleOffer 96 = .ok (.iload_n 3, 1) := by decide +kernel
theorem dX0_settleOffer_97 : decode cX0_settleOffer 97 = .ok (.iconst 2, 1) := by decide +kernel
theorem dX0_settleOffer_98 : decode cX0_settleOffer 98 = .ok (.invokevirtual 64, 3) := by decide +kernel
theorem dX0_settleOffer_101 : decode cX0_settleOffer 101 = .ok (.if_icmp .gt 53, 3) := by decide +kernel
theorem dX0_settleOffer_104 : decode cX0_settleOffer 104 = .ok (.aload_n 0, 1) := by decide +kernel
theorem dX0_settleOffer_105 : decode cX0_settleOffer 105 = .ok (.getfield 23, 3) := by decide +kernel
theorem dX0_settleOffer_108 : decode cX0_settleOffer 108 = .ok (.iload_n 1, 1) := by decide +kernel
theorem dX0_settleOffer_109 : decode cX0_settleOffer 109 = .ok (.iconst 4, 1) := by decide +kernel
theorem dX0_settleOffer_110 : decode cX0_settleOffer 110 = .ok (.iload 5, 2) := by decide +kernel
theorem dX0_settleOffer_112 : decode cX0_settleOffer 112 = .ok (.invokevirtual 57, 3) := by decide +kernel
theorem dX0_settleOffer_115 : decode cX0_settleOffer 115 = .ok (.aload_n 0, 1) := by decide +kernel
theorem dX0_settleOffer_116 : decode cX0_settleOffer 116 = .ok (.getfield 23, 3) := by decide +kernel
theorem dX0_settleOffer_119 : decode cX0_settleOffer 119 = .ok (.iload_n 1, 1) := by decide +kernel
theorem dX0_settleOffer_120 : decode cX0_settleOffer 120 = .ok (.iconst 5, 1) := by decide +kernel
theorem dX0_settleOffer_121 : decode cX0_settleOffer 121 = .ok (.aload_n 0, 1) := by decide +kernel
theorem dX0_settleOffer_122 : decode cX0_settleOffer 122 = .ok (.getfield 23, 3) := by decide +kernel
theorem dX0_settleOffer_125 : decode cX0_settleOffer 125 = .ok (.iload_n 1, 1) := by decide +kernel
theorem dX0_settleOffer_126 : decode cX0_settleOffer 126 = .ok (.iconst 5, 1) := by decide +kernel
theorem dX0_settleOffer_127 : decode cX0_settleOffer 127 = .ok (.invokevirtual 64, 3) := by decide +kernel
theorem dX0_settleOffer_130 : decode cX0_settleOffer 130 = .ok (.iconst 1, 1) := by decide +kernel
theorem dX0_settleOffer_131 : decode cX0_settleOffer 131 = .ok (.iadd, 1) := by decide +kernel
theorem dX0_settleOffer_132 : decode cX0_settleOffer 132 = .ok (.invokevirtual 57, 3) := by decide +kernel
theorem dX0_settleOffer_135 : decode cX0_settleOffer 135 = .ok (.aload_n 0, 1) := by decide +kernel
theorem dX0_settleOffer_136 : decode cX0_settleOffer 136 = .ok (.getfield 23, 3) := by decide +kernel
theorem dX0_settleOffer_139 : decode cX0_settleOffer 139 = .ok (.iload_n 1, 1) := by decide +kernel
theorem dX0_settleOffer_140 : decode cX0_settleOffer 140 = .ok (.bipush 6, 2) := by decide +kernel
theorem dX0_settleOffer_142 : decode cX0_settleOffer 142 = .ok (.iconst (-1), 1) := by decide +kernel
theorem dX0_settleOffer_143 : decode cX0_settleOffer 143 = .ok (.invokevirtual 57, 3) := by decide +kernel
theorem dX0_settleOffer_146 : decode cX0_settleOffer 146 = .ok (.aload_n 0, 1) := by decide +kernel
theorem dX0_settleOffer_147 : decode cX0_settleOffer 147 = .ok (.iconst 0, 1) := by decide +kernel
theorem dX0_settleOffer_148 : decode cX0_settleOffer 148 = .ok (.invokevirtual 132, 3) := by decide +kernel
theorem dX0_settleOffer_151 : decode cX0_settleOffer 151 = .ok (.goto 33, 3) := by decide +kernel
theorem dX0_settleOffer_154 : decode cX0_settleOffer 154 = .ok (.iload 7, 2) := by decide +kernel
theorem dX0_settleOffer_156 : decode cX0_settleOffer 156 = .ok (.ifCond .ne 12, 3) := by decide +kernel
theorem dX0_settleOffer_159 : decode cX0_settleOffer 159 = .ok (.iload 6, 2) := by decide +kernel
theorem dX0_settleOffer_161 : decode cX0_settleOffer 161 = .ok (.aload_n 0, 1) := by decide +kernel
theorem dX0_settleOffer_162 : decode cX0_settleOffer 162 = .ok (.getfield 36, 3) := by decide +kernel
theorem dX0_settleOffer_165 : decode cX0_settleOffer 165 = .ok (.if_icmp .lt 19, 3) := by decide +kernel
theorem dX0_settleOffer_168 : decode cX0_settleOffer 168 = .ok (.aload_n 0, 1) := by decide +kernel
theorem dX0_settleOffer_169 : decode cX0_settleOffer 169 = .ok (.getfield 23, 3) := by decide +kernel
theorem dX0_settleOffer_172 : decode cX0_settleOffer 172 = .ok (.iload_n 1, 1) := by decide +kernel
theorem dX0_settleOffer_173 : decode cX0_settleOffer 173 = .ok (.bipush 6, 2) := by decide +kernel
theorem dX0_settleOffer_175 : decode cX0_settleOffer 175 = .ok (.iconst (-1), 1) := by decide +kernel
theorem dX0_settleOffer_176 : decode cX0_settleOffer 176 = .ok (.invokevirtual 57, 3) := by decide +kernel
theorem dX0_settleOffer_179 : decode cX0_settleOffer 179 = .ok (.aload_n 0, 1) := by decide +kernel
theorem dX0_settleOffer_180 : decode cX0_settleOffer 180 = .ok (.iconst 1, 1) := by decide +kernel
theorem dX0_settleOffer_181 : decode cX0_settleOffer 181 = .ok (.invokevirtual 132, 3) := by decide +kernel
theorem dX0_settleOffer_184 : decode cX0_settleOffer 184 = .ok (.return_, 1) := by decide +kernel
theorem dX0_tally_0 : decode cX0_tally 0 = .ok (.aload_n 0, 1) := by decide +kernel
theorem dX0_tally_1 : decode cX0_tally 1 = .ok (.getfield 26, 3) := by decide +kernel
theorem dX0_tally_4 : decode cX0_tally 4 = .ok (.iconst 0, 1) := by decide +kernel
theorem dX0_tally_5 : decode cX0_tally 5 = .ok (.iload_n 1, 1) := by decide +kernel
theorem dX0_tally_6 : decode cX0_tally 6 = .ok (.aload_n 0, 1) := by decide +kernel
theorem dX0_tally_7 : decode cX0_tally 7 = .ok (.getfield 26, 3) := by decide +kernel
theorem dX0_tally_10 : decode cX0_tally 10 = .ok (.iconst 0, 1) := by decide +kernel
theorem dX0_tally_11 : decode cX0_tally 11 = .ok (.iload_n 1, 1) := by decide +kernel
theorem dX0_tally_12 : decode cX0_tally 12 = .ok (.invokevirtual 64, 3) := by decide +kernel
theorem dX0_tally_15 : decode cX0_tally 15 = .ok (.iconst 1, 1) := by decide +kernel
theorem dX0_tally_16 : decode cX0_tally 16 = .ok (.iadd, 1) := by decide +kernel
theorem dX0_tally_17 : decode cX0_tally 17 = .ok (.invokevirtual 57, 3) := by decide +kernel
theorem dX0_tally_20 : decode cX0_tally 20 = .ok (.return_, 1) := by decide +kernel
theorem dX1_init_0 : decode cX1_init 0 = .ok (.aload_n 0, 1) := by decide +kernel
theorem dX1_init_1 : decode cX1_init 1 = .ok (.invokespecial 3, 3) := by decide +kernel
theorem dX1_init_4 : decode cX1_init 4 = .ok (.aload_n 0, 1) := by decide +kernel
theorem dX1_init_5 : decode cX1_init 5 = .ok (.bipush 8, 2) := by decide +kernel
theorem dX1_init_7 : decode cX1_init 7 = .ok (.anewarray 9, 3) := by decide +kernel
theorem dX1_init_10 : decode cX1_init 10 = .ok (.putfield 11, 3) := by decide +kernel
theorem dX1_init_13 : decode cX1_init 13 = .ok (.iconst 0, 1) := by decide +kernel
theorem dX1_init_14 : decode cX1_init 14 = .ok (.istore_n 1, 1) := by decide +kernel
theorem dX1_init_15 : decode cX1_init 15 = .ok (.iload_n 1, 1) := by decide +kernel
theorem dX1_init_16 : decode cX1_init 16 = .ok (.aload_n 0, 1) := by decide +kernel
theorem dX1_init_17 : decode cX1_init 17 = .ok (.getfield 11, 3) := by decide +kernel
theorem dX1_init_20 : decode cX1_init 20 = .ok (.arraylength, 1) := by decide +kernel
theorem dX1_init_21 : decode cX1_init 21 = .ok (.if_icmp .ge 22, 3) := by decide +kernel
theorem dX1_init_24 : decode cX1_init 24 = .ok (.aload_n 0, 1) := by decide +kernel
theorem dX1_init_25 : decode cX1_init 25 = .ok (.getfield 11, 3) := by decide +kernel
theorem dX1_init_28 : decode cX1_init 28 = .ok (.iload_n 1, 1) := by decide +kernel
theorem dX1_init_29 : decode cX1_init 29 = .ok (.new 9, 3) := by decide +kernel
theorem dX1_init_32 : decode cX1_init 32 = .ok (.dup, 1) := by decide +kernel
theorem dX1_init_33 : decode cX1_init 33 = .ok (.invokespecial 17, 3) := by decide +kernel
theorem dX1_init_36 : decode cX1_init 36 = .ok (.aastore, 1) := by decide +kernel
theorem dX1_init_37 : decode cX1_init 37 = .ok (.iinc 1 1, 3) := by decide +kernel
theorem dX1_init_40 : decode cX1_init 40 = .ok (.goto (-25), 3) := by decide +kernel
theorem dX1_init_43 : decode cX1_init 43 = .ok (.return_, 1) := by decide +kernel
theorem dX1_push_0 : decode cX1_push 0 = .ok (.aload_n 0, 1) := by decide +kernel
theorem dX1_push_1 : decode cX1_push 1 = .ok (.getfield 18, 3) := by decide +kernel
theorem dX1_push_4 : decode cX1_push 4 = .ok (.ifCond .lt 27, 3) := by decide +kernel
theorem dX1_push_7 : decode cX1_push 7 = .ok (.aload_n 0, 1) := by decide +kernel
theorem dX1_push_8 : decode cX1_push 8 = .ok (.getfield 18, 3) := by decide +kernel
theorem dX1_push_11 : decode cX1_push 11 = .ok (.aload_n 0, 1) := by decide +kernel
theorem dX1_push_12 : decode cX1_push 12 = .ok (.getfield 11, 3) := by decide +kernel
theorem dX1_push_15 : decode cX1_push 15 = .ok (.arraylength, 1) := by decide +kernel
theorem dX1_push_16 : decode cX1_push 16 = .ok (.if_icmp .ge 15, 3) := by decide +kernel
theorem dX1_push_19 : decode cX1_push 19 = .ok (.aload_n 0, 1) := by decide +kernel
theorem dX1_push_20 : decode cX1_push 20 = .ok (.getfield 11, 3) := by decide +kernel
theorem dX1_push_23 : decode cX1_push 23 = .ok (.aload_n 0, 1) := by decide +kernel
theorem dX1_push_24 : decode cX1_push 24 = .ok (.getfield 18, 3) := by decide +kernel
theorem dX1_push_27 : decode cX1_push 27 = .ok (.aaload, 1) := by decide +kernel
theorem dX1_push_28 : decode cX1_push 28 = .ok (.ifnonnull 4, 3) := by decide +kernel
theorem dX1_push_31 : decode cX1_push 31 = .ok (.return_, 1) := by decide +kernel
theorem dX1_push_32 : decode cX1_push 32 = .ok (.aload_n 0, 1) := by decide +kernel
theorem dX1_push_33 : decode cX1_push 33 = .ok (.getfield 11, 3) := by decide +kernel
theorem dX1_push_36 : decode cX1_push 36 = .ok (.aload_n 0, 1) := by decide +kernel
theorem dX1_push_37 : decode cX1_push 37 = .ok (.getfield 18, 3) := by decide +kernel
theorem dX1_push_40 : decode cX1_push 40 = .ok (.aaload, 1) := by decide +kernel
theorem dX1_push_41 : decode cX1_push 41 = .ok (.aload_n 1, 1) := by decide +kernel
theorem dX1_push_42 : decode cX1_push 42 = .ok (.invokevirtual 22, 3) := by decide +kernel
theorem dX1_push_45 : decode cX1_push 45 = .ok (.aload_n 0, 1) := by decide +kernel
theorem dX1_push_46 : decode cX1_push 46 = .ok (.aload_n 0, 1) := by decide +kernel
theorem dX1_push_47 : decode cX1_push 47 = .ok (.getfield 18, 3) := by decide +kernel
theorem dX1_push_50 : decode cX1_push 50 = .ok (.iconst 1, 1) := by decide +kernel
theorem dX1_push_51 : decode cX1_push 51 = .ok (.iadd, 1) := by decide +kernel
theorem dX1_push_52 : decode cX1_push 52 = .ok (.aload_n 0, 1) := by decide +kernel
theorem dX1_push_53 : decode cX1_push 53 = .ok (.getfield 11, 3) := by decide +kernel
theorem dX1_push_56 : decode cX1_push 56 = .ok (.arraylength, 1) := by decide +kernel
theorem dX1_push_57 : decode cX1_push 57 = .ok (.if_icmp .ne 7, 3) := by decide +kernel
theorem dX1_push_60 : decode cX1_push 60 = .ok (.iconst 0, 1) := by decide +kernel
theorem dX1_push_61 : decode cX1_push 61 = .ok (.goto 9, 3) := by decide +kernel
theorem dX1_push_64 : decode cX1_push 64 = .ok (.aload_n 0, 1) := by decide +kernel
theorem dX1_push_65 : decode cX1_push 65 = .ok (.getfield 18, 3) := by decide +kernel
theorem dX1_push_68 : decode cX1_push 68 = .ok (.iconst 1, 1) := by decide +kernel
theorem dX1_push_69 : decode cX1_push 69 = .ok (.iadd, 1) := by decide +kernel
theorem dX1_push_70 : decode cX1_push 70 = .ok (.putfield 18, 3) := by decide +kernel
theorem dX1_push_73 : decode cX1_push 73 = .ok (.aload_n 0, 1) := by decide +kernel
theorem dX1_push_74 : decode cX1_push 74 = .ok (.aload_n 0, 1) := by decide +kernel
theorem dX1_push_75 : decode cX1_push 75 = .ok (.getfield 26, 3) := by decide +kernel
theorem dX1_push_78 : decode cX1_push 78 = .ok (.iconst 1, 1) := by decide +kernel
theorem dX1_push_79 : decode cX1_push 79 = .ok (.iadd, 1) := by decide +kernel
theorem dX1_push_80 : decode cX1_push 80 = .ok (.aload_n 0, 1) := by decide +kernel
theorem dX1_push_81 : decode cX1_push 81 = .ok (.getfield 11, 3) := by decide +kernel
theorem dX1_push_84 : decode cX1_push 84 = .ok (.arraylength, 1) := by decide +kernel
theorem dX1_push_85 : decode cX1_push 85 = .ok (.invokestatic 29, 3) := by decide +kernel
theorem dX1_push_88 : decode cX1_push 88 = .ok (.putfield 26, 3) := by decide +kernel
theorem dX1_push_91 : decode cX1_push 91 = .ok (.return_, 1) := by decide +kernel
theorem dX1_popInto_0 : decode cX1_popInto 0 = .ok (.aload_n 0, 1) := by decide +kernel
theorem dX1_popInto_1 : decode cX1_popInto 1 = .ok (.getfield 26, 3) := by decide +kernel
theorem dX1_popInto_4 : decode cX1_popInto 4 = .ok (.ifCond .ne 5, 3) := by decide +kernel
theorem dX1_popInto_7 : decode cX1_popInto 7 = .ok (.iconst (-1), 1) := by decide +kernel
theorem dX1_popInto_8 : decode cX1_popInto 8 = .ok (.ireturn, 1) := by decide +kernel
theorem dX1_popInto_9 : decode cX1_popInto 9 = .ok (.aload_n 0, 1) := by decide +kernel
theorem dX1_popInto_10 : decode cX1_popInto 10 = .ok (.getfield 18, 3) := by decide +kernel
theorem dX1_popInto_13 : decode cX1_popInto 13 = .ok (.ifCond .ne 13, 3) := by decide +kernel
theorem dX1_popInto_16 : decode cX1_popInto 16 = .ok (.aload_n 0, 1) := by decide +kernel
theorem dX1_popInto_17 : decode cX1_popInto 17 = .ok (.getfield 11, 3) := by decide +kernel
theorem dX1_popInto_20 : decode cX1_popInto 20 = .ok (.arraylength, 1) := by decide +kernel
theorem dX1_popInto_21 : decode cX1_popInto 21 = .ok (.iconst 1, 1) := by decide +kernel
theorem dX1_popInto_22 : decode cX1_popInto 22 = .ok (.isub, 1) := by decide +kernel
theorem dX1_popInto_23 : decode cX1_popInto 23 = .ok (.goto 9, 3) := by decide +kernel
theorem dX1_popInto_26 : decode cX1_popInto 26 = .ok (.aload_n 0, 1) := by decide +kernel
theorem dX1_popInto_27 : decode cX1_popInto 27 = .ok (.getfield 18, 3) := by decide +kernel
theorem dX1_popInto_30 : decode cX1_popInto 30 = .ok (.iconst 1, 1) := by decide +kernel
theorem dX1_popInto_31 : decode cX1_popInto 31 = .ok (.isub, 1) := by decide +kernel
theorem dX1_popInto_32 : decode cX1_popInto 32 = .ok (.istore_n 2, 1) := by decide +kernel
theorem dX1_popInto_33 : decode cX1_popInto 33 = .ok (.iload_n 2, 1) := by decide +kernel
theorem dX1_popInto_34 : decode cX1_popInto 34 = .ok (.ifCond .lt 21, 3) := by decide +kernel
theorem dX1_popInto_37 : decode cX1_popInto 37 = .ok (.iload_n 2, 1) := by decide +kernel
theorem dX1_popInto_38 : decode cX1_popInto 38 = .ok (.aload_n 0, 1) := by decide +kernel
theorem dX1_popInto_39 : decode cX1_popInto 39 = .ok (.getfield 11, 3) := by decide +kernel
theorem dX1_popInto_42 : decode cX1_popInto 42 = .ok (.arraylength, 1) := by decide +kernel
theorem dX1_popInto_43 : decode cX1_popInto 43 = .ok (.if_icmp .ge 12, 3) := by decide +kernel
theorem dX1_popInto_46 : decode cX1_popInto 46 = .ok (.aload_n 0, 1) := by decide +kernel
theorem dX1_popInto_47 : decode cX1_popInto 47 = .ok (.getfield 11, 3) := by decide +kernel
theorem dX1_popInto_50 : decode cX1_popInto 50 = .ok (.iload_n 2, 1) := by decide +kernel
theorem dX1_popInto_51 : decode cX1_popInto 51 = .ok (.aaload, 1) := by decide +kernel
theorem dX1_popInto_52 : decode cX1_popInto 52 = .ok (.ifnonnull 5, 3) := by decide +kernel
theorem dX1_popInto_55 : decode cX1_popInto 55 = .ok (.iconst (-1), 1) := by decide +kernel
theorem dX1_popInto_56 : decode cX1_popInto 56 = .ok (.ireturn, 1) := by decide +kernel
theorem dX1_popInto_57 : decode cX1_popInto 57 = .ok (.aload_n 1, 1) := by decide +kernel
theorem dX1_popInto_58 : decode cX1_popInto 58 = .ok (.aload_n 0, 1) := by decide +kernel
theorem dX1_popInto_59 : decode cX1_popInto 59 = .ok (.getfield 11, 3) := by decide +kernel
theorem dX1_popInto_62 : decode cX1_popInto 62 = .ok (.iload_n 2, 1) := by decide +kernel
theorem dX1_popInto_63 : decode cX1_popInto 63 = .ok (.aaload, 1) := by decide +kernel
theorem dX1_popInto_64 : decode cX1_popInto 64 = .ok (.invokevirtual 22, 3) := by decide +kernel
theorem dX1_popInto_67 : decode cX1_popInto 67 = .ok (.aload_n 0, 1) := by decide +kernel
theorem dX1_popInto_68 : decode cX1_popInto 68 = .ok (.iload_n 2, 1) := by decide +kernel
theorem dX1_popInto_69 : decode cX1_popInto 69 = .ok (.putfield 18, 3) := by decide +kernel
theorem dX1_popInto_72 : decode cX1_popInto 72 = .ok (.aload_n 0, 1) := by decide +kernel
theorem dX1_popInto_73 : decode cX1_popInto 73 = .ok (.dup, 1) := by decide +kernel
theorem dX1_popInto_74 : decode cX1_popInto 74 = .ok (.getfield 26, 3) := by decide +kernel
theorem dX1_popInto_77 : decode cX1_popInto 77 = .ok (.iconst 1, 1) := by decide +kernel
theorem dX1_popInto_78 : decode cX1_popInto 78 = .ok (.isub, 1) := by decide +kernel
theorem dX1_popInto_79 : decode cX1_popInto 79 = .ok (.putfield 26, 3) := by decide +kernel
theorem dX1_popInto_82 : decode cX1_popInto 82 = .ok (.aload_n 0, 1) := by decide +kernel
theorem dX1_popInto_83 : decode cX1_popInto 83 = .ok (.getfield 26, 3) := by decide +kernel
theorem dX1_popInto_86 : decode cX1_popInto 86 = .ok (.ireturn, 1) := by decide +kernel
theorem dX2_init_0 : decode cX2_init 0 = .ok (.aload_n 0, 1) := by decide +kernel
theorem dX2_init_1 : decode cX2_init 1 = .ok (.invokespecial 3, 3) := by decide +kernel
theorem dX2_init_4 : decode cX2_init 4 = .ok (.aload_n 0, 1) := by decide +kernel
theorem dX2_init_5 : decode cX2_init 5 = .ok (.bipush 11, 2) := by decide +kernel
theorem dX2_init_7 : decode cX2_init 7 = .ok (.newarray .int, 2) := by decide +kernel
theorem dX2_init_9 : decode cX2_init 9 = .ok (.putfield 11, 3) := by decide +kernel
theorem dX2_init_12 : decode cX2_init 12 = .ok (.aload_n 0, 1) := by decide +kernel
theorem dX2_init_13 : decode cX2_init 13 = .ok (.aload_n 1, 1) := by decide +kernel
theorem dX2_init_14 : decode cX2_init 14 = .ok (.putfield 15, 3) := by decide +kernel
theorem dX2_init_17 : decode cX2_init 17 = .ok (.return_, 1) := by decide +kernel
theorem dX2_valueFor_0 : decode cX2_valueFor 0 = .ok (.aload_n 0, 1) := by decide +kernel
theorem dX2_valueFor_1 : decode cX2_valueFor 1 = .ok (.iconst 0, 1) := by decide +kernel
theorem dX2_valueFor_2 : decode cX2_valueFor 2 = .ok (.putfield 18, 3) := by decide +kernel
theorem dX2_valueFor_5 : decode cX2_valueFor 5 = .ok (.iconst 0, 1) := by decide +kernel
theorem dX2_valueFor_6 : decode cX2_valueFor 6 = .ok (.istore 5, 2) := by decide +kernel
theorem dX2_valueFor_8 : decode cX2_valueFor 8 = .ok (.iload 5, 2) := by decide +kernel
theorem dX2_valueFor_10 : decode cX2_valueFor 10 = .ok (.aload_n 0, 1) := by decide +kernel
theorem dX2_valueFor_11 : decode cX2_valueFor 11 = .ok (.getfield 15, 3) := by decide +kernel
theorem dX2_valueFor_14 : decode cX2_valueFor 14 = .ok (.arraylength, 1) := by decide +kernel
theorem dX2_valueFor_15 : decode cX2_valueFor 15 = .ok (.if_icmp .ge 115, 3) := by decide +kernel
theorem dX2_valueFor_18 : decode cX2_valueFor 18 = .ok (.aload_n 0, 1) := by decide +kernel
theorem dX2_valueFor_19 : decode cX2_valueFor 19 = .ok (.getfield 15, 3) := by decide +kernel
theorem dX2_valueFor_22 : decode cX2_valueFor 22 = .ok (.iload 5, 2) := by decide +kernel
theorem dX2_valueFor_24 : decode cX2_valueFor 24 = .ok (.iaload, 1) := by decide +kernel
theorem dX2_valueFor_25 : decode cX2_valueFor 25 = .ok (.istore 6, 2) := by decide +kernel
theorem dX2_valueFor_27 : decode cX2_valueFor 27 = .ok (.iload 6, 2) := by decide +kernel
theorem dX2_valueFor_29 : decode cX2_valueFor 29 = .ok (.tableswitch 89 (-8) (-1) #[80, 80, 80, 80, 71, 63, 55, 47], 47) := by decide +kernel
theorem dX2_valueFor_76 : decode cX2_valueFor 76 = .ok (.aload_n 0, 1) := by decide +kernel
theorem dX2_valueFor_77 : decode cX2_valueFor 77 = .ok (.iload_n 1, 1) := by decide +kernel
theorem dX2_valueFor_78 : decode cX2_valueFor 78 = .ok (.invokevirtual 22, 3) := by decide +kernel
theorem dX2_valueFor_81 : decode cX2_valueFor 81 = .ok (.goto 43, 3) := by decide +kernel
theorem dX2_valueFor_84 : decode cX2_valueFor 84 = .ok (.aload_n 0, 1) := by decide +kernel
theorem dX2_valueFor_85 : decode cX2_valueFor 85 = .ok (.iload_n 2, 1) := by decide +kernel
theorem dX2_valueFor_86 : decode cX2_valueFor 86 = .ok (.invokevirtual 22, 3) := by decide +kernel
theorem dX2_valueFor_89 : decode cX2_valueFor 89 = .ok (.goto 35, 3) := by decide +kernel
theorem dX2_valueFor_92 : decode cX2_valueFor 92 = .ok (.aload_n 0, 1) := by decide +kernel
theorem dX2_valueFor_93 : decode cX2_valueFor 93 = .ok (.iload_n 3, 1) := by decide +kernel
theorem dX2_valueFor_94 : decode cX2_valueFor 94 = .ok (.invokevirtual 22, 3) := by decide +kernel
theorem dX2_valueFor_97 : decode cX2_valueFor 97 = .ok (.goto 27, 3) := by decide +kernel
theorem dX2_valueFor_100 : decode cX2_valueFor 100 = .ok (.aload_n 0, 1) := by decide +kernel
theorem dX2_valueFor_101 : decode cX2_valueFor 101 = .ok (.iload 4, 2) := by decide +kernel
theorem dX2_valueFor_103 : decode cX2_valueFor 103 = .ok (.invokevirtual 22, 3) := by decide +kernel
theorem dX2_valueFor_106 : decode cX2_valueFor 106 = .ok (.goto 18, 3) := by decide +kernel
theorem dX2_valueFor_109 : decode cX2_valueFor 109 = .ok (.aload_n 0, 1) := by decide +kernel
theorem dX2_valueFor_110 : decode cX2_valueFor 110 = .ok (.iload 6, 2) := by decide +kernel
theorem dX2_valueFor_112 : decode cX2_valueFor 112 = .ok (.invokevirtual 26, 3) := by decide +kernel
theorem dX2_valueFor_115 : decode cX2_valueFor 115 = .ok (.goto 9, 3) := by decide +kernel
theorem dX2_valueFor_118 : decode cX2_valueFor 118 = .ok (.aload_n 0, 1) := by decide +kernel
theorem dX2_valueFor_119 : decode cX2_valueFor 119 = .ok (.iload 6, 2) := by decide +kernel
theorem dX2_valueFor_121 : decode cX2_valueFor 121 = .ok (.invokevirtual 22, 3) := by decide +kernel
theorem dX2_valueFor_124 : decode cX2_valueFor 124 = .ok (.iinc 5 1, 3) := by decide +kernel
theorem dX2_valueFor_127 : decode cX2_valueFor 127 = .ok (.goto (-119), 3) := by decide +kernel
theorem dX2_valueFor_130 : decode cX2_valueFor 130 = .ok (.aload_n 0, 1) := by decide +kernel
theorem dX2_valueFor_131 : decode cX2_valueFor 131 = .ok (.invokevirtual 29, 3) := by decide +kernel
theorem dX2_valueFor_134 : decode cX2_valueFor 134 = .ok (.ireturn, 1) := by decide +kernel
theorem dX2_push_0 : decode cX2_push 0 = .ok (.aload_n 0, 1) := by decide +kernel
theorem dX2_push_1 : decode cX2_push 1 = .ok (.getfield 18, 3) := by decide +kernel
theorem dX2_push_4 : decode cX2_push 4 = .ok (.ifCond .lt 35, 3) := by decide +kernel
theorem dX2_push_7 : decode cX2_push 7 = .ok (.aload_n 0, 1) := by decide +kernel
theorem dX2_push_8 : decode cX2_push 8 = .ok (.getfield 18, 3) := by decide +kernel
theorem dX2_push_11 : decode cX2_push 11 = .ok (.aload_n 0, 1) := by decide +kernel
theorem dX2_push_12 : decode cX2_push 12 = .ok (.getfield 11, 3) := by decide +kernel
theorem dX2_push_15 : decode cX2_push 15 = .ok (.arraylength, 1) := by decide +kernel
theorem dX2_push_16 : decode cX2_push 16 = .ok (.if_icmp .ge 23, 3) := by decide +kernel
theorem dX2_push_19 : decode cX2_push 19 = .ok (.aload_n 0, 1) := by decide +kernel
theorem dX2_push_20 : decode cX2_push 20 = .ok (.getfield 11, 3) := by decide +kernel
theorem dX2_push_23 : decode cX2_push 23 = .ok (.aload_n 0, 1) := by decide +kernel
theorem dX2_push_24 : decode cX2_push 24 = .ok (.getfield 18, 3) := by decide +kernel
theorem dX2_push_27 : decode cX2_push 27 = .ok (.iload_n 1, 1) := by decide +kernel
theorem dX2_push_28 : decode cX2_push 28 = .ok (.iastore, 1) := by decide +kernel
theorem dX2_push_29 : decode cX2_push 29 = .ok (.aload_n 0, 1) := by decide +kernel
theorem dX2_push_30 : decode cX2_push 30 = .ok (.dup, 1) := by decide +kernel
theorem dX2_push_31 : decode cX2_push 31 = .ok (.getfield 18, 3) := by decide +kernel
theorem dX2_push_34 : decode cX2_push 34 = .ok (.iconst 1, 1) := by decide +kernel
theorem dX2_push_35 : decode cX2_push 35 = .ok (.iadd, 1) := by decide +kernel
theorem dX2_push_36 : decode cX2_push 36 = .ok (.putfield 18, 3) := by decide +kernel
theorem dX2_push_39 : decode cX2_push 39 = .ok (.return_, 1) := by decide +kernel
theorem dX2_pop_0 : decode cX2_pop 0 = .ok (.aload_n 0, 1) := by decide +kernel
theorem dX2_pop_1 : decode cX2_pop 1 = .ok (.getfield 18, 3) := by decide +kernel
theorem dX2_pop_4 : decode cX2_pop 4 = .ok (.ifCond .le 15, 3) := by decide +kernel
theorem dX2_pop_7 : decode cX2_pop 7 = .ok (.aload_n 0, 1) := by decide +kernel
theorem dX2_pop_8 : decode cX2_pop 8 = .ok (.getfield 18, 3) := by decide +kernel
theorem dX2_pop_11 : decode cX2_pop 11 = .ok (.aload_n 0, 1) := by decide +kernel
theorem dX2_pop_12 : decode cX2_pop 12 = .ok (.getfield 11, 3) := by decide +kernel
theorem dX2_pop_15 : decode cX2_pop 15 = .ok (.arraylength, 1) := by decide +kernel
theorem dX2_pop_16 : decode cX2_pop 16 = .ok (.if_icmp .le 5, 3) := by decide +kernel
theorem dX2_pop_19 : decode cX2_pop 19 = .ok (.iconst 0, 1) := by decide +kernel
theorem dX2_pop_20 : decode cX2_pop 20 = .ok (.ireturn, 1) := by decide +kernel
theorem dX2_pop_21 : decode cX2_pop 21 = .ok (.aload_n 0, 1) := by decide +kernel
theorem dX2_pop_22 : decode cX2_pop 22 = .ok (.dup, 1) := by decide +kernel
theorem dX2_pop_23 : decode cX2_pop 23 = .ok (.getfield 18, 3) := by decide +kernel
theorem dX2_pop_26 : decode cX2_pop 26 = .ok (.iconst 1, 1) := by decide +kernel
theorem dX2_pop_27 : decode cX2_pop 27 = .ok (.isub, 1) := by decide +kernel
theorem dX2_pop_28 : decode cX2_pop 28 = .ok (.putfield 18, 3) := by decide +kernel
theorem dX2_pop_31 : decode cX2_pop 31 = .ok (.aload_n 0, 1) := by decide +kernel
theorem dX2_pop_32 : decode cX2_pop 32 = .ok (.getfield 11, 3) := by decide +kernel
theorem dX2_pop_35 : decode cX2_pop 35 = .ok (.aload_n 0, 1) := by decide +kernel
theorem dX2_pop_36 : decode cX2_pop 36 = .ok (.getfield 18, 3) := by decide +kernel
theorem dX2_pop_39 : decode cX2_pop 39 = .ok (.iaload, 1) := by decide +kernel
theorem dX2_pop_40 : decode cX2_pop 40 = .ok (.ireturn, 1) := by decide +kernel
theorem dX2_operate_0 : decode cX2_operate 0 = .ok (.aload_n 0, 1) := by decide +kernel
theorem dX2_operate_1 : decode cX2_operate 1 = .ok (.invokevirtual 29, 3) := by decide +kernel
theorem dX2_operate_4 : decode cX2_operate 4 = .ok (.i2l, 1) := by decide +kernel
theorem dX2_operate_5 : decode cX2_operate 5 = .ok (.lstore_n 2, 1) := by decide +kernel
theorem dX2_operate_6 : decode cX2_operate 6 = .ok (.aload_n 0, 1) := by decide +kernel
theorem dX2_operate_7 : decode cX2_operate 7 = .ok (.invokevirtual 29, 3) := by decide +kernel
theorem dX2_operate_10 : decode cX2_operate 10 = .ok (.i2l, 1) := by decide +kernel
theorem dX2_operate_11 : decode cX2_operate 11 = .ok (.lstore 4, 2) := by decide +kernel
theorem dX2_operate_13 : decode cX2_operate 13 = .ok (.iload_n 1, 1) := by decide +kernel
theorem dX2_operate_14 : decode cX2_operate 14 = .ok (.bipush (-5), 2) := by decide +kernel
theorem dX2_operate_16 : decode cX2_operate 16 = .ok (.if_icmp .ne 12, 3) := by decide +kernel
theorem dX2_operate_19 : decode cX2_operate 19 = .ok (.lload 4, 2) := by decide +kernel
theorem dX2_operate_21 : decode cX2_operate 21 = .ok (.lload_n 2, 1) := by decide +kernel
theorem dX2_operate_22 : decode cX2_operate 22 = .ok (.ladd, 1) := by decide +kernel
theorem dX2_operate_23 : decode cX2_operate 23 = .ok (.lstore 6, 2) := by decide +kernel
theorem dX2_operate_25 : decode cX2_operate 25 = .ok (.goto 49, 3) := by decide +kernel
theorem dX2_operate_28 : decode cX2_operate 28 = .ok (.iload_n 1, 1) := by decide +kernel
theorem dX2_operate_29 : decode cX2_operate 29 = .ok (.bipush (-6), 2) := by decide +kernel
theorem dX2_operate_31 : decode cX2_operate 31 = .ok (.if_icmp .ne 12, 3) := by decide +kernel
theorem dX2_operate_34 : decode cX2_operate 34 = .ok (.lload 4, 2) := by decide +kernel
theorem dX2_operate_36 : decode cX2_operate 36 = .ok (.lload_n 2, 1) := by decide +kernel
theorem dX2_operate_37 : decode cX2_operate 37 = .ok (.lsub, 1) := by decide +kernel
theorem dX2_operate_38 : decode cX2_operate 38 = .ok (.lstore 6, 2) := by decide +kernel
theorem dX2_operate_40 : decode cX2_operate 40 = .ok (.goto 34, 3) := by decide +kernel
theorem dX2_operate_43 : decode cX2_operate 43 = .ok (.iload_n 1, 1) := by decide +kernel
theorem dX2_operate_44 : decode cX2_operate 44 = .ok (.bipush (-7), 2) := by decide +kernel
theorem dX2_operate_46 : decode cX2_operate 46 = .ok (.if_icmp .ne 12, 3) := by decide +kernel
theorem dX2_operate_49 : decode cX2_operate 49 = .ok (.lload 4, 2) := by decide +kernel
theorem dX2_operate_51 : decode cX2_operate 51 = .ok (.lload_n 2, 1) := by decide +kernel
theorem dX2_operate_52 : decode cX2_operate 52 = .ok (.lmul, 1) := by decide +kernel
theorem dX2_operate_53 : decode cX2_operate 53 = .ok (.lstore 6, 2) := by decide +kernel
theorem dX2_operate_55 : decode cX2_operate 55 = .ok (.goto 19, 3) := by decide +kernel
theorem dX2_operate_58 : decode cX2_operate 58 = .ok (.lload_n 2, 1) := by decide +kernel
theorem dX2_operate_59 : decode cX2_operate 59 = .ok (.lconst 0, 1) := by decide +kernel
theorem dX2_operate_60 : decode cX2_operate 60 = .ok (.lcmp, 1) := by decide +kernel
theorem dX2_operate_61 : decode cX2_operate 61 = .ok (.ifCond .ne 7, 3) := by decide +kernel
theorem dX2_operate_64 : decode cX2_operate 64 = .ok (.lconst 0, 1) := by decide +kernel
theorem dX2_operate_65 : decode cX2_operate 65 = .ok (.goto 7, 3) := by decide +kernel
theorem dX2_operate_68 : decode cX2_operate 68 = .ok (.lload 4, 2) := by decide +kernel
theorem dX2_operate_70 : decode cX2_operate 70 = .ok (.lload_n 2, 1) := by decide +kernel
theorem dX2_operate_71 : decode cX2_operate 71 = .ok (.ldiv, 1) := by decide +kernel
theorem dX2_operate_72 : decode cX2_operate 72 = .ok (.lstore 6, 2) := by decide +kernel
theorem dX2_operate_74 : decode cX2_operate 74 = .ok (.aload_n 0, 1) := by decide +kernel
theorem dX2_operate_75 : decode cX2_operate 75 = .ok (.lload 6, 2) := by decide +kernel
theorem dX2_operate_77 : decode cX2_operate 77 = .ok (.ldc 33, 2) := by decide +kernel
theorem dX2_operate_79 : decode cX2_operate 79 = .ok (.ldc 34, 2) := by decide +kernel
theorem dX2_operate_81 : decode cX2_operate 81 = .ok (.invokestatic 35, 3) := by decide +kernel
theorem dX2_operate_84 : decode cX2_operate 84 = .ok (.invokevirtual 22, 3) := by decide +kernel
theorem dX2_operate_87 : decode cX2_operate 87 = .ok (.return_, 1) := by decide +kernel
theorem dX3_init_0 : decode cX3_init 0 = .ok (.aload_n 0, 1) := by decide +kernel
theorem dX3_init_1 : decode cX3_init 1 = .ok (.invokespecial 3, 3) := by decide +kernel
theorem dX3_init_4 : decode cX3_init 4 = .ok (.aload_n 0, 1) := by decide +kernel
theorem dX3_init_5 : decode cX3_init 5 = .ok (.sipush 600, 3) := by decide +kernel
theorem dX3_init_8 : decode cX3_init 8 = .ok (.newarray .byte, 2) := by decide +kernel
theorem dX3_init_10 : decode cX3_init 10 = .ok (.putfield 9, 3) := by decide +kernel
theorem dX3_init_13 : decode cX3_init 13 = .ok (.aload_n 0, 1) := by decide +kernel
theorem dX3_init_14 : decode cX3_init 14 = .ok (.new 15, 3) := by decide +kernel
theorem dX3_init_17 : decode cX3_init 17 = .ok (.dup, 1) := by decide +kernel
theorem dX3_init_18 : decode cX3_init 18 = .ok (.invokespecial 17, 3) := by decide +kernel
theorem dX3_init_21 : decode cX3_init 21 = .ok (.putfield 18, 3) := by decide +kernel
theorem dX3_init_24 : decode cX3_init 24 = .ok (.aload_n 0, 1) := by decide +kernel
theorem dX3_init_25 : decode cX3_init 25 = .ok (.sipush 600, 3) := by decide +kernel
theorem dX3_init_28 : decode cX3_init 28 = .ok (.newarray .int, 2) := by decide +kernel
theorem dX3_init_30 : decode cX3_init 30 = .ok (.putfield 22, 3) := by decide +kernel
theorem dX3_init_33 : decode cX3_init 33 = .ok (.return_, 1) := by decide +kernel
theorem dX3_hasRoomFor_0 : decode cX3_hasRoomFor 0 = .ok (.aload_n 0, 1) := by decide +kernel
theorem dX3_hasRoomFor_1 : decode cX3_hasRoomFor 1 = .ok (.getfield 26, 3) := by decide +kernel
theorem dX3_hasRoomFor_4 : decode cX3_hasRoomFor 4 = .ok (.iload_n 1, 1) := by decide +kernel
theorem dX3_hasRoomFor_5 : decode cX3_hasRoomFor 5 = .ok (.iadd, 1) := by decide +kernel
theorem dX3_hasRoomFor_6 : decode cX3_hasRoomFor 6 = .ok (.aload_n 0, 1) := by decide +kernel
theorem dX3_hasRoomFor_7 : decode cX3_hasRoomFor 7 = .ok (.getfield 9, 3) := by decide +kernel
theorem dX3_hasRoomFor_10 : decode cX3_hasRoomFor 10 = .ok (.arraylength, 1) := by decide +kernel
theorem dX3_hasRoomFor_11 : decode cX3_hasRoomFor 11 = .ok (.if_icmp .gt 7, 3) := by decide +kernel
theorem dX3_hasRoomFor_14 : decode cX3_hasRoomFor 14 = .ok (.iconst 1, 1) := by decide +kernel
theorem dX3_hasRoomFor_15 : decode cX3_hasRoomFor 15 = .ok (.goto 4, 3) := by decide +kernel
theorem dX3_hasRoomFor_18 : decode cX3_hasRoomFor 18 = .ok (.iconst 0, 1) := by decide +kernel
theorem dX3_hasRoomFor_19 : decode cX3_hasRoomFor 19 = .ok (.ireturn, 1) := by decide +kernel
theorem dX3_addWord_0 : decode cX3_addWord 0 = .ok (.bipush 24, 2) := by decide +kernel
theorem dX3_addWord_2 : decode cX3_addWord 2 = .ok (.istore_n 2, 1) := by decide +kernel
theorem dX3_addWord_3 : decode cX3_addWord 3 = .ok (.iload_n 2, 1) := by decide +kernel
theorem dX3_addWord_4 : decode cX3_addWord 4 = .ok (.ifCond .lt 51, 3) := by decide +kernel
theorem dX3_addWord_7 : decode cX3_addWord 7 = .ok (.aload_n 0, 1) := by decide +kernel
theorem dX3_addWord_8 : decode cX3_addWord 8 = .ok (.getfield 26, 3) := by decide +kernel
theorem dX3_addWord_11 : decode cX3_addWord 11 = .ok (.ifCond .lt 38, 3) := by decide +kernel
theorem dX3_addWord_14 : decode cX3_addWord 14 = .ok (.aload_n 0, 1) := by decide +kernel
theorem dX3_addWord_15 : decode cX3_addWord 15 = .ok (.getfield 26, 3) := by decide +kernel
theorem dX3_addWord_18 : decode cX3_addWord 18 = .ok (.aload_n 0, 1) := by decide +kernel
theorem dX3_addWord_19 : decode cX3_addWord 19 = .ok (.getfield 9, 3) := by decide +kernel
theorem dX3_addWord_22 : decode cX3_addWord 22 = .ok (.arraylength, 1) := by decide +kernel
theorem dX3_addWord_23 : decode cX3_addWord 23 = .ok (.if_icmp .ge 26, 3) := by decide +kernel
theorem dX3_addWord_26 : decode cX3_addWord 26 = .ok (.aload_n 0, 1) := by decide +kernel
theorem dX3_addWord_27 : decode cX3_addWord 27 = .ok (.getfield 9, 3) := by decide +kernel
theorem dX3_addWord_30 : decode cX3_addWord 30 = .ok (.aload_n 0, 1) := by decide +kernel
theorem dX3_addWord_31 : decode cX3_addWord 31 = .ok (.getfield 26, 3) := by decide +kernel
theorem dX3_addWord_34 : decode cX3_addWord 34 = .ok (.iload_n 1, 1) := by decide +kernel
theorem dX3_addWord_35 : decode cX3_addWord 35 = .ok (.iload_n 2, 1) := by decide +kernel
theorem dX3_addWord_36 : decode cX3_addWord 36 = .ok (.ishr, 1) := by decide +kernel
theorem dX3_addWord_37 : decode cX3_addWord 37 = .ok (.i2b, 1) := by decide +kernel
theorem dX3_addWord_38 : decode cX3_addWord 38 = .ok (.bastore, 1) := by decide +kernel
theorem dX3_addWord_39 : decode cX3_addWord 39 = .ok (.aload_n 0, 1) := by decide +kernel
theorem dX3_addWord_40 : decode cX3_addWord 40 = .ok (.dup, 1) := by decide +kernel
theorem dX3_addWord_41 : decode cX3_addWord 41 = .ok (.getfield 26, 3) := by decide +kernel
theorem dX3_addWord_44 : decode cX3_addWord 44 = .ok (.iconst 1, 1) := by decide +kernel
theorem dX3_addWord_45 : decode cX3_addWord 45 = .ok (.iadd, 1) := by decide +kernel
theorem dX3_addWord_46 : decode cX3_addWord 46 = .ok (.putfield 26, 3) := by decide +kernel
theorem dX3_addWord_49 : decode cX3_addWord 49 = .ok (.iinc 2 (-8), 3) := by decide +kernel
theorem dX3_addWord_52 : decode cX3_addWord 52 = .ok (.goto (-49), 3) := by decide +kernel
theorem dX3_addWord_55 : decode cX3_addWord 55 = .ok (.return_, 1) := by decide +kernel
theorem dX3_readSetup_0 : decode cX3_readSetup 0 = .ok (.aload_n 0, 1) := by decide +kernel
theorem dX3_readSetup_1 : decode cX3_readSetup 1 = .ok (.iconst 0, 1) := by decide +kernel
theorem dX3_readSetup_2 : decode cX3_readSetup 2 = .ok (.putfield 26, 3) := by decide +kernel
theorem dX3_readSetup_5 : decode cX3_readSetup 5 = .ok (.aload_n 0, 1) := by decide +kernel
theorem dX3_readSetup_6 : decode cX3_readSetup 6 = .ok (.iload_n 1, 1) := by decide +kernel
theorem dX3_readSetup_7 : decode cX3_readSetup 7 = .ok (.putfield 30, 3) := by decide +kernel
theorem dX3_readSetup_10 : decode cX3_readSetup 10 = .ok (.aload_n 0, 1) := by decide +kernel
theorem dX3_readSetup_11 : decode cX3_readSetup 11 = .ok (.iconst 0, 1) := by decide +kernel
theorem dX3_readSetup_12 : decode cX3_readSetup 12 = .ok (.putfield 33, 3) := by decide +kernel
theorem dX3_readSetup_15 : decode cX3_readSetup 15 = .ok (.aload_n 0, 1) := by decide +kernel
theorem dX3_readSetup_16 : decode cX3_readSetup 16 = .ok (.iconst 0, 1) := by decide +kernel
theorem dX3_readSetup_17 : decode cX3_readSetup 17 = .ok (.putfield 36, 3) := by decide +kernel
theorem dX3_readSetup_20 : decode cX3_readSetup 20 = .ok (.aload_n 0, 1) := by decide +kernel
theorem dX3_readSetup_21 : decode cX3_readSetup 21 = .ok (.iconst 0, 1) := by decide +kernel
theorem dX3_readSetup_22 : decode cX3_readSetup 22 = .ok (.putfield 39, 3) := by decide +kernel
theorem dX3_readSetup_25 : decode cX3_readSetup 25 = .ok (.aload_n 0, 1) := by decide +kernel
theorem dX3_readSetup_26 : decode cX3_readSetup 26 = .ok (.iconst 0, 1) := by decide +kernel
theorem dX3_readSetup_27 : decode cX3_readSetup 27 = .ok (.putfield 43, 3) := by decide +kernel
theorem dX3_readSetup_30 : decode cX3_readSetup 30 = .ok (.aload_n 0, 1) := by decide +kernel
theorem dX3_readSetup_31 : decode cX3_readSetup 31 = .ok (.iconst 0, 1) := by decide +kernel
theorem dX3_readSetup_32 : decode cX3_readSetup 32 = .ok (.putfield 46, 3) := by decide +kernel
theorem dX3_readSetup_35 : decode cX3_readSetup 35 = .ok (.aload_n 0, 1) := by decide +kernel
theorem dX3_readSetup_36 : decode cX3_readSetup 36 = .ok (.iconst 0, 1) := by decide +kernel
theorem dX3_readSetup_37 : decode cX3_readSetup 37 = .ok (.putfield 49, 3) := by decide +kernel
theorem dX3_readSetup_40 : decode cX3_readSetup 40 = .ok (.aload_n 0, 1) := by decide +kernel
theorem dX3_readSetup_41 : decode cX3_readSetup 41 = .ok (.iconst (-1), 1) := by decide +kernel
theorem dX3_readSetup_42 : decode cX3_readSetup 42 = .ok (.putfield 52, 3) := by decide +kernel
theorem dX3_readSetup_45 : decode cX3_readSetup 45 = .ok (.aload_n 0, 1) := by decide +kernel
theorem dX3_readSetup_46 : decode cX3_readSetup 46 = .ok (.getfield 18, 3) := by decide +kernel
theorem dX3_readSetup_49 : decode cX3_readSetup 49 = .ok (.invokevirtual 55, 3) := by decide +kernel
theorem dX3_readSetup_52 : decode cX3_readSetup 52 = .ok (.aload_n 0, 1) := by decide +kernel
theorem dX3_readSetup_53 : decode cX3_readSetup 53 = .ok (.invokevirtual 58, 3) := by decide +kernel
theorem dX3_readSetup_56 : decode cX3_readSetup 56 = .ok (.aload_n 0, 1) := by decide +kernel
theorem dX3_readSetup_57 : decode cX3_readSetup 57 = .ok (.ldc 61, 2) := by decide +kernel
theorem dX3_readSetup_59 : decode cX3_readSetup 59 = .ok (.invokevirtual 63, 3) := by decide +kernel
theorem dX3_readSetup_62 : decode cX3_readSetup 62 = .ok (.ifCond .ne 14, 3) := by decide +kernel
theorem dX3_readSetup_65 : decode cX3_readSetup 65 = .ok (.aload_n 0, 1) := by decide +kernel
theorem dX3_readSetup_66 : decode cX3_readSetup 66 = .ok (.bipush (-2), 2) := by decide +kernel
theorem dX3_readSetup_68 : decode cX3_readSetup 68 = .ok (.invokevirtual 67, 3) := by decide +kernel
theorem dX3_readSetup_71 : decode cX3_readSetup 71 = .ok (.aload_n 0, 1) := by decide +kernel
theorem dX3_readSetup_72 : decode cX3_readSetup 72 = .ok (.getfield 49, 3) := by decide +kernel
theorem dX3_readSetup_75 : decode cX3_readSetup 75 = .ok (.ireturn, 1) := by decide +kernel
theorem dX3_readSetup_76 : decode cX3_readSetup 76 = .ok (.aload_n 0, 1) := by decide +kernel
theorem dX3_readSetup_77 : decode cX3_readSetup 77 = .ok (.invokevirtual 58, 3) := by decide +kernel
theorem dX3_readSetup_80 : decode cX3_readSetup 80 = .ok (.aload_n 0, 1) := by decide +kernel
theorem dX3_readSetup_81 : decode cX3_readSetup 81 = .ok (.bipush 59, 2) := by decide +kernel
theorem dX3_readSetup_83 : decode cX3_readSetup 83 = .ok (.invokevirtual 71, 3) := by decide +kernel
theorem dX3_readSetup_86 : decode cX3_readSetup 86 = .ok (.iconst 0, 1) := by decide +kernel
theorem dX3_readSetup_87 : decode cX3_readSetup 87 = .ok (.istore_n 2, 1) := by decide +kernel
theorem dX3_readSetup_88 : decode cX3_readSetup 88 = .ok (.iload_n 2, 1) := by decide +kernel
theorem dX3_readSetup_89 : decode cX3_readSetup 89 = .ok (.aload_n 0, 1) := by decide +kernel
theorem dX3_readSetup_90 : decode cX3_readSetup 90 = .ok (.getfield 30, 3) := by decide +kernel
theorem dX3_readSetup_93 : decode cX3_readSetup 93 = .ok (.if_icmp .ge 33, 3) := by decide +kernel
theorem dX3_readSetup_96 : decode cX3_readSetup 96 = .ok (.aload_n 0, 1) := by decide +kernel
theorem dX3_readSetup_97 : decode cX3_readSetup 97 = .ok (.getfield 49, 3) := by decide +kernel
theorem dX3_readSetup_100 : decode cX3_readSetup 100 = .ok (.ifCond .ne 26, 3) := by decide +kernel
theorem dX3_readSetup_103 : decode cX3_readSetup 103 = .ok (.aload_n 0, 1) := by decide +kernel
theorem dX3_readSetup_104 : decode cX3_readSetup 104 = .ok (.getfield 75, 3) := by decide +kernel
theorem dX3_readSetup_107 : decode cX3_readSetup 107 = .ok (.ifCond .eq 19, 3) := by decide +kernel
theorem dX3_readSetup_110 : decode cX3_readSetup 110 = .ok (.aload_n 0, 1) := by decide +kernel
theorem dX3_readSetup_111 : decode cX3_readSetup 111 = .ok (.invokevirtual 78, 3) := by decide +kernel
theorem dX3_readSetup_114 : decode cX3_readSetup 114 = .ok (.aload_n 0, 1) := by decide +kernel
theorem dX3_readSetup_115 : decode cX3_readSetup 115 = .ok (.bipush 59, 2) := by decide +kernel
theorem dX3_readSetup_117 : decode cX3_readSetup 117 = .ok (.invokevirtual 71, 3) := by decide +kernel
theorem dX3_readSetup_120 : decode cX3_readSetup 120 = .ok (.iinc 2 1, 3) := by decide +kernel
theorem dX3_readSetup_123 : decode cX3_readSetup 123 = .ok (.goto (-35), 3) := by decide +kernel
theorem dX3_readSetup_126 : decode cX3_readSetup 126 = .ok (.aload_n 0, 1) := by decide +kernel
theorem dX3_readSetup_127 : decode cX3_readSetup 127 = .ok (.getfield 49, 3) := by decide +kernel
theorem dX3_readSetup_130 : decode cX3_readSetup 130 = .ok (.ifCond .ne 54, 3) := by decide +kernel
theorem dX3_readSetup_133 : decode cX3_readSetup 133 = .ok (.aload_n 0, 1) := by decide +kernel
theorem dX3_readSetup_134 : decode cX3_readSetup 134 = .ok (.getfield 46, 3) := by decide +kernel
theorem dX3_readSetup_137 : decode cX3_readSetup 137 = .ok (.ifCond .eq 47, 3) := by decide +kernel
theorem dX3_readSetup_140 : decode cX3_readSetup 140 = .ok (.aload_n 0, 1) := by decide +kernel
theorem dX3_readSetup_141 : decode cX3_readSetup 141 = .ok (.getfield 36, 3) := by decide +kernel
theorem dX3_readSetup_144 : decode cX3_readSetup 144 = .ok (.ifCond .lt 40, 3) := by decide +kernel
theorem dX3_readSetup_147 : decode cX3_readSetup 147 = .ok (.aload_n 0, 1) := by decide +kernel
theorem dX3_readSetup_148 : decode cX3_readSetup 148 = .ok (.getfield 36, 3) := by decide +kernel
theorem dX3_readSetup_151 : decode cX3_readSetup 151 = .ok (.aload_n 0, 1) := by decide +kernel
theorem dX3_readSetup_152 : decode cX3_readSetup 152 = .ok (.getfield 22, 3) := by decide +kernel
theorem dX3_readSetup_155 : decode cX3_readSetup 155 = .ok (.arraylength, 1) := by decide +kernel
theorem dX3_readSetup_156 : decode cX3_readSetup 156 = .ok (.if_icmp .gt 28, 3) := by decide +kernel
theorem dX3_readSetup_159 : decode cX3_readSetup 159 = .ok (.aload_n 0, 1) := by decide +kernel
theorem dX3_readSetup_160 : decode cX3_readSetup 160 = .ok (.getfield 18, 3) := by decide +kernel
theorem dX3_readSetup_163 : decode cX3_readSetup 163 = .ok (.new 81, 3) := by decide +kernel
theorem dX3_readSetup_166 : decode cX3_readSetup 166 = .ok (.dup, 1) := by decide +kernel
theorem dX3_readSetup_167 : decode cX3_readSetup 167 = .ok (.aload_n 0, 1) := by decide +kernel
theorem dX3_readSetup_168 : decode cX3_readSetup 168 = .ok (.getfield 22, 3) := by decide +kernel
theorem dX3_readSetup_171 : decode cX3_readSetup 171 = .ok (.aload_n 0, 1) := by decide +kernel
theorem dX3_readSetup_172 : decode cX3_readSetup 172 = .ok (.getfield 36, 3) := by decide +kernel
theorem dX3_readSetup_175 : decode cX3_readSetup 175 = .ok (.invokestatic 83, 3) := by decide +kernel
theorem dX3_readSetup_178 : decode cX3_readSetup 178 = .ok (.invokespecial 89, 3) := by decide +kernel
theorem dX3_readSetup_181 : decode cX3_readSetup 181 = .ok (.putfield 92, 3) := by decide +kernel
theorem dX3_readSetup_184 : decode cX3_readSetup 184 = .ok (.aload_n 0, 1) := by decide +kernel
theorem dX3_readSetup_185 : decode cX3_readSetup 185 = .ok (.getfield 49, 3) := by decide +kernel
theorem dX3_readSetup_188 : decode cX3_readSetup 188 = .ok (.ireturn, 1) := by decide +kernel
theorem dX3_readStatement_0 : decode cX3_readStatement 0 = .ok (.aload_n 0, 1) := by decide +kernel
theorem dX3_readStatement_1 : decode cX3_readStatement 1 = .ok (.ldc 96, 2) := by decide +kernel
theorem dX3_readStatement_3 : decode cX3_readStatement 3 = .ok (.invokevirtual 63, 3) := by decide +kernel
theorem dX3_readStatement_6 : decode cX3_readStatement 6 = .ok (.ifCond .eq 10, 3) := by decide +kernel
theorem dX3_readStatement_9 : decode cX3_readStatement 9 = .ok (.aload_n 0, 1) := by decide +kernel
theorem dX3_readStatement_10 : decode cX3_readStatement 10 = .ok (.invokevirtual 98, 3) := by decide +kernel
theorem dX3_readStatement_13 : decode cX3_readStatement 13 = .ok (.goto 88, 3) := by decide +kernel
theorem dX3_readStatement_16 : decode cX3_readStatement 16 = .ok (.aload_n 0, 1) := by decide +kernel
theorem dX3_readStatement_17 : decode cX3_readStatement 17 = .ok (.ldc 101, 2) := by decide +kernel
theorem dX3_readStatement_19 : decode cX3_readStatement 19 = .ok (.invokevirtual 63, 3) := by decide +kernel
theorem dX3_readStatement_22 : decode cX3_readStatement 22 = .ok (.ifCond .eq 17, 3) := by decide +kernel
theorem dX3_readStatement_25 : decode cX3_readStatement 25 = .ok (.aload_n 0, 1) := by decide +kernel
theorem dX3_readStatement_26 : decode cX3_readStatement 26 = .ok (.getfield 39, 3) := by decide +kernel
theorem dX3_readStatement_29 : decode cX3_readStatement 29 = .ok (.ifCond .ne 10, 3) := by decide +kernel
theorem dX3_readStatement_32 : decode cX3_readStatement 32 = .ok (.aload_n 0, 1) := by decide +kernel
theorem dX3_readStatement_33 : decode cX3_readStatement 33 = .ok (.invokevirtual 103, 3) := by decide +kernel
theorem dX3_readStatement_36 : decode cX3_readStatement 36 = .ok (.goto 65, 3) := by decide +kernel
theorem dX3_readStatement_39 : decode cX3_readStatement 39 = .ok (.aload_n 0, 1) := by decide +kernel
theorem dX3_readStatement_40 : decode cX3_readStatement 40 = .ok (.ldc 106, 2) := by decide +kernel
theorem dX3_readStatement_42 : decode cX3_readStatement 42 = .ok (.invokevirtual 63, 3) := by decide +kernel
theorem dX3_readStatement_45 : decode cX3_readStatement 45 = .ok (.ifCond .eq 17, 3) := by decide +kernel
theorem dX3_readStatement_48 : decode cX3_readStatement 48 = .ok (.aload_n 0, 1) := by decide +kernel
theorem dX3_readStatement_49 : decode cX3_readStatement 49 = .ok (.getfield 43, 3) := by decide +kernel
theorem dX3_readStatement_52 : decode cX3_readStatement 52 = .ok (.ifCond .ne 10, 3) := by decide +kernel
theorem dX3_readStatement_55 : decode cX3_readStatement 55 = .ok (.aload_n 0, 1) := by decide +kernel
theorem dX3_readStatement_56 : decode cX3_readStatement 56 = .ok (.invokevirtual 108, 3) := by decide +kernel
theorem dX3_readStatement_59 : decode cX3_readStatement 59 = .ok (.goto 42, 3) := by decide +kernel
theorem dX3_readStatement_62 : decode cX3_readStatement 62 = .ok (.aload_n 0, 1) := by decide +kernel
theorem dX3_readStatement_63 : decode cX3_readStatement 63 = .ok (.ldc 111, 2) := by decide +kernel
theorem dX3_readStatement_65 : decode cX3_readStatement 65 = .ok (.invokevirtual 63, 3) := by decide +kernel
theorem dX3_readStatement_68 : decode cX3_readStatement 68 = .ok (.ifCond .eq 27, 3) := by decide +kernel
theorem dX3_readStatement_71 : decode cX3_readStatement 71 = .ok (.aload_n 0, 1) := by decide +kernel
theorem dX3_readStatement_72 : decode cX3_readStatement 72 = .ok (.getfield 46, 3) := by decide +kernel
theorem dX3_readStatement_75 : decode cX3_readStatement 75 = .ok (.ifCond .ne 20, 3) := by decide +kernel
theorem dX3_readStatement_78 : decode cX3_readStatement 78 = .ok (.aload_n 0, 1) := by decide +kernel
theorem dX3_readStatement_79 : decode cX3_readStatement 79 = .ok (.iconst 1, 1) := by decide +kernel
theorem dX3_readStatement_80 : decode cX3_readStatement 80 = .ok (.putfield 46, 3) := by decide +kernel
theorem dX3_readStatement_83 : decode cX3_readStatement 83 = .ok (.aload_n 0, 1) := by decide +kernel
theorem dX3_readStatement_84 : decode cX3_readStatement 84 = .ok (.invokevirtual 58, 3) := by decide +kernel
theorem dX3_readStatement_87 : decode cX3_readStatement 87 = .ok (.aload_n 0, 1) := by decide +kernel
theorem dX3_readStatement_88 : decode cX3_readStatement 88 = .ok (.iconst 0, 1) := by decide +kernel
theorem dX3_readStatement_89 : decode cX3_readStatement 89 = .ok (.invokevirtual 112, 3) := by decide +kernel
theorem dX3_readStatement_92 : decode cX3_readStatement 92 = .ok (.goto 9, 3) := by decide +kernel
theorem dX3_readStatement_95 : decode cX3_readStatement 95 = .ok (.aload_n 0, 1) := by decide +kernel
theorem dX3_readStatement_96 : decode cX3_readStatement 96 = .ok (.bipush (-2), 2) := by decide +kernel
theorem dX3_readStatement_98 : decode cX3_readStatement 98 = .ok (.invokevirtual 67, 3) := by decide +kernel
theorem dX3_readStatement_101 : decode cX3_readStatement 101 = .ok (.return_, 1) := by decide +kernel
theorem dX3_readParty_0 : decode cX3_readParty 0 = .ok (.aload_n 0, 1) := by decide +kernel
theorem dX3_readParty_1 : decode cX3_readParty 1 = .ok (.getfield 18, 3) := by decide +kernel
theorem dX3_readParty_4 : decode cX3_readParty 4 = .ok (.getfield 115, 3) := by decide +kernel
theorem dX3_readParty_7 : decode cX3_readParty 7 = .ok (.getfield 119, 3) := by decide +kernel
theorem dX3_readParty_10 : decode cX3_readParty 10 = .ok (.bipush 10, 2) := by decide +kernel
theorem dX3_readParty_12 : decode cX3_readParty 12 = .ok (.if_icmp .lt 10, 3) := by decide +kernel
theorem dX3_readParty_15 : decode cX3_readParty 15 = .ok (.aload_n 0, 1) := by decide +kernel
theorem dX3_readParty_16 : decode cX3_readParty 16 = .ok (.bipush (-4), 2) := by decide +kernel
theorem dX3_readParty_18 : decode cX3_readParty 18 = .ok (.invokevirtual 67, 3) := by decide +kernel
theorem dX3_readParty_21 : decode cX3_readParty 21 = .ok (.return_, 1) := by decide +kernel
theorem dX3_readParty_22 : decode cX3_readParty 22 = .ok (.aload_n 0, 1) := by decide +kernel
theorem dX3_readParty_23 : decode cX3_readParty 23 = .ok (.invokevirtual 58, 3) := by decide +kernel
theorem dX3_readParty_26 : decode cX3_readParty 26 = .ok (.aload_n 0, 1) := by decide +kernel
theorem dX3_readParty_27 : decode cX3_readParty 27 = .ok (.iconst 0, 1) := by decide +kernel
theorem dX3_readParty_28 : decode cX3_readParty 28 = .ok (.bipush 99, 2) := by decide +kernel
theorem dX3_readParty_30 : decode cX3_readParty 30 = .ok (.invokevirtual 124, 3) := by decide +kernel
theorem dX3_readParty_33 : decode cX3_readParty 33 = .ok (.istore_n 1, 1) := by decide +kernel
theorem dX3_readParty_34 : decode cX3_readParty 34 = .ok (.aload_n 0, 1) := by decide +kernel
theorem dX3_readParty_35 : decode cX3_readParty 35 = .ok (.iconst 0, 1) := by decide +kernel
theorem dX3_readParty_36 : decode cX3_readParty 36 = .ok (.bipush 99, 2) := by decide +kernel
theorem dX3_readParty_38 : decode cX3_readParty 38 = .ok (.invokevirtual 124, 3) := by decide +kernel
theorem dX3_readParty_41 : decode cX3_readParty 41 = .ok (.istore_n 2, 1) := by decide +kernel
theorem dX3_readParty_42 : decode cX3_readParty 42 = .ok (.aload_n 0, 1) := by decide +kernel
theorem dX3_readParty_43 : decode cX3_readParty 43 = .ok (.iconst 0, 1) := by decide +kernel
theorem dX3_readParty_44 : decode cX3_readParty 44 = .ok (.sipush 999, 3) := by decide +kernel
theorem dX3_readParty_47 : decode cX3_readParty 47 = .ok (.invokevirtual 124, 3) := by decide +kernel
theorem dX3_readParty_50 : decode cX3_readParty 50 = .ok (.istore_n 3, 1) := by decide +kernel
theorem dX3_readParty_51 : decode cX3_readParty 51 = .ok (.aload_n 0, 1) := by decide +kernel
theorem dX3_readParty_52 : decode cX3_readParty 52 = .ok (.getfield 18, 3) := by decide +kernel
theorem dX3_readParty_55 : decode cX3_readParty 55 = .ok (.iload_n 1, 1) := by decide +kernel
theorem dX3_readParty_56 : decode cX3_readParty 56 = .ok (.iload_n 2, 1) := by decide +kernel
theorem dX3_readParty_57 : decode cX3_readParty 57 = .ok (.iload_n 3, 1) := by decide +kernel
theorem dX3_readParty_58 : decode cX3_readParty 58 = .ok (.invokevirtual 128, 3) := by decide +kernel
theorem dX3_readParty_61 : decode cX3_readParty 61 = .ok (.return_, 1) := by decide +kernel
theorem dX3_readWait_0 : decode cX3_readWait 0 = .ok (.aload_n 0, 1) := by decide +kernel
theorem dX3_readWait_1 : decode cX3_readWait 1 = .ok (.iconst 1, 1) := by decide +kernel
theorem dX3_readWait_2 : decode cX3_readWait 2 = .ok (.putfield 39, 3) := by decide +kernel
theorem dX3_readWait_5 : decode cX3_readWait 5 = .ok (.aload_n 0, 1) := by decide +kernel
theorem dX3_readWait_6 : decode cX3_readWait 6 = .ok (.invokevirtual 58, 3) := by decide +kernel
theorem dX3_readWait_9 : decode cX3_readWait 9 = .ok (.aload_n 0, 1) := by decide +kernel
theorem dX3_readWait_10 : decode cX3_readWait 10 = .ok (.getfield 18, 3) := by decide +kernel
theorem dX3_readWait_13 : decode cX3_readWait 13 = .ok (.aload_n 0, 1) := by decide +kernel
theorem dX3_readWait_14 : decode cX3_readWait 14 = .ok (.iconst 1, 1) := by decide +kernel
theorem dX3_readWait_15 : decode cX3_readWait 15 = .ok (.bipush 99, 2) := by decide +kernel
theorem dX3_readWait_17 : decode cX3_readWait 17 = .ok (.invokevirtual 124, 3) := by decide +kernel
theorem dX3_readWait_20 : decode cX3_readWait 20 = .ok (.putfield 132, 3) := by decide +kernel
theorem dX3_readWait_23 : decode cX3_readWait 23 = .ok (.aload_n 0, 1) := by decide +kernel
theorem dX3_readWait_24 : decode cX3_readWait 24 = .ok (.getfield 18, 3) := by decide +kernel
theorem dX3_readWait_27 : decode cX3_readWait 27 = .ok (.aload_n 0, 1) := by decide +kernel
theorem dX3_readWait_28 : decode cX3_readWait 28 = .ok (.iconst 1, 1) := by decide +kernel
theorem dX3_readWait_29 : decode cX3_readWait 29 = .ok (.bipush 99, 2) := by decide +kernel
theorem dX3_readWait_31 : decode cX3_readWait 31 = .ok (.invokevirtual 124, 3) := by decide +kernel
theorem dX3_readWait_34 : decode cX3_readWait 34 = .ok (.putfield 135, 3) := by decide +kernel
theorem dX3_readWait_37 : decode cX3_readWait 37 = .ok (.return_, 1) := by decide +kernel
theorem dX3_readPatience_0 : decode cX3_readPatience 0 = .ok (.aload_n 0, 1) := by decide +kernel
theorem dX3_readPatience_1 : decode cX3_readPatience 1 = .ok (.iconst 1, 1) := by decide +kernel
theorem dX3_readPatience_2 : decode cX3_readPatience 2 = .ok (.putfield 43, 3) := by decide +kernel
theorem dX3_readPatience_5 : decode cX3_readPatience 5 = .ok (.aload_n 0, 1) := by decide +kernel
theorem dX3_readPatience_6 : decode cX3_readPatience 6 = .ok (.invokevirtual 58, 3) := by decide +kernel
theorem dX3_readPatience_9 : decode cX3_readPatience 9 = .ok (.aload_n 0, 1) := by decide +kernel
theorem dX3_readPatience_10 : decode cX3_readPatience 10 = .ok (.getfield 18, 3) := by decide +kernel
theorem dX3_readPatience_13 : decode cX3_readPatience 13 = .ok (.aload_n 0, 1) := by decide +kernel
theorem dX3_readPatience_14 : decode cX3_readPatience 14 = .ok (.iconst 1, 1) := by decide +kernel
theorem dX3_readPatience_15 : decode cX3_readPatience 15 = .ok (.bipush 99, 2) := by decide +kernel
theorem dX3_readPatience_17 : decode cX3_readPatience 17 = .ok (.invokevirtual 124, 3) := by decide +kernel
theorem dX3_readPatience_20 : decode cX3_readPatience 20 = .ok (.putfield 138, 3) := by decide +kernel
theorem dX3_readPatience_23 : decode cX3_readPatience 23 = .ok (.return_, 1) := by decide +kernel
theorem dX3_readSum_0 : decode cX3_readSum 0 = .ok (.aload_n 0, 1) := by decide +kernel
theorem dX3_readSum_1 : decode cX3_readSum 1 = .ok (.iload_n 1, 1) := by decide +kernel
theorem dX3_readSum_2 : decode cX3_readSum 2 = .ok (.invokevirtual 140, 3) := by decide +kernel
theorem dX3_readSum_5 : decode cX3_readSum 5 = .ok (.iconst 0, 1) := by decide +kernel
theorem dX3_readSum_6 : decode cX3_readSum 6 = .ok (.istore_n 2, 1) := by decide +kernel
theorem dX3_readSum_7 : decode cX3_readSum 7 = .ok (.iload_n 2, 1) := by decide +kernel
theorem dX3_readSum_8 : decode cX3_readSum 8 = .ok (.aload_n 0, 1) := by decide +kernel
theorem dX3_readSum_9 : decode cX3_readSum 9 = .ok (.getfield 30, 3) := by decide +kernel
theorem dX3_readSum_12 : decode cX3_readSum 12 = .ok (.if_icmp .ge 65, 3) := by decide +kernel
theorem dX3_readSum_15 : decode cX3_readSum 15 = .ok (.aload_n 0, 1) := by decide +kernel
theorem dX3_readSum_16 : decode cX3_readSum 16 = .ok (.bipush 43, 2) := by decide +kernel
theorem dX3_readSum_18 : decode cX3_readSum 18 = .ok (.invokevirtual 143, 3) := by decide +kernel
theorem dX3_readSum_21 : decode cX3_readSum 21 = .ok (.ifCond .ne 12, 3) := by decide +kernel
theorem dX3_readSum_24 : decode cX3_readSum 24 = .ok (.aload_n 0, 1) := by decide +kernel
theorem dX3_readSum_25 : decode cX3_readSum 25 = .ok (.bipush 45, 2) := by decide +kernel
theorem dX3_readSum_27 : decode cX3_readSum 27 = .ok (.invokevirtual 143, 3) := by decide +kernel
theorem dX3_readSum_30 : decode cX3_readSum 30 = .ok (.ifCond .eq 47, 3) := by decide +kernel
theorem dX3_readSum_33 : decode cX3_readSum 33 = .ok (.aload_n 0, 1) := by decide +kernel
theorem dX3_readSum_34 : decode cX3_readSum 34 = .ok (.getfield 49, 3) := by decide +kernel
theorem dX3_readSum_37 : decode cX3_readSum 37 = .ok (.ifCond .ne 40, 3) := by decide +kernel
theorem dX3_readSum_40 : decode cX3_readSum 40 = .ok (.aload_n 0, 1) := by decide +kernel
theorem dX3_readSum_41 : decode cX3_readSum 41 = .ok (.bipush 43, 2) := by decide +kernel
theorem dX3_readSum_43 : decode cX3_readSum 43 = .ok (.invokevirtual 143, 3) := by decide +kernel
theorem dX3_readSum_46 : decode cX3_readSum 46 = .ok (.ifCond .eq 8, 3) := by decide +kernel
theorem dX3_readSum_49 : decode cX3_readSum 49 = .ok (.bipush (-5), 2) := by decide +kernel
theorem dX3_readSum_51 : decode cX3_readSum 51 = .ok (.goto 5, 3) := by decide +kernel
theorem dX3_readSum_54 : decode cX3_readSum 54 = .ok (.bipush (-6), 2) := by decide +kernel
theorem dX3_readSum_56 : decode cX3_readSum 56 = .ok (.istore_n 3, 1) := by decide +kernel
theorem dX3_readSum_57 : decode cX3_readSum 57 = .ok (.aload_n 0, 1) := by decide +kernel
theorem dX3_readSum_58 : decode cX3_readSum 58 = .ok (.invokevirtual 58, 3) := by decide +kernel
theorem dX3_readSum_61 : decode cX3_readSum 61 = .ok (.aload_n 0, 1) := by decide +kernel
theorem dX3_readSum_62 : decode cX3_readSum 62 = .ok (.iload_n 1, 1) := by decide +kernel
theorem dX3_readSum_63 : decode cX3_readSum 63 = .ok (.invokevirtual 140, 3) := by decide +kernel
theorem dX3_readSum_66 : decode cX3_readSum 66 = .ok (.aload_n 0, 1) := by decide +kernel
theorem dX3_readSum_67 : decode cX3_readSum 67 = .ok (.iload_n 3, 1) := by decide +kernel
theorem dX3_readSum_68 : decode cX3_readSum 68 = .ok (.invokevirtual 147, 3) := by decide +kernel
theorem dX3_readSum_71 : decode cX3_readSum 71 = .ok (.iinc 2 1, 3) := by decide +kernel
theorem dX3_readSum_74 : decode cX3_readSum 74 = .ok (.goto (-67), 3) := by decide +kernel
theorem dX3_readSum_77 : decode cX3_readSum 77 = .ok (.return_, 1) := by decide +kernel
theorem dX3_readTerm_0 : decode cX3_readTerm 0 = .ok (.aload_n 0, 1) := by decide +kernel
theorem dX3_readTerm_1 : decode cX3_readTerm 1 = .ok (.iload_n 1, 1) := by decide +kernel
theorem dX3_readTerm_2 : decode cX3_readTerm 2 = .ok (.invokevirtual 150, 3) := by decide +kernel
theorem dX3_readTerm_5 : decode cX3_readTerm 5 = .ok (.iconst 0, 1) := by decide +kernel
theorem dX3_readTerm_6 : decode cX3_readTerm 6 = .ok (.istore_n 2, 1) := by decide +kernel
theorem dX3_readTerm_7 : decode cX3_readTerm 7 = .ok (.iload_n 2, 1) := by decide +kernel
theorem dX3_readTerm_8 : decode cX3_readTerm 8 = .ok (.aload_n 0, 1) := by decide +kernel
theorem dX3_readTerm_9 : decode cX3_readTerm 9 = .ok (.getfield 30, 3) := by decide +kernel
theorem dX3_readTerm_12 : decode cX3_readTerm 12 = .ok (.if_icmp .ge 65, 3) := by decide +kernel
theorem dX3_readTerm_15 : decode cX3_readTerm 15 = .ok (.aload_n 0, 1) := by decide +kernel
theorem dX3_readTerm_16 : decode cX3_readTerm 16 = .ok (.bipush 42, 2) := by decide +kernel
theorem dX3_readTerm_18 : decode cX3_readTerm 18 = .ok (.invokevirtual 143, 3) := by decide +kernel
theorem dX3_readTerm_21 : decode cX3_readTerm 21 = .ok (.ifCond .ne 12, 3) := by decide +kernel
theorem dX3_readTerm_24 : decode cX3_readTerm 24 = .ok (.aload_n 0, 1) := by decide +kernel
theorem dX3_readTerm_25 : decode cX3_readTerm 25 = .ok (.bipush 47, 2) := by decide +kernel
theorem dX3_readTerm_27 : decode cX3_readTerm 27 = .ok (.invokevirtual 143, 3) := by decide +kernel
theorem dX3_readTerm_30 : decode cX3_readTerm 30 = .ok (.ifCond .eq 47, 3) := by decide +kernel
theorem dX3_readTerm_33 : decode cX3_readTerm 33 = .ok (.aload_n 0, 1) := by decide +kernel
theorem dX3_readTerm_34 : decode cX3_readTerm 34 = .ok (.getfield 49, 3) := by decide +kernel
theorem dX3_readTerm_37 : decode cX3_readTerm 37 = .ok (.ifCond .ne 40, 3) := by decide +kernel
theorem dX3_readTerm_40 : decode cX3_readTerm 40 = .ok (.aload_n 0, 1) := by decide +kernel
theorem dX3_readTerm_41 : decode cX3_readTerm 41 = .ok (.bipush 42, 2) := by decide +kernel
theorem dX3_readTerm_43 : decode cX3_readTerm 43 = .ok (.invokevirtual 143, 3) := by decide +kernel
theorem dX3_readTerm_46 : decode cX3_readTerm 46 = .ok (.ifCond .eq 8, 3) := by decide +kernel
theorem dX3_readTerm_49 : decode cX3_readTerm 49 = .ok (.bipush (-7), 2) := by decide +kernel
theorem dX3_readTerm_51 : decode cX3_readTerm 51 = .ok (.goto 5, 3) := by decide +kernel
theorem dX3_readTerm_54 : decode cX3_readTerm 54 = .ok (.bipush (-8), 2) := by decide +kernel
theorem dX3_readTerm_56 : decode cX3_readTerm 56 = .ok (.istore_n 3, 1) := by decide +kernel
theorem dX3_readTerm_57 : decode cX3_readTerm 57 = .ok (.aload_n 0, 1) := by decide +kernel
theorem dX3_readTerm_58 : decode cX3_readTerm 58 = .ok (.invokevirtual 58, 3) := by decide +kernel
theorem dX3_readTerm_61 : decode cX3_readTerm 61 = .ok (.aload_n 0, 1) := by decide +kernel
theorem dX3_readTerm_62 : decode cX3_readTerm 62 = .ok (.iload_n 1, 1) := by decide +kernel
theorem dX3_readTerm_63 : decode cX3_readTerm 63 = .ok (.invokevirtual 150, 3) := by decide +kernel
theorem dX3_readTerm_66 : decode cX3_readTerm 66 = .ok (.aload_n 0, 1) := by decide +kernel
theorem dX3_readTerm_67 : decode cX3_readTerm 67 = .ok (.iload_n 3, 1) := by decide +kernel
theorem dX3_readTerm_68 : decode cX3_readTerm 68 = .ok (.invokevirtual 147, 3) := by decide +kernel
theorem dX3_readTerm_71 : decode cX3_readTerm 71 = .ok (.iinc 2 1, 3) := by decide +kernel
theorem dX3_readTerm_74 : decode cX3_readTerm 74 = .ok (.goto (-67), 3) := by decide +kernel
theorem dX3_readTerm_77 : decode cX3_readTerm 77 = .ok (.return_, 1) := by decide +kernel
theorem dX3_readFactor_0 : decode cX3_readFactor 0 = .ok (.aload_n 0, 1) := by decide +kernel
theorem dX3_readFactor_1 : decode cX3_readFactor 1 = .ok (.getfield 75, 3) := by decide +kernel
theorem dX3_readFactor_4 : decode cX3_readFactor 4 = .ok (.iconst 2, 1) := by decide +kernel
theorem dX3_readFactor_5 : decode cX3_readFactor 5 = .ok (.if_icmp .ne 18, 3) := by decide +kernel
theorem dX3_readFactor_8 : decode cX3_readFactor 8 = .ok (.aload_n 0, 1) := by decide +kernel
theorem dX3_readFactor_9 : decode cX3_readFactor 9 = .ok (.aload_n 0, 1) := by decide +kernel
theorem dX3_readFactor_10 : decode cX3_readFactor 10 = .ok (.iconst 0, 1) := by decide +kernel
theorem dX3_readFactor_11 : decode cX3_readFactor 11 = .ok (.sipush 9999, 3) := by decide +kernel
theorem dX3_readFactor_14 : decode cX3_readFactor 14 = .ok (.invokevirtual 153, 3) := by decide +kernel
theorem dX3_readFactor_17 : decode cX3_readFactor 17 = .ok (.invokevirtual 147, 3) := by decide +kernel
theorem dX3_readFactor_20 : decode cX3_readFactor 20 = .ok (.goto 132, 3) := by decide +kernel
theorem dX3_readFactor_23 : decode cX3_readFactor 23 = .ok (.aload_n 0, 1) := by decide +kernel
theorem dX3_readFactor_24 : decode cX3_readFactor 24 = .ok (.ldc 156, 2) := by decide +kernel
theorem dX3_readFactor_26 : decode cX3_readFactor 26 = .ok (.invokevirtual 63, 3) := by decide +kernel
theorem dX3_readFactor_29 : decode cX3_readFactor 29 = .ok (.ifCond .eq 11, 3) := by decide +kernel
theorem dX3_readFactor_32 : decode cX3_readFactor 32 = .ok (.aload_n 0, 1) := by decide +kernel
theorem dX3_readFactor_33 : decode cX3_readFactor 33 = .ok (.iconst (-1), 1) := by decide +kernel
theorem dX3_readFactor_34 : decode cX3_readFactor 34 = .ok (.invokevirtual 147, 3) := by decide +kernel
theorem dX3_readFactor_37 : decode cX3_readFactor 37 = .ok (.goto 115, 3) := by decide +kernel
theorem dX3_readFactor_40 : decode cX3_readFactor 40 = .ok (.aload_n 0, 1) := by decide +kernel
theorem dX3_readFactor_41 : decode cX3_readFactor 41 = .ok (.ldc 158, 2) := by decide +kernel
theorem dX3_readFactor_43 : decode cX3_readFactor 43 = .ok (.invokevirtual 63, 3) := by decide +kernel
theorem dX3_readFactor_46 : decode cX3_readFactor 46 = .ok (.ifCond .eq 12, 3) := by decide +kernel
theorem dX3_readFactor_49 : decode cX3_readFactor 49 = .ok (.aload_n 0, 1) := by decide +kernel
theorem dX3_readFactor_50 : decode cX3_readFactor 50 = .ok (.bipush (-2), 2) := by decide +kernel
theorem dX3_readFactor_52 : decode cX3_readFactor 52 = .ok (.invokevirtual 147, 3) := by decide +kernel
theorem dX3_readFactor_55 : decode cX3_readFactor 55 = .ok (.goto 97, 3) := by decide +kernel
theorem dX3_readFactor_58 : decode cX3_readFactor 58 = .ok (.aload_n 0, 1) := by decide +kernel
theorem dX3_readFactor_59 : decode cX3_readFactor 59 = .ok (.ldc 160, 2) := by decide +kernel
theorem dX3_readFactor_61 : decode cX3_readFactor 61 = .ok (.invokevirtual 63, 3) := by decide +kernel
theorem dX3_readFactor_64 : decode cX3_readFactor 64 = .ok (.ifCond .eq 12, 3) := by decide +kernel
theorem dX3_readFactor_67 : decode cX3_readFactor 67 = .ok (.aload_n 0, 1) := by decide +kernel
theorem dX3_readFactor_68 : decode cX3_readFactor 68 = .ok (.bipush (-3), 2) := by decide +kernel
theorem dX3_readFactor_70 : decode cX3_readFactor 70 = .ok (.invokevirtual 147, 3) := by decide +kernel
theorem dX3_readFactor_73 : decode cX3_readFactor 73 = .ok (.goto 79, 3) := by decide +kernel
theorem dX3_readFactor_76 : decode cX3_readFactor 76 = .ok (.aload_n 0, 1) := by decide +kernel
theorem dX3_readFactor_77 : decode cX3_readFactor 77 = .ok (.ldc 162, 2) := by decide +kernel
theorem dX3_readFactor_79 : decode cX3_readFactor 79 = .ok (.invokevirtual 63, 3) := by decide +kernel
theorem dX3_readFactor_82 : decode cX3_readFactor 82 = .ok (.ifCond .eq 12, 3) := by decide +kernel
theorem dX3_readFactor_85 : decode cX3_readFactor 85 = .ok (.aload_n 0, 1) := by decide +kernel
theorem dX3_readFactor_86 : decode cX3_readFactor 86 = .ok (.bipush (-4), 2) := by decide +kernel
theorem dX3_readFactor_88 : decode cX3_readFactor 88 = .ok (.invokevirtual 147, 3) := by decide +kernel
theorem dX3_readFactor_91 : decode cX3_readFactor 91 = .ok (.goto 61, 3) := by decide +kernel
theorem dX3_readFactor_94 : decode cX3_readFactor 94 = .ok (.aload_n 0, 1) := by decide +kernel
theorem dX3_readFactor_95 : decode cX3_readFactor 95 = .ok (.bipush 40, 2) := by decide +kernel
theorem dX3_readFactor_97 : decode cX3_readFactor 97 = .ok (.invokevirtual 143, 3) := by decide +kernel
theorem dX3_readFactor_100 : decode cX3_readFactor 100 = .ok (.ifCond .ne 12, 3) := by decide +kernel
theorem dX3_readFactor_103 : decode cX3_readFactor 103 = .ok (.aload_n 0, 1) := by decide +kernel
theorem dX3_readFactor_104 : decode cX3_readFactor 104 = .ok (.bipush (-2), 2) := by decide +kernel
theorem dX3_readFactor_106 : decode cX3_readFactor 106 = .ok (.invokevirtual 67, 3) := by decide +kernel
theorem dX3_readFactor_109 : decode cX3_readFactor 109 = .ok (.goto 43, 3) := by decide +kernel
theorem dX3_readFactor_112 : decode cX3_readFactor 112 = .ok (.iload_n 1, 1) := by decide +kernel
theorem dX3_readFactor_113 : decode cX3_readFactor 113 = .ok (.iconst 4, 1) := by decide +kernel
theorem dX3_readFactor_114 : decode cX3_readFactor 114 = .ok (.if_icmp .lt 12, 3) := by decide +kernel
theorem dX3_readFactor_117 : decode cX3_readFactor 117 = .ok (.aload_n 0, 1) := by decide +kernel
theorem dX3_readFactor_118 : decode cX3_readFactor 118 = .ok (.bipush (-5), 2) := by decide +kernel
theorem dX3_readFactor_120 : decode cX3_readFactor 120 = .ok (.invokevirtual 67, 3) := by decide +kernel
theorem dX3_readFactor_123 : decode cX3_readFactor 123 = .ok (.goto 29, 3) := by decide +kernel
theorem dX3_readFactor_126 : decode cX3_readFactor 126 = .ok (.aload_n 0, 1) := by decide +kernel
theorem dX3_readFactor_127 : decode cX3_readFactor 127 = .ok (.invokevirtual 58, 3) := by decide +kernel
theorem dX3_readFactor_130 : decode cX3_readFactor 130 = .ok (.aload_n 0, 1) := by decide +kernel
theorem dX3_readFactor_131 : decode cX3_readFactor 131 = .ok (.iload_n 1, 1) := by decide +kernel
theorem dX3_readFactor_132 : decode cX3_readFactor 132 = .ok (.iconst 1, 1) := by decide +kernel
theorem dX3_readFactor_133 : decode cX3_readFactor 133 = .ok (.iadd, 1) := by decide +kernel
theorem dX3_readFactor_134 : decode cX3_readFactor 134 = .ok (.invokevirtual 112, 3) := by decide +kernel
theorem dX3_readFactor_137 : decode cX3_readFactor 137 = .ok (.aload_n 0, 1) := by decide +kernel
theorem dX3_readFactor_138 : decode cX3_readFactor 138 = .ok (.bipush 41, 2) := by decide +kernel
theorem dX3_readFactor_140 : decode cX3_readFactor 140 = .ok (.invokevirtual 143, 3) := by decide +kernel
theorem dX3_readFactor_143 : decode cX3_readFactor 143 = .ok (.ifCond .ne 9, 3) := by decide +kernel
theorem dX3_readFactor_146 : decode cX3_readFactor 146 = .ok (.aload_n 0, 1) := by decide +kernel
theorem dX3_readFactor_147 : decode cX3_readFactor 147 = .ok (.bipush (-2), 2) := by decide +kernel
theorem dX3_readFactor_149 : decode cX3_readFactor 149 = .ok (.invokevirtual 67, 3) := by decide +kernel
theorem dX3_readFactor_152 : decode cX3_readFactor 152 = .ok (.aload_n 0, 1) := by decide +kernel
theorem dX3_readFactor_153 : decode cX3_readFactor 153 = .ok (.invokevirtual 58, 3) := by decide +kernel
theorem dX3_readFactor_156 : decode cX3_readFactor 156 = .ok (.return_, 1) := by decide +kernel
theorem dX3_addCode_0 : decode cX3_addCode 0 = .ok (.aload_n 0, 1) := by decide +kernel
theorem dX3_addCode_1 : decode cX3_addCode 1 = .ok (.getfield 36, 3) := by decide +kernel
theorem dX3_addCode_4 : decode cX3_addCode 4 = .ok (.ifCond .lt 35, 3) := by decide +kernel
theorem dX3_addCode_7 : decode cX3_addCode 7 = .ok (.aload_n 0, 1) := by decide +kernel
theorem dX3_addCode_8 : decode cX3_addCode 8 = .ok (.getfield 36, 3) := by decide +kernel
theorem dX3_addCode_11 : decode cX3_addCode 11 = .ok (.aload_n 0, 1) := by decide +kernel
theorem dX3_addCode_12 : decode cX3_addCode 12 = .ok (.getfield 22, 3) := by decide +kernel
theorem dX3_addCode_15 : decode cX3_addCode 15 = .ok (.arraylength, 1) := by decide +kernel
theorem dX3_addCode_16 : decode cX3_addCode 16 = .ok (.if_icmp .ge 23, 3) := by decide +kernel
theorem dX3_addCode_19 : decode cX3_addCode 19 = .ok (.aload_n 0, 1) := by decide +kernel
theorem dX3_addCode_20 : decode cX3_addCode 20 = .ok (.getfield 22, 3) := by decide +kernel
theorem dX3_addCode_23 : decode cX3_addCode 23 = .ok (.aload_n 0, 1) := by decide +kernel
theorem dX3_addCode_24 : decode cX3_addCode 24 = .ok (.getfield 36, 3) := by decide +kernel
theorem dX3_addCode_27 : decode cX3_addCode 27 = .ok (.iload_n 1, 1) := by decide +kernel
theorem dX3_addCode_28 : decode cX3_addCode 28 = .ok (.iastore, 1) := by decide +kernel
theorem dX3_addCode_29 : decode cX3_addCode 29 = .ok (.aload_n 0, 1) := by decide +kernel
theorem dX3_addCode_30 : decode cX3_addCode 30 = .ok (.dup, 1) := by decide +kernel
theorem dX3_addCode_31 : decode cX3_addCode 31 = .ok (.getfield 36, 3) := by decide +kernel
theorem dX3_addCode_34 : decode cX3_addCode 34 = .ok (.iconst 1, 1) := by decide +kernel
theorem dX3_addCode_35 : decode cX3_addCode 35 = .ok (.iadd, 1) := by decide +kernel
theorem dX3_addCode_36 : decode cX3_addCode 36 = .ok (.putfield 36, 3) := by decide +kernel
theorem dX3_addCode_39 : decode cX3_addCode 39 = .ok (.return_, 1) := by decide +kernel
theorem dX3_fail_0 : decode cX3_fail 0 = .ok (.aload_n 0, 1) := by decide +kernel
theorem dX3_fail_1 : decode cX3_fail 1 = .ok (.getfield 49, 3) := by decide +kernel
theorem dX3_fail_4 : decode cX3_fail 4 = .ok (.ifCond .ne 16, 3) := by decide +kernel
theorem dX3_fail_7 : decode cX3_fail 7 = .ok (.aload_n 0, 1) := by decide +kernel
theorem dX3_fail_8 : decode cX3_fail 8 = .ok (.iload_n 1, 1) := by decide +kernel
theorem dX3_fail_9 : decode cX3_fail 9 = .ok (.putfield 49, 3) := by decide +kernel
theorem dX3_fail_12 : decode cX3_fail 12 = .ok (.aload_n 0, 1) := by decide +kernel
theorem dX3_fail_13 : decode cX3_fail 13 = .ok (.aload_n 0, 1) := by decide +kernel
theorem dX3_fail_14 : decode cX3_fail 14 = .ok (.getfield 164, 3) := by decide +kernel
theorem dX3_fail_17 : decode cX3_fail 17 = .ok (.putfield 52, 3) := by decide +kernel
theorem dX3_fail_20 : decode cX3_fail 20 = .ok (.return_, 1) := by decide +kernel
theorem dX3_takeSign_0 : decode cX3_takeSign 0 = .ok (.aload_n 0, 1) := by decide +kernel
theorem dX3_takeSign_1 : decode cX3_takeSign 1 = .ok (.iload_n 1, 1) := by decide +kernel
theorem dX3_takeSign_2 : decode cX3_takeSign 2 = .ok (.invokevirtual 143, 3) := by decide +kernel
theorem dX3_takeSign_5 : decode cX3_takeSign 5 = .ok (.ifCond .ne 9, 3) := by decide +kernel
theorem dX3_takeSign_8 : decode cX3_takeSign 8 = .ok (.aload_n 0, 1) := by decide +kernel
theorem dX3_takeSign_9 : decode cX3_takeSign 9 = .ok (.bipush (-2), 2) := by decide +kernel
theorem dX3_takeSign_11 : decode cX3_takeSign 11 = .ok (.invokevirtual 67, 3) := by decide +kernel
theorem dX3_takeSign_14 : decode cX3_takeSign 14 = .ok (.aload_n 0, 1) := by decide +kernel
theorem dX3_takeSign_15 : decode cX3_takeSign 15 = .ok (.invokevirtual 58, 3) := by decide +kernel
theorem dX3_takeSign_18 : decode cX3_takeSign 18 = .ok (.return_, 1) := by decide +kernel
theorem dX3_takeNumber_0 : decode cX3_takeNumber 0 = .ok (.aload_n 0, 1) := by decide +kernel
theorem dX3_takeNumber_1 : decode cX3_takeNumber 1 = .ok (.iload_n 1, 1) := by decide +kernel
theorem dX3_takeNumber_2 : decode cX3_takeNumber 2 = .ok (.iload_n 2, 1) := by decide +kernel
theorem dX3_takeNumber_3 : decode cX3_takeNumber 3 = .ok (.invokevirtual 153, 3) := by decide +kernel
theorem dX3_takeNumber_6 : decode cX3_takeNumber 6 = .ok (.istore_n 3, 1) := by decide +kernel
theorem dX3_takeNumber_7 : decode cX3_takeNumber 7 = .ok (.aload_n 0, 1) := by decide +kernel
theorem dX3_takeNumber_8 : decode cX3_takeNumber 8 = .ok (.invokevirtual 58, 3) := by decide +kernel
theorem dX3_takeNumber_11 : decode cX3_takeNumber 11 = .ok (.iload_n 3, 1) := by decide +kernel
theorem dX3_takeNumber_12 : decode cX3_takeNumber 12 = .ok (.ireturn, 1) := by decide +kernel
theorem dX3_numberInRange_0 : decode cX3_numberInRange 0 = .ok (.aload_n 0, 1) := by decide +kernel
theorem dX3_numberInRange_1 : decode cX3_numberInRange 1 = .ok (.getfield 75, 3) := by decide +kernel
theorem dX3_numberInRange_4 : decode cX3_numberInRange 4 = .ok (.iconst 2, 1) := by decide +kernel
theorem dX3_numberInRange_5 : decode cX3_numberInRange 5 = .ok (.if_icmp .eq 12, 3) := by decide +kernel
theorem dX3_numberInRange_8 : decode cX3_numberInRange 8 = .ok (.aload_n 0, 1) := by decide +kernel
theorem dX3_numberInRange_9 : decode cX3_numberInRange 9 = .ok (.bipush (-2), 2) := by decide +kernel
theorem dX3_numberInRange_11 : decode cX3_numberInRange 11 = .ok (.invokevirtual 67, 3) := by decide +kernel
theorem dX3_numberInRange_14 : decode cX3_numberInRange 14 = .ok (.goto 25, 3) := by decide +kernel
theorem dX3_numberInRange_17 : decode cX3_numberInRange 17 = .ok (.aload_n 0, 1) := by decide +kernel
theorem dX3_numberInRange_18 : decode cX3_numberInRange 18 = .ok (.getfield 167, 3) := by decide +kernel
theorem dX3_numberInRange_21 : decode cX3_numberInRange 21 = .ok (.iload_n 1, 1) := by decide +kernel
theorem dX3_numberInRange_22 : decode cX3_numberInRange 22 = .ok (.if_icmp .lt 11, 3) := by decide +kernel
theorem dX3_numberInRange_25 : decode cX3_numberInRange 25 = .ok (.aload_n 0, 1) := by decide +kernel
theorem dX3_numberInRange_26 : decode cX3_numberInRange 26 = .ok (.getfield 167, 3) := by decide +kernel
theorem dX3_numberInRange_29 : decode cX3_numberInRange 29 = .ok (.iload_n 2, 1) := by decide +kernel
theorem dX3_numberInRange_30 : decode cX3_numberInRange 30 = .ok (.if_icmp .le 9, 3) := by decide +kernel
theorem dX3_numberInRange_33 : decode cX3_numberInRange 33 = .ok (.aload_n 0, 1) := by decide +kernel
theorem dX3_numberInRange_34 : decode cX3_numberInRange 34 = .ok (.bipush (-3), 2) := by decide +kernel
theorem dX3_numberInRange_36 : decode cX3_numberInRange 36 = .ok (.invokevirtual 67, 3) := by decide +kernel
theorem dX3_numberInRange_39 : decode cX3_numberInRange 39 = .ok (.aload_n 0, 1) := by decide +kernel
theorem dX3_numberInRange_40 : decode cX3_numberInRange 40 = .ok (.getfield 167, 3) := by decide +kernel
theorem dX3_numberInRange_43 : decode cX3_numberInRange 43 = .ok (.ireturn, 1) := by decide +kernel
theorem dX3_atSign_0 : decode cX3_atSign 0 = .ok (.aload_n 0, 1) := by decide +kernel
theorem dX3_atSign_1 : decode cX3_atSign 1 = .ok (.getfield 75, 3) := by decide +kernel
theorem dX3_atSign_4 : decode cX3_atSign 4 = .ok (.iconst 3, 1) := by decide +kernel
theorem dX3_atSign_5 : decode cX3_atSign 5 = .ok (.if_icmp .ne 19, 3) := by decide +kernel
theorem dX3_atSign_8 : decode cX3_atSign 8 = .ok (.aload_n 0, 1) := by decide +kernel
theorem dX3_atSign_9 : decode cX3_atSign 9 = .ok (.aload_n 0, 1) := by decide +kernel
theorem dX3_atSign_10 : decode cX3_atSign 10 = .ok (.getfield 164, 3) := by decide +kernel
theorem dX3_atSign_13 : decode cX3_atSign 13 = .ok (.invokevirtual 170, 3) := by decide +kernel
theorem dX3_atSign_16 : decode cX3_atSign 16 = .ok (.iload_n 1, 1) := by decide +kernel
theorem dX3_atSign_17 : decode cX3_atSign 17 = .ok (.if_icmp .ne 7, 3) := by decide +kernel
theorem dX3_atSign_20 : decode cX3_atSign 20 = .ok (.iconst 1, 1) := by decide +kernel
theorem dX3_atSign_21 : decode cX3_atSign 21 = .ok (.goto 4, 3) := by decide +kernel
theorem dX3_atSign_24 : decode cX3_atSign 24 = .ok (.iconst 0, 1) := by decide +kernel
theorem dX3_atSign_25 : decode cX3_atSign 25 = .ok (.ireturn, 1) := by decide +kernel
theorem dX3_atWord_0 : decode cX3_atWord 0 = .ok (.aload_n 0, 1) := by decide +kernel
theorem dX3_atWord_1 : decode cX3_atWord 1 = .ok (.getfield 75, 3) := by decide +kernel
theorem dX3_atWord_4 : decode cX3_atWord 4 = .ok (.iconst 1, 1) := by decide +kernel
theorem dX3_atWord_5 : decode cX3_atWord 5 = .ok (.if_icmp .ne 19, 3) := by decide +kernel
theorem dX3_atWord_8 : decode cX3_atWord 8 = .ok (.aload_n 0, 1) := by decide +kernel
theorem dX3_atWord_9 : decode cX3_atWord 9 = .ok (.getfield 33, 3) := by decide +kernel
theorem dX3_atWord_12 : decode cX3_atWord 12 = .ok (.aload_n 0, 1) := by decide +kernel
theorem dX3_atWord_13 : decode cX3_atWord 13 = .ok (.getfield 164, 3) := by decide +kernel
theorem dX3_atWord_16 : decode cX3_atWord 16 = .ok (.isub, 1) := by decide +kernel
theorem dX3_atWord_17 : decode cX3_atWord 17 = .ok (.aload_n 1, 1) := by decide +kernel
theorem dX3_atWord_18 : decode cX3_atWord 18 = .ok (.invokevirtual 174, 3) := by decide +kernel
theorem dX3_atWord_21 : decode cX3_atWord 21 = .ok (.if_icmp .eq 5, 3) := by decide +kernel
theorem dX3_atWord_24 : decode cX3_atWord 24 = .ok (.iconst 0, 1) := by decide +kernel
theorem dX3_atWord_25 : decode cX3_atWord 25 = .ok (.ireturn, 1) := by decide +kernel
theorem dX3_atWord_26 : decode cX3_atWord 26 = .ok (.iconst 0, 1) := by decide +kernel
theorem dX3_atWord_27 : decode cX3_atWord 27 = .ok (.istore_n 2, 1) := by decide +kernel
theorem dX3_atWord_28 : decode cX3_atWord 28 = .ok (.iload_n 2, 1) := by decide +kernel
theorem dX3_atWord_29 : decode cX3_atWord 29 = .ok (.aload_n 1, 1) := by decide +kernel
theorem dX3_atWord_30 : decode cX3_atWord 30 = .ok (.invokevirtual 174, 3) := by decide +kernel
theorem dX3_atWord_33 : decode cX3_atWord 33 = .ok (.if_icmp .ge 29, 3) := by decide +kernel
theorem dX3_atWord_36 : decode cX3_atWord 36 = .ok (.aload_n 0, 1) := by decide +kernel
theorem dX3_atWord_37 : decode cX3_atWord 37 = .ok (.aload_n 0, 1) := by decide +kernel
theorem dX3_atWord_38 : decode cX3_atWord 38 = .ok (.getfield 164, 3) := by decide +kernel
theorem dX3_atWord_41 : decode cX3_atWord 41 = .ok (.iload_n 2, 1) := by decide +kernel
theorem dX3_atWord_42 : decode cX3_atWord 42 = .ok (.iadd, 1) := by decide +kernel
theorem dX3_atWord_43 : decode cX3_atWord 43 = .ok (.invokevirtual 170, 3) := by decide +kernel
theorem dX3_atWord_46 : decode cX3_atWord 46 = .ok (.aload_n 1, 1) := by decide +kernel
theorem dX3_atWord_47 : decode cX3_atWord 47 = .ok (.iload_n 2, 1) := by decide +kernel
theorem dX3_atWord_48 : decode cX3_atWord 48 = .ok (.invokevirtual 179, 3) := by decide +kernel
theorem dX3_atWord_51 : decode cX3_atWord 51 = .ok (.if_icmp .eq 5, 3) := by decide +kernel
theorem dX3_atWord_54 : decode cX3_atWord 54 = .ok (.iconst 0, 1) := by decide +kernel
theorem dX3_atWord_55 : decode cX3_atWord 55 = .ok (.ireturn, 1) := by decide +kernel
theorem dX3_atWord_56 : decode cX3_atWord 56 = .ok (.iinc 2 1, 3) := by decide +kernel
theorem dX3_atWord_59 : decode cX3_atWord 59 = .ok (.goto (-31), 3) := by decide +kernel
theorem dX3_atWord_62 : decode cX3_atWord 62 = .ok (.iconst 1, 1) := by decide +kernel
theorem dX3_atWord_63 : decode cX3_atWord 63 = .ok (.ireturn, 1) := by decide +kernel
theorem dX3_nextToken_0 : decode cX3_nextToken 0 = .ok (.aload_n 0, 1) := by decide +kernel
theorem dX3_nextToken_1 : decode cX3_nextToken 1 = .ok (.getfield 33, 3) := by decide +kernel
theorem dX3_nextToken_4 : decode cX3_nextToken 4 = .ok (.aload_n 0, 1) := by decide +kernel
theorem dX3_nextToken_5 : decode cX3_nextToken 5 = .ok (.getfield 30, 3) := by decide +kernel
theorem dX3_nextToken_8 : decode cX3_nextToken 8 = .ok (.if_icmp .ge 29, 3) := by decide +kernel
theorem dX3_nextToken_11 : decode cX3_nextToken 11 = .ok (.aload_n 0, 1) := by decide +kernel
theorem dX3_nextToken_12 : decode cX3_nextToken 12 = .ok (.aload_n 0, 1) := by decide +kernel
theorem dX3_nextToken_13 : decode cX3_nextToken 13 = .ok (.getfield 33, 3) := by decide +kernel
theorem dX3_nextToken_16 : decode cX3_nextToken 16 = .ok (.invokevirtual 170, 3) := by decide +kernel
theorem dX3_nextToken_19 : decode cX3_nextToken 19 = .ok (.bipush 32, 2) := by decide +kernel
theorem dX3_nextToken_21 : decode cX3_nextToken 21 = .ok (.if_icmp .ne 16, 3) := by decide +kernel
theorem dX3_nextToken_24 : decode cX3_nextToken 24 = .ok (.aload_n 0, 1) := by decide +kernel
theorem dX3_nextToken_25 : decode cX3_nextToken 25 = .ok (.dup, 1) := by decide +kernel
theorem dX3_nextToken_26 : decode cX3_nextToken 26 = .ok (.getfield 33, 3) := by decide +kernel
theorem dX3_nextToken_29 : decode cX3_nextToken 29 = .ok (.iconst 1, 1) := by decide +kernel
theorem dX3_nextToken_30 : decode cX3_nextToken 30 = .ok (.iadd, 1) := by decide +kernel
theorem dX3_nextToken_31 : decode cX3_nextToken 31 = .ok (.putfield 33, 3) := by decide +kernel
theorem dX3_nextToken_34 : decode cX3_nextToken 34 = .ok (.goto (-34), 3) := by decide +kernel
theorem dX3_nextToken_37 : decode cX3_nextToken 37 = .ok (.aload_n 0, 1) := by decide +kernel
theorem dX3_nextToken_38 : decode cX3_nextToken 38 = .ok (.aload_n 0, 1) := by decide +kernel
theorem dX3_nextToken_39 : decode cX3_nextToken 39 = .ok (.getfield 33, 3) := by decide +kernel
theorem dX3_nextToken_42 : decode cX3_nextToken 42 = .ok (.putfield 164, 3) := by decide +kernel
theorem dX3_nextToken_45 : decode cX3_nextToken 45 = .ok (.aload_n 0, 1) := by decide +kernel
theorem dX3_nextToken_46 : decode cX3_nextToken 46 = .ok (.aload_n 0, 1) := by decide +kernel
theorem dX3_nextToken_47 : decode cX3_nextToken 47 = .ok (.getfield 33, 3) := by decide +kernel
theorem dX3_nextToken_50 : decode cX3_nextToken 50 = .ok (.invokevirtual 170, 3) := by decide +kernel
theorem dX3_nextToken_53 : decode cX3_nextToken 53 = .ok (.istore_n 1, 1) := by decide +kernel
theorem dX3_nextToken_54 : decode cX3_nextToken 54 = .ok (.iload_n 1, 1) := by decide +kernel
theorem dX3_nextToken_55 : decode cX3_nextToken 55 = .ok (.invokestatic 183, 3) := by decide +kernel
theorem dX3_nextToken_58 : decode cX3_nextToken 58 = .ok (.ifCond .eq 79, 3) := by decide +kernel
theorem dX3_nextToken_61 : decode cX3_nextToken 61 = .ok (.aload_n 0, 1) := by decide +kernel
theorem dX3_nextToken_62 : decode cX3_nextToken 62 = .ok (.iconst 2, 1) := by decide +kernel
theorem dX3_nextToken_63 : decode cX3_nextToken 63 = .ok (.putfield 75, 3) := by decide +kernel
theorem dX3_nextToken_66 : decode cX3_nextToken 66 = .ok (.aload_n 0, 1) := by decide +kernel
theorem dX3_nextToken_67 : decode cX3_nextToken 67 = .ok (.iconst 0, 1) := by decide +kernel
theorem dX3_nextToken_68 : decode cX3_nextToken 68 = .ok (.putfield 167, 3) := by decide +kernel
theorem dX3_nextToken_71 : decode cX3_nextToken 71 = .ok (.aload_n 0, 1) := by decide +kernel
theorem dX3_nextToken_72 : decode cX3_nextToken 72 = .ok (.getfield 33, 3) := by decide +kernel
theorem dX3_nextToken_75 : decode cX3_nextToken 75 = .ok (.aload_n 0, 1) := by decide +kernel
theorem dX3_nextToken_76 : decode cX3_nextToken 76 = .ok (.getfield 30, 3) := by decide +kernel
theorem dX3_nextToken_79 : decode cX3_nextToken 79 = .ok (.if_icmp .ge 142, 3) := by decide +kernel
theorem dX3_nextToken_82 : decode cX3_nextToken 82 = .ok (.aload_n 0, 1) := by decide +kernel
theorem dX3_nextToken_83 : decode cX3_nextToken 83 = .ok (.aload_n 0, 1) := by decide +kernel
theorem dX3_nextToken_84 : decode cX3_nextToken 84 = .ok (.getfield 33, 3) := by decide +kernel
theorem dX3_nextToken_87 : decode cX3_nextToken 87 = .ok (.invokevirtual 170, 3) := by decide +kernel
theorem dX3_nextToken_90 : decode cX3_nextToken 90 = .ok (.invokestatic 183, 3) := by decide +kernel
theorem dX3_nextToken_93 : decode cX3_nextToken 93 = .ok (.ifCond .eq 128, 3) := by decide +kernel
theorem dX3_nextToken_96 : decode cX3_nextToken 96 = .ok (.aload_n 0, 1) := by decide +kernel
theorem dX3_nextToken_97 : decode cX3_nextToken 97 = .ok (.bipush 10, 2) := by decide +kernel
theorem dX3_nextToken_99 : decode cX3_nextToken 99 = .ok (.aload_n 0, 1) := by decide +kernel
theorem dX3_nextToken_100 : decode cX3_nextToken 100 = .ok (.getfield 167, 3) := by decide +kernel
theorem dX3_nextToken_103 : decode cX3_nextToken 103 = .ok (.imul, 1) := by decide +kernel
theorem dX3_nextToken_104 : decode cX3_nextToken 104 = .ok (.aload_n 0, 1) := by decide +kernel
theorem dX3_nextToken_105 : decode cX3_nextToken 105 = .ok (.aload_n 0, 1) := by decide +kernel
theorem dX3_nextToken_106 : decode cX3_nextToken 106 = .ok (.getfield 33, 3) := by decide +kernel
theorem dX3_nextToken_109 : decode cX3_nextToken 109 = .ok (.invokevirtual 170, 3) := by decide +kernel
theorem dX3_nextToken_112 : decode cX3_nextToken 112 = .ok (.iadd, 1) := by decide +kernel
theorem dX3_nextToken_113 : decode cX3_nextToken 113 = .ok (.bipush 48, 2) := by decide +kernel
theorem dX3_nextToken_115 : decode cX3_nextToken 115 = .ok (.isub, 1) := by decide +kernel
theorem dX3_nextToken_116 : decode cX3_nextToken 116 = .ok (.ldc 187, 2) := by decide +kernel
theorem dX3_nextToken_118 : decode cX3_nextToken 118 = .ok (.invokestatic 188, 3) := by decide +kernel
theorem dX3_nextToken_121 : decode cX3_nextToken 121 = .ok (.putfield 167, 3) := by decide +kernel
theorem dX3_nextToken_124 : decode cX3_nextToken 124 = .ok (.aload_n 0, 1) := by decide +kernel
theorem dX3_nextToken_125 : decode cX3_nextToken 125 = .ok (.dup, 1) := by decide +kernel
theorem dX3_nextToken_126 : decode cX3_nextToken 126 = .ok (.getfield 33, 3) := by decide +kernel
theorem dX3_nextToken_129 : decode cX3_nextToken 129 = .ok (.iconst 1, 1) := by decide +kernel
theorem dX3_nextToken_130 : decode cX3_nextToken 130 = .ok (.iadd, 1) := by decide +kernel
theorem dX3_nextToken_131 : decode cX3_nextToken 131 = .ok (.putfield 33, 3) := by decide +kernel
theorem dX3_nextToken_134 : decode cX3_nextToken 134 = .ok (.goto (-63), 3) := by decide +kernel
theorem dX3_nextToken_137 : decode cX3_nextToken 137 = .ok (.iload_n 1, 1) := by decide +kernel
theorem dX3_nextToken_138 : decode cX3_nextToken 138 = .ok (.invokestatic 193, 3) := by decide +kernel
theorem dX3_nextToken_141 : decode cX3_nextToken 141 = .ok (.ifCond .eq 46, 3) := by decide +kernel
theorem dX3_nextToken_144 : decode cX3_nextToken 144 = .ok (.aload_n 0, 1) := by decide +kernel
theorem dX3_nextToken_145 : decode cX3_nextToken 145 = .ok (.iconst 1, 1) := by decide +kernel
theorem dX3_nextToken_146 : decode cX3_nextToken 146 = .ok (.putfield 75, 3) := by decide +kernel
theorem dX3_nextToken_149 : decode cX3_nextToken 149 = .ok (.aload_n 0, 1) := by decide +kernel
theorem dX3_nextToken_150 : decode cX3_nextToken 150 = .ok (.getfield 33, 3) := by decide +kernel
theorem dX3_nextToken_153 : decode cX3_nextToken 153 = .ok (.aload_n 0, 1) := by decide +kernel
theorem dX3_nextToken_154 : decode cX3_nextToken 154 = .ok (.getfield 30, 3) := by decide +kernel
theorem dX3_nextToken_157 : decode cX3_nextToken 157 = .ok (.if_icmp .ge 64, 3) := by decide +kernel
theorem dX3_nextToken_160 : decode cX3_nextToken 160 = .ok (.aload_n 0, 1) := by decide +kernel
theorem dX3_nextToken_161 : decode cX3_nextToken 161 = .ok (.aload_n 0, 1) := by decide +kernel
theorem dX3_nextToken_162 : decode cX3_nextToken 162 = .ok (.getfield 33, 3) := by decide +kernel
theorem dX3_nextToken_165 : decode cX3_nextToken 165 = .ok (.invokevirtual 170, 3) := by decide +kernel
theorem dX3_nextToken_168 : decode cX3_nextToken 168 = .ok (.invokestatic 193, 3) := by decide +kernel
theorem dX3_nextToken_171 : decode cX3_nextToken 171 = .ok (.ifCond .eq 50, 3) := by decide +kernel
theorem dX3_nextToken_174 : decode cX3_nextToken 174 = .ok (.aload_n 0, 1) := by decide +kernel
theorem dX3_nextToken_175 : decode cX3_nextToken 175 = .ok (.dup, 1) := by decide +kernel
theorem dX3_nextToken_176 : decode cX3_nextToken 176 = .ok (.getfield 33, 3) := by decide +kernel
theorem dX3_nextToken_179 : decode cX3_nextToken 179 = .ok (.iconst 1, 1) := by decide +kernel
theorem dX3_nextToken_180 : decode cX3_nextToken 180 = .ok (.iadd, 1) := by decide +kernel
theorem dX3_nextToken_181 : decode cX3_nextToken 181 = .ok (.putfield 33, 3) := by decide +kernel
theorem dX3_nextToken_184 : decode cX3_nextToken 184 = .ok (.goto (-35), 3) := by decide +kernel
theorem dX3_nextToken_187 : decode cX3_nextToken 187 = .ok (.aload_n 0, 1) := by decide +kernel
theorem dX3_nextToken_188 : decode cX3_nextToken 188 = .ok (.getfield 33, 3) := by decide +kernel
theorem dX3_nextToken_191 : decode cX3_nextToken 191 = .ok (.aload_n 0, 1) := by decide +kernel
theorem dX3_nextToken_192 : decode cX3_nextToken 192 = .ok (.getfield 30, 3) := by decide +kernel
theorem dX3_nextToken_195 : decode cX3_nextToken 195 = .ok (.if_icmp .ge 21, 3) := by decide +kernel
theorem dX3_nextToken_198 : decode cX3_nextToken 198 = .ok (.aload_n 0, 1) := by decide +kernel
theorem dX3_nextToken_199 : decode cX3_nextToken 199 = .ok (.iconst 3, 1) := by decide +kernel
theorem dX3_nextToken_200 : decode cX3_nextToken 200 = .ok (.putfield 75, 3) := by decide +kernel
theorem dX3_nextToken_203 : decode cX3_nextToken 203 = .ok (.aload_n 0, 1) := by decide +kernel
theorem dX3_nextToken_204 : decode cX3_nextToken 204 = .ok (.dup, 1) := by decide +kernel
theorem dX3_nextToken_205 : decode cX3_nextToken 205 = .ok (.getfield 33, 3) := by decide +kernel
theorem dX3_nextToken_208 : decode cX3_nextToken 208 = .ok (.iconst 1, 1) := by decide +kernel
theorem dX3_nextToken_209 : decode cX3_nextToken 209 = .ok (.iadd, 1) := by decide +kernel
theorem dX3_nextToken_210 : decode cX3_nextToken 210 = .ok (.putfield 33, 3) := by decide +kernel
theorem dX3_nextToken_213 : decode cX3_nextToken 213 = .ok (.goto 8, 3) := by decide +kernel
theorem dX3_nextToken_216 : decode cX3_nextToken 216 = .ok (.aload_n 0, 1) := by decide +kernel
theorem dX3_nextToken_217 : decode cX3_nextToken 217 = .ok (.iconst 0, 1) := by decide +kernel
theorem dX3_nextToken_218 : decode cX3_nextToken 218 = .ok (.putfield 75, 3) := by decide +kernel
theorem dX3_nextToken_221 : decode cX3_nextToken 221 = .ok (.return_, 1) := by decide +kernel
theorem dX3_byteAt_0 : decode cX3_byteAt 0 = .ok (.iload_n 1, 1) := by decide +kernel
theorem dX3_byteAt_1 : decode cX3_byteAt 1 = .ok (.ifCond .lt 20, 3) := by decide +kernel
theorem dX3_byteAt_4 : decode cX3_byteAt 4 = .ok (.iload_n 1, 1) := by decide +kernel
theorem dX3_byteAt_5 : decode cX3_byteAt 5 = .ok (.aload_n 0, 1) := by decide +kernel
theorem dX3_byteAt_6 : decode cX3_byteAt 6 = .ok (.getfield 30, 3) := by decide +kernel
theorem dX3_byteAt_9 : decode cX3_byteAt 9 = .ok (.if_icmp .ge 12, 3) := by decide +kernel
theorem dX3_byteAt_12 : decode cX3_byteAt 12 = .ok (.iload_n 1, 1) := by decide +kernel
theorem dX3_byteAt_13 : decode cX3_byteAt 13 = .ok (.aload_n 0, 1) := by decide +kernel
theorem dX3_byteAt_14 : decode cX3_byteAt 14 = .ok (.getfield 9, 3) := by decide +kernel
theorem dX3_byteAt_17 : decode cX3_byteAt 17 = .ok (.arraylength, 1) := by decide +kernel
theorem dX3_byteAt_18 : decode cX3_byteAt 18 = .ok (.if_icmp .lt 5, 3) := by decide +kernel
theorem dX3_byteAt_21 : decode cX3_byteAt 21 = .ok (.iconst (-1), 1) := by decide +kernel
theorem dX3_byteAt_22 : decode cX3_byteAt 22 = .ok (.ireturn, 1) := by decide +kernel
theorem dX3_byteAt_23 : decode cX3_byteAt 23 = .ok (.aload_n 0, 1) := by decide +kernel
theorem dX3_byteAt_24 : decode cX3_byteAt 24 = .ok (.getfield 9, 3) := by decide +kernel
theorem dX3_byteAt_27 : decode cX3_byteAt 27 = .ok (.iload_n 1, 1) := by decide +kernel
theorem dX3_byteAt_28 : decode cX3_byteAt 28 = .ok (.baload, 1) := by decide +kernel
theorem dX3_byteAt_29 : decode cX3_byteAt 29 = .ok (.sipush 255, 3) := by decide +kernel
theorem dX3_byteAt_32 : decode cX3_byteAt 32 = .ok (.iand, 1) := by decide +kernel
theorem dX3_byteAt_33 : decode cX3_byteAt 33 = .ok (.ireturn, 1) := by decide +kernel
theorem dX3_isDigit_0 : decode cX3_isDigit 0 = .ok (.iload_n 0, 1) := by decide +kernel
theorem dX3_isDigit_1 : decode cX3_isDigit 1 = .ok (.bipush 48, 2) := by decide +kernel
theorem dX3_isDigit_3 : decode cX3_isDigit 3 = .ok (.if_icmp .lt 13, 3) := by decide +kernel
theorem dX3_isDigit_6 : decode cX3_isDigit 6 = .ok (.iload_n 0, 1) := by decide +kernel
theorem dX3_isDigit_7 : decode cX3_isDigit 7 = .ok (.bipush 57, 2) := by decide +kernel
theorem dX3_isDigit_9 : decode cX3_isDigit 9 = .ok (.if_icmp .gt 7, 3) := by decide +kernel
theorem dX3_isDigit_12 : decode cX3_isDigit 12 = .ok (.iconst 1, 1) := by decide +kernel
theorem dX3_isDigit_13 : decode cX3_isDigit 13 = .ok (.goto 4, 3) := by decide +kernel
theorem dX3_isDigit_16 : decode cX3_isDigit 16 = .ok (.iconst 0, 1) := by decide +kernel
theorem dX3_isDigit_17 : decode cX3_isDigit 17 = .ok (.ireturn, 1) := by decide +kernel
theorem dX3_isLetter_0 : decode cX3_isLetter 0 = .ok (.iload_n 0, 1) := by decide +kernel
theorem dX3_isLetter_1 : decode cX3_isLetter 1 = .ok (.bipush 97, 2) := by decide +kernel
theorem dX3_isLetter_3 : decode cX3_isLetter 3 = .ok (.if_icmp .lt 13, 3) := by decide +kernel
theorem dX3_isLetter_6 : decode cX3_isLetter 6 = .ok (.iload_n 0, 1) := by decide +kernel
theorem dX3_isLetter_7 : decode cX3_isLetter 7 = .ok (.bipush 122, 2) := by decide +kernel
theorem dX3_isLetter_9 : decode cX3_isLetter 9 = .ok (.if_icmp .gt 7, 3) := by decide +kernel
theorem dX3_isLetter_12 : decode cX3_isLetter 12 = .ok (.iconst 1, 1) := by decide +kernel
theorem dX3_isLetter_13 : decode cX3_isLetter 13 = .ok (.goto 4, 3) := by decide +kernel
theorem dX3_isLetter_16 : decode cX3_isLetter 16 = .ok (.iconst 0, 1) := by decide +kernel
theorem dX3_isLetter_17 : decode cX3_isLetter 17 = .ok (.ireturn, 1) := by decide +kernel
theorem dX4_init_0 : decode cX4_init 0 = .ok (.aload_n 0, 1) := by decide +kernel
theorem dX4_init_1 : decode cX4_init 1 = .ok (.invokespecial 3, 3) := by decide +kernel
theorem dX4_init_4 : decode cX4_init 4 = .ok (.aload_n 0, 1) := by decide +kernel
theorem dX4_init_5 : decode cX4_init 5 = .ok (.aload_n 1, 1) := by decide +kernel
theorem dX4_init_6 : decode cX4_init 6 = .ok (.putfield 9, 3) := by decide +kernel
theorem dX4_init_9 : decode cX4_init 9 = .ok (.aload_n 0, 1) := by decide +kernel
theorem dX4_init_10 : decode cX4_init 10 = .ok (.iload_n 2, 1) := by decide +kernel
theorem dX4_init_11 : decode cX4_init 11 = .ok (.putfield 15, 3) := by decide +kernel
theorem dX4_init_14 : decode cX4_init 14 = .ok (.return_, 1) := by decide +kernel
theorem dX4_has_0 : decode cX4_has 0 = .ok (.iload_n 1, 1) := by decide +kernel
theorem dX4_has_1 : decode cX4_has 1 = .ok (.ifCond .lt 15, 3) := by decide +kernel
theorem dX4_has_4 : decode cX4_has 4 = .ok (.iload_n 1, 1) := by decide +kernel
theorem dX4_has_5 : decode cX4_has 5 = .ok (.aload_n 0, 1) := by decide +kernel
theorem dX4_has_6 : decode cX4_has 6 = .ok (.getfield 19, 3) := by decide +kernel
theorem dX4_has_9 : decode cX4_has 9 = .ok (.if_icmp .ge 7, 3) := by decide +kernel
theorem dX4_has_12 : decode cX4_has 12 = .ok (.iconst 1, 1) := by decide +kernel
theorem dX4_has_13 : decode cX4_has 13 = .ok (.goto 4, 3) := by decide +kernel
theorem dX4_has_16 : decode cX4_has 16 = .ok (.iconst 0, 1) := by decide +kernel
theorem dX4_has_17 : decode cX4_has 17 = .ok (.ireturn, 1) := by decide +kernel
theorem dX4_get_0 : decode cX4_get 0 = .ok (.iload_n 1, 1) := by decide +kernel
theorem dX4_get_1 : decode cX4_get 1 = .ok (.aload_n 0, 1) := by decide +kernel
theorem dX4_get_2 : decode cX4_get 2 = .ok (.getfield 15, 3) := by decide +kernel
theorem dX4_get_5 : decode cX4_get 5 = .ok (.imul, 1) := by decide +kernel
theorem dX4_get_6 : decode cX4_get 6 = .ok (.iload_n 2, 1) := by decide +kernel
theorem dX4_get_7 : decode cX4_get 7 = .ok (.iadd, 1) := by decide +kernel
theorem dX4_get_8 : decode cX4_get 8 = .ok (.istore_n 3, 1) := by decide +kernel
theorem dX4_get_9 : decode cX4_get 9 = .ok (.iload_n 1, 1) := by decide +kernel
theorem dX4_get_10 : decode cX4_get 10 = .ok (.ifCond .lt 36, 3) := by decide +kernel
theorem dX4_get_13 : decode cX4_get 13 = .ok (.iload_n 1, 1) := by decide +kernel
theorem dX4_get_14 : decode cX4_get 14 = .ok (.aload_n 0, 1) := by decide +kernel
theorem dX4_get_15 : decode cX4_get 15 = .ok (.getfield 19, 3) := by decide +kernel
theorem dX4_get_18 : decode cX4_get 18 = .ok (.if_icmp .ge 28, 3) := by decide +kernel
theorem dX4_get_21 : decode cX4_get 21 = .ok (.iload_n 2, 1) := by decide +kernel
theorem dX4_get_22 : decode cX4_get 22 = .ok (.ifCond .lt 24, 3) := by decide +kernel
theorem dX4_get_25 : decode cX4_get 25 = .ok (.iload_n 2, 1) := by decide +kernel
theorem dX4_get_26 : decode cX4_get 26 = .ok (.aload_n 0, 1) := by decide +kernel
theorem dX4_get_27 : decode cX4_get 27 = .ok (.getfield 15, 3) := by decide +kernel
theorem dX4_get_30 : decode cX4_get 30 = .ok (.if_icmp .ge 16, 3) := by decide +kernel
theorem dX4_get_33 : decode cX4_get 33 = .ok (.iload_n 3, 1) := by decide +kernel
theorem dX4_get_34 : decode cX4_get 34 = .ok (.ifCond .lt 12, 3) := by decide +kernel
theorem dX4_get_37 : decode cX4_get 37 = .ok (.iload_n 3, 1) := by decide +kernel
theorem dX4_get_38 : decode cX4_get 38 = .ok (.aload_n 0, 1) := by decide +kernel
theorem dX4_get_39 : decode cX4_get 39 = .ok (.getfield 9, 3) := by decide +kernel
theorem dX4_get_42 : decode cX4_get 42 = .ok (.arraylength, 1) := by decide +kernel
theorem dX4_get_43 : decode cX4_get 43 = .ok (.if_icmp .lt 5, 3) := by decide +kernel
theorem dX4_get_46 : decode cX4_get 46 = .ok (.iconst 0, 1) := by decide +kernel
theorem dX4_get_47 : decode cX4_get 47 = .ok (.ireturn, 1) := by decide +kernel
theorem dX4_get_48 : decode cX4_get 48 = .ok (.aload_n 0, 1) := by decide +kernel
theorem dX4_get_49 : decode cX4_get 49 = .ok (.getfield 9, 3) := by decide +kernel
theorem dX4_get_52 : decode cX4_get 52 = .ok (.iload_n 3, 1) := by decide +kernel
theorem dX4_get_53 : decode cX4_get 53 = .ok (.iaload, 1) := by decide +kernel
theorem dX4_get_54 : decode cX4_get 54 = .ok (.ireturn, 1) := by decide +kernel
theorem dX4_set_0 : decode cX4_set 0 = .ok (.iload_n 1, 1) := by decide +kernel
theorem dX4_set_1 : decode cX4_set 1 = .ok (.aload_n 0, 1) := by decide +kernel
theorem dX4_set_2 : decode cX4_set 2 = .ok (.getfield 15, 3) := by decide +kernel
theorem dX4_set_5 : decode cX4_set 5 = .ok (.imul, 1) := by decide +kernel
theorem dX4_set_6 : decode cX4_set 6 = .ok (.iload_n 2, 1) := by decide +kernel
theorem dX4_set_7 : decode cX4_set 7 = .ok (.iadd, 1) := by decide +kernel
theorem dX4_set_8 : decode cX4_set 8 = .ok (.istore 4, 2) := by decide +kernel
theorem dX4_set_10 : decode cX4_set 10 = .ok (.iload_n 1, 1) := by decide +kernel
theorem dX4_set_11 : decode cX4_set 11 = .ok (.ifCond .lt 38, 3) := by decide +kernel
theorem dX4_set_14 : decode cX4_set 14 = .ok (.iload_n 1, 1) := by decide +kernel
theorem dX4_set_15 : decode cX4_set 15 = .ok (.aload_n 0, 1) := by decide +kernel
theorem dX4_set_16 : decode cX4_set 16 = .ok (.getfield 19, 3) := by decide +kernel
theorem dX4_set_19 : decode cX4_set 19 = .ok (.if_icmp .ge 30, 3) := by decide +kernel
theorem dX4_set_22 : decode cX4_set 22 = .ok (.iload_n 2, 1) := by decide +kernel
theorem dX4_set_23 : decode cX4_set 23 = .ok (.ifCond .lt 26, 3) := by decide +kernel
theorem dX4_set_26 : decode cX4_set 26 = .ok (.iload_n 2, 1) := by decide +kernel
theorem dX4_set_27 : decode cX4_set 27 = .ok (.aload_n 0, 1) := by decide +kernel
theorem dX4_set_28 : decode cX4_set 28 = .ok (.getfield 15, 3) := by decide +kernel
theorem dX4_set_31 : decode cX4_set 31 = .ok (.if_icmp .ge 18, 3) := by decide +kernel
theorem dX4_set_34 : decode cX4_set 34 = .ok (.iload 4, 2) := by decide +kernel
theorem dX4_set_36 : decode cX4_set 36 = .ok (.ifCond .lt 13, 3) := by decide +kernel
theorem dX4_set_39 : decode cX4_set 39 = .ok (.iload 4, 2) := by decide +kernel
theorem dX4_set_41 : decode cX4_set 41 = .ok (.aload_n 0, 1) := by decide +kernel
theorem dX4_set_42 : decode cX4_set 42 = .ok (.getfield 9, 3) := by decide +kernel
theorem dX4_set_45 : decode cX4_set 45 = .ok (.arraylength, 1) := by decide +kernel
theorem dX4_set_46 : decode cX4_set 46 = .ok (.if_icmp .lt 4, 3) := by decide +kernel
theorem dX4_set_49 : decode cX4_set 49 = .ok (.return_, 1) := by decide +kernel
theorem dX4_set_50 : decode cX4_set 50 = .ok (.aload_n 0, 1) := by decide +kernel
theorem dX4_set_51 : decode cX4_set 51 = .ok (.getfield 9, 3) := by decide +kernel
theorem dX4_set_54 : decode cX4_set 54 = .ok (.iload 4, 2) := by decide +kernel
theorem dX4_set_56 : decode cX4_set 56 = .ok (.iload_n 3, 1) := by decide +kernel
theorem dX4_set_57 : decode cX4_set 57 = .ok (.iastore, 1) := by decide +kernel
theorem dX4_set_58 : decode cX4_set 58 = .ok (.return_, 1) := by decide +kernel
theorem dX4_addRow_0 : decode cX4_addRow 0 = .ok (.aload_n 0, 1) := by decide +kernel
theorem dX4_addRow_1 : decode cX4_addRow 1 = .ok (.getfield 19, 3) := by decide +kernel
theorem dX4_addRow_4 : decode cX4_addRow 4 = .ok (.istore_n 1, 1) := by decide +kernel
theorem dX4_addRow_5 : decode cX4_addRow 5 = .ok (.iload_n 1, 1) := by decide +kernel
theorem dX4_addRow_6 : decode cX4_addRow 6 = .ok (.iconst 1, 1) := by decide +kernel
theorem dX4_addRow_7 : decode cX4_addRow 7 = .ok (.iadd, 1) := by decide +kernel
theorem dX4_addRow_8 : decode cX4_addRow 8 = .ok (.aload_n 0, 1) := by decide +kernel
theorem dX4_addRow_9 : decode cX4_addRow 9 = .ok (.getfield 15, 3) := by decide +kernel
theorem dX4_addRow_12 : decode cX4_addRow 12 = .ok (.imul, 1) := by decide +kernel
theorem dX4_addRow_13 : decode cX4_addRow 13 = .ok (.aload_n 0, 1) := by decide +kernel
theorem dX4_addRow_14 : decode cX4_addRow 14 = .ok (.getfield 9, 3) := by decide +kernel
theorem dX4_addRow_17 : decode cX4_addRow 17 = .ok (.arraylength, 1) := by decide +kernel
theorem dX4_addRow_18 : decode cX4_addRow 18 = .ok (.if_icmp .le 5, 3) := by decide +kernel
theorem dX4_addRow_21 : decode cX4_addRow 21 = .ok (.iconst (-1), 1) := by decide +kernel
theorem dX4_addRow_22 : decode cX4_addRow 22 = .ok (.ireturn, 1) := by decide +kernel
theorem dX4_addRow_23 : decode cX4_addRow 23 = .ok (.aload_n 0, 1) := by decide +kernel
theorem dX4_addRow_24 : decode cX4_addRow 24 = .ok (.dup, 1) := by decide +kernel
theorem dX4_addRow_25 : decode cX4_addRow 25 = .ok (.getfield 19, 3) := by decide +kernel
theorem dX4_addRow_28 : decode cX4_addRow 28 = .ok (.iconst 1, 1) := by decide +kernel
theorem dX4_addRow_29 : decode cX4_addRow 29 = .ok (.iadd, 1) := by decide +kernel
theorem dX4_addRow_30 : decode cX4_addRow 30 = .ok (.putfield 19, 3) := by decide +kernel
theorem dX4_addRow_33 : decode cX4_addRow 33 = .ok (.iconst 0, 1) := by decide +kernel
theorem dX4_addRow_34 : decode cX4_addRow 34 = .ok (.istore_n 2, 1) := by decide +kernel
theorem dX4_addRow_35 : decode cX4_addRow 35 = .ok (.iload_n 2, 1) := by decide +kernel
theorem dX4_addRow_36 : decode cX4_addRow 36 = .ok (.aload_n 0, 1) := by decide +kernel
theorem dX4_addRow_37 : decode cX4_addRow 37 = .ok (.getfield 15, 3) := by decide +kernel
theorem dX4_addRow_40 : decode cX4_addRow 40 = .ok (.if_icmp .ge 16, 3) := by decide +kernel
theorem dX4_addRow_43 : decode cX4_addRow 43 = .ok (.aload_n 0, 1) := by decide +kernel
theorem dX4_addRow_44 : decode cX4_addRow 44 = .ok (.iload_n 1, 1) := by decide +kernel
theorem dX4_addRow_45 : decode cX4_addRow 45 = .ok (.iload_n 2, 1) := by decide +kernel
theorem dX4_addRow_46 : decode cX4_addRow 46 = .ok (.iconst 0, 1) := by decide +kernel
theorem dX4_addRow_47 : decode cX4_addRow 47 = .ok (.invokevirtual 22, 3) := by decide +kernel
theorem dX4_addRow_50 : decode cX4_addRow 50 = .ok (.iinc 2 1, 3) := by decide +kernel
theorem dX4_addRow_53 : decode cX4_addRow 53 = .ok (.goto (-18), 3) := by decide +kernel
theorem dX4_addRow_56 : decode cX4_addRow 56 = .ok (.iload_n 1, 1) := by decide +kernel
theorem dX4_addRow_57 : decode cX4_addRow 57 = .ok (.ireturn, 1) := by decide +kernel
theorem dX4_clear_0 : decode cX4_clear 0 = .ok (.aload_n 0, 1) := by decide +kernel
theorem dX4_clear_1 : decode cX4_clear 1 = .ok (.iconst 0, 1) := by decide +kernel
theorem dX4_clear_2 : decode cX4_clear 2 = .ok (.putfield 19, 3) := by decide +kernel
theorem dX4_clear_5 : decode cX4_clear 5 = .ok (.return_, 1) := by decide +kernel
theorem dX4_copyFrom_0 : decode cX4_copyFrom 0 = .ok (.aload_n 0, 1) := by decide +kernel
theorem dX4_copyFrom_1 : decode cX4_copyFrom 1 = .ok (.aload_n 1, 1) := by decide +kernel
theorem dX4_copyFrom_2 : decode cX4_copyFrom 2 = .ok (.getfield 19, 3) := by decide +kernel
theorem dX4_copyFrom_5 : decode cX4_copyFrom 5 = .ok (.putfield 19, 3) := by decide +kernel
theorem dX4_copyFrom_8 : decode cX4_copyFrom 8 = .ok (.iconst 0, 1) := by decide +kernel
theorem dX4_copyFrom_9 : decode cX4_copyFrom 9 = .ok (.istore_n 2, 1) := by decide +kernel
theorem dX4_copyFrom_10 : decode cX4_copyFrom 10 = .ok (.iload_n 2, 1) := by decide +kernel
theorem dX4_copyFrom_11 : decode cX4_copyFrom 11 = .ok (.aload_n 0, 1) := by decide +kernel
theorem dX4_copyFrom_12 : decode cX4_copyFrom 12 = .ok (.getfield 9, 3) := by decide +kernel
theorem dX4_copyFrom_15 : decode cX4_copyFrom 15 = .ok (.arraylength, 1) := by decide +kernel
theorem dX4_copyFrom_16 : decode cX4_copyFrom 16 = .ok (.if_icmp .ge 43, 3) := by decide +kernel
theorem dX4_copyFrom_19 : decode cX4_copyFrom 19 = .ok (.iload_n 2, 1) := by decide +kernel
theorem dX4_copyFrom_20 : decode cX4_copyFrom 20 = .ok (.aload_n 1, 1) := by decide +kernel
theorem dX4_copyFrom_21 : decode cX4_copyFrom 21 = .ok (.getfield 9, 3) := by decide +kernel
theorem dX4_copyFrom_24 : decode cX4_copyFrom 24 = .ok (.arraylength, 1) := by decide +kernel
theorem dX4_copyFrom_25 : decode cX4_copyFrom 25 = .ok (.if_icmp .ge 34, 3) := by decide +kernel
theorem dX4_copyFrom_28 : decode cX4_copyFrom 28 = .ok (.iload_n 2, 1) := by decide +kernel
theorem dX4_copyFrom_29 : decode cX4_copyFrom 29 = .ok (.aload_n 0, 1) := by decide +kernel
theorem dX4_copyFrom_30 : decode cX4_copyFrom 30 = .ok (.getfield 19, 3) := by decide +kernel
theorem dX4_copyFrom_33 : decode cX4_copyFrom 33 = .ok (.aload_n 0, 1) := by decide +kernel
theorem dX4_copyFrom_34 : decode cX4_copyFrom 34 = .ok (.getfield 15, 3) := by decide +kernel
theorem dX4_copyFrom_37 : decode cX4_copyFrom 37 = .ok (.imul, 1) := by decide +kernel
theorem dX4_copyFrom_38 : decode cX4_copyFrom 38 = .ok (.if_icmp .ge 21, 3) := by decide +kernel
theorem dX4_copyFrom_41 : decode cX4_copyFrom 41 = .ok (.aload_n 0, 1) := by decide +kernel
theorem dX4_copyFrom_42 : decode cX4_copyFrom 42 = .ok (.getfield 9, 3) := by decide +kernel
theorem dX4_copyFrom_45 : decode cX4_copyFrom 45 = .ok (.iload_n 2, 1) := by decide +kernel
theorem dX4_copyFrom_46 : decode cX4_copyFrom 46 = .ok (.aload_n 1, 1) := by decide +kernel
theorem dX4_copyFrom_47 : decode cX4_copyFrom 47 = .ok (.getfield 9, 3) := by decide +kernel
theorem dX4_copyFrom_50 : decode cX4_copyFrom 50 = .ok (.iload_n 2, 1) := by decide +kernel
theorem dX4_copyFrom_51 : decode cX4_copyFrom 51 = .ok (.iaload, 1) := by decide +kernel
theorem dX4_copyFrom_52 : decode cX4_copyFrom 52 = .ok (.iastore, 1) := by decide +kernel
theorem dX4_copyFrom_53 : decode cX4_copyFrom 53 = .ok (.iinc 2 1, 3) := by decide +kernel
theorem dX4_copyFrom_56 : decode cX4_copyFrom 56 = .ok (.goto (-46), 3) := by decide +kernel
theorem dX4_copyFrom_59 : decode cX4_copyFrom 59 = .ok (.return_, 1) := by decide +kernel
theorem dX5_init_0 : decode cX5_init 0 = .ok (.aload_n 0, 1) := by decide +kernel
theorem dX5_init_1 : decode cX5_init 1 = .ok (.invokespecial 1, 3) := by decide +kernel
theorem dX5_init_4 : decode cX5_init 4 = .ok (.aload_n 0, 1) := by decide +kernel
theorem dX5_init_5 : decode cX5_init 5 = .ok (.new 7, 3) := by decide +kernel
theorem dX5_init_8 : decode cX5_init 8 = .ok (.dup, 1) := by decide +kernel
theorem dX5_init_9 : decode cX5_init 9 = .ok (.invokespecial 9, 3) := by decide +kernel
theorem dX5_init_12 : decode cX5_init 12 = .ok (.putfield 10, 3) := by decide +kernel
theorem dX5_init_15 : decode cX5_init 15 = .ok (.aload_n 0, 1) := by decide +kernel
theorem dX5_init_16 : decode cX5_init 16 = .ok (.new 7, 3) := by decide +kernel
theorem dX5_init_19 : decode cX5_init 19 = .ok (.dup, 1) := by decide +kernel
theorem dX5_init_20 : decode cX5_init 20 = .ok (.invokespecial 9, 3) := by decide +kernel
theorem dX5_init_23 : decode cX5_init 23 = .ok (.putfield 16, 3) := by decide +kernel
theorem dX5_init_26 : decode cX5_init 26 = .ok (.aload_n 0, 1) := by decide +kernel
theorem dX5_init_27 : decode cX5_init 27 = .ok (.new 19, 3) := by decide +kernel
theorem dX5_init_30 : decode cX5_init 30 = .ok (.dup, 1) := by decide +kernel
theorem dX5_init_31 : decode cX5_init 31 = .ok (.invokespecial 21, 3) := by decide +kernel
theorem dX5_init_34 : decode cX5_init 34 = .ok (.putfield 22, 3) := by decide +kernel
theorem dX5_init_37 : decode cX5_init 37 = .ok (.aload_n 0, 1) := by decide +kernel
theorem dX5_init_38 : decode cX5_init 38 = .ok (.new 26, 3) := by decide +kernel
theorem dX5_init_41 : decode cX5_init 41 = .ok (.dup, 1) := by decide +kernel
theorem dX5_init_42 : decode cX5_init 42 = .ok (.invokespecial 28, 3) := by decide +kernel
theorem dX5_init_45 : decode cX5_init 45 = .ok (.putfield 29, 3) := by decide +kernel
theorem dX5_init_48 : decode cX5_init 48 = .ok (.aload_n 0, 1) := by decide +kernel
theorem dX5_init_49 : decode cX5_init 49 = .ok (.iconst (-1), 1) := by decide +kernel
theorem dX5_init_50 : decode cX5_init 50 = .ok (.putfield 33, 3) := by decide +kernel
theorem dX5_init_53 : decode cX5_init 53 = .ok (.return_, 1) := by decide +kernel
theorem dX5_append_0 : decode cX5_append 0 = .ok (.aload_n 0, 1) := by decide +kernel
theorem dX5_append_1 : decode cX5_append 1 = .ok (.getfield 29, 3) := by decide +kernel
theorem dX5_append_4 : decode cX5_append 4 = .ok (.bipush 20, 2) := by decide +kernel
theorem dX5_append_6 : decode cX5_append 6 = .ok (.invokevirtual 37, 3) := by decide +kernel
theorem dX5_append_9 : decode cX5_append 9 = .ok (.ifCond .ne 5, 3) := by decide +kernel
theorem dX5_append_12 : decode cX5_append 12 = .ok (.iconst (-1), 1) := by decide +kernel
theorem dX5_append_13 : decode cX5_append 13 = .ok (.ireturn, 1) := by decide +kernel
theorem dX5_append_14 : decode cX5_append 14 = .ok (.aload_n 0, 1) := by decide +kernel
theorem dX5_append_15 : decode cX5_append 15 = .ok (.getfield 29, 3) := by decide +kernel
theorem dX5_append_18 : decode cX5_append 18 = .ok (.iload_n 1, 1) := by decide +kernel
theorem dX5_append_19 : decode cX5_append 19 = .ok (.invokevirtual 41, 3) := by decide +kernel
theorem dX5_append_22 : decode cX5_append 22 = .ok (.aload_n 0, 1) := by decide +kernel
theorem dX5_append_23 : decode cX5_append 23 = .ok (.getfield 29, 3) := by decide +kernel
theorem dX5_append_26 : decode cX5_append 26 = .ok (.iload_n 2, 1) := by decide +kernel
theorem dX5_append_27 : decode cX5_append 27 = .ok (.invokevirtual 41, 3) := by decide +kernel
theorem dX5_append_30 : decode cX5_append 30 = .ok (.aload_n 0, 1) := by decide +kernel
theorem dX5_append_31 : decode cX5_append 31 = .ok (.getfield 29, 3) := by decide +kernel
theorem dX5_append_34 : decode cX5_append 34 = .ok (.iload_n 3, 1) := by decide +kernel
theorem dX5_append_35 : decode cX5_append 35 = .ok (.invokevirtual 41, 3) := by decide +kernel
theorem dX5_append_38 : decode cX5_append 38 = .ok (.aload_n 0, 1) := by decide +kernel
theorem dX5_append_39 : decode cX5_append 39 = .ok (.getfield 29, 3) := by decide +kernel
theorem dX5_append_42 : decode cX5_append 42 = .ok (.iload 4, 2) := by decide +kernel
theorem dX5_append_44 : decode cX5_append 44 = .ok (.invokevirtual 41, 3) := by decide +kernel
theorem dX5_append_47 : decode cX5_append 47 = .ok (.aload_n 0, 1) := by decide +kernel
theorem dX5_append_48 : decode cX5_append 48 = .ok (.getfield 29, 3) := by decide +kernel
theorem dX5_append_51 : decode cX5_append 51 = .ok (.iload 5, 2) := by decide +kernel
theorem dX5_append_53 : decode cX5_append 53 = .ok (.invokevirtual 41, 3) := by decide +kernel
theorem dX5_append_56 : decode cX5_append 56 = .ok (.aload_n 0, 1) := by decide +kernel
theorem dX5_append_57 : decode cX5_append 57 = .ok (.getfield 29, 3) := by decide +kernel
theorem dX5_append_60 : decode cX5_append 60 = .ok (.getfield 45, 3) := by decide +kernel
theorem dX5_append_63 : decode cX5_append 63 = .ok (.ireturn, 1) := by decide +kernel
theorem dX5_load_0 : decode cX5_load 0 = .ok (.iload_n 1, 1) := by decide +kernel
theorem dX5_load_1 : decode cX5_load 1 = .ok (.iconst 0, 1) := by decide +kernel
theorem dX5_load_2 : decode cX5_load 2 = .ok (.aload_n 0, 1) := by decide +kernel
theorem dX5_load_3 : decode cX5_load 3 = .ok (.getfield 29, 3) := by decide +kernel
theorem dX5_load_6 : decode cX5_load 6 = .ok (.getfield 45, 3) := by decide +kernel
theorem dX5_load_9 : decode cX5_load 9 = .ok (.invokestatic 48, 3) := by decide +kernel
theorem dX5_load_12 : decode cX5_load 12 = .ok (.aload_n 0, 1) := by decide +kernel
theorem dX5_load_13 : decode cX5_load 13 = .ok (.getfield 29, 3) := by decide +kernel
theorem dX5_load_16 : decode cX5_load 16 = .ok (.iload_n 1, 1) := by decide +kernel
theorem dX5_load_17 : decode cX5_load 17 = .ok (.invokevirtual 52, 3) := by decide +kernel
theorem dX5_load_20 : decode cX5_load 20 = .ok (.istore_n 2, 1) := by decide +kernel
theorem dX5_load_21 : decode cX5_load 21 = .ok (.aload_n 0, 1) := by decide +kernel
theorem dX5_load_22 : decode cX5_load 22 = .ok (.aload_n 0, 1) := by decide +kernel
theorem dX5_load_23 : decode cX5_load 23 = .ok (.getfield 29, 3) := by decide +kernel
theorem dX5_load_26 : decode cX5_load 26 = .ok (.getfield 56, 3) := by decide +kernel
theorem dX5_load_29 : decode cX5_load 29 = .ok (.putfield 33, 3) := by decide +kernel
theorem dX5_load_32 : decode cX5_load 32 = .ok (.iload_n 2, 1) := by decide +kernel
theorem dX5_load_33 : decode cX5_load 33 = .ok (.ifCond .eq 5, 3) := by decide +kernel
theorem dX5_load_36 : decode cX5_load 36 = .ok (.iload_n 2, 1) := by decide +kernel
theorem dX5_load_37 : decode cX5_load 37 = .ok (.ireturn, 1) := by decide +kernel
theorem dX5_load_38 : decode cX5_load 38 = .ok (.aload_n 0, 1) := by decide +kernel
theorem dX5_load_39 : decode cX5_load 39 = .ok (.getfield 22, 3) := by decide +kernel
theorem dX5_load_42 : decode cX5_load 42 = .ok (.aload_n 0, 1) := by decide +kernel
theorem dX5_load_43 : decode cX5_load 43 = .ok (.getfield 10, 3) := by decide +kernel
theorem dX5_load_46 : decode cX5_load 46 = .ok (.invokevirtual 59, 3) := by decide +kernel
theorem dX5_load_49 : decode cX5_load 49 = .ok (.aload_n 0, 1) := by decide +kernel
theorem dX5_load_50 : decode cX5_load 50 = .ok (.getfield 10, 3) := by decide +kernel
theorem dX5_load_53 : decode cX5_load 53 = .ok (.aload_n 0, 1) := by decide +kernel
theorem dX5_load_54 : decode cX5_load 54 = .ok (.getfield 29, 3) := by decide +kernel
theorem dX5_load_57 : decode cX5_load 57 = .ok (.getfield 63, 3) := by decide +kernel
theorem dX5_load_60 : decode cX5_load 60 = .ok (.invokevirtual 66, 3) := by decide +kernel
theorem dX5_load_63 : decode cX5_load 63 = .ok (.aload_n 0, 1) := by decide +kernel
theorem dX5_load_64 : decode cX5_load 64 = .ok (.getfield 10, 3) := by decide +kernel
theorem dX5_load_67 : decode cX5_load 67 = .ok (.getfield 69, 3) := by decide +kernel
theorem dX5_load_70 : decode cX5_load 70 = .ok (.getfield 73, 3) := by decide +kernel
theorem dX5_load_73 : decode cX5_load 73 = .ok (.ireturn, 1) := by decide +kernel
theorem dX5_errorOffset_0 : decode cX5_errorOffset 0 = .ok (.aload_n 0, 1) := by decide +kernel
theorem dX5_errorOffset_1 : decode cX5_errorOffset 1 = .ok (.getfield 33, 3) := by decide +kernel
theorem dX5_errorOffset_4 : decode cX5_errorOffset 4 = .ok (.ireturn, 1) := by decide +kernel
theorem dX5_time_0 : decode cX5_time 0 = .ok (.aload_n 0, 1) := by decide +kernel
theorem dX5_time_1 : decode cX5_time 1 = .ok (.getfield 10, 3) := by decide +kernel
theorem dX5_time_4 : decode cX5_time 4 = .ok (.getfield 78, 3) := by decide +kernel
theorem dX5_time_7 : decode cX5_time 7 = .ok (.ireturn, 1) := by decide +kernel
theorem dX5_count_0 : decode cX5_count 0 = .ok (.iload_n 1, 1) := by decide +kernel
theorem dX5_count_1 : decode cX5_count 1 = .ok (.tableswitch 122 0 7 #[47, 58, 69, 80, 89, 98, 106, 114], 47) := by decide +kernel
theorem dX5_count_48 : decode cX5_count 48 = .ok (.aload_n 0, 1) := by decide +kernel
theorem dX5_count_49 : decode cX5_count 49 = .ok (.getfield 10, 3) := by decide +kernel
theorem dX5_count_52 : decode cX5_count 52 = .ok (.getfield 69, 3) := by decide +kernel
theorem dX5_count_55 : decode cX5_count 55 = .ok (.getfield 73, 3) := by decide +kernel
theorem dX5_count_58 : decode cX5_count 58 = .ok (.ireturn, 1) := by decide +kernel
theorem dX5_count_59 : decode cX5_count 59 = .ok (.aload_n 0, 1) := by decide +kernel
theorem dX5_count_60 : decode cX5_count 60 = .ok (.getfield 10, 3) := by decide +kernel
theorem dX5_count_63 : decode cX5_count 63 = .ok (.getfield 81, 3) := by decide +kernel
theorem dX5_count_66 : decode cX5_count 66 = .ok (.getfield 73, 3) := by decide +kernel
theorem dX5_count_69 : decode cX5_count 69 = .ok (.ireturn, 1) := by decide +kernel
theorem dX5_count_70 : decode cX5_count 70 = .ok (.aload_n 0, 1) := by decide +kernel
theorem dX5_count_71 : decode cX5_count 71 = .ok (.getfield 10, 3) := by decide +kernel
theorem dX5_count_74 : decode cX5_count 74 = .ok (.getfield 84, 3) := by decide +kernel
theorem dX5_count_77 : decode cX5_count 77 = .ok (.getfield 73, 3) := by decide +kernel
theorem dX5_count_80 : decode cX5_count 80 = .ok (.ireturn, 1) := by decide +kernel
theorem dX5_count_81 : decode cX5_count 81 = .ok (.aload_n 0, 1) := by decide +kernel
theorem dX5_count_82 : decode cX5_count 82 = .ok (.getfield 10, 3) := by decide +kernel
theorem dX5_count_85 : decode cX5_count 85 = .ok (.iconst 1, 1) := by decide +kernel
theorem dX5_count_86 : decode cX5_count 86 = .ok (.invokevirtual 87, 3) := by decide +kernel
theorem dX5_count_89 : decode cX5_count 89 = .ok (.ireturn, 1) := by decide +kernel
theorem dX5_count_90 : decode cX5_count 90 = .ok (.aload_n 0, 1) := by decide +kernel
theorem dX5_count_91 : decode cX5_count 91 = .ok (.getfield 10, 3) := by decide +kernel
theorem dX5_count_94 : decode cX5_count 94 = .ok (.iconst 0, 1) := by decide +kernel
theorem dX5_count_95 : decode cX5_count 95 = .ok (.invokevirtual 87, 3) := by decide +kernel
theorem dX5_count_98 : decode cX5_count 98 = .ok (.ireturn, 1) := by decide +kernel
theorem dX5_count_99 : decode cX5_count 99 = .ok (.aload_n 0, 1) := by decide +kernel
theorem dX5_count_100 : decode cX5_count 100 = .ok (.getfield 10, 3) := by decide +kernel
theorem dX5_count_103 : decode cX5_count 103 = .ok (.getfield 90, 3) := by decide +kernel
theorem dX5_count_106 : decode cX5_count 106 = .ok (.ireturn, 1) := by decide +kernel
theorem dX5_count_107 : decode cX5_count 107 = .ok (.aload_n 0, 1) := by decide +kernel
theorem dX5_count_108 : decode cX5_count 108 = .ok (.getfield 10, 3) := by decide +kernel
theorem dX5_count_111 : decode cX5_count 111 = .ok (.getfield 93, 3) := by decide +kernel
theorem dX5_count_114 : decode cX5_count 114 = .ok (.ireturn, 1) := by decide +kernel
theorem dX5_count_115 : decode cX5_count 115 = .ok (.aload_n 0, 1) := by decide +kernel
theorem dX5_count_116 : decode cX5_count 116 = .ok (.getfield 10, 3) := by decide +kernel
theorem dX5_count_119 : decode cX5_count 119 = .ok (.getfield 96, 3) := by decide +kernel
theorem dX5_count_122 : decode cX5_count 122 = .ok (.ireturn, 1) := by decide +kernel
theorem dX5_count_123 : decode cX5_count 123 = .ok (.new 99, 3) := by decide +kernel
theorem dX5_count_126 : decode cX5_count 126 = .ok (.dup, 1) := by decide +kernel
theorem dX5_count_127 : decode cX5_count 127 = .ok (.ldc 101, 2) := by decide +kernel
theorem dX5_count_129 : decode cX5_count 129 = .ok (.invokespecial 103, 3) := by decide +kernel
theorem dX5_count_132 : decode cX5_count 132 = .ok (.athrow, 1) := by decide +kernel
theorem dX5_party_0 : decode cX5_party 0 = .ok (.aload_n 0, 1) := by decide +kernel
theorem dX5_party_1 : decode cX5_party 1 = .ok (.iload_n 1, 1) := by decide +kernel
theorem dX5_party_2 : decode cX5_party 2 = .ok (.invokevirtual 106, 3) := by decide +kernel
theorem dX5_party_5 : decode cX5_party 5 = .ok (.iload_n 2, 1) := by decide +kernel
theorem dX5_party_6 : decode cX5_party 6 = .ok (.iconst 0, 1) := by decide +kernel
theorem dX5_party_7 : decode cX5_party 7 = .ok (.iconst 5, 1) := by decide +kernel
theorem dX5_party_8 : decode cX5_party 8 = .ok (.invokestatic 48, 3) := by decide +kernel
theorem dX5_party_11 : decode cX5_party 11 = .ok (.iload_n 2, 1) := by decide +kernel
theorem dX5_party_12 : decode cX5_party 12 = .ok (.tableswitch 64 3 5 #[28, 45, 55], 28) := by decide +kernel
theorem dX5_party_40 : decode cX5_party 40 = .ok (.aload_n 0, 1) := by decide +kernel
theorem dX5_party_41 : decode cX5_party 41 = .ok (.getfield 10, 3) := by decide +kernel
theorem dX5_party_44 : decode cX5_party 44 = .ok (.iload_n 1, 1) := by decide +kernel
theorem dX5_party_45 : decode cX5_party 45 = .ok (.invokevirtual 109, 3) := by decide +kernel
theorem dX5_party_48 : decode cX5_party 48 = .ok (.ifCond .eq 7, 3) := by decide +kernel
theorem dX5_party_51 : decode cX5_party 51 = .ok (.iconst 1, 1) := by decide +kernel
theorem dX5_party_52 : decode cX5_party 52 = .ok (.goto 4, 3) := by decide +kernel
theorem dX5_party_55 : decode cX5_party 55 = .ok (.iconst 0, 1) := by decide +kernel
theorem dX5_party_56 : decode cX5_party 56 = .ok (.ireturn, 1) := by decide +kernel
theorem dX5_party_57 : decode cX5_party 57 = .ok (.aload_n 0, 1) := by decide +kernel
theorem dX5_party_58 : decode cX5_party 58 = .ok (.getfield 10, 3) := by decide +kernel
theorem dX5_party_61 : decode cX5_party 61 = .ok (.iload_n 1, 1) := by decide +kernel
theorem dX5_party_62 : decode cX5_party 62 = .ok (.iconst 1, 1) := by decide +kernel
theorem dX5_party_63 : decode cX5_party 63 = .ok (.invokevirtual 112, 3) := by decide +kernel
theorem dX5_party_66 : decode cX5_party 66 = .ok (.ireturn, 1) := by decide +kernel
theorem dX5_party_67 : decode cX5_party 67 = .ok (.aload_n 0, 1) := by decide +kernel
theorem dX5_party_68 : decode cX5_party 68 = .ok (.getfield 10, 3) := by decide +kernel
theorem dX5_party_71 : decode cX5_party 71 = .ok (.iload_n 1, 1) := by decide +kernel
theorem dX5_party_72 : decode cX5_party 72 = .ok (.invokevirtual 116, 3) := by decide +kernel
theorem dX5_party_75 : decode cX5_party 75 = .ok (.ireturn, 1) := by decide +kernel
theorem dX5_party_76 : decode cX5_party 76 = .ok (.aload_n 0, 1) := by decide +kernel
theorem dX5_party_77 : decode cX5_party 77 = .ok (.getfield 10, 3) := by decide +kernel
theorem dX5_party_80 : decode cX5_party 80 = .ok (.getfield 69, 3) := by decide +kernel
theorem dX5_party_83 : decode cX5_party 83 = .ok (.iload_n 1, 1) := by decide +kernel
theorem dX5_party_84 : decode cX5_party 84 = .ok (.iload_n 2, 1) := by decide +kernel
theorem dX5_party_85 : decode cX5_party 85 = .ok (.invokevirtual 119, 3) := by decide +kernel
theorem dX5_party_88 : decode cX5_party 88 = .ok (.ireturn, 1) := by decide +kernel
theorem dX5_call_0 : decode cX5_call 0 = .ok (.aload_n 0, 1) := by decide +kernel
theorem dX5_call_1 : decode cX5_call 1 = .ok (.iload_n 1, 1) := by decide +kernel
theorem dX5_call_2 : decode cX5_call 2 = .ok (.invokevirtual 122, 3) := by decide +kernel
theorem dX5_call_5 : decode cX5_call 5 = .ok (.iload_n 2, 1) := by decide +kernel
theorem dX5_call_6 : decode cX5_call 6 = .ok (.iconst 0, 1) := by decide +kernel
theorem dX5_call_7 : decode cX5_call 7 = .ok (.iconst 5, 1) := by decide +kernel
theorem dX5_call_8 : decode cX5_call 8 = .ok (.invokestatic 48, 3) := by decide +kernel
theorem dX5_call_11 : decode cX5_call 11 = .ok (.iload_n 2, 1) := by decide +kernel
theorem dX5_call_12 : decode cX5_call 12 = .ok (.iconst 4, 1) := by decide +kernel
theorem dX5_call_13 : decode cX5_call 13 = .ok (.if_icmp .ne 20, 3) := by decide +kernel
theorem dX5_call_16 : decode cX5_call 16 = .ok (.aload_n 0, 1) := by decide +kernel
theorem dX5_call_17 : decode cX5_call 17 = .ok (.getfield 10, 3) := by decide +kernel
theorem dX5_call_20 : decode cX5_call 20 = .ok (.iload_n 1, 1) := by decide +kernel
theorem dX5_call_21 : decode cX5_call 21 = .ok (.invokevirtual 125, 3) := by decide +kernel
theorem dX5_call_24 : decode cX5_call 24 = .ok (.ifCond .eq 7, 3) := by decide +kernel
theorem dX5_call_27 : decode cX5_call 27 = .ok (.iconst 1, 1) := by decide +kernel
theorem dX5_call_28 : decode cX5_call 28 = .ok (.goto 4, 3) := by decide +kernel
theorem dX5_call_31 : decode cX5_call 31 = .ok (.iconst 0, 1) := by decide +kernel
theorem dX5_call_32 : decode cX5_call 32 = .ok (.ireturn, 1) := by decide +kernel
theorem dX5_call_33 : decode cX5_call 33 = .ok (.aload_n 0, 1) := by decide +kernel
theorem dX5_call_34 : decode cX5_call 34 = .ok (.getfield 10, 3) := by decide +kernel
theorem dX5_call_37 : decode cX5_call 37 = .ok (.getfield 81, 3) := by decide +kernel
theorem dX5_call_40 : decode cX5_call 40 = .ok (.iload_n 1, 1) := by decide +kernel
theorem dX5_call_41 : decode cX5_call 41 = .ok (.iload_n 2, 1) := by decide +kernel
theorem dX5_call_42 : decode cX5_call 42 = .ok (.invokevirtual 119, 3) := by decide +kernel
theorem dX5_call_45 : decode cX5_call 45 = .ok (.ireturn, 1) := by decide +kernel
theorem dX5_leg_0 : decode cX5_leg 0 = .ok (.aload_n 0, 1) := by decide +kernel
theorem dX5_leg_1 : decode cX5_leg 1 = .ok (.iload_n 1, 1) := by decide +kernel
theorem dX5_leg_2 : decode cX5_leg 2 = .ok (.invokevirtual 128, 3) := by decide +kernel
theorem dX5_leg_5 : decode cX5_leg 5 = .ok (.iload_n 2, 1) := by decide +kernel
theorem dX5_leg_6 : decode cX5_leg 6 = .ok (.iconst 0, 1) := by decide +kernel
theorem dX5_leg_7 : decode cX5_leg 7 = .ok (.iconst 5, 1) := by decide +kernel
theorem dX5_leg_8 : decode cX5_leg 8 = .ok (.invokestatic 48, 3) := by decide +kernel
theorem dX5_leg_11 : decode cX5_leg 11 = .ok (.aload_n 0, 1) := by decide +kernel
theorem dX5_leg_12 : decode cX5_leg 12 = .ok (.getfield 10, 3) := by decide +kernel
theorem dX5_leg_15 : decode cX5_leg 15 = .ok (.getfield 84, 3) := by decide +kernel
theorem dX5_leg_18 : decode cX5_leg 18 = .ok (.iload_n 1, 1) := by decide +kernel
theorem dX5_leg_19 : decode cX5_leg 19 = .ok (.iload_n 2, 1) := by decide +kernel
theorem dX5_leg_20 : decode cX5_leg 20 = .ok (.invokevirtual 119, 3) := by decide +kernel
theorem dX5_leg_23 : decode cX5_leg 23 = .ok (.ireturn, 1) := by decide +kernel
theorem dX5_pending_0 : decode cX5_pending 0 = .ok (.aload_n 0, 1) := by decide +kernel
theorem dX5_pending_1 : decode cX5_pending 1 = .ok (.iload_n 1, 1) := by decide +kernel
theorem dX5_pending_2 : decode cX5_pending 2 = .ok (.invokevirtual 128, 3) := by decide +kernel
theorem dX5_pending_5 : decode cX5_pending 5 = .ok (.aload_n 0, 1) := by decide +kernel
theorem dX5_pending_6 : decode cX5_pending 6 = .ok (.getfield 10, 3) := by decide +kernel
theorem dX5_pending_9 : decode cX5_pending 9 = .ok (.getfield 84, 3) := by decide +kernel
theorem dX5_pending_12 : decode cX5_pending 12 = .ok (.iload_n 1, 1) := by decide +kernel
theorem dX5_pending_13 : decode cX5_pending 13 = .ok (.bipush 6, 2) := by decide +kernel
theorem dX5_pending_15 : decode cX5_pending 15 = .ok (.invokevirtual 119, 3) := by decide +kernel
theorem dX5_pending_18 : decode cX5_pending 18 = .ok (.iconst (-1), 1) := by decide +kernel
theorem dX5_pending_19 : decode cX5_pending 19 = .ok (.if_icmp .ne 13, 3) := by decide +kernel
theorem dX5_pending_22 : decode cX5_pending 22 = .ok (.new 131, 3) := by decide +kernel
theorem dX5_pending_25 : decode cX5_pending 25 = .ok (.dup, 1) := by decide +kernel
theorem dX5_pending_26 : decode cX5_pending 26 = .ok (.ldc 133, 2) := by decide +kernel
theorem dX5_pending_28 : decode cX5_pending 28 = .ok (.invokespecial 135, 3) := by decide +kernel
theorem dX5_pending_31 : decode cX5_pending 31 = .ok (.athrow, 1) := by decide +kernel
theorem dX5_pending_32 : decode cX5_pending 32 = .ok (.iload_n 2, 1) := by decide +kernel
theorem dX5_pending_33 : decode cX5_pending 33 = .ok (.iconst 0, 1) := by decide +kernel
theorem dX5_pending_34 : decode cX5_pending 34 = .ok (.iconst 2, 1) := by decide +kernel
theorem dX5_pending_35 : decode cX5_pending 35 = .ok (.invokestatic 48, 3) := by decide +kernel
theorem dX5_pending_38 : decode cX5_pending 38 = .ok (.aload_n 0, 1) := by decide +kernel
theorem dX5_pending_39 : decode cX5_pending 39 = .ok (.getfield 10, 3) := by decide +kernel
theorem dX5_pending_42 : decode cX5_pending 42 = .ok (.getfield 84, 3) := by decide +kernel
theorem dX5_pending_45 : decode cX5_pending 45 = .ok (.iload_n 1, 1) := by decide +kernel
theorem dX5_pending_46 : decode cX5_pending 46 = .ok (.bipush 6, 2) := by decide +kernel
theorem dX5_pending_48 : decode cX5_pending 48 = .ok (.iload_n 2, 1) := by decide +kernel
theorem dX5_pending_49 : decode cX5_pending 49 = .ok (.iadd, 1) := by decide +kernel
theorem dX5_pending_50 : decode cX5_pending 50 = .ok (.invokevirtual 119, 3) := by decide +kernel
theorem dX5_pending_53 : decode cX5_pending 53 = .ok (.ireturn, 1) := by decide +kernel
theorem dX5_repetition_0 : decode cX5_repetition 0 = .ok (.aload_n 0, 1) := by decide +kernel
theorem dX5_repetition_1 : decode cX5_repetition 1 = .ok (.iload_n 1, 1) := by decide +kernel
theorem dX5_repetition_2 : decode cX5_repetition 2 = .ok (.invokevirtual 128, 3) := by decide +kernel
theorem dX5_repetition_5 : decode cX5_repetition 5 = .ok (.iload_n 2, 1) := by decide +kernel
theorem dX5_repetition_6 : decode cX5_repetition 6 = .ok (.iconst 0, 1) := by decide +kernel
theorem dX5_repetition_7 : decode cX5_repetition 7 = .ok (.iconst 1, 1) := by decide +kernel
theorem dX5_repetition_8 : decode cX5_repetition 8 = .ok (.invokestatic 48, 3) := by decide +kernel
theorem dX5_repetition_11 : decode cX5_repetition 11 = .ok (.aload_n 0, 1) := by decide +kernel
theorem dX5_repetition_12 : decode cX5_repetition 12 = .ok (.getfield 10, 3) := by decide +kernel
theorem dX5_repetition_15 : decode cX5_repetition 15 = .ok (.getfield 84, 3) := by decide +kernel
theorem dX5_repetition_18 : decode cX5_repetition 18 = .ok (.iload_n 1, 1) := by decide +kernel
theorem dX5_repetition_19 : decode cX5_repetition 19 = .ok (.bipush 9, 2) := by decide +kernel
theorem dX5_repetition_21 : decode cX5_repetition 21 = .ok (.iload_n 2, 1) := by decide +kernel
theorem dX5_repetition_22 : decode cX5_repetition 22 = .ok (.iadd, 1) := by decide +kernel
theorem dX5_repetition_23 : decode cX5_repetition 23 = .ok (.invokevirtual 119, 3) := by decide +kernel
theorem dX5_repetition_26 : decode cX5_repetition 26 = .ok (.ireturn, 1) := by decide +kernel
theorem dX5_total_0 : decode cX5_total 0 = .ok (.iload_n 1, 1) := by decide +kernel
theorem dX5_total_1 : decode cX5_total 1 = .ok (.iconst 0, 1) := by decide +kernel
theorem dX5_total_2 : decode cX5_total 2 = .ok (.bipush 6, 2) := by decide +kernel
theorem dX5_total_4 : decode cX5_total 4 = .ok (.invokestatic 48, 3) := by decide +kernel
theorem dX5_total_7 : decode cX5_total 7 = .ok (.aload_n 0, 1) := by decide +kernel
theorem dX5_total_8 : decode cX5_total 8 = .ok (.getfield 10, 3) := by decide +kernel
theorem dX5_total_11 : decode cX5_total 11 = .ok (.getfield 136, 3) := by decide +kernel
theorem dX5_total_14 : decode cX5_total 14 = .ok (.iconst 0, 1) := by decide +kernel
theorem dX5_total_15 : decode cX5_total 15 = .ok (.iload_n 1, 1) := by decide +kernel
theorem dX5_total_16 : decode cX5_total 16 = .ok (.invokevirtual 119, 3) := by decide +kernel
theorem dX5_total_19 : decode cX5_total 19 = .ok (.ireturn, 1) := by decide +kernel
theorem dX5_settlesIn_0 : decode cX5_settlesIn 0 = .ok (.aload_n 0, 1) := by decide +kernel
theorem dX5_settlesIn_1 : decode cX5_settlesIn 1 = .ok (.iload_n 1, 1) := by decide +kernel
theorem dX5_settlesIn_2 : decode cX5_settlesIn 2 = .ok (.invokevirtual 122, 3) := by decide +kernel
theorem dX5_settlesIn_5 : decode cX5_settlesIn 5 = .ok (.aload_n 0, 1) := by decide +kernel
theorem dX5_settlesIn_6 : decode cX5_settlesIn 6 = .ok (.iload_n 1, 1) := by decide +kernel
theorem dX5_settlesIn_7 : decode cX5_settlesIn 7 = .ok (.invokevirtual 139, 3) := by decide +kernel
theorem dX5_settlesIn_10 : decode cX5_settlesIn 10 = .ok (.ireturn, 1) := by decide +kernel
theorem dX5_pass_0 : decode cX5_pass 0 = .ok (.iload_n 1, 1) := by decide +kernel
theorem dX5_pass_1 : decode cX5_pass 1 = .ok (.iconst 1, 1) := by decide +kernel
theorem dX5_pass_2 : decode cX5_pass 2 = .ok (.sipush 200, 3) := by decide +kernel
theorem dX5_pass_5 : decode cX5_pass 5 = .ok (.invokestatic 48, 3) := by decide +kernel
theorem dX5_pass_8 : decode cX5_pass 8 = .ok (.aload_n 0, 1) := by decide +kernel
theorem dX5_pass_9 : decode cX5_pass 9 = .ok (.getfield 10, 3) := by decide +kernel
theorem dX5_pass_12 : decode cX5_pass 12 = .ok (.getfield 78, 3) := by decide +kernel
theorem dX5_pass_15 : decode cX5_pass 15 = .ok (.iload_n 1, 1) := by decide +kernel
theorem dX5_pass_16 : decode cX5_pass 16 = .ok (.iadd, 1) := by decide +kernel
theorem dX5_pass_17 : decode cX5_pass 17 = .ok (.sipush 9999, 3) := by decide +kernel
theorem dX5_pass_20 : decode cX5_pass 20 = .ok (.if_icmp .le 13, 3) := by decide +kernel
theorem dX5_pass_23 : decode cX5_pass 23 = .ok (.new 99, 3) := by decide +kernel
theorem dX5_pass_26 : decode cX5_pass 26 = .ok (.dup, 1) := by decide +kernel
theorem dX5_pass_27 : decode cX5_pass 27 = .ok (.ldc 142, 2) := by decide +kernel
theorem dX5_pass_29 : decode cX5_pass 29 = .ok (.invokespecial 103, 3) := by decide +kernel
theorem dX5_pass_32 : decode cX5_pass 32 = .ok (.athrow, 1) := by decide +kernel
theorem dX5_pass_33 : decode cX5_pass 33 = .ok (.aload_n 0, 1) := by decide +kernel
theorem dX5_pass_34 : decode cX5_pass 34 = .ok (.getfield 22, 3) := by decide +kernel
theorem dX5_pass_37 : decode cX5_pass 37 = .ok (.aload_n 0, 1) := by decide +kernel
theorem dX5_pass_38 : decode cX5_pass 38 = .ok (.getfield 10, 3) := by decide +kernel
theorem dX5_pass_41 : decode cX5_pass 41 = .ok (.invokevirtual 59, 3) := by decide +kernel
theorem dX5_pass_44 : decode cX5_pass 44 = .ok (.iconst 0, 1) := by decide +kernel
theorem dX5_pass_45 : decode cX5_pass 45 = .ok (.istore_n 2, 1) := by decide +kernel
theorem dX5_pass_46 : decode cX5_pass 46 = .ok (.iload_n 2, 1) := by decide +kernel
theorem dX5_pass_47 : decode cX5_pass 47 = .ok (.iload_n 1, 1) := by decide +kernel
theorem dX5_pass_48 : decode cX5_pass 48 = .ok (.if_icmp .ge 16, 3) := by decide +kernel
theorem dX5_pass_51 : decode cX5_pass 51 = .ok (.aload_n 0, 1) := by decide +kernel
theorem dX5_pass_52 : decode cX5_pass 52 = .ok (.getfield 10, 3) := by decide +kernel
theorem dX5_pass_55 : decode cX5_pass 55 = .ok (.invokevirtual 144, 3) := by decide +kernel
theorem dX5_pass_58 : decode cX5_pass 58 = .ok (.iinc 2 1, 3) := by decide +kernel
theorem dX5_pass_61 : decode cX5_pass 61 = .ok (.goto (-15), 3) := by decide +kernel
theorem dX5_pass_64 : decode cX5_pass 64 = .ok (.aload_n 0, 1) := by decide +kernel
theorem dX5_pass_65 : decode cX5_pass 65 = .ok (.getfield 10, 3) := by decide +kernel
theorem dX5_pass_68 : decode cX5_pass 68 = .ok (.iconst 1, 1) := by decide +kernel
theorem dX5_pass_69 : decode cX5_pass 69 = .ok (.invokevirtual 87, 3) := by decide +kernel
theorem dX5_pass_72 : decode cX5_pass 72 = .ok (.ireturn, 1) := by decide +kernel
theorem dX5_dial_0 : decode cX5_dial 0 = .ok (.aload_n 0, 1) := by decide +kernel
theorem dX5_dial_1 : decode cX5_dial 1 = .ok (.iload_n 1, 1) := by decide +kernel
theorem dX5_dial_2 : decode cX5_dial 2 = .ok (.invokevirtual 106, 3) := by decide +kernel
theorem dX5_dial_5 : decode cX5_dial 5 = .ok (.iload_n 2, 1) := by decide +kernel
theorem dX5_dial_6 : decode cX5_dial 6 = .ok (.ifCond .le 27, 3) := by decide +kernel
theorem dX5_dial_9 : decode cX5_dial 9 = .ok (.iload_n 2, 1) := by decide +kernel
theorem dX5_dial_10 : decode cX5_dial 10 = .ok (.iconst 1, 1) := by decide +kernel
theorem dX5_dial_11 : decode cX5_dial 11 = .ok (.aload_n 0, 1) := by decide +kernel
theorem dX5_dial_12 : decode cX5_dial 12 = .ok (.getfield 10, 3) := by decide +kernel
theorem dX5_dial_15 : decode cX5_dial 15 = .ok (.getfield 69, 3) := by decide +kernel
theorem dX5_dial_18 : decode cX5_dial 18 = .ok (.getfield 73, 3) := by decide +kernel
theorem dX5_dial_21 : decode cX5_dial 21 = .ok (.ishl, 1) := by decide +kernel
theorem dX5_dial_22 : decode cX5_dial 22 = .ok (.if_icmp .ge 11, 3) := by decide +kernel
theorem dX5_dial_25 : decode cX5_dial 25 = .ok (.iload_n 2, 1) := by decide +kernel
theorem dX5_dial_26 : decode cX5_dial 26 = .ok (.iload_n 1, 1) := by decide +kernel
theorem dX5_dial_27 : decode cX5_dial 27 = .ok (.ishr, 1) := by decide +kernel
theorem dX5_dial_28 : decode cX5_dial 28 = .ok (.iconst 1, 1) := by decide +kernel
theorem dX5_dial_29 : decode cX5_dial 29 = .ok (.iand, 1) := by decide +kernel
theorem dX5_dial_30 : decode cX5_dial 30 = .ok (.ifCond .eq 13, 3) := by decide +kernel
theorem dX5_dial_33 : decode cX5_dial 33 = .ok (.new 99, 3) := by decide +kernel
theorem dX5_dial_36 : decode cX5_dial 36 = .ok (.dup, 1) := by decide +kernel
theorem dX5_dial_37 : decode cX5_dial 37 = .ok (.ldc 147, 2) := by decide +kernel
theorem dX5_dial_39 : decode cX5_dial 39 = .ok (.invokespecial 103, 3) := by decide +kernel
theorem dX5_dial_42 : decode cX5_dial 42 = .ok (.athrow, 1) := by decide +kernel
theorem dX5_dial_43 : decode cX5_dial 43 = .ok (.aload_n 0, 1) := by decide +kernel
theorem dX5_dial_44 : decode cX5_dial 44 = .ok (.getfield 10, 3) := by decide +kernel
theorem dX5_dial_47 : decode cX5_dial 47 = .ok (.iload_n 1, 1) := by decide +kernel
theorem dX5_dial_48 : decode cX5_dial 48 = .ok (.invokevirtual 109, 3) := by decide +kernel
theorem dX5_dial_51 : decode cX5_dial 51 = .ok (.ifCond .ne 17, 3) := by decide +kernel
theorem dX5_dial_54 : decode cX5_dial 54 = .ok (.aload_n 0, 1) := by decide +kernel
theorem dX5_dial_55 : decode cX5_dial 55 = .ok (.getfield 10, 3) := by decide +kernel
theorem dX5_dial_58 : decode cX5_dial 58 = .ok (.iload_n 2, 1) := by decide +kernel
theorem dX5_dial_59 : decode cX5_dial 59 = .ok (.invokestatic 149, 3) := by decide +kernel
theorem dX5_dial_62 : decode cX5_dial 62 = .ok (.invokevirtual 154, 3) := by decide +kernel
theorem dX5_dial_65 : decode cX5_dial 65 = .ok (.ifCond .ne 13, 3) := by decide +kernel
theorem dX5_dial_68 : decode cX5_dial 68 = .ok (.new 155, 3) := by decide +kernel
theorem dX5_dial_71 : decode cX5_dial 71 = .ok (.dup, 1) := by decide +kernel
theorem dX5_dial_72 : decode cX5_dial 72 = .ok (.ldc 157, 2) := by decide +kernel
theorem dX5_dial_74 : decode cX5_dial 74 = .ok (.invokespecial 159, 3) := by decide +kernel
theorem dX5_dial_77 : decode cX5_dial 77 = .ok (.athrow, 1) := by decide +kernel
theorem dX5_dial_78 : decode cX5_dial 78 = .ok (.aload_n 0, 1) := by decide +kernel
theorem dX5_dial_79 : decode cX5_dial 79 = .ok (.getfield 22, 3) := by decide +kernel
theorem dX5_dial_82 : decode cX5_dial 82 = .ok (.aload_n 0, 1) := by decide +kernel
theorem dX5_dial_83 : decode cX5_dial 83 = .ok (.getfield 10, 3) := by decide +kernel
theorem dX5_dial_86 : decode cX5_dial 86 = .ok (.invokevirtual 59, 3) := by decide +kernel
theorem dX5_dial_89 : decode cX5_dial 89 = .ok (.aload_n 0, 1) := by decide +kernel
theorem dX5_dial_90 : decode cX5_dial 90 = .ok (.getfield 10, 3) := by decide +kernel
theorem dX5_dial_93 : decode cX5_dial 93 = .ok (.iload_n 1, 1) := by decide +kernel
theorem dX5_dial_94 : decode cX5_dial 94 = .ok (.iload_n 2, 1) := by decide +kernel
theorem dX5_dial_95 : decode cX5_dial 95 = .ok (.iconst (-1), 1) := by decide +kernel
theorem dX5_dial_96 : decode cX5_dial 96 = .ok (.invokevirtual 160, 3) := by decide +kernel
theorem dX5_dial_99 : decode cX5_dial 99 = .ok (.ireturn, 1) := by decide +kernel
theorem dX5_transfer_0 : decode cX5_transfer 0 = .ok (.aload_n 0, 1) := by decide +kernel
theorem dX5_transfer_1 : decode cX5_transfer 1 = .ok (.iload_n 1, 1) := by decide +kernel
theorem dX5_transfer_2 : decode cX5_transfer 2 = .ok (.invokevirtual 106, 3) := by decide +kernel
theorem dX5_transfer_5 : decode cX5_transfer 5 = .ok (.aload_n 0, 1) := by decide +kernel
theorem dX5_transfer_6 : decode cX5_transfer 6 = .ok (.iload_n 2, 1) := by decide +kernel
theorem dX5_transfer_7 : decode cX5_transfer 7 = .ok (.invokevirtual 106, 3) := by decide +kernel
theorem dX5_transfer_10 : decode cX5_transfer 10 = .ok (.aload_n 0, 1) := by decide +kernel
theorem dX5_transfer_11 : decode cX5_transfer 11 = .ok (.getfield 10, 3) := by decide +kernel
theorem dX5_transfer_14 : decode cX5_transfer 14 = .ok (.iload_n 1, 1) := by decide +kernel
theorem dX5_transfer_15 : decode cX5_transfer 15 = .ok (.iconst 1, 1) := by decide +kernel
theorem dX5_transfer_16 : decode cX5_transfer 16 = .ok (.invokevirtual 112, 3) := by decide +kernel
theorem dX5_transfer_19 : decode cX5_transfer 19 = .ok (.istore_n 3, 1) := by decide +kernel
theorem dX5_transfer_20 : decode cX5_transfer 20 = .ok (.iload_n 3, 1) := by decide +kernel
theorem dX5_transfer_21 : decode cX5_transfer 21 = .ok (.iconst (-1), 1) := by decide +kernel
theorem dX5_transfer_22 : decode cX5_transfer 22 = .ok (.if_icmp .eq 14, 3) := by decide +kernel
theorem dX5_transfer_25 : decode cX5_transfer 25 = .ok (.aload_n 0, 1) := by decide +kernel
theorem dX5_transfer_26 : decode cX5_transfer 26 = .ok (.getfield 10, 3) := by decide +kernel
theorem dX5_transfer_29 : decode cX5_transfer 29 = .ok (.iconst 1, 1) := by decide +kernel
theorem dX5_transfer_30 : decode cX5_transfer 30 = .ok (.invokevirtual 154, 3) := by decide +kernel
theorem dX5_transfer_33 : decode cX5_transfer 33 = .ok (.ifCond .ne 13, 3) := by decide +kernel
theorem dX5_transfer_36 : decode cX5_transfer 36 = .ok (.new 155, 3) := by decide +kernel
theorem dX5_transfer_39 : decode cX5_transfer 39 = .ok (.dup, 1) := by decide +kernel
theorem dX5_transfer_40 : decode cX5_transfer 40 = .ok (.ldc 164, 2) := by decide +kernel
theorem dX5_transfer_42 : decode cX5_transfer 42 = .ok (.invokespecial 159, 3) := by decide +kernel
theorem dX5_transfer_45 : decode cX5_transfer 45 = .ok (.athrow, 1) := by decide +kernel
theorem dX5_transfer_46 : decode cX5_transfer 46 = .ok (.aload_n 0, 1) := by decide +kernel
theorem dX5_transfer_47 : decode cX5_transfer 47 = .ok (.getfield 10, 3) := by decide +kernel
theorem dX5_transfer_50 : decode cX5_transfer 50 = .ok (.iload_n 3, 1) := by decide +kernel
theorem dX5_transfer_51 : decode cX5_transfer 51 = .ok (.iload_n 2, 1) := by decide +kernel
theorem dX5_transfer_52 : decode cX5_transfer 52 = .ok (.invokevirtual 166, 3) := by decide +kernel
theorem dX5_transfer_55 : decode cX5_transfer 55 = .ok (.ifCond .eq 13, 3) := by decide +kernel
theorem dX5_transfer_58 : decode cX5_transfer 58 = .ok (.new 99, 3) := by decide +kernel
theorem dX5_transfer_61 : decode cX5_transfer 61 = .ok (.dup, 1) := by decide +kernel
theorem dX5_transfer_62 : decode cX5_transfer 62 = .ok (.ldc 170, 2) := by decide +kernel
theorem dX5_transfer_64 : decode cX5_transfer 64 = .ok (.invokespecial 103, 3) := by decide +kernel
theorem dX5_transfer_67 : decode cX5_transfer 67 = .ok (.athrow, 1) := by decide +kernel
theorem dX5_transfer_68 : decode cX5_transfer 68 = .ok (.aload_n 0, 1) := by decide +kernel
theorem dX5_transfer_69 : decode cX5_transfer 69 = .ok (.getfield 22, 3) := by decide +kernel
theorem dX5_transfer_72 : decode cX5_transfer 72 = .ok (.aload_n 0, 1) := by decide +kernel
theorem dX5_transfer_73 : decode cX5_transfer 73 = .ok (.getfield 10, 3) := by decide +kernel
theorem dX5_transfer_76 : decode cX5_transfer 76 = .ok (.invokevirtual 59, 3) := by decide +kernel
theorem dX5_transfer_79 : decode cX5_transfer 79 = .ok (.aload_n 0, 1) := by decide +kernel
theorem dX5_transfer_80 : decode cX5_transfer 80 = .ok (.getfield 10, 3) := by decide +kernel
theorem dX5_transfer_83 : decode cX5_transfer 83 = .ok (.iload_n 3, 1) := by decide +kernel
theorem dX5_transfer_84 : decode cX5_transfer 84 = .ok (.iload_n 1, 1) := by decide +kernel
theorem dX5_transfer_85 : decode cX5_transfer 85 = .ok (.iload_n 2, 1) := by decide +kernel
theorem dX5_transfer_86 : decode cX5_transfer 86 = .ok (.invokevirtual 172, 3) := by decide +kernel
theorem dX5_transfer_89 : decode cX5_transfer 89 = .ok (.ireturn, 1) := by decide +kernel
theorem dX5_hangUp_0 : decode cX5_hangUp 0 = .ok (.aload_n 0, 1) := by decide +kernel
theorem dX5_hangUp_1 : decode cX5_hangUp 1 = .ok (.iload_n 1, 1) := by decide +kernel
theorem dX5_hangUp_2 : decode cX5_hangUp 2 = .ok (.invokevirtual 106, 3) := by decide +kernel
theorem dX5_hangUp_5 : decode cX5_hangUp 5 = .ok (.aload_n 0, 1) := by decide +kernel
theorem dX5_hangUp_6 : decode cX5_hangUp 6 = .ok (.getfield 22, 3) := by decide +kernel
theorem dX5_hangUp_9 : decode cX5_hangUp 9 = .ok (.aload_n 0, 1) := by decide +kernel
theorem dX5_hangUp_10 : decode cX5_hangUp 10 = .ok (.getfield 10, 3) := by decide +kernel
theorem dX5_hangUp_13 : decode cX5_hangUp 13 = .ok (.invokevirtual 59, 3) := by decide +kernel
theorem dX5_hangUp_16 : decode cX5_hangUp 16 = .ok (.aload_n 0, 1) := by decide +kernel
theorem dX5_hangUp_17 : decode cX5_hangUp 17 = .ok (.getfield 10, 3) := by decide +kernel
theorem dX5_hangUp_20 : decode cX5_hangUp 20 = .ok (.iload_n 1, 1) := by decide +kernel
theorem dX5_hangUp_21 : decode cX5_hangUp 21 = .ok (.invokevirtual 175, 3) := by decide +kernel
theorem dX5_hangUp_24 : decode cX5_hangUp 24 = .ok (.ireturn, 1) := by decide +kernel
theorem dX5_offer_0 : decode cX5_offer 0 = .ok (.aload_n 0, 1) := by decide +kernel
theorem dX5_offer_1 : decode cX5_offer 1 = .ok (.iload_n 1, 1) := by decide +kernel
theorem dX5_offer_2 : decode cX5_offer 2 = .ok (.invokevirtual 106, 3) := by decide +kernel
theorem dX5_offer_5 : decode cX5_offer 5 = .ok (.iload_n 2, 1) := by decide +kernel
theorem dX5_offer_6 : decode cX5_offer 6 = .ok (.iconst 0, 1) := by decide +kernel
theorem dX5_offer_7 : decode cX5_offer 7 = .ok (.sipush 999, 3) := by decide +kernel
theorem dX5_offer_10 : decode cX5_offer 10 = .ok (.invokestatic 48, 3) := by decide +kernel
theorem dX5_offer_13 : decode cX5_offer 13 = .ok (.aload_n 0, 1) := by decide +kernel
theorem dX5_offer_14 : decode cX5_offer 14 = .ok (.getfield 10, 3) := by decide +kernel
theorem dX5_offer_17 : decode cX5_offer 17 = .ok (.iload_n 1, 1) := by decide +kernel
theorem dX5_offer_18 : decode cX5_offer 18 = .ok (.iconst 1, 1) := by decide +kernel
theorem dX5_offer_19 : decode cX5_offer 19 = .ok (.invokevirtual 112, 3) := by decide +kernel
theorem dX5_offer_22 : decode cX5_offer 22 = .ok (.istore_n 3, 1) := by decide +kernel
theorem dX5_offer_23 : decode cX5_offer 23 = .ok (.iload_n 3, 1) := by decide +kernel
theorem dX5_offer_24 : decode cX5_offer 24 = .ok (.iconst (-1), 1) := by decide +kernel
theorem dX5_offer_25 : decode cX5_offer 25 = .ok (.if_icmp .ne 13, 3) := by decide +kernel
theorem dX5_offer_28 : decode cX5_offer 28 = .ok (.new 155, 3) := by decide +kernel
theorem dX5_offer_31 : decode cX5_offer 31 = .ok (.dup, 1) := by decide +kernel
theorem dX5_offer_32 : decode cX5_offer 32 = .ok (.ldc 178, 2) := by decide +kernel
theorem dX5_offer_34 : decode cX5_offer 34 = .ok (.invokespecial 159, 3) := by decide +kernel
theorem dX5_offer_37 : decode cX5_offer 37 = .ok (.athrow, 1) := by decide +kernel
theorem dX5_offer_38 : decode cX5_offer 38 = .ok (.aload_n 0, 1) := by decide +kernel
theorem dX5_offer_39 : decode cX5_offer 39 = .ok (.getfield 22, 3) := by decide +kernel
theorem dX5_offer_42 : decode cX5_offer 42 = .ok (.aload_n 0, 1) := by decide +kernel
theorem dX5_offer_43 : decode cX5_offer 43 = .ok (.getfield 10, 3) := by decide +kernel
theorem dX5_offer_46 : decode cX5_offer 46 = .ok (.invokevirtual 59, 3) := by decide +kernel
theorem dX5_offer_49 : decode cX5_offer 49 = .ok (.aload_n 0, 1) := by decide +kernel
theorem dX5_offer_50 : decode cX5_offer 50 = .ok (.getfield 10, 3) := by decide +kernel
theorem dX5_offer_53 : decode cX5_offer 53 = .ok (.iload_n 3, 1) := by decide +kernel
theorem dX5_offer_54 : decode cX5_offer 54 = .ok (.aload_n 0, 1) := by decide +kernel
theorem dX5_offer_55 : decode cX5_offer 55 = .ok (.getfield 10, 3) := by decide +kernel
theorem dX5_offer_58 : decode cX5_offer 58 = .ok (.iload_n 3, 1) := by decide +kernel
theorem dX5_offer_59 : decode cX5_offer 59 = .ok (.iload_n 1, 1) := by decide +kernel
theorem dX5_offer_60 : decode cX5_offer 60 = .ok (.invokevirtual 180, 3) := by decide +kernel
theorem dX5_offer_63 : decode cX5_offer 63 = .ok (.iload_n 2, 1) := by decide +kernel
theorem dX5_offer_64 : decode cX5_offer 64 = .ok (.invokevirtual 183, 3) := by decide +kernel
theorem dX5_offer_67 : decode cX5_offer 67 = .ok (.ireturn, 1) := by decide +kernel
theorem dX5_setParty_0 : decode cX5_setParty 0 = .ok (.aload_n 0, 1) := by decide +kernel
theorem dX5_setParty_1 : decode cX5_setParty 1 = .ok (.iload_n 1, 1) := by decide +kernel
theorem dX5_setParty_2 : decode cX5_setParty 2 = .ok (.invokevirtual 106, 3) := by decide +kernel
theorem dX5_setParty_5 : decode cX5_setParty 5 = .ok (.iload_n 2, 1) := by decide +kernel
theorem dX5_setParty_6 : decode cX5_setParty 6 = .ok (.iconst 0, 1) := by decide +kernel
theorem dX5_setParty_7 : decode cX5_setParty 7 = .ok (.iconst 2, 1) := by decide +kernel
theorem dX5_setParty_8 : decode cX5_setParty 8 = .ok (.invokestatic 48, 3) := by decide +kernel
theorem dX5_setParty_11 : decode cX5_setParty 11 = .ok (.iload_n 3, 1) := by decide +kernel
theorem dX5_setParty_12 : decode cX5_setParty 12 = .ok (.iconst 0, 1) := by decide +kernel
theorem dX5_setParty_13 : decode cX5_setParty 13 = .ok (.iload_n 2, 1) := by decide +kernel
theorem dX5_setParty_14 : decode cX5_setParty 14 = .ok (.iconst 2, 1) := by decide +kernel
theorem dX5_setParty_15 : decode cX5_setParty 15 = .ok (.if_icmp .ne 9, 3) := by decide +kernel
theorem dX5_setParty_18 : decode cX5_setParty 18 = .ok (.sipush 999, 3) := by decide +kernel
theorem dX5_setParty_21 : decode cX5_setParty 21 = .ok (.goto 5, 3) := by decide +kernel
theorem dX5_setParty_24 : decode cX5_setParty 24 = .ok (.bipush 99, 2) := by decide +kernel
theorem dX5_setParty_26 : decode cX5_setParty 26 = .ok (.invokestatic 48, 3) := by decide +kernel
theorem dX5_setParty_29 : decode cX5_setParty 29 = .ok (.aload_n 0, 1) := by decide +kernel
theorem dX5_setParty_30 : decode cX5_setParty 30 = .ok (.getfield 22, 3) := by decide +kernel
theorem dX5_setParty_33 : decode cX5_setParty 33 = .ok (.aload_n 0, 1) := by decide +kernel
theorem dX5_setParty_34 : decode cX5_setParty 34 = .ok (.getfield 10, 3) := by decide +kernel
theorem dX5_setParty_37 : decode cX5_setParty 37 = .ok (.invokevirtual 59, 3) := by decide +kernel
theorem dX5_setParty_40 : decode cX5_setParty 40 = .ok (.aload_n 0, 1) := by decide +kernel
theorem dX5_setParty_41 : decode cX5_setParty 41 = .ok (.getfield 10, 3) := by decide +kernel
theorem dX5_setParty_44 : decode cX5_setParty 44 = .ok (.getfield 69, 3) := by decide +kernel
theorem dX5_setParty_47 : decode cX5_setParty 47 = .ok (.iload_n 1, 1) := by decide +kernel
theorem dX5_setParty_48 : decode cX5_setParty 48 = .ok (.iload_n 2, 1) := by decide +kernel
theorem dX5_setParty_49 : decode cX5_setParty 49 = .ok (.invokevirtual 119, 3) := by decide +kernel
theorem dX5_setParty_52 : decode cX5_setParty 52 = .ok (.istore 4, 2) := by decide +kernel
theorem dX5_setParty_54 : decode cX5_setParty 54 = .ok (.aload_n 0, 1) := by decide +kernel
theorem dX5_setParty_55 : decode cX5_setParty 55 = .ok (.getfield 10, 3) := by decide +kernel
theorem dX5_setParty_58 : decode cX5_setParty 58 = .ok (.getfield 69, 3) := by decide +kernel
theorem dX5_setParty_61 : decode cX5_setParty 61 = .ok (.iload_n 1, 1) := by decide +kernel
theorem dX5_setParty_62 : decode cX5_setParty 62 = .ok (.iload_n 2, 1) := by decide +kernel
theorem dX5_setParty_63 : decode cX5_setParty 63 = .ok (.iload_n 3, 1) := by decide +kernel
theorem dX5_setParty_64 : decode cX5_setParty 64 = .ok (.invokevirtual 186, 3) := by decide +kernel
theorem dX5_setParty_67 : decode cX5_setParty 67 = .ok (.iload 4, 2) := by decide +kernel
theorem dX5_setParty_69 : decode cX5_setParty 69 = .ok (.ireturn, 1) := by decide +kernel
theorem dX5_undo_0 : decode cX5_undo 0 = .ok (.aload_n 0, 1) := by decide +kernel
theorem dX5_undo_1 : decode cX5_undo 1 = .ok (.getfield 22, 3) := by decide +kernel
theorem dX5_undo_4 : decode cX5_undo 4 = .ok (.aload_n 0, 1) := by decide +kernel
theorem dX5_undo_5 : decode cX5_undo 5 = .ok (.getfield 10, 3) := by decide +kernel
theorem dX5_undo_8 : decode cX5_undo 8 = .ok (.invokevirtual 189, 3) := by decide +kernel
theorem dX5_undo_11 : decode cX5_undo 11 = .ok (.ireturn, 1) := by decide +kernel
theorem dX5_checksum_0 : decode cX5_checksum 0 = .ok (.aload_n 0, 1) := by decide +kernel
theorem dX5_checksum_1 : decode cX5_checksum 1 = .ok (.getfield 10, 3) := by decide +kernel
theorem dX5_checksum_4 : decode cX5_checksum 4 = .ok (.getfield 78, 3) := by decide +kernel
theorem dX5_checksum_7 : decode cX5_checksum 7 = .ok (.i2l, 1) := by decide +kernel
theorem dX5_checksum_8 : decode cX5_checksum 8 = .ok (.lstore_n 1, 1) := by decide +kernel
theorem dX5_checksum_9 : decode cX5_checksum 9 = .ok (.iconst 0, 1) := by decide +kernel
theorem dX5_checksum_10 : decode cX5_checksum 10 = .ok (.istore_n 3, 1) := by decide +kernel
theorem dX5_checksum_11 : decode cX5_checksum 11 = .ok (.iload_n 3, 1) := by decide +kernel
theorem dX5_checksum_12 : decode cX5_checksum 12 = .ok (.aload_n 0, 1) := by decide +kernel
theorem dX5_checksum_13 : decode cX5_checksum 13 = .ok (.getfield 10, 3) := by decide +kernel
theorem dX5_checksum_16 : decode cX5_checksum 16 = .ok (.getfield 69, 3) := by decide +kernel
theorem dX5_checksum_19 : decode cX5_checksum 19 = .ok (.getfield 73, 3) := by decide +kernel
theorem dX5_checksum_22 : decode cX5_checksum 22 = .ok (.if_icmp .ge 39, 3) := by decide +kernel
theorem dX5_checksum_25 : decode cX5_checksum 25 = .ok (.iconst 0, 1) := by decide +kernel
theorem dX5_checksum_26 : decode cX5_checksum 26 = .ok (.istore 4, 2) := by decide +kernel
theorem dX5_checksum_28 : decode cX5_checksum 28 = .ok (.iload 4, 2) := by decide +kernel
theorem dX5_checksum_30 : decode cX5_checksum 30 = .ok (.iconst 5, 1) := by decide +kernel
theorem dX5_checksum_31 : decode cX5_checksum 31 = .ok (.if_icmp .gt 24, 3) := by decide +kernel
theorem dX5_checksum_34 : decode cX5_checksum 34 = .ok (.ldc2_w 193, 3) := by decide +kernel
theorem dX5_checksum_37 : decode cX5_checksum 37 = .ok (.lload_n 1, 1) := by decide +kernel
theorem dX5_checksum_38 : decode cX5_checksum 38 = .ok (.lmul, 1) := by decide +kernel
theorem dX5_checksum_39 : decode cX5_checksum 39 = .ok (.aload_n 0, 1) := by decide +kernel
theorem dX5_checksum_40 : decode cX5_checksum 40 = .ok (.iload_n 3, 1) := by decide +kernel
theorem dX5_checksum_41 : decode cX5_checksum 41 = .ok (.iload 4, 2) := by decide +kernel
theorem dX5_checksum_43 : decode cX5_checksum 43 = .ok (.invokevirtual 195, 3) := by decide +kernel
theorem dX5_checksum_46 : decode cX5_checksum 46 = .ok (.i2l, 1) := by decide +kernel
theorem dX5_checksum_47 : decode cX5_checksum 47 = .ok (.ladd, 1) := by decide +kernel
theorem dX5_checksum_48 : decode cX5_checksum 48 = .ok (.lstore_n 1, 1) := by decide +kernel
theorem dX5_checksum_49 : decode cX5_checksum 49 = .ok (.iinc 4 1, 3) := by decide +kernel
theorem dX5_checksum_52 : decode cX5_checksum 52 = .ok (.goto (-24), 3) := by decide +kernel
theorem dX5_checksum_55 : decode cX5_checksum 55 = .ok (.iinc 3 1, 3) := by decide +kernel
theorem dX5_checksum_58 : decode cX5_checksum 58 = .ok (.goto (-47), 3) := by decide +kernel
theorem dX5_checksum_61 : decode cX5_checksum 61 = .ok (.iconst 0, 1) := by decide +kernel
theorem dX5_checksum_62 : decode cX5_checksum 62 = .ok (.istore_n 3, 1) := by decide +kernel
theorem dX5_checksum_63 : decode cX5_checksum 63 = .ok (.iload_n 3, 1) := by decide +kernel
theorem dX5_checksum_64 : decode cX5_checksum 64 = .ok (.aload_n 0, 1) := by decide +kernel
theorem dX5_checksum_65 : decode cX5_checksum 65 = .ok (.getfield 10, 3) := by decide +kernel
theorem dX5_checksum_68 : decode cX5_checksum 68 = .ok (.getfield 81, 3) := by decide +kernel
theorem dX5_checksum_71 : decode cX5_checksum 71 = .ok (.getfield 73, 3) := by decide +kernel
theorem dX5_checksum_74 : decode cX5_checksum 74 = .ok (.if_icmp .ge 39, 3) := by decide +kernel
theorem dX5_checksum_77 : decode cX5_checksum 77 = .ok (.iconst 0, 1) := by decide +kernel
theorem dX5_checksum_78 : decode cX5_checksum 78 = .ok (.istore 4, 2) := by decide +kernel
theorem dX5_checksum_80 : decode cX5_checksum 80 = .ok (.iload 4, 2) := by decide +kernel
theorem dX5_checksum_82 : decode cX5_checksum 82 = .ok (.iconst 5, 1) := by decide +kernel
theorem dX5_checksum_83 : decode cX5_checksum 83 = .ok (.if_icmp .gt 24, 3) := by decide +kernel
theorem dX5_checksum_86 : decode cX5_checksum 86 = .ok (.ldc2_w 193, 3) := by decide +kernel
theorem dX5_checksum_89 : decode cX5_checksum 89 = .ok (.lload_n 1, 1) := by decide +kernel
theorem dX5_checksum_90 : decode cX5_checksum 90 = .ok (.lmul, 1) := by decide +kernel
theorem dX5_checksum_91 : decode cX5_checksum 91 = .ok (.aload_n 0, 1) := by decide +kernel
theorem dX5_checksum_92 : decode cX5_checksum 92 = .ok (.iload_n 3, 1) := by decide +kernel
theorem dX5_checksum_93 : decode cX5_checksum 93 = .ok (.iload 4, 2) := by decide +kernel
theorem dX5_checksum_95 : decode cX5_checksum 95 = .ok (.invokevirtual 198, 3) := by decide +kernel
theorem dX5_checksum_98 : decode cX5_checksum 98 = .ok (.i2l, 1) := by decide +kernel
theorem dX5_checksum_99 : decode cX5_checksum 99 = .ok (.ladd, 1) := by decide +kernel
theorem dX5_checksum_100 : decode cX5_checksum 100 = .ok (.lstore_n 1, 1) := by decide +kernel
theorem dX5_checksum_101 : decode cX5_checksum 101 = .ok (.iinc 4 1, 3) := by decide +kernel
theorem dX5_checksum_104 : decode cX5_checksum 104 = .ok (.goto (-24), 3) := by decide +kernel
theorem dX5_checksum_107 : decode cX5_checksum 107 = .ok (.iinc 3 1, 3) := by decide +kernel
theorem dX5_checksum_110 : decode cX5_checksum 110 = .ok (.goto (-47), 3) := by decide +kernel
theorem dX5_checksum_113 : decode cX5_checksum 113 = .ok (.iconst 0, 1) := by decide +kernel
theorem dX5_checksum_114 : decode cX5_checksum 114 = .ok (.istore_n 3, 1) := by decide +kernel
theorem dX5_checksum_115 : decode cX5_checksum 115 = .ok (.iload_n 3, 1) := by decide +kernel
theorem dX5_checksum_116 : decode cX5_checksum 116 = .ok (.aload_n 0, 1) := by decide +kernel
theorem dX5_checksum_117 : decode cX5_checksum 117 = .ok (.getfield 10, 3) := by decide +kernel
theorem dX5_checksum_120 : decode cX5_checksum 120 = .ok (.getfield 84, 3) := by decide +kernel
theorem dX5_checksum_123 : decode cX5_checksum 123 = .ok (.getfield 73, 3) := by decide +kernel
theorem dX5_checksum_126 : decode cX5_checksum 126 = .ok (.if_icmp .ge 67, 3) := by decide +kernel
theorem dX5_checksum_129 : decode cX5_checksum 129 = .ok (.iconst 0, 1) := by decide +kernel
theorem dX5_checksum_130 : decode cX5_checksum 130 = .ok (.istore 4, 2) := by decide +kernel
theorem dX5_checksum_132 : decode cX5_checksum 132 = .ok (.iload 4, 2) := by decide +kernel
theorem dX5_checksum_134 : decode cX5_checksum 134 = .ok (.iconst 5, 1) := by decide +kernel
theorem dX5_checksum_135 : decode cX5_checksum 135 = .ok (.if_icmp .gt 24, 3) := by decide +kernel
theorem dX5_checksum_138 : decode cX5_checksum 138 = .ok (.ldc2_w 193, 3) := by decide +kernel
theorem dX5_checksum_141 : decode cX5_checksum 141 = .ok (.lload_n 1, 1) := by decide +kernel
theorem dX5_checksum_142 : decode cX5_checksum 142 = .ok (.lmul, 1) := by decide +kernel
theorem dX5_checksum_143 : decode cX5_checksum 143 = .ok (.aload_n 0, 1) := by decide +kernel
theorem dX5_checksum_144 : decode cX5_checksum 144 = .ok (.iload_n 3, 1) := by decide +kernel
theorem dX5_checksum_145 : decode cX5_checksum 145 = .ok (.iload 4, 2) := by decide +kernel
theorem dX5_checksum_147 : decode cX5_checksum 147 = .ok (.invokevirtual 201, 3) := by decide +kernel
theorem dX5_checksum_150 : decode cX5_checksum 150 = .ok (.i2l, 1) := by decide +kernel
theorem dX5_checksum_151 : decode cX5_checksum 151 = .ok (.ladd, 1) := by decide +kernel
theorem dX5_checksum_152 : decode cX5_checksum 152 = .ok (.lstore_n 1, 1) := by decide +kernel
theorem dX5_checksum_153 : decode cX5_checksum 153 = .ok (.iinc 4 1, 3) := by decide +kernel
theorem dX5_checksum_156 : decode cX5_checksum 156 = .ok (.goto (-24), 3) := by decide +kernel
theorem dX5_checksum_159 : decode cX5_checksum 159 = .ok (.ldc2_w 193, 3) := by decide +kernel
theorem dX5_checksum_162 : decode cX5_checksum 162 = .ok (.lload_n 1, 1) := by decide +kernel
theorem dX5_checksum_163 : decode cX5_checksum 163 = .ok (.lmul, 1) := by decide +kernel
theorem dX5_checksum_164 : decode cX5_checksum 164 = .ok (.aload_n 0, 1) := by decide +kernel
theorem dX5_checksum_165 : decode cX5_checksum 165 = .ok (.iload_n 3, 1) := by decide +kernel
theorem dX5_checksum_166 : decode cX5_checksum 166 = .ok (.iconst 0, 1) := by decide +kernel
theorem dX5_checksum_167 : decode cX5_checksum 167 = .ok (.invokevirtual 204, 3) := by decide +kernel
theorem dX5_checksum_170 : decode cX5_checksum 170 = .ok (.i2l, 1) := by decide +kernel
theorem dX5_checksum_171 : decode cX5_checksum 171 = .ok (.ladd, 1) := by decide +kernel
theorem dX5_checksum_172 : decode cX5_checksum 172 = .ok (.lstore_n 1, 1) := by decide +kernel
theorem dX5_checksum_173 : decode cX5_checksum 173 = .ok (.ldc2_w 193, 3) := by decide +kernel
theorem dX5_checksum_176 : decode cX5_checksum 176 = .ok (.lload_n 1, 1) := by decide +kernel
theorem dX5_checksum_177 : decode cX5_checksum 177 = .ok (.lmul, 1) := by decide +kernel
theorem dX5_checksum_178 : decode cX5_checksum 178 = .ok (.aload_n 0, 1) := by decide +kernel
theorem dX5_checksum_179 : decode cX5_checksum 179 = .ok (.iload_n 3, 1) := by decide +kernel
theorem dX5_checksum_180 : decode cX5_checksum 180 = .ok (.iconst 1, 1) := by decide +kernel
theorem dX5_checksum_181 : decode cX5_checksum 181 = .ok (.invokevirtual 204, 3) := by decide +kernel
theorem dX5_checksum_184 : decode cX5_checksum 184 = .ok (.i2l, 1) := by decide +kernel
theorem dX5_checksum_185 : decode cX5_checksum 185 = .ok (.ladd, 1) := by decide +kernel
theorem dX5_checksum_186 : decode cX5_checksum 186 = .ok (.lstore_n 1, 1) := by decide +kernel
theorem dX5_checksum_187 : decode cX5_checksum 187 = .ok (.iinc 3 1, 3) := by decide +kernel
theorem dX5_checksum_190 : decode cX5_checksum 190 = .ok (.goto (-75), 3) := by decide +kernel
theorem dX5_checksum_193 : decode cX5_checksum 193 = .ok (.iconst 0, 1) := by decide +kernel
theorem dX5_checksum_194 : decode cX5_checksum 194 = .ok (.istore_n 3, 1) := by decide +kernel
theorem dX5_checksum_195 : decode cX5_checksum 195 = .ok (.iload_n 3, 1) := by decide +kernel
theorem dX5_checksum_196 : decode cX5_checksum 196 = .ok (.bipush 7, 2) := by decide +kernel
theorem dX5_checksum_198 : decode cX5_checksum 198 = .ok (.if_icmp .ge 22, 3) := by decide +kernel
theorem dX5_checksum_201 : decode cX5_checksum 201 = .ok (.ldc2_w 193, 3) := by decide +kernel
theorem dX5_checksum_204 : decode cX5_checksum 204 = .ok (.lload_n 1, 1) := by decide +kernel
theorem dX5_checksum_205 : decode cX5_checksum 205 = .ok (.lmul, 1) := by decide +kernel
theorem dX5_checksum_206 : decode cX5_checksum 206 = .ok (.aload_n 0, 1) := by decide +kernel
theorem dX5_checksum_207 : decode cX5_checksum 207 = .ok (.iload_n 3, 1) := by decide +kernel
theorem dX5_checksum_208 : decode cX5_checksum 208 = .ok (.invokevirtual 207, 3) := by decide +kernel
theorem dX5_checksum_211 : decode cX5_checksum 211 = .ok (.i2l, 1) := by decide +kernel
theorem dX5_checksum_212 : decode cX5_checksum 212 = .ok (.ladd, 1) := by decide +kernel
theorem dX5_checksum_213 : decode cX5_checksum 213 = .ok (.lstore_n 1, 1) := by decide +kernel
theorem dX5_checksum_214 : decode cX5_checksum 214 = .ok (.iinc 3 1, 3) := by decide +kernel
theorem dX5_checksum_217 : decode cX5_checksum 217 = .ok (.goto (-22), 3) := by decide +kernel
theorem dX5_checksum_220 : decode cX5_checksum 220 = .ok (.lload_n 1, 1) := by decide +kernel
theorem dX5_checksum_221 : decode cX5_checksum 221 = .ok (.lreturn, 1) := by decide +kernel
theorem dX5_requireParty_0 : decode cX5_requireParty 0 = .ok (.aload_n 0, 1) := by decide +kernel
theorem dX5_requireParty_1 : decode cX5_requireParty 1 = .ok (.getfield 10, 3) := by decide +kernel
theorem dX5_requireParty_4 : decode cX5_requireParty 4 = .ok (.getfield 69, 3) := by decide +kernel
theorem dX5_requireParty_7 : decode cX5_requireParty 7 = .ok (.iload_n 1, 1) := by decide +kernel
theorem dX5_requireParty_8 : decode cX5_requireParty 8 = .ok (.invokevirtual 210, 3) := by decide +kernel
theorem dX5_requireParty_11 : decode cX5_requireParty 11 = .ok (.ifCond .ne 13, 3) := by decide +kernel
theorem dX5_requireParty_14 : decode cX5_requireParty 14 = .ok (.new 213, 3) := by decide +kernel
theorem dX5_requireParty_17 : decode cX5_requireParty 17 = .ok (.dup, 1) := by decide +kernel
theorem dX5_requireParty_18 : decode cX5_requireParty 18 = .ok (.ldc 215, 2) := by decide +kernel
theorem dX5_requireParty_20 : decode cX5_requireParty 20 = .ok (.invokespecial 217, 3) := by decide +kernel
theorem dX5_requireParty_23 : decode cX5_requireParty 23 = .ok (.athrow, 1) := by decide +kernel
theorem dX5_requireParty_24 : decode cX5_requireParty 24 = .ok (.return_, 1) := by decide +kernel
theorem dX5_requireCall_0 : decode cX5_requireCall 0 = .ok (.aload_n 0, 1) := by decide +kernel
theorem dX5_requireCall_1 : decode cX5_requireCall 1 = .ok (.getfield 10, 3) := by decide +kernel
theorem dX5_requireCall_4 : decode cX5_requireCall 4 = .ok (.getfield 81, 3) := by decide +kernel
theorem dX5_requireCall_7 : decode cX5_requireCall 7 = .ok (.iload_n 1, 1) := by decide +kernel
theorem dX5_requireCall_8 : decode cX5_requireCall 8 = .ok (.invokevirtual 210, 3) := by decide +kernel
theorem dX5_requireCall_11 : decode cX5_requireCall 11 = .ok (.ifCond .ne 13, 3) := by decide +kernel
theorem dX5_requireCall_14 : decode cX5_requireCall 14 = .ok (.new 213, 3) := by decide +kernel
theorem dX5_requireCall_17 : decode cX5_requireCall 17 = .ok (.dup, 1) := by decide +kernel
theorem dX5_requireCall_18 : decode cX5_requireCall 18 = .ok (.ldc 218, 2) := by decide +kernel
theorem dX5_requireCall_20 : decode cX5_requireCall 20 = .ok (.invokespecial 217, 3) := by decide +kernel
theorem dX5_requireCall_23 : decode cX5_requireCall 23 = .ok (.athrow, 1) := by decide +kernel
theorem dX5_requireCall_24 : decode cX5_requireCall 24 = .ok (.return_, 1) := by decide +kernel
theorem dX5_requireLeg_0 : decode cX5_requireLeg 0 = .ok (.aload_n 0, 1) := by decide +kernel
theorem dX5_requireLeg_1 : decode cX5_requireLeg 1 = .ok (.getfield 10, 3) := by decide +kernel
theorem dX5_requireLeg_4 : decode cX5_requireLeg 4 = .ok (.getfield 84, 3) := by decide +kernel
theorem dX5_requireLeg_7 : decode cX5_requireLeg 7 = .ok (.iload_n 1, 1) := by decide +kernel
theorem dX5_requireLeg_8 : decode cX5_requireLeg 8 = .ok (.invokevirtual 210, 3) := by decide +kernel
theorem dX5_requireLeg_11 : decode cX5_requireLeg 11 = .ok (.ifCond .ne 13, 3) := by decide +kernel
theorem dX5_requireLeg_14 : decode cX5_requireLeg 14 = .ok (.new 213, 3) := by decide +kernel
theorem dX5_requireLeg_17 : decode cX5_requireLeg 17 = .ok (.dup, 1) := by decide +kernel
theorem dX5_requireLeg_18 : decode cX5_requireLeg 18 = .ok (.ldc 220, 2) := by decide +kernel
theorem dX5_requireLeg_20 : decode cX5_requireLeg 20 = .ok (.invokespecial 217, 3) := by decide +kernel
theorem dX5_requireLeg_23 : decode cX5_requireLeg 23 = .ok (.athrow, 1) := by decide +kernel
theorem dX5_requireLeg_24 : decode cX5_requireLeg 24 = .ok (.return_, 1) := by decide +kernel
theorem dX5_requireRange_0 : decode cX5_requireRange 0 = .ok (.iload_n 0, 1) := by decide +kernel
theorem dX5_requireRange_1 : decode cX5_requireRange 1 = .ok (.iload_n 1, 1) := by decide +kernel
theorem dX5_requireRange_2 : decode cX5_requireRange 2 = .ok (.if_icmp .lt 8, 3) := by decide +kernel
theorem dX5_requireRange_5 : decode cX5_requireRange 5 = .ok (.iload_n 0, 1) := by decide +kernel
theorem dX5_requireRange_6 : decode cX5_requireRange 6 = .ok (.iload_n 2, 1) := by decide +kernel
theorem dX5_requireRange_7 : decode cX5_requireRange 7 = .ok (.if_icmp .le 13, 3) := by decide +kernel
theorem dX5_requireRange_10 : decode cX5_requireRange 10 = .ok (.new 99, 3) := by decide +kernel
theorem dX5_requireRange_13 : decode cX5_requireRange 13 = .ok (.dup, 1) := by decide +kernel
theorem dX5_requireRange_14 : decode cX5_requireRange 14 = .ok (.ldc 222, 2) := by decide +kernel
theorem dX5_requireRange_16 : decode cX5_requireRange 16 = .ok (.invokespecial 103, 3) := by decide +kernel
theorem dX5_requireRange_19 : decode cX5_requireRange 19 = .ok (.athrow, 1) := by decide +kernel
theorem dX5_requireRange_20 : decode cX5_requireRange 20 = .ok (.return_, 1) := by decide +kernel
theorem dX5_playUntilSettled_0 : decode cX5_playUntilSettled 0 = .ok (.aload_n 0, 1) := by decide +kernel
theorem dX5_playUntilSettled_1 : decode cX5_playUntilSettled 1 = .ok (.getfield 16, 3) := by decide +kernel
theorem dX5_playUntilSettled_4 : decode cX5_playUntilSettled 4 = .ok (.aload_n 0, 1) := by decide +kernel
theorem dX5_playUntilSettled_5 : decode cX5_playUntilSettled 5 = .ok (.getfield 10, 3) := by decide +kernel
theorem dX5_playUntilSettled_8 : decode cX5_playUntilSettled 8 = .ok (.invokevirtual 66, 3) := by decide +kernel
theorem dX5_playUntilSettled_11 : decode cX5_playUntilSettled 11 = .ok (.iconst 0, 1) := by decide +kernel
theorem dX5_playUntilSettled_12 : decode cX5_playUntilSettled 12 = .ok (.istore_n 2, 1) := by decide +kernel
theorem dX5_playUntilSettled_13 : decode cX5_playUntilSettled 13 = .ok (.iload_n 2, 1) := by decide +kernel
theorem dX5_playUntilSettled_14 : decode cX5_playUntilSettled 14 = .ok (.bipush 99, 2) := by decide +kernel
theorem dX5_playUntilSettled_16 : decode cX5_playUntilSettled 16 = .ok (.if_icmp .ge 27, 3) := by decide +kernel
theorem dX5_playUntilSettled_19 : decode cX5_playUntilSettled 19 = .ok (.aload_n 0, 1) := by decide +kernel
theorem dX5_playUntilSettled_20 : decode cX5_playUntilSettled 20 = .ok (.getfield 16, 3) := by decide +kernel
theorem dX5_playUntilSettled_23 : decode cX5_playUntilSettled 23 = .ok (.iload_n 1, 1) := by decide +kernel
theorem dX5_playUntilSettled_24 : decode cX5_playUntilSettled 24 = .ok (.invokevirtual 125, 3) := by decide +kernel
theorem dX5_playUntilSettled_27 : decode cX5_playUntilSettled 27 = .ok (.ifCond .eq 16, 3) := by decide +kernel
theorem dX5_playUntilSettled_30 : decode cX5_playUntilSettled 30 = .ok (.aload_n 0, 1) := by decide +kernel
theorem dX5_playUntilSettled_31 : decode cX5_playUntilSettled 31 = .ok (.getfield 16, 3) := by decide +kernel
theorem dX5_playUntilSettled_34 : decode cX5_playUntilSettled 34 = .ok (.invokevirtual 144, 3) := by decide +kernel
theorem dX5_playUntilSettled_37 : decode cX5_playUntilSettled 37 = .ok (.iinc 2 1, 3) := by decide +kernel
theorem dX5_playUntilSettled_40 : decode cX5_playUntilSettled 40 = .ok (.goto (-27), 3) := by decide +kernel
theorem dX5_playUntilSettled_43 : decode cX5_playUntilSettled 43 = .ok (.iload_n 2, 1) := by decide +kernel
theorem dX5_playUntilSettled_44 : decode cX5_playUntilSettled 44 = .ok (.ireturn, 1) := by decide +kernel
theorem dX5_limit_0 : decode cX5_limit 0 = .ok (.lload_n 0, 1) := by decide +kernel
theorem dX5_limit_1 : decode cX5_limit 1 = .ok (.iload_n 2, 1) := by decide +kernel
theorem dX5_limit_2 : decode cX5_limit 2 = .ok (.i2l, 1) := by decide +kernel
theorem dX5_limit_3 : decode cX5_limit 3 = .ok (.lcmp, 1) := by decide +kernel
theorem dX5_limit_4 : decode cX5_limit 4 = .ok (.ifCond .ge 5, 3) := by decide +kernel
theorem dX5_limit_7 : decode cX5_limit 7 = .ok (.iload_n 2, 1) := by decide +kernel
theorem dX5_limit_8 : decode cX5_limit 8 = .ok (.ireturn, 1) := by decide +kernel
theorem dX5_limit_9 : decode cX5_limit 9 = .ok (.lload_n 0, 1) := by decide +kernel
theorem dX5_limit_10 : decode cX5_limit 10 = .ok (.iload_n 3, 1) := by decide +kernel
theorem dX5_limit_11 : decode cX5_limit 11 = .ok (.i2l, 1) := by decide +kernel
theorem dX5_limit_12 : decode cX5_limit 12 = .ok (.lcmp, 1) := by decide +kernel
theorem dX5_limit_13 : decode cX5_limit 13 = .ok (.ifCond .le 7, 3) := by decide +kernel
theorem dX5_limit_16 : decode cX5_limit 16 = .ok (.iload_n 3, 1) := by decide +kernel
theorem dX5_limit_17 : decode cX5_limit 17 = .ok (.goto 5, 3) := by decide +kernel
theorem dX5_limit_20 : decode cX5_limit 20 = .ok (.lload_n 0, 1) := by decide +kernel
theorem dX5_limit_21 : decode cX5_limit 21 = .ok (.l2i, 1) := by decide +kernel
theorem dX5_limit_22 : decode cX5_limit 22 = .ok (.ireturn, 1) := by decide +kernel
