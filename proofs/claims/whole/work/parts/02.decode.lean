theorem dX0_init_0 : decode cX0_init 0 = .ok (.aload_n 0, 1) := by decide +kernel
theorem dX0_init_1 : decode cX0_init 1 = .ok (.invokespecial 3, 3) := by decide +kernel
theorem dX0_init_4 : decode cX0_init 4 = .ok (.aload_n 0, 1) := by decide +kernel
theorem dX0_init_5 : decode cX0_init 5 = .ok (.new 9, 3) := by decide +kernel
theorem dX0_init_8 : decode cX0_init 8 = .ok (.dup, 1) := by decide +kernel
theorem dX0_init_9 : decode cX0_init 9 = .ok (.invokespecial 11, 3) := by decide +kernel
theorem dX0_init_12 : decode cX0_init 12 = .ok (.putfield 12, 3) := by decide +kernel
theorem dX0_init_15 : decode cX0_init 15 = .ok (.aload_n 0, 1) := by decide +kernel
theorem dX0_init_16 : decode cX0_init 16 = .ok (.iconst (-1), 1) := by decide +kernel
theorem dX0_init_17 : decode cX0_init 17 = .ok (.putfield 18, 3) := by decide +kernel
theorem dX0_init_20 : decode cX0_init 20 = .ok (.aload_n 0, 1) := by decide +kernel
theorem dX0_init_21 : decode cX0_init 21 = .ok (.iconst 0, 1) := by decide +kernel
theorem dX0_init_22 : decode cX0_init 22 = .ok (.putfield 22, 3) := by decide +kernel
theorem dX0_init_25 : decode cX0_init 25 = .ok (.aload_n 0, 1) := by decide +kernel
theorem dX0_init_26 : decode cX0_init 26 = .ok (.iconst 0, 1) := by decide +kernel
theorem dX0_init_27 : decode cX0_init 27 = .ok (.putfield 25, 3) := by decide +kernel
theorem dX0_init_30 : decode cX0_init 30 = .ok (.aload_n 0, 1) := by decide +kernel
theorem dX0_init_31 : decode cX0_init 31 = .ok (.bipush 9, 2) := by decide +kernel
theorem dX0_init_33 : decode cX0_init 33 = .ok (.newarray .int, 2) := by decide +kernel
theorem dX0_init_35 : decode cX0_init 35 = .ok (.putfield 28, 3) := by decide +kernel
theorem dX0_init_38 : decode cX0_init 38 = .ok (.aload_n 0, 1) := by decide +kernel
theorem dX0_init_39 : decode cX0_init 39 = .ok (.bipush 9, 2) := by decide +kernel
theorem dX0_init_41 : decode cX0_init 41 = .ok (.newarray .int, 2) := by decide +kernel
theorem dX0_init_43 : decode cX0_init 43 = .ok (.putfield 32, 3) := by decide +kernel
theorem dX0_init_46 : decode cX0_init 46 = .ok (.aload_n 0, 1) := by decide +kernel
theorem dX0_init_47 : decode cX0_init 47 = .ok (.bipush 9, 2) := by decide +kernel
theorem dX0_init_49 : decode cX0_init 49 = .ok (.newarray .int, 2) := by decide +kernel
theorem dX0_init_51 : decode cX0_init 51 = .ok (.putfield 35, 3) := by decide +kernel
theorem dX0_init_54 : decode cX0_init 54 = .ok (.aload_n 0, 1) := by decide +kernel
theorem dX0_init_55 : decode cX0_init 55 = .ok (.bipush 10, 2) := by decide +kernel
theorem dX0_init_57 : decode cX0_init 57 = .ok (.newarray .int, 2) := by decide +kernel
theorem dX0_init_59 : decode cX0_init 59 = .ok (.putfield 38, 3) := by decide +kernel
theorem dX0_init_62 : decode cX0_init 62 = .ok (.return_, 1) := by decide +kernel
theorem dX0_read_0 : decode cX0_read 0 = .ok (.aload_n 0, 1) := by decide +kernel
theorem dX0_read_1 : decode cX0_read 1 = .ok (.iconst 0, 1) := by decide +kernel
theorem dX0_read_2 : decode cX0_read 2 = .ok (.putfield 22, 3) := by decide +kernel
theorem dX0_read_5 : decode cX0_read 5 = .ok (.aload_n 0, 1) := by decide +kernel
theorem dX0_read_6 : decode cX0_read 6 = .ok (.iconst 0, 1) := by decide +kernel
theorem dX0_read_7 : decode cX0_read 7 = .ok (.putfield 25, 3) := by decide +kernel
theorem dX0_read_10 : decode cX0_read 10 = .ok (.aload_n 0, 1) := by decide +kernel
theorem dX0_read_11 : decode cX0_read 11 = .ok (.aload_n 0, 1) := by decide +kernel
theorem dX0_read_12 : decode cX0_read 12 = .ok (.aload_n 1, 1) := by decide +kernel
theorem dX0_read_13 : decode cX0_read 13 = .ok (.iload_n 2, 1) := by decide +kernel
theorem dX0_read_14 : decode cX0_read 14 = .ok (.invokevirtual 41, 3) := by decide +kernel
theorem dX0_read_17 : decode cX0_read 17 = .ok (.putfield 18, 3) := by decide +kernel
theorem dX0_read_20 : decode cX0_read 20 = .ok (.aload_n 0, 1) := by decide +kernel
theorem dX0_read_21 : decode cX0_read 21 = .ok (.invokevirtual 45, 3) := by decide +kernel
theorem dX0_read_24 : decode cX0_read 24 = .ok (.return_, 1) := by decide +kernel
theorem dX0_holdOnly_0 : decode cX0_holdOnly 0 = .ok (.aload_n 0, 1) := by decide +kernel
theorem dX0_holdOnly_1 : decode cX0_holdOnly 1 = .ok (.iconst (-1), 1) := by decide +kernel
theorem dX0_holdOnly_2 : decode cX0_holdOnly 2 = .ok (.putfield 18, 3) := by decide +kernel
theorem dX0_holdOnly_5 : decode cX0_holdOnly 5 = .ok (.aload_n 0, 1) := by decide +kernel
theorem dX0_holdOnly_6 : decode cX0_holdOnly 6 = .ok (.iconst 1, 1) := by decide +kernel
theorem dX0_holdOnly_7 : decode cX0_holdOnly 7 = .ok (.putfield 22, 3) := by decide +kernel
theorem dX0_holdOnly_10 : decode cX0_holdOnly 10 = .ok (.aload_n 0, 1) := by decide +kernel
theorem dX0_holdOnly_11 : decode cX0_holdOnly 11 = .ok (.iconst 0, 1) := by decide +kernel
theorem dX0_holdOnly_12 : decode cX0_holdOnly 12 = .ok (.putfield 25, 3) := by decide +kernel
theorem dX0_holdOnly_15 : decode cX0_holdOnly 15 = .ok (.aload_n 0, 1) := by decide +kernel
theorem dX0_holdOnly_16 : decode cX0_holdOnly 16 = .ok (.getfield 28, 3) := by decide +kernel
theorem dX0_holdOnly_19 : decode cX0_holdOnly 19 = .ok (.iconst 0, 1) := by decide +kernel
theorem dX0_holdOnly_20 : decode cX0_holdOnly 20 = .ok (.iconst 1, 1) := by decide +kernel
theorem dX0_holdOnly_21 : decode cX0_holdOnly 21 = .ok (.iastore, 1) := by decide +kernel
theorem dX0_holdOnly_22 : decode cX0_holdOnly 22 = .ok (.aload_n 0, 1) := by decide +kernel
theorem dX0_holdOnly_23 : decode cX0_holdOnly 23 = .ok (.getfield 32, 3) := by decide +kernel
theorem dX0_holdOnly_26 : decode cX0_holdOnly 26 = .ok (.iconst 0, 1) := by decide +kernel
theorem dX0_holdOnly_27 : decode cX0_holdOnly 27 = .ok (.iload_n 1, 1) := by decide +kernel
theorem dX0_holdOnly_28 : decode cX0_holdOnly 28 = .ok (.iastore, 1) := by decide +kernel
theorem dX0_holdOnly_29 : decode cX0_holdOnly 29 = .ok (.aload_n 0, 1) := by decide +kernel
theorem dX0_holdOnly_30 : decode cX0_holdOnly 30 = .ok (.getfield 35, 3) := by decide +kernel
theorem dX0_holdOnly_33 : decode cX0_holdOnly 33 = .ok (.iconst 0, 1) := by decide +kernel
theorem dX0_holdOnly_34 : decode cX0_holdOnly 34 = .ok (.iconst 1, 1) := by decide +kernel
theorem dX0_holdOnly_35 : decode cX0_holdOnly 35 = .ok (.iastore, 1) := by decide +kernel
theorem dX0_holdOnly_36 : decode cX0_holdOnly 36 = .ok (.aload_n 0, 1) := by decide +kernel
theorem dX0_holdOnly_37 : decode cX0_holdOnly 37 = .ok (.invokevirtual 45, 3) := by decide +kernel
theorem dX0_holdOnly_40 : decode cX0_holdOnly 40 = .ok (.return_, 1) := by decide +kernel
theorem dX0_readItems_0 : decode cX0_readItems 0 = .ok (.aload_n 0, 1) := by decide +kernel
theorem dX0_readItems_1 : decode cX0_readItems 1 = .ok (.getfield 12, 3) := by decide +kernel
theorem dX0_readItems_4 : decode cX0_readItems 4 = .ok (.aload_n 1, 1) := by decide +kernel
theorem dX0_readItems_5 : decode cX0_readItems 5 = .ok (.iload_n 2, 1) := by decide +kernel
theorem dX0_readItems_6 : decode cX0_readItems 6 = .ok (.invokevirtual 48, 3) := by decide +kernel
theorem dX0_readItems_9 : decode cX0_readItems 9 = .ok (.iconst 0, 1) := by decide +kernel
theorem dX0_readItems_10 : decode cX0_readItems 10 = .ok (.istore_n 3, 1) := by decide +kernel
theorem dX0_readItems_11 : decode cX0_readItems 11 = .ok (.iconst 0, 1) := by decide +kernel
theorem dX0_readItems_12 : decode cX0_readItems 12 = .ok (.istore 4, 2) := by decide +kernel
theorem dX0_readItems_14 : decode cX0_readItems 14 = .ok (.iload 4, 2) := by decide +kernel
theorem dX0_readItems_16 : decode cX0_readItems 16 = .ok (.iload_n 2, 1) := by decide +kernel
theorem dX0_readItems_17 : decode cX0_readItems 17 = .ok (.if_icmp .gt 57, 3) := by decide +kernel
theorem dX0_readItems_20 : decode cX0_readItems 20 = .ok (.aload_n 0, 1) := by decide +kernel
theorem dX0_readItems_21 : decode cX0_readItems 21 = .ok (.getfield 12, 3) := by decide +kernel
theorem dX0_readItems_24 : decode cX0_readItems 24 = .ok (.invokevirtual 52, 3) := by decide +kernel
theorem dX0_readItems_27 : decode cX0_readItems 27 = .ok (.istore 5, 2) := by decide +kernel
theorem dX0_readItems_29 : decode cX0_readItems 29 = .ok (.iload 5, 2) := by decide +kernel
theorem dX0_readItems_31 : decode cX0_readItems 31 = .ok (.bipush 15, 2) := by decide +kernel
theorem dX0_readItems_33 : decode cX0_readItems 33 = .ok (.if_icmp .ne 13, 3) := by decide +kernel
theorem dX0_readItems_36 : decode cX0_readItems 36 = .ok (.iload_n 3, 1) := by decide +kernel
theorem dX0_readItems_37 : decode cX0_readItems 37 = .ok (.ifCond .ne 7, 3) := by decide +kernel
theorem dX0_readItems_40 : decode cX0_readItems 40 = .ok (.iconst (-1), 1) := by decide +kernel
theorem dX0_readItems_41 : decode cX0_readItems 41 = .ok (.goto 4, 3) := by decide +kernel
theorem dX0_readItems_44 : decode cX0_readItems 44 = .ok (.iload_n 2, 1) := by decide +kernel
theorem dX0_readItems_45 : decode cX0_readItems 45 = .ok (.ireturn, 1) := by decide +kernel
theorem dX0_readItems_46 : decode cX0_readItems 46 = .ok (.aload_n 0, 1) := by decide +kernel
theorem dX0_readItems_47 : decode cX0_readItems 47 = .ok (.iload_n 3, 1) := by decide +kernel
theorem dX0_readItems_48 : decode cX0_readItems 48 = .ok (.iload 5, 2) := by decide +kernel
theorem dX0_readItems_50 : decode cX0_readItems 50 = .ok (.invokevirtual 56, 3) := by decide +kernel
theorem dX0_readItems_53 : decode cX0_readItems 53 = .ok (.istore_n 3, 1) := by decide +kernel
theorem dX0_readItems_54 : decode cX0_readItems 54 = .ok (.iload_n 3, 1) := by decide +kernel
theorem dX0_readItems_55 : decode cX0_readItems 55 = .ok (.bipush 6, 2) := by decide +kernel
theorem dX0_readItems_57 : decode cX0_readItems 57 = .ok (.if_icmp .ne 11, 3) := by decide +kernel
theorem dX0_readItems_60 : decode cX0_readItems 60 = .ok (.aload_n 0, 1) := by decide +kernel
theorem dX0_readItems_61 : decode cX0_readItems 61 = .ok (.getfield 12, 3) := by decide +kernel
theorem dX0_readItems_64 : decode cX0_readItems 64 = .ok (.getfield 60, 3) := by decide +kernel
theorem dX0_readItems_67 : decode cX0_readItems 67 = .ok (.ireturn, 1) := by decide +kernel
theorem dX0_readItems_68 : decode cX0_readItems 68 = .ok (.iinc 4 1, 3) := by decide +kernel
theorem dX0_readItems_71 : decode cX0_readItems 71 = .ok (.goto (-57), 3) := by decide +kernel
theorem dX0_readItems_74 : decode cX0_readItems 74 = .ok (.iconst (-1), 1) := by decide +kernel
theorem dX0_readItems_75 : decode cX0_readItems 75 = .ok (.ireturn, 1) := by decide +kernel
theorem dX0_take_0 : decode cX0_take 0 = .ok (.iload_n 1, 1) := by decide +kernel
theorem dX0_take_1 : decode cX0_take 1 = .ok (.tableswitch 88 0 5 #[39, 45, 51, 57, 63, 82], 39) := by decide +kernel
theorem dX0_take_40 : decode cX0_take 40 = .ok (.aload_n 0, 1) := by decide +kernel
theorem dX0_take_41 : decode cX0_take 41 = .ok (.iload_n 2, 1) := by decide +kernel
theorem dX0_take_42 : decode cX0_take 42 = .ok (.invokevirtual 63, 3) := by decide +kernel
theorem dX0_take_45 : decode cX0_take 45 = .ok (.ireturn, 1) := by decide +kernel
theorem dX0_take_46 : decode cX0_take 46 = .ok (.aload_n 0, 1) := by decide +kernel
theorem dX0_take_47 : decode cX0_take 47 = .ok (.iload_n 2, 1) := by decide +kernel
theorem dX0_take_48 : decode cX0_take 48 = .ok (.invokevirtual 67, 3) := by decide +kernel
theorem dX0_take_51 : decode cX0_take 51 = .ok (.ireturn, 1) := by decide +kernel
theorem dX0_take_52 : decode cX0_take 52 = .ok (.aload_n 0, 1) := by decide +kernel
theorem dX0_take_53 : decode cX0_take 53 = .ok (.iload_n 2, 1) := by decide +kernel
theorem dX0_take_54 : decode cX0_take 54 = .ok (.invokevirtual 70, 3) := by decide +kernel
theorem dX0_take_57 : decode cX0_take 57 = .ok (.ireturn, 1) := by decide +kernel
theorem dX0_take_58 : decode cX0_take 58 = .ok (.aload_n 0, 1) := by decide +kernel
theorem dX0_take_59 : decode cX0_take 59 = .ok (.iload_n 2, 1) := by decide +kernel
theorem dX0_take_60 : decode cX0_take 60 = .ok (.invokevirtual 73, 3) := by decide +kernel
theorem dX0_take_63 : decode cX0_take 63 = .ok (.ireturn, 1) := by decide +kernel
theorem dX0_take_64 : decode cX0_take 64 = .ok (.iload_n 2, 1) := by decide +kernel
theorem dX0_take_65 : decode cX0_take 65 = .ok (.bipush 12, 2) := by decide +kernel
theorem dX0_take_67 : decode cX0_take 67 = .ok (.if_icmp .ne 10, 3) := by decide +kernel
theorem dX0_take_70 : decode cX0_take 70 = .ok (.aload_n 0, 1) := by decide +kernel
theorem dX0_take_71 : decode cX0_take 71 = .ok (.invokevirtual 76, 3) := by decide +kernel
theorem dX0_take_74 : decode cX0_take 74 = .ok (.goto 8, 3) := by decide +kernel
theorem dX0_take_77 : decode cX0_take 77 = .ok (.aload_n 0, 1) := by decide +kernel
theorem dX0_take_78 : decode cX0_take 78 = .ok (.iload_n 2, 1) := by decide +kernel
theorem dX0_take_79 : decode cX0_take 79 = .ok (.invokevirtual 79, 3) := by decide +kernel
theorem dX0_take_82 : decode cX0_take 82 = .ok (.ireturn, 1) := by decide +kernel
theorem dX0_take_83 : decode cX0_take 83 = .ok (.aload_n 0, 1) := by decide +kernel
theorem dX0_take_84 : decode cX0_take 84 = .ok (.iload_n 2, 1) := by decide +kernel
theorem dX0_take_85 : decode cX0_take 85 = .ok (.invokevirtual 79, 3) := by decide +kernel
theorem dX0_take_88 : decode cX0_take 88 = .ok (.ireturn, 1) := by decide +kernel
theorem dX0_take_89 : decode cX0_take 89 = .ok (.bipush 6, 2) := by decide +kernel
theorem dX0_take_91 : decode cX0_take 91 = .ok (.ireturn, 1) := by decide +kernel
theorem dX0_takeStart_0 : decode cX0_takeStart 0 = .ok (.aload_n 0, 1) := by decide +kernel
theorem dX0_takeStart_1 : decode cX0_takeStart 1 = .ok (.getfield 22, 3) := by decide +kernel
theorem dX0_takeStart_4 : decode cX0_takeStart 4 = .ok (.bipush 9, 2) := by decide +kernel
theorem dX0_takeStart_6 : decode cX0_takeStart 6 = .ok (.if_icmp .lt 6, 3) := by decide +kernel
theorem dX0_takeStart_9 : decode cX0_takeStart 9 = .ok (.bipush 6, 2) := by decide +kernel
theorem dX0_takeStart_11 : decode cX0_takeStart 11 = .ok (.ireturn, 1) := by decide +kernel
theorem dX0_takeStart_12 : decode cX0_takeStart 12 = .ok (.aload_n 0, 1) := by decide +kernel
theorem dX0_takeStart_13 : decode cX0_takeStart 13 = .ok (.getfield 28, 3) := by decide +kernel
theorem dX0_takeStart_16 : decode cX0_takeStart 16 = .ok (.aload_n 0, 1) := by decide +kernel
theorem dX0_takeStart_17 : decode cX0_takeStart 17 = .ok (.getfield 22, 3) := by decide +kernel
theorem dX0_takeStart_20 : decode cX0_takeStart 20 = .ok (.iconst 1, 1) := by decide +kernel
theorem dX0_takeStart_21 : decode cX0_takeStart 21 = .ok (.iastore, 1) := by decide +kernel
theorem dX0_takeStart_22 : decode cX0_takeStart 22 = .ok (.aload_n 0, 1) := by decide +kernel
theorem dX0_takeStart_23 : decode cX0_takeStart 23 = .ok (.getfield 35, 3) := by decide +kernel
theorem dX0_takeStart_26 : decode cX0_takeStart 26 = .ok (.aload_n 0, 1) := by decide +kernel
theorem dX0_takeStart_27 : decode cX0_takeStart 27 = .ok (.getfield 22, 3) := by decide +kernel
theorem dX0_takeStart_30 : decode cX0_takeStart 30 = .ok (.iconst 1, 1) := by decide +kernel
theorem dX0_takeStart_31 : decode cX0_takeStart 31 = .ok (.iastore, 1) := by decide +kernel
theorem dX0_takeStart_32 : decode cX0_takeStart 32 = .ok (.iload_n 1, 1) := by decide +kernel
theorem dX0_takeStart_33 : decode cX0_takeStart 33 = .ok (.bipush 10, 2) := by decide +kernel
theorem dX0_takeStart_35 : decode cX0_takeStart 35 = .ok (.if_icmp .ne 7, 3) := by decide +kernel
theorem dX0_takeStart_38 : decode cX0_takeStart 38 = .ok (.iconst 1, 1) := by decide +kernel
theorem dX0_takeStart_39 : decode cX0_takeStart 39 = .ok (.goto 8, 3) := by decide +kernel
theorem dX0_takeStart_42 : decode cX0_takeStart 42 = .ok (.aload_n 0, 1) := by decide +kernel
theorem dX0_takeStart_43 : decode cX0_takeStart 43 = .ok (.iload_n 1, 1) := by decide +kernel
theorem dX0_takeStart_44 : decode cX0_takeStart 44 = .ok (.invokevirtual 70, 3) := by decide +kernel
theorem dX0_takeStart_47 : decode cX0_takeStart 47 = .ok (.ireturn, 1) := by decide +kernel
theorem dX0_takeRound_0 : decode cX0_takeRound 0 = .ok (.iload_n 1, 1) := by decide +kernel
theorem dX0_takeRound_1 : decode cX0_takeRound 1 = .ok (.bipush 12, 2) := by decide +kernel
theorem dX0_takeRound_3 : decode cX0_takeRound 3 = .ok (.if_icmp .ne 19, 3) := by decide +kernel
theorem dX0_takeRound_6 : decode cX0_takeRound 6 = .ok (.aload_n 0, 1) := by decide +kernel
theorem dX0_takeRound_7 : decode cX0_takeRound 7 = .ok (.getfield 12, 3) := by decide +kernel
theorem dX0_takeRound_10 : decode cX0_takeRound 10 = .ok (.getfield 82, 3) := by decide +kernel
theorem dX0_takeRound_13 : decode cX0_takeRound 13 = .ok (.iconst 1, 1) := by decide +kernel
theorem dX0_takeRound_14 : decode cX0_takeRound 14 = .ok (.bipush 9, 2) := by decide +kernel
theorem dX0_takeRound_16 : decode cX0_takeRound 16 = .ok (.invokestatic 85, 3) := by decide +kernel
theorem dX0_takeRound_19 : decode cX0_takeRound 19 = .ok (.ifCond .ne 6, 3) := by decide +kernel
theorem dX0_takeRound_22 : decode cX0_takeRound 22 = .ok (.bipush 6, 2) := by decide +kernel
theorem dX0_takeRound_24 : decode cX0_takeRound 24 = .ok (.ireturn, 1) := by decide +kernel
theorem dX0_takeRound_25 : decode cX0_takeRound 25 = .ok (.aload_n 0, 1) := by decide +kernel
theorem dX0_takeRound_26 : decode cX0_takeRound 26 = .ok (.getfield 28, 3) := by decide +kernel
theorem dX0_takeRound_29 : decode cX0_takeRound 29 = .ok (.aload_n 0, 1) := by decide +kernel
theorem dX0_takeRound_30 : decode cX0_takeRound 30 = .ok (.getfield 22, 3) := by decide +kernel
theorem dX0_takeRound_33 : decode cX0_takeRound 33 = .ok (.aload_n 0, 1) := by decide +kernel
theorem dX0_takeRound_34 : decode cX0_takeRound 34 = .ok (.getfield 12, 3) := by decide +kernel
theorem dX0_takeRound_37 : decode cX0_takeRound 37 = .ok (.getfield 82, 3) := by decide +kernel
theorem dX0_takeRound_40 : decode cX0_takeRound 40 = .ok (.iastore, 1) := by decide +kernel
theorem dX0_takeRound_41 : decode cX0_takeRound 41 = .ok (.iconst 2, 1) := by decide +kernel
theorem dX0_takeRound_42 : decode cX0_takeRound 42 = .ok (.ireturn, 1) := by decide +kernel
theorem dX0_takeAgain_0 : decode cX0_takeAgain 0 = .ok (.iload_n 1, 1) := by decide +kernel
theorem dX0_takeAgain_1 : decode cX0_takeAgain 1 = .ok (.bipush 11, 2) := by decide +kernel
theorem dX0_takeAgain_3 : decode cX0_takeAgain 3 = .ok (.if_icmp .eq 9, 3) := by decide +kernel
theorem dX0_takeAgain_6 : decode cX0_takeAgain 6 = .ok (.aload_n 0, 1) := by decide +kernel
theorem dX0_takeAgain_7 : decode cX0_takeAgain 7 = .ok (.iload_n 1, 1) := by decide +kernel
theorem dX0_takeAgain_8 : decode cX0_takeAgain 8 = .ok (.invokevirtual 73, 3) := by decide +kernel
theorem dX0_takeAgain_11 : decode cX0_takeAgain 11 = .ok (.ireturn, 1) := by decide +kernel
theorem dX0_takeAgain_12 : decode cX0_takeAgain 12 = .ok (.aload_n 0, 1) := by decide +kernel
theorem dX0_takeAgain_13 : decode cX0_takeAgain 13 = .ok (.dup, 1) := by decide +kernel
theorem dX0_takeAgain_14 : decode cX0_takeAgain 14 = .ok (.getfield 25, 3) := by decide +kernel
theorem dX0_takeAgain_17 : decode cX0_takeAgain 17 = .ok (.iconst 1, 1) := by decide +kernel
theorem dX0_takeAgain_18 : decode cX0_takeAgain 18 = .ok (.aload_n 0, 1) := by decide +kernel
theorem dX0_takeAgain_19 : decode cX0_takeAgain 19 = .ok (.getfield 22, 3) := by decide +kernel
theorem dX0_takeAgain_22 : decode cX0_takeAgain 22 = .ok (.ishl, 1) := by decide +kernel
theorem dX0_takeAgain_23 : decode cX0_takeAgain 23 = .ok (.ior, 1) := by decide +kernel
theorem dX0_takeAgain_24 : decode cX0_takeAgain 24 = .ok (.putfield 25, 3) := by decide +kernel
theorem dX0_takeAgain_27 : decode cX0_takeAgain 27 = .ok (.iconst 3, 1) := by decide +kernel
theorem dX0_takeAgain_28 : decode cX0_takeAgain 28 = .ok (.ireturn, 1) := by decide +kernel
theorem dX0_takeCourtesy_0 : decode cX0_takeCourtesy 0 = .ok (.iload_n 1, 1) := by decide +kernel
theorem dX0_takeCourtesy_1 : decode cX0_takeCourtesy 1 = .ok (.bipush 10, 2) := by decide +kernel
theorem dX0_takeCourtesy_3 : decode cX0_takeCourtesy 3 = .ok (.if_icmp .lt 6, 3) := by decide +kernel
theorem dX0_takeCourtesy_6 : decode cX0_takeCourtesy 6 = .ok (.bipush 6, 2) := by decide +kernel
theorem dX0_takeCourtesy_8 : decode cX0_takeCourtesy 8 = .ok (.ireturn, 1) := by decide +kernel
theorem dX0_takeCourtesy_9 : decode cX0_takeCourtesy 9 = .ok (.aload_n 0, 1) := by decide +kernel
theorem dX0_takeCourtesy_10 : decode cX0_takeCourtesy 10 = .ok (.getfield 32, 3) := by decide +kernel
theorem dX0_takeCourtesy_13 : decode cX0_takeCourtesy 13 = .ok (.aload_n 0, 1) := by decide +kernel
theorem dX0_takeCourtesy_14 : decode cX0_takeCourtesy 14 = .ok (.getfield 22, 3) := by decide +kernel
theorem dX0_takeCourtesy_17 : decode cX0_takeCourtesy 17 = .ok (.iload_n 1, 1) := by decide +kernel
theorem dX0_takeCourtesy_18 : decode cX0_takeCourtesy 18 = .ok (.iastore, 1) := by decide +kernel
theorem dX0_takeCourtesy_19 : decode cX0_takeCourtesy 19 = .ok (.iconst 4, 1) := by decide +kernel
theorem dX0_takeCourtesy_20 : decode cX0_takeCourtesy 20 = .ok (.ireturn, 1) := by decide +kernel
theorem dX0_takeLeast_0 : decode cX0_takeLeast 0 = .ok (.aload_n 0, 1) := by decide +kernel
theorem dX0_takeLeast_1 : decode cX0_takeLeast 1 = .ok (.getfield 12, 3) := by decide +kernel
theorem dX0_takeLeast_4 : decode cX0_takeLeast 4 = .ok (.getfield 82, 3) := by decide +kernel
theorem dX0_takeLeast_7 : decode cX0_takeLeast 7 = .ok (.iconst 1, 1) := by decide +kernel
theorem dX0_takeLeast_8 : decode cX0_takeLeast 8 = .ok (.bipush 99, 2) := by decide +kernel
theorem dX0_takeLeast_10 : decode cX0_takeLeast 10 = .ok (.invokestatic 85, 3) := by decide +kernel
theorem dX0_takeLeast_13 : decode cX0_takeLeast 13 = .ok (.ifCond .ne 6, 3) := by decide +kernel
theorem dX0_takeLeast_16 : decode cX0_takeLeast 16 = .ok (.bipush 6, 2) := by decide +kernel
theorem dX0_takeLeast_18 : decode cX0_takeLeast 18 = .ok (.ireturn, 1) := by decide +kernel
theorem dX0_takeLeast_19 : decode cX0_takeLeast 19 = .ok (.aload_n 0, 1) := by decide +kernel
theorem dX0_takeLeast_20 : decode cX0_takeLeast 20 = .ok (.getfield 35, 3) := by decide +kernel
theorem dX0_takeLeast_23 : decode cX0_takeLeast 23 = .ok (.aload_n 0, 1) := by decide +kernel
theorem dX0_takeLeast_24 : decode cX0_takeLeast 24 = .ok (.getfield 22, 3) := by decide +kernel
theorem dX0_takeLeast_27 : decode cX0_takeLeast 27 = .ok (.aload_n 0, 1) := by decide +kernel
theorem dX0_takeLeast_28 : decode cX0_takeLeast 28 = .ok (.getfield 12, 3) := by decide +kernel
theorem dX0_takeLeast_31 : decode cX0_takeLeast 31 = .ok (.getfield 82, 3) := by decide +kernel
theorem dX0_takeLeast_34 : decode cX0_takeLeast 34 = .ok (.iastore, 1) := by decide +kernel
theorem dX0_takeLeast_35 : decode cX0_takeLeast 35 = .ok (.iconst 5, 1) := by decide +kernel
theorem dX0_takeLeast_36 : decode cX0_takeLeast 36 = .ok (.ireturn, 1) := by decide +kernel
theorem dX0_takeEnd_0 : decode cX0_takeEnd 0 = .ok (.iload_n 1, 1) := by decide +kernel
theorem dX0_takeEnd_1 : decode cX0_takeEnd 1 = .ok (.bipush 13, 2) := by decide +kernel
theorem dX0_takeEnd_3 : decode cX0_takeEnd 3 = .ok (.if_icmp .eq 6, 3) := by decide +kernel
theorem dX0_takeEnd_6 : decode cX0_takeEnd 6 = .ok (.bipush 6, 2) := by decide +kernel
theorem dX0_takeEnd_8 : decode cX0_takeEnd 8 = .ok (.ireturn, 1) := by decide +kernel
theorem dX0_takeEnd_9 : decode cX0_takeEnd 9 = .ok (.aload_n 0, 1) := by decide +kernel
theorem dX0_takeEnd_10 : decode cX0_takeEnd 10 = .ok (.dup, 1) := by decide +kernel
theorem dX0_takeEnd_11 : decode cX0_takeEnd 11 = .ok (.getfield 22, 3) := by decide +kernel
theorem dX0_takeEnd_14 : decode cX0_takeEnd 14 = .ok (.iconst 1, 1) := by decide +kernel
theorem dX0_takeEnd_15 : decode cX0_takeEnd 15 = .ok (.iadd, 1) := by decide +kernel
theorem dX0_takeEnd_16 : decode cX0_takeEnd 16 = .ok (.putfield 22, 3) := by decide +kernel
theorem dX0_takeEnd_19 : decode cX0_takeEnd 19 = .ok (.iconst 0, 1) := by decide +kernel
theorem dX0_takeEnd_20 : decode cX0_takeEnd 20 = .ok (.ireturn, 1) := by decide +kernel
theorem dX0_sortByRounds_0 : decode cX0_sortByRounds 0 = .ok (.iconst 1, 1) := by decide +kernel
theorem dX0_sortByRounds_1 : decode cX0_sortByRounds 1 = .ok (.istore_n 1, 1) := by decide +kernel
theorem dX0_sortByRounds_2 : decode cX0_sortByRounds 2 = .ok (.iload_n 1, 1) := by decide +kernel
theorem dX0_sortByRounds_3 : decode cX0_sortByRounds 3 = .ok (.bipush 9, 2) := by decide +kernel
theorem dX0_sortByRounds_5 : decode cX0_sortByRounds 5 = .ok (.if_icmp .gt 54, 3) := by decide +kernel
theorem dX0_sortByRounds_8 : decode cX0_sortByRounds 8 = .ok (.aload_n 0, 1) := by decide +kernel
theorem dX0_sortByRounds_9 : decode cX0_sortByRounds 9 = .ok (.getfield 38, 3) := by decide +kernel
theorem dX0_sortByRounds_12 : decode cX0_sortByRounds 12 = .ok (.iload_n 1, 1) := by decide +kernel
theorem dX0_sortByRounds_13 : decode cX0_sortByRounds 13 = .ok (.iconst 0, 1) := by decide +kernel
theorem dX0_sortByRounds_14 : decode cX0_sortByRounds 14 = .ok (.iastore, 1) := by decide +kernel
theorem dX0_sortByRounds_15 : decode cX0_sortByRounds 15 = .ok (.iconst 0, 1) := by decide +kernel
theorem dX0_sortByRounds_16 : decode cX0_sortByRounds 16 = .ok (.istore_n 2, 1) := by decide +kernel
theorem dX0_sortByRounds_17 : decode cX0_sortByRounds 17 = .ok (.iload_n 2, 1) := by decide +kernel
theorem dX0_sortByRounds_18 : decode cX0_sortByRounds 18 = .ok (.aload_n 0, 1) := by decide +kernel
theorem dX0_sortByRounds_19 : decode cX0_sortByRounds 19 = .ok (.getfield 22, 3) := by decide +kernel
theorem dX0_sortByRounds_22 : decode cX0_sortByRounds 22 = .ok (.if_icmp .ge 31, 3) := by decide +kernel
theorem dX0_sortByRounds_25 : decode cX0_sortByRounds 25 = .ok (.aload_n 0, 1) := by decide +kernel
theorem dX0_sortByRounds_26 : decode cX0_sortByRounds 26 = .ok (.getfield 28, 3) := by decide +kernel
theorem dX0_sortByRounds_29 : decode cX0_sortByRounds 29 = .ok (.iload_n 2, 1) := by decide +kernel
theorem dX0_sortByRounds_30 : decode cX0_sortByRounds 30 = .ok (.iaload, 1) := by decide +kernel
theorem dX0_sortByRounds_31 : decode cX0_sortByRounds 31 = .ok (.iload_n 1, 1) := by decide +kernel
theorem dX0_sortByRounds_32 : decode cX0_sortByRounds 32 = .ok (.if_icmp .gt 15, 3) := by decide +kernel
theorem dX0_sortByRounds_35 : decode cX0_sortByRounds 35 = .ok (.aload_n 0, 1) := by decide +kernel
theorem dX0_sortByRounds_36 : decode cX0_sortByRounds 36 = .ok (.getfield 38, 3) := by decide +kernel
theorem dX0_sortByRounds_39 : decode cX0_sortByRounds 39 = .ok (.iload_n 1, 1) := by decide +kernel
theorem dX0_sortByRounds_40 : decode cX0_sortByRounds 40 = .ok (.dup2, 1) := by decide +kernel
theorem dX0_sortByRounds_41 : decode cX0_sortByRounds 41 = .ok (.iaload, 1) := by decide +kernel
theorem dX0_sortByRounds_42 : decode cX0_sortByRounds 42 = .ok (.iconst 1, 1) := by decide +kernel
theorem dX0_sortByRounds_43 : decode cX0_sortByRounds 43 = .ok (.iload_n 2, 1) := by decide +kernel
theorem dX0_sortByRounds_44 : decode cX0_sortByRounds 44 = .ok (.ishl, 1) := by decide +kernel
theorem dX0_sortByRounds_45 : decode cX0_sortByRounds 45 = .ok (.ior, 1) := by decide +kernel
theorem dX0_sortByRounds_46 : decode cX0_sortByRounds 46 = .ok (.iastore, 1) := by decide +kernel
theorem dX0_sortByRounds_47 : decode cX0_sortByRounds 47 = .ok (.iinc 2 1, 3) := by decide +kernel
theorem dX0_sortByRounds_50 : decode cX0_sortByRounds 50 = .ok (.goto (-33), 3) := by decide +kernel
theorem dX0_sortByRounds_53 : decode cX0_sortByRounds 53 = .ok (.iinc 1 1, 3) := by decide +kernel
theorem dX0_sortByRounds_56 : decode cX0_sortByRounds 56 = .ok (.goto (-54), 3) := by decide +kernel
theorem dX0_sortByRounds_59 : decode cX0_sortByRounds 59 = .ok (.return_, 1) := by decide +kernel
theorem dX0_naming_0 : decode cX0_naming 0 = .ok (.iconst 0, 1) := by decide +kernel
theorem dX0_naming_1 : decode cX0_naming 1 = .ok (.istore 5, 2) := by decide +kernel
theorem dX0_naming_3 : decode cX0_naming 3 = .ok (.iconst 0, 1) := by decide +kernel
theorem dX0_naming_4 : decode cX0_naming 4 = .ok (.istore 6, 2) := by decide +kernel
theorem dX0_naming_6 : decode cX0_naming 6 = .ok (.iload 6, 2) := by decide +kernel
theorem dX0_naming_8 : decode cX0_naming 8 = .ok (.aload_n 0, 1) := by decide +kernel
theorem dX0_naming_9 : decode cX0_naming 9 = .ok (.getfield 22, 3) := by decide +kernel
theorem dX0_naming_12 : decode cX0_naming 12 = .ok (.if_icmp .ge 33, 3) := by decide +kernel
theorem dX0_naming_15 : decode cX0_naming 15 = .ok (.aload_n 0, 1) := by decide +kernel
theorem dX0_naming_16 : decode cX0_naming 16 = .ok (.iload 6, 2) := by decide +kernel
theorem dX0_naming_18 : decode cX0_naming 18 = .ok (.aload_n 1, 1) := by decide +kernel
theorem dX0_naming_19 : decode cX0_naming 19 = .ok (.aload_n 2, 1) := by decide +kernel
theorem dX0_naming_20 : decode cX0_naming 20 = .ok (.iload_n 3, 1) := by decide +kernel
theorem dX0_naming_21 : decode cX0_naming 21 = .ok (.iload 4, 2) := by decide +kernel
theorem dX0_naming_23 : decode cX0_naming 23 = .ok (.invokevirtual 89, 3) := by decide +kernel
theorem dX0_naming_26 : decode cX0_naming 26 = .ok (.iconst (-1), 1) := by decide +kernel
theorem dX0_naming_27 : decode cX0_naming 27 = .ok (.if_icmp .eq 12, 3) := by decide +kernel
theorem dX0_naming_30 : decode cX0_naming 30 = .ok (.iload 5, 2) := by decide +kernel
theorem dX0_naming_32 : decode cX0_naming 32 = .ok (.iconst 1, 1) := by decide +kernel
theorem dX0_naming_33 : decode cX0_naming 33 = .ok (.iload 6, 2) := by decide +kernel
theorem dX0_naming_35 : decode cX0_naming 35 = .ok (.ishl, 1) := by decide +kernel
theorem dX0_naming_36 : decode cX0_naming 36 = .ok (.ior, 1) := by decide +kernel
theorem dX0_naming_37 : decode cX0_naming 37 = .ok (.istore 5, 2) := by decide +kernel
theorem dX0_naming_39 : decode cX0_naming 39 = .ok (.iinc 6 1, 3) := by decide +kernel
theorem dX0_naming_42 : decode cX0_naming 42 = .ok (.goto (-36), 3) := by decide +kernel
theorem dX0_naming_45 : decode cX0_naming 45 = .ok (.iload 5, 2) := by decide +kernel
theorem dX0_naming_47 : decode cX0_naming 47 = .ok (.ireturn, 1) := by decide +kernel
theorem dX0_settledIn_0 : decode cX0_settledIn 0 = .ok (.iconst 1, 1) := by decide +kernel
theorem dX0_settledIn_1 : decode cX0_settledIn 1 = .ok (.istore_n 2, 1) := by decide +kernel
theorem dX0_settledIn_2 : decode cX0_settledIn 2 = .ok (.iload_n 2, 1) := by decide +kernel
theorem dX0_settledIn_3 : decode cX0_settledIn 3 = .ok (.bipush 9, 2) := by decide +kernel
theorem dX0_settledIn_5 : decode cX0_settledIn 5 = .ok (.if_icmp .gt 41, 3) := by decide +kernel
theorem dX0_settledIn_8 : decode cX0_settledIn 8 = .ok (.iload_n 1, 1) := by decide +kernel
theorem dX0_settledIn_9 : decode cX0_settledIn 9 = .ok (.aload_n 0, 1) := by decide +kernel
theorem dX0_settledIn_10 : decode cX0_settledIn 10 = .ok (.getfield 38, 3) := by decide +kernel
theorem dX0_settledIn_13 : decode cX0_settledIn 13 = .ok (.iload_n 2, 1) := by decide +kernel
theorem dX0_settledIn_14 : decode cX0_settledIn 14 = .ok (.iaload, 1) := by decide +kernel
theorem dX0_settledIn_15 : decode cX0_settledIn 15 = .ok (.iand, 1) := by decide +kernel
theorem dX0_settledIn_16 : decode cX0_settledIn 16 = .ok (.istore_n 3, 1) := by decide +kernel
theorem dX0_settledIn_17 : decode cX0_settledIn 17 = .ok (.iload_n 3, 1) := by decide +kernel
theorem dX0_settledIn_18 : decode cX0_settledIn 18 = .ok (.iload_n 3, 1) := by decide +kernel
theorem dX0_settledIn_19 : decode cX0_settledIn 19 = .ok (.ineg, 1) := by decide +kernel
theorem dX0_settledIn_20 : decode cX0_settledIn 20 = .ok (.iand, 1) := by decide +kernel
theorem dX0_settledIn_21 : decode cX0_settledIn 21 = .ok (.istore 4, 2) := by decide +kernel
theorem dX0_settledIn_23 : decode cX0_settledIn 23 = .ok (.iload 4, 2) := by decide +kernel
theorem dX0_settledIn_25 : decode cX0_settledIn 25 = .ok (.ifCond .eq 15, 3) := by decide +kernel
theorem dX0_settledIn_28 : decode cX0_settledIn 28 = .ok (.iload 4, 2) := by decide +kernel
theorem dX0_settledIn_30 : decode cX0_settledIn 30 = .ok (.aload_n 0, 1) := by decide +kernel
theorem dX0_settledIn_31 : decode cX0_settledIn 31 = .ok (.getfield 25, 3) := by decide +kernel
theorem dX0_settledIn_34 : decode cX0_settledIn 34 = .ok (.iand, 1) := by decide +kernel
theorem dX0_settledIn_35 : decode cX0_settledIn 35 = .ok (.ifCond .ne 5, 3) := by decide +kernel
theorem dX0_settledIn_38 : decode cX0_settledIn 38 = .ok (.iload_n 2, 1) := by decide +kernel
theorem dX0_settledIn_39 : decode cX0_settledIn 39 = .ok (.ireturn, 1) := by decide +kernel
theorem dX0_settledIn_40 : decode cX0_settledIn 40 = .ok (.iinc 2 1, 3) := by decide +kernel
theorem dX0_settledIn_43 : decode cX0_settledIn 43 = .ok (.goto (-41), 3) := by decide +kernel
theorem dX0_settledIn_46 : decode cX0_settledIn 46 = .ok (.iconst (-1), 1) := by decide +kernel
theorem dX0_settledIn_47 : decode cX0_settledIn 47 = .ok (.ireturn, 1) := by decide +kernel
theorem dX0_countingItem_0 : decode cX0_countingItem 0 = .ok (.iconst 0, 1) := by decide +kernel
theorem dX0_countingItem_1 : decode cX0_countingItem 1 = .ok (.istore_n 3, 1) := by decide +kernel
theorem dX0_countingItem_2 : decode cX0_countingItem 2 = .ok (.iload_n 3, 1) := by decide +kernel
theorem dX0_countingItem_3 : decode cX0_countingItem 3 = .ok (.aload_n 0, 1) := by decide +kernel
theorem dX0_countingItem_4 : decode cX0_countingItem 4 = .ok (.getfield 22, 3) := by decide +kernel
theorem dX0_countingItem_7 : decode cX0_countingItem 7 = .ok (.if_icmp .ge 26, 3) := by decide +kernel
theorem dX0_countingItem_10 : decode cX0_countingItem 10 = .ok (.iload_n 1, 1) := by decide +kernel
theorem dX0_countingItem_11 : decode cX0_countingItem 11 = .ok (.aload_n 0, 1) := by decide +kernel
theorem dX0_countingItem_12 : decode cX0_countingItem 12 = .ok (.getfield 38, 3) := by decide +kernel
theorem dX0_countingItem_15 : decode cX0_countingItem 15 = .ok (.iload_n 2, 1) := by decide +kernel
theorem dX0_countingItem_16 : decode cX0_countingItem 16 = .ok (.iaload, 1) := by decide +kernel
theorem dX0_countingItem_17 : decode cX0_countingItem 17 = .ok (.iand, 1) := by decide +kernel
theorem dX0_countingItem_18 : decode cX0_countingItem 18 = .ok (.iconst 1, 1) := by decide +kernel
theorem dX0_countingItem_19 : decode cX0_countingItem 19 = .ok (.iload_n 3, 1) := by decide +kernel
theorem dX0_countingItem_20 : decode cX0_countingItem 20 = .ok (.ishl, 1) := by decide +kernel
theorem dX0_countingItem_21 : decode cX0_countingItem 21 = .ok (.iand, 1) := by decide +kernel
theorem dX0_countingItem_22 : decode cX0_countingItem 22 = .ok (.ifCond .eq 5, 3) := by decide +kernel
theorem dX0_countingItem_25 : decode cX0_countingItem 25 = .ok (.iload_n 3, 1) := by decide +kernel
theorem dX0_countingItem_26 : decode cX0_countingItem 26 = .ok (.ireturn, 1) := by decide +kernel
theorem dX0_countingItem_27 : decode cX0_countingItem 27 = .ok (.iinc 3 1, 3) := by decide +kernel
theorem dX0_countingItem_30 : decode cX0_countingItem 30 = .ok (.goto (-28), 3) := by decide +kernel
theorem dX0_countingItem_33 : decode cX0_countingItem 33 = .ok (.iconst (-1), 1) := by decide +kernel
theorem dX0_countingItem_34 : decode cX0_countingItem 34 = .ok (.ireturn, 1) := by decide +kernel
theorem dX0_named_0 : decode cX0_named 0 = .ok (.aload_n 0, 1) := by decide +kernel
theorem dX0_named_1 : decode cX0_named 1 = .ok (.getfield 32, 3) := by decide +kernel
theorem dX0_named_4 : decode cX0_named 4 = .ok (.iload_n 1, 1) := by decide +kernel
theorem dX0_named_5 : decode cX0_named 5 = .ok (.iaload, 1) := by decide +kernel
theorem dX0_named_6 : decode cX0_named 6 = .ok (.tableswitch 69 7 9 #[26, 63, 66], 26) := by decide +kernel
theorem dX0_named_32 : decode cX0_named 32 = .ok (.aload_n 3, 1) := by decide +kernel
theorem dX0_named_33 : decode cX0_named 33 = .ok (.getfield 93, 3) := by decide +kernel
theorem dX0_named_36 : decode cX0_named 36 = .ok (.iload 4, 2) := by decide +kernel
theorem dX0_named_38 : decode cX0_named 38 = .ok (.iload 5, 2) := by decide +kernel
theorem dX0_named_40 : decode cX0_named 40 = .ok (.invokestatic 98, 3) := by decide +kernel
theorem dX0_named_43 : decode cX0_named 43 = .ok (.iaload, 1) := by decide +kernel
theorem dX0_named_44 : decode cX0_named 44 = .ok (.istore 6, 2) := by decide +kernel
theorem dX0_named_46 : decode cX0_named 46 = .ok (.iload 6, 2) := by decide +kernel
theorem dX0_named_48 : decode cX0_named 48 = .ok (.iconst (-1), 1) := by decide +kernel
theorem dX0_named_49 : decode cX0_named 49 = .ok (.if_icmp .ne 5, 3) := by decide +kernel
theorem dX0_named_52 : decode cX0_named 52 = .ok (.iconst (-1), 1) := by decide +kernel
theorem dX0_named_53 : decode cX0_named 53 = .ok (.ireturn, 1) := by decide +kernel
theorem dX0_named_54 : decode cX0_named 54 = .ok (.iload 6, 2) := by decide +kernel
theorem dX0_named_56 : decode cX0_named 56 = .ok (.iload 4, 2) := by decide +kernel
theorem dX0_named_58 : decode cX0_named 58 = .ok (.if_icmp .ne 8, 3) := by decide +kernel
theorem dX0_named_61 : decode cX0_named 61 = .ok (.iload 5, 2) := by decide +kernel
theorem dX0_named_63 : decode cX0_named 63 = .ok (.goto 5, 3) := by decide +kernel
theorem dX0_named_66 : decode cX0_named 66 = .ok (.iload 4, 2) := by decide +kernel
theorem dX0_named_68 : decode cX0_named 68 = .ok (.ireturn, 1) := by decide +kernel
theorem dX0_named_69 : decode cX0_named 69 = .ok (.iload 4, 2) := by decide +kernel
theorem dX0_named_71 : decode cX0_named 71 = .ok (.ireturn, 1) := by decide +kernel
theorem dX0_named_72 : decode cX0_named 72 = .ok (.iload 5, 2) := by decide +kernel
theorem dX0_named_74 : decode cX0_named 74 = .ok (.ireturn, 1) := by decide +kernel
theorem dX0_named_75 : decode cX0_named 75 = .ok (.aload_n 0, 1) := by decide +kernel
theorem dX0_named_76 : decode cX0_named 76 = .ok (.getfield 32, 3) := by decide +kernel
theorem dX0_named_79 : decode cX0_named 79 = .ok (.iload_n 1, 1) := by decide +kernel
theorem dX0_named_80 : decode cX0_named 80 = .ok (.iaload, 1) := by decide +kernel
theorem dX0_named_81 : decode cX0_named 81 = .ok (.aload_n 2, 1) := by decide +kernel
theorem dX0_named_82 : decode cX0_named 82 = .ok (.aload_n 3, 1) := by decide +kernel
theorem dX0_named_83 : decode cX0_named 83 = .ok (.iload 4, 2) := by decide +kernel
theorem dX0_named_85 : decode cX0_named 85 = .ok (.iload 5, 2) := by decide +kernel
theorem dX0_named_87 : decode cX0_named 87 = .ok (.invokestatic 101, 3) := by decide +kernel
theorem dX0_named_90 : decode cX0_named 90 = .ok (.istore 7, 2) := by decide +kernel
theorem dX0_named_92 : decode cX0_named 92 = .ok (.iload 7, 2) := by decide +kernel
theorem dX0_named_94 : decode cX0_named 94 = .ok (.aload_n 0, 1) := by decide +kernel
theorem dX0_named_95 : decode cX0_named 95 = .ok (.getfield 35, 3) := by decide +kernel
theorem dX0_named_98 : decode cX0_named 98 = .ok (.iload_n 1, 1) := by decide +kernel
theorem dX0_named_99 : decode cX0_named 99 = .ok (.iaload, 1) := by decide +kernel
theorem dX0_named_100 : decode cX0_named 100 = .ok (.if_icmp .lt 6, 3) := by decide +kernel
theorem dX0_named_103 : decode cX0_named 103 = .ok (.iload 4, 2) := by decide +kernel
theorem dX0_named_105 : decode cX0_named 105 = .ok (.ireturn, 1) := by decide +kernel
theorem dX0_named_106 : decode cX0_named 106 = .ok (.iload 7, 2) := by decide +kernel
theorem dX0_named_108 : decode cX0_named 108 = .ok (.ineg, 1) := by decide +kernel
theorem dX0_named_109 : decode cX0_named 109 = .ok (.aload_n 0, 1) := by decide +kernel
theorem dX0_named_110 : decode cX0_named 110 = .ok (.getfield 35, 3) := by decide +kernel
theorem dX0_named_113 : decode cX0_named 113 = .ok (.iload_n 1, 1) := by decide +kernel
theorem dX0_named_114 : decode cX0_named 114 = .ok (.iaload, 1) := by decide +kernel
theorem dX0_named_115 : decode cX0_named 115 = .ok (.if_icmp .lt 8, 3) := by decide +kernel
theorem dX0_named_118 : decode cX0_named 118 = .ok (.iload 5, 2) := by decide +kernel
theorem dX0_named_120 : decode cX0_named 120 = .ok (.goto 4, 3) := by decide +kernel
theorem dX0_named_123 : decode cX0_named 123 = .ok (.iconst (-1), 1) := by decide +kernel
theorem dX0_named_124 : decode cX0_named 124 = .ok (.ireturn, 1) := by decide +kernel
theorem dX0_leadOf_0 : decode cX0_leadOf 0 = .ok (.iload_n 0, 1) := by decide +kernel
theorem dX0_leadOf_1 : decode cX0_leadOf 1 = .ok (.tableswitch 117 0 5 #[39, 52, 65, 78, 91, 104], 39) := by decide +kernel
theorem dX0_leadOf_40 : decode cX0_leadOf 40 = .ok (.aload_n 1, 1) := by decide +kernel
theorem dX0_leadOf_41 : decode cX0_leadOf 41 = .ok (.iload_n 3, 1) := by decide +kernel
theorem dX0_leadOf_42 : decode cX0_leadOf 42 = .ok (.invokevirtual 104, 3) := by decide +kernel
theorem dX0_leadOf_45 : decode cX0_leadOf 45 = .ok (.aload_n 1, 1) := by decide +kernel
theorem dX0_leadOf_46 : decode cX0_leadOf 46 = .ok (.iload 4, 2) := by decide +kernel
theorem dX0_leadOf_48 : decode cX0_leadOf 48 = .ok (.invokevirtual 104, 3) := by decide +kernel
theorem dX0_leadOf_51 : decode cX0_leadOf 51 = .ok (.isub, 1) := by decide +kernel
theorem dX0_leadOf_52 : decode cX0_leadOf 52 = .ok (.ireturn, 1) := by decide +kernel
theorem dX0_leadOf_53 : decode cX0_leadOf 53 = .ok (.aload_n 1, 1) := by decide +kernel
theorem dX0_leadOf_54 : decode cX0_leadOf 54 = .ok (.iload 4, 2) := by decide +kernel
theorem dX0_leadOf_56 : decode cX0_leadOf 56 = .ok (.invokevirtual 104, 3) := by decide +kernel
theorem dX0_leadOf_59 : decode cX0_leadOf 59 = .ok (.aload_n 1, 1) := by decide +kernel
theorem dX0_leadOf_60 : decode cX0_leadOf 60 = .ok (.iload_n 3, 1) := by decide +kernel
theorem dX0_leadOf_61 : decode cX0_leadOf 61 = .ok (.invokevirtual 104, 3) := by decide +kernel
theorem dX0_leadOf_64 : decode cX0_leadOf 64 = .ok (.isub, 1) := by decide +kernel
theorem dX0_leadOf_65 : decode cX0_leadOf 65 = .ok (.ireturn, 1) := by decide +kernel
theorem dX0_leadOf_66 : decode cX0_leadOf 66 = .ok (.aload_n 1, 1) := by decide +kernel
theorem dX0_leadOf_67 : decode cX0_leadOf 67 = .ok (.iload_n 3, 1) := by decide +kernel
theorem dX0_leadOf_68 : decode cX0_leadOf 68 = .ok (.invokevirtual 109, 3) := by decide +kernel
theorem dX0_leadOf_71 : decode cX0_leadOf 71 = .ok (.aload_n 1, 1) := by decide +kernel
theorem dX0_leadOf_72 : decode cX0_leadOf 72 = .ok (.iload 4, 2) := by decide +kernel
theorem dX0_leadOf_74 : decode cX0_leadOf 74 = .ok (.invokevirtual 109, 3) := by decide +kernel
theorem dX0_leadOf_77 : decode cX0_leadOf 77 = .ok (.isub, 1) := by decide +kernel
theorem dX0_leadOf_78 : decode cX0_leadOf 78 = .ok (.ireturn, 1) := by decide +kernel
theorem dX0_leadOf_79 : decode cX0_leadOf 79 = .ok (.aload_n 1, 1) := by decide +kernel
theorem dX0_leadOf_80 : decode cX0_leadOf 80 = .ok (.iload 4, 2) := by decide +kernel
theorem dX0_leadOf_82 : decode cX0_leadOf 82 = .ok (.invokevirtual 109, 3) := by decide +kernel
theorem dX0_leadOf_85 : decode cX0_leadOf 85 = .ok (.aload_n 1, 1) := by decide +kernel
theorem dX0_leadOf_86 : decode cX0_leadOf 86 = .ok (.iload_n 3, 1) := by decide +kernel
theorem dX0_leadOf_87 : decode cX0_leadOf 87 = .ok (.invokevirtual 109, 3) := by decide +kernel
theorem dX0_leadOf_90 : decode cX0_leadOf 90 = .ok (.isub, 1) := by decide +kernel
theorem dX0_leadOf_91 : decode cX0_leadOf 91 = .ok (.ireturn, 1) := by decide +kernel
theorem dX0_leadOf_92 : decode cX0_leadOf 92 = .ok (.aload_n 1, 1) := by decide +kernel
theorem dX0_leadOf_93 : decode cX0_leadOf 93 = .ok (.iload_n 3, 1) := by decide +kernel
theorem dX0_leadOf_94 : decode cX0_leadOf 94 = .ok (.invokevirtual 112, 3) := by decide +kernel
theorem dX0_leadOf_97 : decode cX0_leadOf 97 = .ok (.aload_n 1, 1) := by decide +kernel
theorem dX0_leadOf_98 : decode cX0_leadOf 98 = .ok (.iload 4, 2) := by decide +kernel
theorem dX0_leadOf_100 : decode cX0_leadOf 100 = .ok (.invokevirtual 112, 3) := by decide +kernel
theorem dX0_leadOf_103 : decode cX0_leadOf 103 = .ok (.isub, 1) := by decide +kernel
theorem dX0_leadOf_104 : decode cX0_leadOf 104 = .ok (.ireturn, 1) := by decide +kernel
theorem dX0_leadOf_105 : decode cX0_leadOf 105 = .ok (.aload_n 1, 1) := by decide +kernel
theorem dX0_leadOf_106 : decode cX0_leadOf 106 = .ok (.iload 4, 2) := by decide +kernel
theorem dX0_leadOf_108 : decode cX0_leadOf 108 = .ok (.invokevirtual 112, 3) := by decide +kernel
theorem dX0_leadOf_111 : decode cX0_leadOf 111 = .ok (.aload_n 1, 1) := by decide +kernel
theorem dX0_leadOf_112 : decode cX0_leadOf 112 = .ok (.iload_n 3, 1) := by decide +kernel
theorem dX0_leadOf_113 : decode cX0_leadOf 113 = .ok (.invokevirtual 112, 3) := by decide +kernel
theorem dX0_leadOf_116 : decode cX0_leadOf 116 = .ok (.isub, 1) := by decide +kernel
theorem dX0_leadOf_117 : decode cX0_leadOf 117 = .ok (.ireturn, 1) := by decide +kernel
theorem dX0_leadOf_118 : decode cX0_leadOf 118 = .ok (.aload_n 2, 1) := by decide +kernel
theorem dX0_leadOf_119 : decode cX0_leadOf 119 = .ok (.getfield 115, 3) := by decide +kernel
theorem dX0_leadOf_122 : decode cX0_leadOf 122 = .ok (.iload 4, 2) := by decide +kernel
theorem dX0_leadOf_124 : decode cX0_leadOf 124 = .ok (.iload_n 3, 1) := by decide +kernel
theorem dX0_leadOf_125 : decode cX0_leadOf 125 = .ok (.invokestatic 98, 3) := by decide +kernel
theorem dX0_leadOf_128 : decode cX0_leadOf 128 = .ok (.iaload, 1) := by decide +kernel
theorem dX0_leadOf_129 : decode cX0_leadOf 129 = .ok (.aload_n 2, 1) := by decide +kernel
theorem dX0_leadOf_130 : decode cX0_leadOf 130 = .ok (.getfield 115, 3) := by decide +kernel
theorem dX0_leadOf_133 : decode cX0_leadOf 133 = .ok (.iload_n 3, 1) := by decide +kernel
theorem dX0_leadOf_134 : decode cX0_leadOf 134 = .ok (.iload 4, 2) := by decide +kernel
theorem dX0_leadOf_136 : decode cX0_leadOf 136 = .ok (.invokestatic 98, 3) := by decide +kernel
theorem dX0_leadOf_139 : decode cX0_leadOf 139 = .ok (.iaload, 1) := by decide +kernel
theorem dX0_leadOf_140 : decode cX0_leadOf 140 = .ok (.isub, 1) := by decide +kernel
theorem dX0_leadOf_141 : decode cX0_leadOf 141 = .ok (.ireturn, 1) := by decide +kernel
theorem dX1_init_0 : decode cX1_init 0 = .ok (.aload_n 0, 1) := by decide +kernel
theorem dX1_init_1 : decode cX1_init 1 = .ok (.invokespecial 3, 3) := by decide +kernel
theorem dX1_init_4 : decode cX1_init 4 = .ok (.aload_n 0, 1) := by decide +kernel
theorem dX1_init_5 : decode cX1_init 5 = .ok (.bipush 64, 2) := by decide +kernel
theorem dX1_init_7 : decode cX1_init 7 = .ok (.newarray .int, 2) := by decide +kernel
theorem dX1_init_9 : decode cX1_init 9 = .ok (.putfield 9, 3) := by decide +kernel
theorem dX1_init_12 : decode cX1_init 12 = .ok (.aload_n 0, 1) := by decide +kernel
theorem dX1_init_13 : decode cX1_init 13 = .ok (.bipush 64, 2) := by decide +kernel
theorem dX1_init_15 : decode cX1_init 15 = .ok (.newarray .int, 2) := by decide +kernel
theorem dX1_init_17 : decode cX1_init 17 = .ok (.putfield 15, 3) := by decide +kernel
theorem dX1_init_20 : decode cX1_init 20 = .ok (.aload_n 0, 1) := by decide +kernel
theorem dX1_init_21 : decode cX1_init 21 = .ok (.getfield 15, 3) := by decide +kernel
theorem dX1_init_24 : decode cX1_init 24 = .ok (.iconst (-1), 1) := by decide +kernel
theorem dX1_init_25 : decode cX1_init 25 = .ok (.invokestatic 18, 3) := by decide +kernel
theorem dX1_init_28 : decode cX1_init 28 = .ok (.return_, 1) := by decide +kernel
theorem dX1_copy_0 : decode cX1_copy 0 = .ok (.aload_n 1, 1) := by decide +kernel
theorem dX1_copy_1 : decode cX1_copy 1 = .ok (.getfield 9, 3) := by decide +kernel
theorem dX1_copy_4 : decode cX1_copy 4 = .ok (.iconst 0, 1) := by decide +kernel
theorem dX1_copy_5 : decode cX1_copy 5 = .ok (.aload_n 0, 1) := by decide +kernel
theorem dX1_copy_6 : decode cX1_copy 6 = .ok (.getfield 9, 3) := by decide +kernel
theorem dX1_copy_9 : decode cX1_copy 9 = .ok (.iconst 0, 1) := by decide +kernel
theorem dX1_copy_10 : decode cX1_copy 10 = .ok (.bipush 64, 2) := by decide +kernel
theorem dX1_copy_12 : decode cX1_copy 12 = .ok (.invokestatic 24, 3) := by decide +kernel
theorem dX1_copy_15 : decode cX1_copy 15 = .ok (.aload_n 1, 1) := by decide +kernel
theorem dX1_copy_16 : decode cX1_copy 16 = .ok (.getfield 15, 3) := by decide +kernel
theorem dX1_copy_19 : decode cX1_copy 19 = .ok (.iconst 0, 1) := by decide +kernel
theorem dX1_copy_20 : decode cX1_copy 20 = .ok (.aload_n 0, 1) := by decide +kernel
theorem dX1_copy_21 : decode cX1_copy 21 = .ok (.getfield 15, 3) := by decide +kernel
theorem dX1_copy_24 : decode cX1_copy 24 = .ok (.iconst 0, 1) := by decide +kernel
theorem dX1_copy_25 : decode cX1_copy 25 = .ok (.bipush 64, 2) := by decide +kernel
theorem dX1_copy_27 : decode cX1_copy 27 = .ok (.invokestatic 24, 3) := by decide +kernel
theorem dX1_copy_30 : decode cX1_copy 30 = .ok (.return_, 1) := by decide +kernel
theorem dX1_wentFirst_0 : decode cX1_wentFirst 0 = .ok (.iload_n 1, 1) := by decide +kernel
theorem dX1_wentFirst_1 : decode cX1_wentFirst 1 = .ok (.iload_n 2, 1) := by decide +kernel
theorem dX1_wentFirst_2 : decode cX1_wentFirst 2 = .ok (.invokestatic 30, 3) := by decide +kernel
theorem dX1_wentFirst_5 : decode cX1_wentFirst 5 = .ok (.istore_n 3, 1) := by decide +kernel
theorem dX1_wentFirst_6 : decode cX1_wentFirst 6 = .ok (.aload_n 0, 1) := by decide +kernel
theorem dX1_wentFirst_7 : decode cX1_wentFirst 7 = .ok (.getfield 9, 3) := by decide +kernel
theorem dX1_wentFirst_10 : decode cX1_wentFirst 10 = .ok (.iload_n 3, 1) := by decide +kernel
theorem dX1_wentFirst_11 : decode cX1_wentFirst 11 = .ok (.aload_n 0, 1) := by decide +kernel
theorem dX1_wentFirst_12 : decode cX1_wentFirst 12 = .ok (.getfield 9, 3) := by decide +kernel
theorem dX1_wentFirst_15 : decode cX1_wentFirst 15 = .ok (.iload_n 3, 1) := by decide +kernel
theorem dX1_wentFirst_16 : decode cX1_wentFirst 16 = .ok (.iaload, 1) := by decide +kernel
theorem dX1_wentFirst_17 : decode cX1_wentFirst 17 = .ok (.iconst 1, 1) := by decide +kernel
theorem dX1_wentFirst_18 : decode cX1_wentFirst 18 = .ok (.iadd, 1) := by decide +kernel
theorem dX1_wentFirst_19 : decode cX1_wentFirst 19 = .ok (.bipush 99, 2) := by decide +kernel
theorem dX1_wentFirst_21 : decode cX1_wentFirst 21 = .ok (.invokestatic 34, 3) := by decide +kernel
theorem dX1_wentFirst_24 : decode cX1_wentFirst 24 = .ok (.iastore, 1) := by decide +kernel
theorem dX1_wentFirst_25 : decode cX1_wentFirst 25 = .ok (.aload_n 0, 1) := by decide +kernel
theorem dX1_wentFirst_26 : decode cX1_wentFirst 26 = .ok (.getfield 15, 3) := by decide +kernel
theorem dX1_wentFirst_29 : decode cX1_wentFirst 29 = .ok (.iload_n 3, 1) := by decide +kernel
theorem dX1_wentFirst_30 : decode cX1_wentFirst 30 = .ok (.iload_n 1, 1) := by decide +kernel
theorem dX1_wentFirst_31 : decode cX1_wentFirst 31 = .ok (.iastore, 1) := by decide +kernel
theorem dX1_wentFirst_32 : decode cX1_wentFirst 32 = .ok (.aload_n 0, 1) := by decide +kernel
theorem dX1_wentFirst_33 : decode cX1_wentFirst 33 = .ok (.getfield 15, 3) := by decide +kernel
theorem dX1_wentFirst_36 : decode cX1_wentFirst 36 = .ok (.iload_n 2, 1) := by decide +kernel
theorem dX1_wentFirst_37 : decode cX1_wentFirst 37 = .ok (.iload_n 1, 1) := by decide +kernel
theorem dX1_wentFirst_38 : decode cX1_wentFirst 38 = .ok (.invokestatic 30, 3) := by decide +kernel
theorem dX1_wentFirst_41 : decode cX1_wentFirst 41 = .ok (.iload_n 1, 1) := by decide +kernel
theorem dX1_wentFirst_42 : decode cX1_wentFirst 42 = .ok (.iastore, 1) := by decide +kernel
theorem dX1_wentFirst_43 : decode cX1_wentFirst 43 = .ok (.return_, 1) := by decide +kernel
theorem dX1_strikeOut_0 : decode cX1_strikeOut 0 = .ok (.iconst 0, 1) := by decide +kernel
theorem dX1_strikeOut_1 : decode cX1_strikeOut 1 = .ok (.istore_n 1, 1) := by decide +kernel
theorem dX1_strikeOut_2 : decode cX1_strikeOut 2 = .ok (.iload_n 1, 1) := by decide +kernel
theorem dX1_strikeOut_3 : decode cX1_strikeOut 3 = .ok (.bipush 8, 2) := by decide +kernel
theorem dX1_strikeOut_5 : decode cX1_strikeOut 5 = .ok (.if_icmp .ge 77, 3) := by decide +kernel
theorem dX1_strikeOut_8 : decode cX1_strikeOut 8 = .ok (.iload_n 1, 1) := by decide +kernel
theorem dX1_strikeOut_9 : decode cX1_strikeOut 9 = .ok (.iconst 1, 1) := by decide +kernel
theorem dX1_strikeOut_10 : decode cX1_strikeOut 10 = .ok (.iadd, 1) := by decide +kernel
theorem dX1_strikeOut_11 : decode cX1_strikeOut 11 = .ok (.istore_n 2, 1) := by decide +kernel
theorem dX1_strikeOut_12 : decode cX1_strikeOut 12 = .ok (.iload_n 2, 1) := by decide +kernel
theorem dX1_strikeOut_13 : decode cX1_strikeOut 13 = .ok (.bipush 8, 2) := by decide +kernel
theorem dX1_strikeOut_15 : decode cX1_strikeOut 15 = .ok (.if_icmp .ge 61, 3) := by decide +kernel
theorem dX1_strikeOut_18 : decode cX1_strikeOut 18 = .ok (.aload_n 0, 1) := by decide +kernel
theorem dX1_strikeOut_19 : decode cX1_strikeOut 19 = .ok (.getfield 9, 3) := by decide +kernel
theorem dX1_strikeOut_22 : decode cX1_strikeOut 22 = .ok (.iload_n 1, 1) := by decide +kernel
theorem dX1_strikeOut_23 : decode cX1_strikeOut 23 = .ok (.iload_n 2, 1) := by decide +kernel
theorem dX1_strikeOut_24 : decode cX1_strikeOut 24 = .ok (.invokestatic 30, 3) := by decide +kernel
theorem dX1_strikeOut_27 : decode cX1_strikeOut 27 = .ok (.iaload, 1) := by decide +kernel
theorem dX1_strikeOut_28 : decode cX1_strikeOut 28 = .ok (.aload_n 0, 1) := by decide +kernel
theorem dX1_strikeOut_29 : decode cX1_strikeOut 29 = .ok (.getfield 9, 3) := by decide +kernel
theorem dX1_strikeOut_32 : decode cX1_strikeOut 32 = .ok (.iload_n 2, 1) := by decide +kernel
theorem dX1_strikeOut_33 : decode cX1_strikeOut 33 = .ok (.iload_n 1, 1) := by decide +kernel
theorem dX1_strikeOut_34 : decode cX1_strikeOut 34 = .ok (.invokestatic 30, 3) := by decide +kernel
theorem dX1_strikeOut_37 : decode cX1_strikeOut 37 = .ok (.iaload, 1) := by decide +kernel
theorem dX1_strikeOut_38 : decode cX1_strikeOut 38 = .ok (.invokestatic 34, 3) := by decide +kernel
theorem dX1_strikeOut_41 : decode cX1_strikeOut 41 = .ok (.istore_n 3, 1) := by decide +kernel
theorem dX1_strikeOut_42 : decode cX1_strikeOut 42 = .ok (.aload_n 0, 1) := by decide +kernel
theorem dX1_strikeOut_43 : decode cX1_strikeOut 43 = .ok (.getfield 9, 3) := by decide +kernel
theorem dX1_strikeOut_46 : decode cX1_strikeOut 46 = .ok (.iload_n 1, 1) := by decide +kernel
theorem dX1_strikeOut_47 : decode cX1_strikeOut 47 = .ok (.iload_n 2, 1) := by decide +kernel
theorem dX1_strikeOut_48 : decode cX1_strikeOut 48 = .ok (.invokestatic 30, 3) := by decide +kernel
theorem dX1_strikeOut_51 : decode cX1_strikeOut 51 = .ok (.dup2, 1) := by decide +kernel
theorem dX1_strikeOut_52 : decode cX1_strikeOut 52 = .ok (.iaload, 1) := by decide +kernel
theorem dX1_strikeOut_53 : decode cX1_strikeOut 53 = .ok (.iload_n 3, 1) := by decide +kernel
theorem dX1_strikeOut_54 : decode cX1_strikeOut 54 = .ok (.isub, 1) := by decide +kernel
theorem dX1_strikeOut_55 : decode cX1_strikeOut 55 = .ok (.iastore, 1) := by decide +kernel
theorem dX1_strikeOut_56 : decode cX1_strikeOut 56 = .ok (.aload_n 0, 1) := by decide +kernel
theorem dX1_strikeOut_57 : decode cX1_strikeOut 57 = .ok (.getfield 9, 3) := by decide +kernel
theorem dX1_strikeOut_60 : decode cX1_strikeOut 60 = .ok (.iload_n 2, 1) := by decide +kernel
theorem dX1_strikeOut_61 : decode cX1_strikeOut 61 = .ok (.iload_n 1, 1) := by decide +kernel
theorem dX1_strikeOut_62 : decode cX1_strikeOut 62 = .ok (.invokestatic 30, 3) := by decide +kernel
theorem dX1_strikeOut_65 : decode cX1_strikeOut 65 = .ok (.dup2, 1) := by decide +kernel
theorem dX1_strikeOut_66 : decode cX1_strikeOut 66 = .ok (.iaload, 1) := by decide +kernel
theorem dX1_strikeOut_67 : decode cX1_strikeOut 67 = .ok (.iload_n 3, 1) := by decide +kernel
theorem dX1_strikeOut_68 : decode cX1_strikeOut 68 = .ok (.isub, 1) := by decide +kernel
theorem dX1_strikeOut_69 : decode cX1_strikeOut 69 = .ok (.iastore, 1) := by decide +kernel
theorem dX1_strikeOut_70 : decode cX1_strikeOut 70 = .ok (.iinc 2 1, 3) := by decide +kernel
theorem dX1_strikeOut_73 : decode cX1_strikeOut 73 = .ok (.goto (-61), 3) := by decide +kernel
theorem dX1_strikeOut_76 : decode cX1_strikeOut 76 = .ok (.iinc 1 1, 3) := by decide +kernel
theorem dX1_strikeOut_79 : decode cX1_strikeOut 79 = .ok (.goto (-77), 3) := by decide +kernel
theorem dX1_strikeOut_82 : decode cX1_strikeOut 82 = .ok (.iconst 0, 1) := by decide +kernel
theorem dX1_strikeOut_83 : decode cX1_strikeOut 83 = .ok (.istore_n 1, 1) := by decide +kernel
theorem dX1_strikeOut_84 : decode cX1_strikeOut 84 = .ok (.iload_n 1, 1) := by decide +kernel
theorem dX1_strikeOut_85 : decode cX1_strikeOut 85 = .ok (.bipush 8, 2) := by decide +kernel
theorem dX1_strikeOut_87 : decode cX1_strikeOut 87 = .ok (.if_icmp .ge 55, 3) := by decide +kernel
theorem dX1_strikeOut_90 : decode cX1_strikeOut 90 = .ok (.iload_n 1, 1) := by decide +kernel
theorem dX1_strikeOut_91 : decode cX1_strikeOut 91 = .ok (.iconst 1, 1) := by decide +kernel
theorem dX1_strikeOut_92 : decode cX1_strikeOut 92 = .ok (.iadd, 1) := by decide +kernel
theorem dX1_strikeOut_93 : decode cX1_strikeOut 93 = .ok (.istore_n 2, 1) := by decide +kernel
theorem dX1_strikeOut_94 : decode cX1_strikeOut 94 = .ok (.iload_n 2, 1) := by decide +kernel
theorem dX1_strikeOut_95 : decode cX1_strikeOut 95 = .ok (.bipush 8, 2) := by decide +kernel
theorem dX1_strikeOut_97 : decode cX1_strikeOut 97 = .ok (.if_icmp .ge 39, 3) := by decide +kernel
theorem dX1_strikeOut_100 : decode cX1_strikeOut 100 = .ok (.iload_n 2, 1) := by decide +kernel
theorem dX1_strikeOut_101 : decode cX1_strikeOut 101 = .ok (.iconst 1, 1) := by decide +kernel
theorem dX1_strikeOut_102 : decode cX1_strikeOut 102 = .ok (.iadd, 1) := by decide +kernel
theorem dX1_strikeOut_103 : decode cX1_strikeOut 103 = .ok (.istore_n 3, 1) := by decide +kernel
theorem dX1_strikeOut_104 : decode cX1_strikeOut 104 = .ok (.iload_n 3, 1) := by decide +kernel
theorem dX1_strikeOut_105 : decode cX1_strikeOut 105 = .ok (.bipush 8, 2) := by decide +kernel
theorem dX1_strikeOut_107 : decode cX1_strikeOut 107 = .ok (.if_icmp .ge 23, 3) := by decide +kernel
theorem dX1_strikeOut_110 : decode cX1_strikeOut 110 = .ok (.aload_n 0, 1) := by decide +kernel
theorem dX1_strikeOut_111 : decode cX1_strikeOut 111 = .ok (.iload_n 1, 1) := by decide +kernel
theorem dX1_strikeOut_112 : decode cX1_strikeOut 112 = .ok (.iload_n 2, 1) := by decide +kernel
theorem dX1_strikeOut_113 : decode cX1_strikeOut 113 = .ok (.iload_n 3, 1) := by decide +kernel
theorem dX1_strikeOut_114 : decode cX1_strikeOut 114 = .ok (.invokevirtual 39, 3) := by decide +kernel
theorem dX1_strikeOut_117 : decode cX1_strikeOut 117 = .ok (.aload_n 0, 1) := by decide +kernel
theorem dX1_strikeOut_118 : decode cX1_strikeOut 118 = .ok (.iload_n 1, 1) := by decide +kernel
theorem dX1_strikeOut_119 : decode cX1_strikeOut 119 = .ok (.iload_n 3, 1) := by decide +kernel
theorem dX1_strikeOut_120 : decode cX1_strikeOut 120 = .ok (.iload_n 2, 1) := by decide +kernel
theorem dX1_strikeOut_121 : decode cX1_strikeOut 121 = .ok (.invokevirtual 39, 3) := by decide +kernel
theorem dX1_strikeOut_124 : decode cX1_strikeOut 124 = .ok (.iinc 3 1, 3) := by decide +kernel
theorem dX1_strikeOut_127 : decode cX1_strikeOut 127 = .ok (.goto (-23), 3) := by decide +kernel
theorem dX1_strikeOut_130 : decode cX1_strikeOut 130 = .ok (.iinc 2 1, 3) := by decide +kernel
theorem dX1_strikeOut_133 : decode cX1_strikeOut 133 = .ok (.goto (-39), 3) := by decide +kernel
theorem dX1_strikeOut_136 : decode cX1_strikeOut 136 = .ok (.iinc 1 1, 3) := by decide +kernel
theorem dX1_strikeOut_139 : decode cX1_strikeOut 139 = .ok (.goto (-55), 3) := by decide +kernel
theorem dX1_strikeOut_142 : decode cX1_strikeOut 142 = .ok (.return_, 1) := by decide +kernel
theorem dX1_strikeRing_0 : decode cX1_strikeRing 0 = .ok (.aload_n 0, 1) := by decide +kernel
theorem dX1_strikeRing_1 : decode cX1_strikeRing 1 = .ok (.getfield 9, 3) := by decide +kernel
theorem dX1_strikeRing_4 : decode cX1_strikeRing 4 = .ok (.iload_n 1, 1) := by decide +kernel
theorem dX1_strikeRing_5 : decode cX1_strikeRing 5 = .ok (.iload_n 2, 1) := by decide +kernel
theorem dX1_strikeRing_6 : decode cX1_strikeRing 6 = .ok (.invokestatic 30, 3) := by decide +kernel
theorem dX1_strikeRing_9 : decode cX1_strikeRing 9 = .ok (.iaload, 1) := by decide +kernel
theorem dX1_strikeRing_10 : decode cX1_strikeRing 10 = .ok (.aload_n 0, 1) := by decide +kernel
theorem dX1_strikeRing_11 : decode cX1_strikeRing 11 = .ok (.getfield 9, 3) := by decide +kernel
theorem dX1_strikeRing_14 : decode cX1_strikeRing 14 = .ok (.iload_n 2, 1) := by decide +kernel
theorem dX1_strikeRing_15 : decode cX1_strikeRing 15 = .ok (.iload_n 3, 1) := by decide +kernel
theorem dX1_strikeRing_16 : decode cX1_strikeRing 16 = .ok (.invokestatic 30, 3) := by decide +kernel
theorem dX1_strikeRing_19 : decode cX1_strikeRing 19 = .ok (.iaload, 1) := by decide +kernel
theorem dX1_strikeRing_20 : decode cX1_strikeRing 20 = .ok (.aload_n 0, 1) := by decide +kernel
theorem dX1_strikeRing_21 : decode cX1_strikeRing 21 = .ok (.getfield 9, 3) := by decide +kernel
theorem dX1_strikeRing_24 : decode cX1_strikeRing 24 = .ok (.iload_n 3, 1) := by decide +kernel
theorem dX1_strikeRing_25 : decode cX1_strikeRing 25 = .ok (.iload_n 1, 1) := by decide +kernel
theorem dX1_strikeRing_26 : decode cX1_strikeRing 26 = .ok (.invokestatic 30, 3) := by decide +kernel
theorem dX1_strikeRing_29 : decode cX1_strikeRing 29 = .ok (.iaload, 1) := by decide +kernel
theorem dX1_strikeRing_30 : decode cX1_strikeRing 30 = .ok (.invokestatic 34, 3) := by decide +kernel
theorem dX1_strikeRing_33 : decode cX1_strikeRing 33 = .ok (.invokestatic 34, 3) := by decide +kernel
theorem dX1_strikeRing_36 : decode cX1_strikeRing 36 = .ok (.istore 4, 2) := by decide +kernel
theorem dX1_strikeRing_38 : decode cX1_strikeRing 38 = .ok (.aload_n 0, 1) := by decide +kernel
theorem dX1_strikeRing_39 : decode cX1_strikeRing 39 = .ok (.getfield 9, 3) := by decide +kernel
theorem dX1_strikeRing_42 : decode cX1_strikeRing 42 = .ok (.iload_n 1, 1) := by decide +kernel
theorem dX1_strikeRing_43 : decode cX1_strikeRing 43 = .ok (.iload_n 2, 1) := by decide +kernel
theorem dX1_strikeRing_44 : decode cX1_strikeRing 44 = .ok (.invokestatic 30, 3) := by decide +kernel
theorem dX1_strikeRing_47 : decode cX1_strikeRing 47 = .ok (.dup2, 1) := by decide +kernel
theorem dX1_strikeRing_48 : decode cX1_strikeRing 48 = .ok (.iaload, 1) := by decide +kernel
theorem dX1_strikeRing_49 : decode cX1_strikeRing 49 = .ok (.iload 4, 2) := by decide +kernel
theorem dX1_strikeRing_51 : decode cX1_strikeRing 51 = .ok (.isub, 1) := by decide +kernel
theorem dX1_strikeRing_52 : decode cX1_strikeRing 52 = .ok (.iastore, 1) := by decide +kernel
theorem dX1_strikeRing_53 : decode cX1_strikeRing 53 = .ok (.aload_n 0, 1) := by decide +kernel
theorem dX1_strikeRing_54 : decode cX1_strikeRing 54 = .ok (.getfield 9, 3) := by decide +kernel
theorem dX1_strikeRing_57 : decode cX1_strikeRing 57 = .ok (.iload_n 2, 1) := by decide +kernel
theorem dX1_strikeRing_58 : decode cX1_strikeRing 58 = .ok (.iload_n 3, 1) := by decide +kernel
theorem dX1_strikeRing_59 : decode cX1_strikeRing 59 = .ok (.invokestatic 30, 3) := by decide +kernel
theorem dX1_strikeRing_62 : decode cX1_strikeRing 62 = .ok (.dup2, 1) := by decide +kernel
theorem dX1_strikeRing_63 : decode cX1_strikeRing 63 = .ok (.iaload, 1) := by decide +kernel
theorem dX1_strikeRing_64 : decode cX1_strikeRing 64 = .ok (.iload 4, 2) := by decide +kernel
theorem dX1_strikeRing_66 : decode cX1_strikeRing 66 = .ok (.isub, 1) := by decide +kernel
theorem dX1_strikeRing_67 : decode cX1_strikeRing 67 = .ok (.iastore, 1) := by decide +kernel
theorem dX1_strikeRing_68 : decode cX1_strikeRing 68 = .ok (.aload_n 0, 1) := by decide +kernel
theorem dX1_strikeRing_69 : decode cX1_strikeRing 69 = .ok (.getfield 9, 3) := by decide +kernel
theorem dX1_strikeRing_72 : decode cX1_strikeRing 72 = .ok (.iload_n 3, 1) := by decide +kernel
theorem dX1_strikeRing_73 : decode cX1_strikeRing 73 = .ok (.iload_n 1, 1) := by decide +kernel
theorem dX1_strikeRing_74 : decode cX1_strikeRing 74 = .ok (.invokestatic 30, 3) := by decide +kernel
theorem dX1_strikeRing_77 : decode cX1_strikeRing 77 = .ok (.dup2, 1) := by decide +kernel
theorem dX1_strikeRing_78 : decode cX1_strikeRing 78 = .ok (.iaload, 1) := by decide +kernel
theorem dX1_strikeRing_79 : decode cX1_strikeRing 79 = .ok (.iload 4, 2) := by decide +kernel
theorem dX1_strikeRing_81 : decode cX1_strikeRing 81 = .ok (.isub, 1) := by decide +kernel
theorem dX1_strikeRing_82 : decode cX1_strikeRing 82 = .ok (.iastore, 1) := by decide +kernel
theorem dX1_strikeRing_83 : decode cX1_strikeRing 83 = .ok (.return_, 1) := by decide +kernel
theorem dX1_sum_0 : decode cX1_sum 0 = .ok (.iconst 0, 1) := by decide +kernel
theorem dX1_sum_1 : decode cX1_sum 1 = .ok (.istore_n 1, 1) := by decide +kernel
theorem dX1_sum_2 : decode cX1_sum 2 = .ok (.iconst 0, 1) := by decide +kernel
theorem dX1_sum_3 : decode cX1_sum 3 = .ok (.istore_n 2, 1) := by decide +kernel
theorem dX1_sum_4 : decode cX1_sum 4 = .ok (.iload_n 2, 1) := by decide +kernel
theorem dX1_sum_5 : decode cX1_sum 5 = .ok (.bipush 64, 2) := by decide +kernel
theorem dX1_sum_7 : decode cX1_sum 7 = .ok (.if_icmp .ge 18, 3) := by decide +kernel
theorem dX1_sum_10 : decode cX1_sum 10 = .ok (.iload_n 1, 1) := by decide +kernel
theorem dX1_sum_11 : decode cX1_sum 11 = .ok (.aload_n 0, 1) := by decide +kernel
theorem dX1_sum_12 : decode cX1_sum 12 = .ok (.getfield 9, 3) := by decide +kernel
theorem dX1_sum_15 : decode cX1_sum 15 = .ok (.iload_n 2, 1) := by decide +kernel
theorem dX1_sum_16 : decode cX1_sum 16 = .ok (.iaload, 1) := by decide +kernel
theorem dX1_sum_17 : decode cX1_sum 17 = .ok (.iadd, 1) := by decide +kernel
theorem dX1_sum_18 : decode cX1_sum 18 = .ok (.istore_n 1, 1) := by decide +kernel
theorem dX1_sum_19 : decode cX1_sum 19 = .ok (.iinc 2 1, 3) := by decide +kernel
theorem dX1_sum_22 : decode cX1_sum 22 = .ok (.goto (-18), 3) := by decide +kernel
theorem dX1_sum_25 : decode cX1_sum 25 = .ok (.iload_n 1, 1) := by decide +kernel
theorem dX1_sum_26 : decode cX1_sum 26 = .ok (.ireturn, 1) := by decide +kernel
theorem dX1_mixInto_0 : decode cX1_mixInto 0 = .ok (.lload_n 1, 1) := by decide +kernel
theorem dX1_mixInto_1 : decode cX1_mixInto 1 = .ok (.lstore_n 3, 1) := by decide +kernel
theorem dX1_mixInto_2 : decode cX1_mixInto 2 = .ok (.iconst 0, 1) := by decide +kernel
theorem dX1_mixInto_3 : decode cX1_mixInto 3 = .ok (.istore 5, 2) := by decide +kernel
theorem dX1_mixInto_5 : decode cX1_mixInto 5 = .ok (.iload 5, 2) := by decide +kernel
theorem dX1_mixInto_7 : decode cX1_mixInto 7 = .ok (.bipush 8, 2) := by decide +kernel
theorem dX1_mixInto_9 : decode cX1_mixInto 9 = .ok (.if_icmp .ge 72, 3) := by decide +kernel
theorem dX1_mixInto_12 : decode cX1_mixInto 12 = .ok (.iconst 0, 1) := by decide +kernel
theorem dX1_mixInto_13 : decode cX1_mixInto 13 = .ok (.istore 6, 2) := by decide +kernel
theorem dX1_mixInto_15 : decode cX1_mixInto 15 = .ok (.iload 6, 2) := by decide +kernel
theorem dX1_mixInto_17 : decode cX1_mixInto 17 = .ok (.bipush 8, 2) := by decide +kernel
theorem dX1_mixInto_19 : decode cX1_mixInto 19 = .ok (.if_icmp .ge 56, 3) := by decide +kernel
theorem dX1_mixInto_22 : decode cX1_mixInto 22 = .ok (.ldc2_w 43, 3) := by decide +kernel
theorem dX1_mixInto_25 : decode cX1_mixInto 25 = .ok (.lload_n 3, 1) := by decide +kernel
theorem dX1_mixInto_26 : decode cX1_mixInto 26 = .ok (.lmul, 1) := by decide +kernel
theorem dX1_mixInto_27 : decode cX1_mixInto 27 = .ok (.aload_n 0, 1) := by decide +kernel
theorem dX1_mixInto_28 : decode cX1_mixInto 28 = .ok (.getfield 9, 3) := by decide +kernel
theorem dX1_mixInto_31 : decode cX1_mixInto 31 = .ok (.iload 5, 2) := by decide +kernel
theorem dX1_mixInto_33 : decode cX1_mixInto 33 = .ok (.iload 6, 2) := by decide +kernel
theorem dX1_mixInto_35 : decode cX1_mixInto 35 = .ok (.invokestatic 30, 3) := by decide +kernel
theorem dX1_mixInto_38 : decode cX1_mixInto 38 = .ok (.iaload, 1) := by decide +kernel
theorem dX1_mixInto_39 : decode cX1_mixInto 39 = .ok (.i2l, 1) := by decide +kernel
theorem dX1_mixInto_40 : decode cX1_mixInto 40 = .ok (.ladd, 1) := by decide +kernel
theorem dX1_mixInto_41 : decode cX1_mixInto 41 = .ok (.lstore_n 3, 1) := by decide +kernel
theorem dX1_mixInto_42 : decode cX1_mixInto 42 = .ok (.iload 5, 2) := by decide +kernel
theorem dX1_mixInto_44 : decode cX1_mixInto 44 = .ok (.iload 6, 2) := by decide +kernel
theorem dX1_mixInto_46 : decode cX1_mixInto 46 = .ok (.if_icmp .ge 23, 3) := by decide +kernel
theorem dX1_mixInto_49 : decode cX1_mixInto 49 = .ok (.ldc2_w 43, 3) := by decide +kernel
theorem dX1_mixInto_52 : decode cX1_mixInto 52 = .ok (.lload_n 3, 1) := by decide +kernel
theorem dX1_mixInto_53 : decode cX1_mixInto 53 = .ok (.lmul, 1) := by decide +kernel
theorem dX1_mixInto_54 : decode cX1_mixInto 54 = .ok (.aload_n 0, 1) := by decide +kernel
theorem dX1_mixInto_55 : decode cX1_mixInto 55 = .ok (.getfield 15, 3) := by decide +kernel
theorem dX1_mixInto_58 : decode cX1_mixInto 58 = .ok (.iload 5, 2) := by decide +kernel
theorem dX1_mixInto_60 : decode cX1_mixInto 60 = .ok (.iload 6, 2) := by decide +kernel
theorem dX1_mixInto_62 : decode cX1_mixInto 62 = .ok (.invokestatic 30, 3) := by decide +kernel
theorem dX1_mixInto_65 : decode cX1_mixInto 65 = .ok (.iaload, 1) := by decide +kernel
theorem dX1_mixInto_66 : decode cX1_mixInto 66 = .ok (.i2l, 1) := by decide +kernel
theorem dX1_mixInto_67 : decode cX1_mixInto 67 = .ok (.ladd, 1) := by decide +kernel
theorem dX1_mixInto_68 : decode cX1_mixInto 68 = .ok (.lstore_n 3, 1) := by decide +kernel
theorem dX1_mixInto_69 : decode cX1_mixInto 69 = .ok (.iinc 6 1, 3) := by decide +kernel
theorem dX1_mixInto_72 : decode cX1_mixInto 72 = .ok (.goto (-57), 3) := by decide +kernel
theorem dX1_mixInto_75 : decode cX1_mixInto 75 = .ok (.iinc 5 1, 3) := by decide +kernel
theorem dX1_mixInto_78 : decode cX1_mixInto 78 = .ok (.goto (-73), 3) := by decide +kernel
theorem dX1_mixInto_81 : decode cX1_mixInto 81 = .ok (.lload_n 3, 1) := by decide +kernel
theorem dX1_mixInto_82 : decode cX1_mixInto 82 = .ok (.lreturn, 1) := by decide +kernel
theorem dX2_init_0 : decode cX2_init 0 = .ok (.aload_n 0, 1) := by decide +kernel
theorem dX2_init_1 : decode cX2_init 1 = .ok (.invokespecial 3, 3) := by decide +kernel
theorem dX2_init_4 : decode cX2_init 4 = .ok (.aload_n 0, 1) := by decide +kernel
theorem dX2_init_5 : decode cX2_init 5 = .ok (.bipush 6, 2) := by decide +kernel
theorem dX2_init_7 : decode cX2_init 7 = .ok (.newarray .int, 2) := by decide +kernel
theorem dX2_init_9 : decode cX2_init 9 = .ok (.putfield 9, 3) := by decide +kernel
theorem dX2_init_12 : decode cX2_init 12 = .ok (.aload_n 0, 1) := by decide +kernel
theorem dX2_init_13 : decode cX2_init 13 = .ok (.bipush 6, 2) := by decide +kernel
theorem dX2_init_15 : decode cX2_init 15 = .ok (.newarray .int, 2) := by decide +kernel
theorem dX2_init_17 : decode cX2_init 17 = .ok (.putfield 15, 3) := by decide +kernel
theorem dX2_init_20 : decode cX2_init 20 = .ok (.aload_n 0, 1) := by decide +kernel
theorem dX2_init_21 : decode cX2_init 21 = .ok (.bipush 6, 2) := by decide +kernel
theorem dX2_init_23 : decode cX2_init 23 = .ok (.newarray .int, 2) := by decide +kernel
theorem dX2_init_25 : decode cX2_init 25 = .ok (.putfield 18, 3) := by decide +kernel
theorem dX2_init_28 : decode cX2_init 28 = .ok (.aload_n 0, 1) := by decide +kernel
theorem dX2_init_29 : decode cX2_init 29 = .ok (.iconst 0, 1) := by decide +kernel
theorem dX2_init_30 : decode cX2_init 30 = .ok (.putfield 21, 3) := by decide +kernel
theorem dX2_init_33 : decode cX2_init 33 = .ok (.return_, 1) := by decide +kernel
theorem dX2_go_0 : decode cX2_go 0 = .ok (.aload_n 0, 1) := by decide +kernel
theorem dX2_go_1 : decode cX2_go 1 = .ok (.aload_n 1, 1) := by decide +kernel
theorem dX2_go_2 : decode cX2_go 2 = .ok (.iload_n 3, 1) := by decide +kernel
theorem dX2_go_3 : decode cX2_go 3 = .ok (.invokevirtual 25, 3) := by decide +kernel
theorem dX2_go_6 : decode cX2_go 6 = .ok (.aload_n 0, 1) := by decide +kernel
theorem dX2_go_7 : decode cX2_go 7 = .ok (.getfield 15, 3) := by decide +kernel
theorem dX2_go_10 : decode cX2_go 10 = .ok (.iload_n 2, 1) := by decide +kernel
theorem dX2_go_11 : decode cX2_go 11 = .ok (.iaload, 1) := by decide +kernel
theorem dX2_go_12 : decode cX2_go 12 = .ok (.ldc 29, 2) := by decide +kernel
theorem dX2_go_14 : decode cX2_go 14 = .ok (.if_icmp .lt 5, 3) := by decide +kernel
theorem dX2_go_17 : decode cX2_go 17 = .ok (.iconst (-1), 1) := by decide +kernel
theorem dX2_go_18 : decode cX2_go 18 = .ok (.ireturn, 1) := by decide +kernel
theorem dX2_go_19 : decode cX2_go 19 = .ok (.aload_n 0, 1) := by decide +kernel
theorem dX2_go_20 : decode cX2_go 20 = .ok (.getfield 18, 3) := by decide +kernel
theorem dX2_go_23 : decode cX2_go 23 = .ok (.iconst 0, 1) := by decide +kernel
theorem dX2_go_24 : decode cX2_go 24 = .ok (.iload_n 2, 1) := by decide +kernel
theorem dX2_go_25 : decode cX2_go 25 = .ok (.iastore, 1) := by decide +kernel
theorem dX2_go_26 : decode cX2_go 26 = .ok (.aload_n 0, 1) := by decide +kernel
theorem dX2_go_27 : decode cX2_go 27 = .ok (.iconst 1, 1) := by decide +kernel
theorem dX2_go_28 : decode cX2_go 28 = .ok (.putfield 21, 3) := by decide +kernel
theorem dX2_go_31 : decode cX2_go 31 = .ok (.iconst 1, 1) := by decide +kernel
theorem dX2_go_32 : decode cX2_go 32 = .ok (.istore 4, 2) := by decide +kernel
theorem dX2_go_34 : decode cX2_go 34 = .ok (.iload 4, 2) := by decide +kernel
theorem dX2_go_36 : decode cX2_go 36 = .ok (.bipush 6, 2) := by decide +kernel
theorem dX2_go_38 : decode cX2_go 38 = .ok (.if_icmp .ge 53, 3) := by decide +kernel
theorem dX2_go_41 : decode cX2_go 41 = .ok (.aload_n 0, 1) := by decide +kernel
theorem dX2_go_42 : decode cX2_go 42 = .ok (.getfield 18, 3) := by decide +kernel
theorem dX2_go_45 : decode cX2_go 45 = .ok (.iload 4, 2) := by decide +kernel
theorem dX2_go_47 : decode cX2_go 47 = .ok (.iconst 1, 1) := by decide +kernel
theorem dX2_go_48 : decode cX2_go 48 = .ok (.isub, 1) := by decide +kernel
theorem dX2_go_49 : decode cX2_go 49 = .ok (.iaload, 1) := by decide +kernel
theorem dX2_go_50 : decode cX2_go 50 = .ok (.iload_n 3, 1) := by decide +kernel
theorem dX2_go_51 : decode cX2_go 51 = .ok (.if_icmp .eq 40, 3) := by decide +kernel
theorem dX2_go_54 : decode cX2_go 54 = .ok (.aload_n 0, 1) := by decide +kernel
theorem dX2_go_55 : decode cX2_go 55 = .ok (.getfield 18, 3) := by decide +kernel
theorem dX2_go_58 : decode cX2_go 58 = .ok (.iload 4, 2) := by decide +kernel
theorem dX2_go_60 : decode cX2_go 60 = .ok (.aload_n 0, 1) := by decide +kernel
theorem dX2_go_61 : decode cX2_go 61 = .ok (.aload_n 1, 1) := by decide +kernel
theorem dX2_go_62 : decode cX2_go 62 = .ok (.aload_n 0, 1) := by decide +kernel
theorem dX2_go_63 : decode cX2_go 63 = .ok (.getfield 18, 3) := by decide +kernel
theorem dX2_go_66 : decode cX2_go 66 = .ok (.iload 4, 2) := by decide +kernel
theorem dX2_go_68 : decode cX2_go 68 = .ok (.iconst 1, 1) := by decide +kernel
theorem dX2_go_69 : decode cX2_go 69 = .ok (.isub, 1) := by decide +kernel
theorem dX2_go_70 : decode cX2_go 70 = .ok (.iaload, 1) := by decide +kernel
theorem dX2_go_71 : decode cX2_go 71 = .ok (.invokevirtual 30, 3) := by decide +kernel
theorem dX2_go_74 : decode cX2_go 74 = .ok (.iastore, 1) := by decide +kernel
theorem dX2_go_75 : decode cX2_go 75 = .ok (.aload_n 0, 1) := by decide +kernel
theorem dX2_go_76 : decode cX2_go 76 = .ok (.dup, 1) := by decide +kernel
theorem dX2_go_77 : decode cX2_go 77 = .ok (.getfield 21, 3) := by decide +kernel
theorem dX2_go_80 : decode cX2_go 80 = .ok (.iconst 1, 1) := by decide +kernel
theorem dX2_go_81 : decode cX2_go 81 = .ok (.iadd, 1) := by decide +kernel
theorem dX2_go_82 : decode cX2_go 82 = .ok (.putfield 21, 3) := by decide +kernel
theorem dX2_go_85 : decode cX2_go 85 = .ok (.iinc 4 1, 3) := by decide +kernel
theorem dX2_go_88 : decode cX2_go 88 = .ok (.goto (-54), 3) := by decide +kernel
theorem dX2_go_91 : decode cX2_go 91 = .ok (.aload_n 0, 1) := by decide +kernel
theorem dX2_go_92 : decode cX2_go 92 = .ok (.getfield 15, 3) := by decide +kernel
theorem dX2_go_95 : decode cX2_go 95 = .ok (.iload_n 2, 1) := by decide +kernel
theorem dX2_go_96 : decode cX2_go 96 = .ok (.iaload, 1) := by decide +kernel
theorem dX2_go_97 : decode cX2_go 97 = .ok (.ireturn, 1) := by decide +kernel
theorem dX2_measure_0 : decode cX2_measure 0 = .ok (.aload_n 0, 1) := by decide +kernel
theorem dX2_measure_1 : decode cX2_measure 1 = .ok (.getfield 15, 3) := by decide +kernel
theorem dX2_measure_4 : decode cX2_measure 4 = .ok (.ldc 29, 2) := by decide +kernel
theorem dX2_measure_6 : decode cX2_measure 6 = .ok (.invokestatic 34, 3) := by decide +kernel
theorem dX2_measure_9 : decode cX2_measure 9 = .ok (.aload_n 0, 1) := by decide +kernel
theorem dX2_measure_10 : decode cX2_measure 10 = .ok (.getfield 15, 3) := by decide +kernel
theorem dX2_measure_13 : decode cX2_measure 13 = .ok (.iload_n 2, 1) := by decide +kernel
theorem dX2_measure_14 : decode cX2_measure 14 = .ok (.iconst 0, 1) := by decide +kernel
theorem dX2_measure_15 : decode cX2_measure 15 = .ok (.iastore, 1) := by decide +kernel
theorem dX2_measure_16 : decode cX2_measure 16 = .ok (.iconst 1, 1) := by decide +kernel
theorem dX2_measure_17 : decode cX2_measure 17 = .ok (.istore_n 3, 1) := by decide +kernel
theorem dX2_measure_18 : decode cX2_measure 18 = .ok (.iload_n 3, 1) := by decide +kernel
theorem dX2_measure_19 : decode cX2_measure 19 = .ok (.bipush 6, 2) := by decide +kernel
theorem dX2_measure_21 : decode cX2_measure 21 = .ok (.if_icmp .ge 67, 3) := by decide +kernel
theorem dX2_measure_24 : decode cX2_measure 24 = .ok (.iconst 0, 1) := by decide +kernel
theorem dX2_measure_25 : decode cX2_measure 25 = .ok (.istore 4, 2) := by decide +kernel
theorem dX2_measure_27 : decode cX2_measure 27 = .ok (.iload 4, 2) := by decide +kernel
theorem dX2_measure_29 : decode cX2_measure 29 = .ok (.bipush 6, 2) := by decide +kernel
theorem dX2_measure_31 : decode cX2_measure 31 = .ok (.if_icmp .ge 51, 3) := by decide +kernel
theorem dX2_measure_34 : decode cX2_measure 34 = .ok (.iconst 0, 1) := by decide +kernel
theorem dX2_measure_35 : decode cX2_measure 35 = .ok (.istore 5, 2) := by decide +kernel
theorem dX2_measure_37 : decode cX2_measure 37 = .ok (.iload 5, 2) := by decide +kernel
theorem dX2_measure_39 : decode cX2_measure 39 = .ok (.bipush 6, 2) := by decide +kernel
theorem dX2_measure_41 : decode cX2_measure 41 = .ok (.if_icmp .ge 35, 3) := by decide +kernel
theorem dX2_measure_44 : decode cX2_measure 44 = .ok (.aload_n 0, 1) := by decide +kernel
theorem dX2_measure_45 : decode cX2_measure 45 = .ok (.getfield 15, 3) := by decide +kernel
theorem dX2_measure_48 : decode cX2_measure 48 = .ok (.iload 4, 2) := by decide +kernel
theorem dX2_measure_50 : decode cX2_measure 50 = .ok (.aload_n 0, 1) := by decide +kernel
theorem dX2_measure_51 : decode cX2_measure 51 = .ok (.getfield 15, 3) := by decide +kernel
theorem dX2_measure_54 : decode cX2_measure 54 = .ok (.iload 4, 2) := by decide +kernel
theorem dX2_measure_56 : decode cX2_measure 56 = .ok (.iaload, 1) := by decide +kernel
theorem dX2_measure_57 : decode cX2_measure 57 = .ok (.aload_n 0, 1) := by decide +kernel
theorem dX2_measure_58 : decode cX2_measure 58 = .ok (.aload_n 1, 1) := by decide +kernel
theorem dX2_measure_59 : decode cX2_measure 59 = .ok (.iload 4, 2) := by decide +kernel
theorem dX2_measure_61 : decode cX2_measure 61 = .ok (.iload 5, 2) := by decide +kernel
theorem dX2_measure_63 : decode cX2_measure 63 = .ok (.invokevirtual 39, 3) := by decide +kernel
theorem dX2_measure_66 : decode cX2_measure 66 = .ok (.invokestatic 43, 3) := by decide +kernel
theorem dX2_measure_69 : decode cX2_measure 69 = .ok (.iastore, 1) := by decide +kernel
theorem dX2_measure_70 : decode cX2_measure 70 = .ok (.iinc 5 1, 3) := by decide +kernel
theorem dX2_measure_73 : decode cX2_measure 73 = .ok (.goto (-36), 3) := by decide +kernel
theorem dX2_measure_76 : decode cX2_measure 76 = .ok (.iinc 4 1, 3) := by decide +kernel
theorem dX2_measure_79 : decode cX2_measure 79 = .ok (.goto (-52), 3) := by decide +kernel
theorem dX2_measure_82 : decode cX2_measure 82 = .ok (.iinc 3 1, 3) := by decide +kernel
theorem dX2_measure_85 : decode cX2_measure 85 = .ok (.goto (-67), 3) := by decide +kernel
theorem dX2_measure_88 : decode cX2_measure 88 = .ok (.return_, 1) := by decide +kernel
theorem dX2_over_0 : decode cX2_over 0 = .ok (.aload_n 1, 1) := by decide +kernel
theorem dX2_over_1 : decode cX2_over 1 = .ok (.iload_n 2, 1) := by decide +kernel
theorem dX2_over_2 : decode cX2_over 2 = .ok (.bipush 6, 2) := by decide +kernel
theorem dX2_over_4 : decode cX2_over 4 = .ok (.imul, 1) := by decide +kernel
theorem dX2_over_5 : decode cX2_over 5 = .ok (.iload_n 3, 1) := by decide +kernel
theorem dX2_over_6 : decode cX2_over 6 = .ok (.iadd, 1) := by decide +kernel
theorem dX2_over_7 : decode cX2_over 7 = .ok (.iaload, 1) := by decide +kernel
theorem dX2_over_8 : decode cX2_over 8 = .ok (.istore 4, 2) := by decide +kernel
theorem dX2_over_10 : decode cX2_over 10 = .ok (.iload 4, 2) := by decide +kernel
theorem dX2_over_12 : decode cX2_over 12 = .ok (.ifCond .eq 13, 3) := by decide +kernel
theorem dX2_over_15 : decode cX2_over 15 = .ok (.aload_n 0, 1) := by decide +kernel
theorem dX2_over_16 : decode cX2_over 16 = .ok (.getfield 9, 3) := by decide +kernel
theorem dX2_over_19 : decode cX2_over 19 = .ok (.iload_n 3, 1) := by decide +kernel
theorem dX2_over_20 : decode cX2_over 20 = .ok (.iaload, 1) := by decide +kernel
theorem dX2_over_21 : decode cX2_over 21 = .ok (.iconst (-1), 1) := by decide +kernel
theorem dX2_over_22 : decode cX2_over 22 = .ok (.if_icmp .ne 6, 3) := by decide +kernel
theorem dX2_over_25 : decode cX2_over 25 = .ok (.ldc 29, 2) := by decide +kernel
theorem dX2_over_27 : decode cX2_over 27 = .ok (.ireturn, 1) := by decide +kernel
theorem dX2_over_28 : decode cX2_over 28 = .ok (.ldc 29, 2) := by decide +kernel
theorem dX2_over_30 : decode cX2_over 30 = .ok (.iload 4, 2) := by decide +kernel
theorem dX2_over_32 : decode cX2_over 32 = .ok (.aload_n 0, 1) := by decide +kernel
theorem dX2_over_33 : decode cX2_over 33 = .ok (.getfield 9, 3) := by decide +kernel
theorem dX2_over_36 : decode cX2_over 36 = .ok (.iload_n 3, 1) := by decide +kernel
theorem dX2_over_37 : decode cX2_over 37 = .ok (.iaload, 1) := by decide +kernel
theorem dX2_over_38 : decode cX2_over 38 = .ok (.iadd, 1) := by decide +kernel
theorem dX2_over_39 : decode cX2_over 39 = .ok (.aload_n 0, 1) := by decide +kernel
theorem dX2_over_40 : decode cX2_over 40 = .ok (.getfield 15, 3) := by decide +kernel
theorem dX2_over_43 : decode cX2_over 43 = .ok (.iload_n 3, 1) := by decide +kernel
theorem dX2_over_44 : decode cX2_over 44 = .ok (.iaload, 1) := by decide +kernel
theorem dX2_over_45 : decode cX2_over 45 = .ok (.iadd, 1) := by decide +kernel
theorem dX2_over_46 : decode cX2_over 46 = .ok (.invokestatic 43, 3) := by decide +kernel
theorem dX2_over_49 : decode cX2_over 49 = .ok (.ireturn, 1) := by decide +kernel
theorem dX2_nextDoor_0 : decode cX2_nextDoor 0 = .ok (.iconst 0, 1) := by decide +kernel
theorem dX2_nextDoor_1 : decode cX2_nextDoor 1 = .ok (.istore_n 3, 1) := by decide +kernel
theorem dX2_nextDoor_2 : decode cX2_nextDoor 2 = .ok (.iload_n 3, 1) := by decide +kernel
theorem dX2_nextDoor_3 : decode cX2_nextDoor 3 = .ok (.bipush 6, 2) := by decide +kernel
theorem dX2_nextDoor_5 : decode cX2_nextDoor 5 = .ok (.if_icmp .ge 27, 3) := by decide +kernel
theorem dX2_nextDoor_8 : decode cX2_nextDoor 8 = .ok (.aload_n 0, 1) := by decide +kernel
theorem dX2_nextDoor_9 : decode cX2_nextDoor 9 = .ok (.aload_n 1, 1) := by decide +kernel
theorem dX2_nextDoor_10 : decode cX2_nextDoor 10 = .ok (.iload_n 2, 1) := by decide +kernel
theorem dX2_nextDoor_11 : decode cX2_nextDoor 11 = .ok (.iload_n 3, 1) := by decide +kernel
theorem dX2_nextDoor_12 : decode cX2_nextDoor 12 = .ok (.invokevirtual 39, 3) := by decide +kernel
theorem dX2_nextDoor_15 : decode cX2_nextDoor 15 = .ok (.aload_n 0, 1) := by decide +kernel
theorem dX2_nextDoor_16 : decode cX2_nextDoor 16 = .ok (.getfield 15, 3) := by decide +kernel
theorem dX2_nextDoor_19 : decode cX2_nextDoor 19 = .ok (.iload_n 2, 1) := by decide +kernel
theorem dX2_nextDoor_20 : decode cX2_nextDoor 20 = .ok (.iaload, 1) := by decide +kernel
theorem dX2_nextDoor_21 : decode cX2_nextDoor 21 = .ok (.if_icmp .ne 5, 3) := by decide +kernel
theorem dX2_nextDoor_24 : decode cX2_nextDoor 24 = .ok (.iload_n 3, 1) := by decide +kernel
theorem dX2_nextDoor_25 : decode cX2_nextDoor 25 = .ok (.ireturn, 1) := by decide +kernel
theorem dX2_nextDoor_26 : decode cX2_nextDoor 26 = .ok (.iinc 3 1, 3) := by decide +kernel
theorem dX2_nextDoor_29 : decode cX2_nextDoor 29 = .ok (.goto (-27), 3) := by decide +kernel
theorem dX2_nextDoor_32 : decode cX2_nextDoor 32 = .ok (.iload_n 2, 1) := by decide +kernel
theorem dX2_nextDoor_33 : decode cX2_nextDoor 33 = .ok (.ireturn, 1) := by decide +kernel
theorem dX3_init_0 : decode cX3_init 0 = .ok (.aload_n 0, 1) := by decide +kernel
theorem dX3_init_1 : decode cX3_init 1 = .ok (.invokespecial 3, 3) := by decide +kernel
theorem dX3_init_4 : decode cX3_init 4 = .ok (.aload_n 0, 1) := by decide +kernel
theorem dX3_init_5 : decode cX3_init 5 = .ok (.bipush 64, 2) := by decide +kernel
theorem dX3_init_7 : decode cX3_init 7 = .ok (.newarray .int, 2) := by decide +kernel
theorem dX3_init_9 : decode cX3_init 9 = .ok (.putfield 9, 3) := by decide +kernel
theorem dX3_init_12 : decode cX3_init 12 = .ok (.aload_n 0, 1) := by decide +kernel
theorem dX3_init_13 : decode cX3_init 13 = .ok (.bipush 64, 2) := by decide +kernel
theorem dX3_init_15 : decode cX3_init 15 = .ok (.newarray .int, 2) := by decide +kernel
theorem dX3_init_17 : decode cX3_init 17 = .ok (.putfield 15, 3) := by decide +kernel
theorem dX3_init_20 : decode cX3_init 20 = .ok (.aload_n 0, 1) := by decide +kernel
theorem dX3_init_21 : decode cX3_init 21 = .ok (.bipush 8, 2) := by decide +kernel
theorem dX3_init_23 : decode cX3_init 23 = .ok (.newarray .int, 2) := by decide +kernel
theorem dX3_init_25 : decode cX3_init 25 = .ok (.putfield 18, 3) := by decide +kernel
theorem dX3_init_28 : decode cX3_init 28 = .ok (.aload_n 0, 1) := by decide +kernel
theorem dX3_init_29 : decode cX3_init 29 = .ok (.bipush 8, 2) := by decide +kernel
theorem dX3_init_31 : decode cX3_init 31 = .ok (.newarray .int, 2) := by decide +kernel
theorem dX3_init_33 : decode cX3_init 33 = .ok (.putfield 21, 3) := by decide +kernel
theorem dX3_init_36 : decode cX3_init 36 = .ok (.aload_n 0, 1) := by decide +kernel
theorem dX3_init_37 : decode cX3_init 37 = .ok (.bipush 8, 2) := by decide +kernel
theorem dX3_init_39 : decode cX3_init 39 = .ok (.newarray .int, 2) := by decide +kernel
theorem dX3_init_41 : decode cX3_init 41 = .ok (.putfield 24, 3) := by decide +kernel
theorem dX3_init_44 : decode cX3_init 44 = .ok (.return_, 1) := by decide +kernel
theorem dX3_ask_0 : decode cX3_ask 0 = .ok (.iconst 0, 1) := by decide +kernel
theorem dX3_ask_1 : decode cX3_ask 1 = .ok (.istore 4, 2) := by decide +kernel
theorem dX3_ask_3 : decode cX3_ask 3 = .ok (.iload 4, 2) := by decide +kernel
theorem dX3_ask_5 : decode cX3_ask 5 = .ok (.aload_n 2, 1) := by decide +kernel
theorem dX3_ask_6 : decode cX3_ask 6 = .ok (.getfield 27, 3) := by decide +kernel
theorem dX3_ask_9 : decode cX3_ask 9 = .ok (.if_icmp .ge 102, 3) := by decide +kernel
theorem dX3_ask_12 : decode cX3_ask 12 = .ok (.iconst 0, 1) := by decide +kernel
theorem dX3_ask_13 : decode cX3_ask 13 = .ok (.istore 5, 2) := by decide +kernel
theorem dX3_ask_15 : decode cX3_ask 15 = .ok (.iload 5, 2) := by decide +kernel
theorem dX3_ask_17 : decode cX3_ask 17 = .ok (.aload_n 2, 1) := by decide +kernel
theorem dX3_ask_18 : decode cX3_ask 18 = .ok (.getfield 27, 3) := by decide +kernel
theorem dX3_ask_21 : decode cX3_ask 21 = .ok (.if_icmp .ge 84, 3) := by decide +kernel
theorem dX3_ask_24 : decode cX3_ask 24 = .ok (.iload 4, 2) := by decide +kernel
theorem dX3_ask_26 : decode cX3_ask 26 = .ok (.iload 5, 2) := by decide +kernel
theorem dX3_ask_28 : decode cX3_ask 28 = .ok (.if_icmp .eq 71, 3) := by decide +kernel
theorem dX3_ask_31 : decode cX3_ask 31 = .ok (.aload_n 2, 1) := by decide +kernel
theorem dX3_ask_32 : decode cX3_ask 32 = .ok (.getfield 33, 3) := by decide +kernel
theorem dX3_ask_35 : decode cX3_ask 35 = .ok (.iload 4, 2) := by decide +kernel
theorem dX3_ask_37 : decode cX3_ask 37 = .ok (.iaload, 1) := by decide +kernel
theorem dX3_ask_38 : decode cX3_ask 38 = .ok (.aload_n 2, 1) := by decide +kernel
theorem dX3_ask_39 : decode cX3_ask 39 = .ok (.getfield 33, 3) := by decide +kernel
theorem dX3_ask_42 : decode cX3_ask 42 = .ok (.iload 5, 2) := by decide +kernel
theorem dX3_ask_44 : decode cX3_ask 44 = .ok (.iaload, 1) := by decide +kernel
theorem dX3_ask_45 : decode cX3_ask 45 = .ok (.invokestatic 36, 3) := by decide +kernel
theorem dX3_ask_48 : decode cX3_ask 48 = .ok (.istore 6, 2) := by decide +kernel
theorem dX3_ask_50 : decode cX3_ask 50 = .ok (.aload_n 3, 1) := by decide +kernel
theorem dX3_ask_51 : decode cX3_ask 51 = .ok (.aload_n 1, 1) := by decide +kernel
theorem dX3_ask_52 : decode cX3_ask 52 = .ok (.aload_n 2, 1) := by decide +kernel
theorem dX3_ask_53 : decode cX3_ask 53 = .ok (.getfield 40, 3) := by decide +kernel
theorem dX3_ask_56 : decode cX3_ask 56 = .ok (.aload_n 2, 1) := by decide +kernel
theorem dX3_ask_57 : decode cX3_ask 57 = .ok (.getfield 44, 3) := by decide +kernel
theorem dX3_ask_60 : decode cX3_ask 60 = .ok (.aload_n 2, 1) := by decide +kernel
theorem dX3_ask_61 : decode cX3_ask 61 = .ok (.getfield 33, 3) := by decide +kernel
theorem dX3_ask_64 : decode cX3_ask 64 = .ok (.iload 4, 2) := by decide +kernel
theorem dX3_ask_66 : decode cX3_ask 66 = .ok (.iaload, 1) := by decide +kernel
theorem dX3_ask_67 : decode cX3_ask 67 = .ok (.aload_n 2, 1) := by decide +kernel
theorem dX3_ask_68 : decode cX3_ask 68 = .ok (.getfield 33, 3) := by decide +kernel
theorem dX3_ask_71 : decode cX3_ask 71 = .ok (.iload 5, 2) := by decide +kernel
theorem dX3_ask_73 : decode cX3_ask 73 = .ok (.iaload, 1) := by decide +kernel
theorem dX3_ask_74 : decode cX3_ask 74 = .ok (.invokevirtual 48, 3) := by decide +kernel
theorem dX3_ask_77 : decode cX3_ask 77 = .ok (.aload_n 0, 1) := by decide +kernel
theorem dX3_ask_78 : decode cX3_ask 78 = .ok (.getfield 9, 3) := by decide +kernel
theorem dX3_ask_81 : decode cX3_ask 81 = .ok (.iload 6, 2) := by decide +kernel
theorem dX3_ask_83 : decode cX3_ask 83 = .ok (.aload_n 3, 1) := by decide +kernel
theorem dX3_ask_84 : decode cX3_ask 84 = .ok (.getfield 54, 3) := by decide +kernel
theorem dX3_ask_87 : decode cX3_ask 87 = .ok (.iastore, 1) := by decide +kernel
theorem dX3_ask_88 : decode cX3_ask 88 = .ok (.aload_n 0, 1) := by decide +kernel
theorem dX3_ask_89 : decode cX3_ask 89 = .ok (.getfield 15, 3) := by decide +kernel
theorem dX3_ask_92 : decode cX3_ask 92 = .ok (.iload 6, 2) := by decide +kernel
theorem dX3_ask_94 : decode cX3_ask 94 = .ok (.aload_n 3, 1) := by decide +kernel
theorem dX3_ask_95 : decode cX3_ask 95 = .ok (.getfield 56, 3) := by decide +kernel
theorem dX3_ask_98 : decode cX3_ask 98 = .ok (.iastore, 1) := by decide +kernel
theorem dX3_ask_99 : decode cX3_ask 99 = .ok (.iinc 5 1, 3) := by decide +kernel
theorem dX3_ask_102 : decode cX3_ask 102 = .ok (.goto (-87), 3) := by decide +kernel
theorem dX3_ask_105 : decode cX3_ask 105 = .ok (.iinc 4 1, 3) := by decide +kernel
theorem dX3_ask_108 : decode cX3_ask 108 = .ok (.goto (-105), 3) := by decide +kernel
theorem dX3_ask_111 : decode cX3_ask 111 = .ok (.return_, 1) := by decide +kernel
theorem dX3_pass_0 : decode cX3_pass 0 = .ok (.iconst (-1), 1) := by decide +kernel
theorem dX3_pass_1 : decode cX3_pass 1 = .ok (.istore 4, 2) := by decide +kernel
theorem dX3_pass_3 : decode cX3_pass 3 = .ok (.iconst 0, 1) := by decide +kernel
theorem dX3_pass_4 : decode cX3_pass 4 = .ok (.istore 5, 2) := by decide +kernel
theorem dX3_pass_6 : decode cX3_pass 6 = .ok (.iconst 0, 1) := by decide +kernel
theorem dX3_pass_7 : decode cX3_pass 7 = .ok (.istore 6, 2) := by decide +kernel
theorem dX3_pass_9 : decode cX3_pass 9 = .ok (.iconst 0, 1) := by decide +kernel
theorem dX3_pass_10 : decode cX3_pass 10 = .ok (.istore 7, 2) := by decide +kernel
theorem dX3_pass_12 : decode cX3_pass 12 = .ok (.iload 7, 2) := by decide +kernel
theorem dX3_pass_14 : decode cX3_pass 14 = .ok (.iload_n 2, 1) := by decide +kernel
theorem dX3_pass_15 : decode cX3_pass 15 = .ok (.if_icmp .ge 111, 3) := by decide +kernel
theorem dX3_pass_18 : decode cX3_pass 18 = .ok (.aload_n 1, 1) := by decide +kernel
theorem dX3_pass_19 : decode cX3_pass 19 = .ok (.iload 7, 2) := by decide +kernel
theorem dX3_pass_21 : decode cX3_pass 21 = .ok (.iaload, 1) := by decide +kernel
theorem dX3_pass_22 : decode cX3_pass 22 = .ok (.istore 8, 2) := by decide +kernel
theorem dX3_pass_24 : decode cX3_pass 24 = .ok (.iload 8, 2) := by decide +kernel
theorem dX3_pass_26 : decode cX3_pass 26 = .ok (.iload_n 3, 1) := by decide +kernel
theorem dX3_pass_27 : decode cX3_pass 27 = .ok (.if_icmp .ne 6, 3) := by decide +kernel
theorem dX3_pass_30 : decode cX3_pass 30 = .ok (.goto 90, 3) := by decide +kernel
theorem dX3_pass_33 : decode cX3_pass 33 = .ok (.iload 4, 2) := by decide +kernel
theorem dX3_pass_35 : decode cX3_pass 35 = .ok (.iconst (-1), 1) := by decide +kernel
theorem dX3_pass_36 : decode cX3_pass 36 = .ok (.if_icmp .ne 10, 3) := by decide +kernel
theorem dX3_pass_39 : decode cX3_pass 39 = .ok (.iload 8, 2) := by decide +kernel
theorem dX3_pass_41 : decode cX3_pass 41 = .ok (.istore 4, 2) := by decide +kernel
theorem dX3_pass_43 : decode cX3_pass 43 = .ok (.goto 77, 3) := by decide +kernel
theorem dX3_pass_46 : decode cX3_pass 46 = .ok (.iload 4, 2) := by decide +kernel
theorem dX3_pass_48 : decode cX3_pass 48 = .ok (.iload 8, 2) := by decide +kernel
theorem dX3_pass_50 : decode cX3_pass 50 = .ok (.invokestatic 36, 3) := by decide +kernel
theorem dX3_pass_53 : decode cX3_pass 53 = .ok (.istore 9, 2) := by decide +kernel
theorem dX3_pass_55 : decode cX3_pass 55 = .ok (.aload_n 0, 1) := by decide +kernel
theorem dX3_pass_56 : decode cX3_pass 56 = .ok (.getfield 9, 3) := by decide +kernel
theorem dX3_pass_59 : decode cX3_pass 59 = .ok (.iload 9, 2) := by decide +kernel
theorem dX3_pass_61 : decode cX3_pass 61 = .ok (.iaload, 1) := by decide +kernel
theorem dX3_pass_62 : decode cX3_pass 62 = .ok (.iconst (-1), 1) := by decide +kernel
theorem dX3_pass_63 : decode cX3_pass 63 = .ok (.if_icmp .ne 5, 3) := by decide +kernel
theorem dX3_pass_66 : decode cX3_pass 66 = .ok (.iconst (-1), 1) := by decide +kernel
theorem dX3_pass_67 : decode cX3_pass 67 = .ok (.ireturn, 1) := by decide +kernel
theorem dX3_pass_68 : decode cX3_pass 68 = .ok (.iload 6, 2) := by decide +kernel
theorem dX3_pass_70 : decode cX3_pass 70 = .ok (.aload_n 0, 1) := by decide +kernel
theorem dX3_pass_71 : decode cX3_pass 71 = .ok (.getfield 15, 3) := by decide +kernel
theorem dX3_pass_74 : decode cX3_pass 74 = .ok (.iload 9, 2) := by decide +kernel
theorem dX3_pass_76 : decode cX3_pass 76 = .ok (.iaload, 1) := by decide +kernel
theorem dX3_pass_77 : decode cX3_pass 77 = .ok (.iconst 1, 1) := by decide +kernel
theorem dX3_pass_78 : decode cX3_pass 78 = .ok (.iadd, 1) := by decide +kernel
theorem dX3_pass_79 : decode cX3_pass 79 = .ok (.iadd, 1) := by decide +kernel
theorem dX3_pass_80 : decode cX3_pass 80 = .ok (.istore 6, 2) := by decide +kernel
theorem dX3_pass_82 : decode cX3_pass 82 = .ok (.aload_n 0, 1) := by decide +kernel
theorem dX3_pass_83 : decode cX3_pass 83 = .ok (.getfield 18, 3) := by decide +kernel
theorem dX3_pass_86 : decode cX3_pass 86 = .ok (.iload 5, 2) := by decide +kernel
theorem dX3_pass_88 : decode cX3_pass 88 = .ok (.aload_n 0, 1) := by decide +kernel
theorem dX3_pass_89 : decode cX3_pass 89 = .ok (.getfield 9, 3) := by decide +kernel
theorem dX3_pass_92 : decode cX3_pass 92 = .ok (.iload 9, 2) := by decide +kernel
theorem dX3_pass_94 : decode cX3_pass 94 = .ok (.iaload, 1) := by decide +kernel
theorem dX3_pass_95 : decode cX3_pass 95 = .ok (.iastore, 1) := by decide +kernel
theorem dX3_pass_96 : decode cX3_pass 96 = .ok (.iinc 5 1, 3) := by decide +kernel
theorem dX3_pass_99 : decode cX3_pass 99 = .ok (.aload_n 0, 1) := by decide +kernel
theorem dX3_pass_100 : decode cX3_pass 100 = .ok (.getfield 9, 3) := by decide +kernel
theorem dX3_pass_103 : decode cX3_pass 103 = .ok (.iload 9, 2) := by decide +kernel
theorem dX3_pass_105 : decode cX3_pass 105 = .ok (.iaload, 1) := by decide +kernel
theorem dX3_pass_106 : decode cX3_pass 106 = .ok (.iload 4, 2) := by decide +kernel
theorem dX3_pass_108 : decode cX3_pass 108 = .ok (.if_icmp .ne 8, 3) := by decide +kernel
theorem dX3_pass_111 : decode cX3_pass 111 = .ok (.iload 8, 2) := by decide +kernel
theorem dX3_pass_113 : decode cX3_pass 113 = .ok (.goto 5, 3) := by decide +kernel
theorem dX3_pass_116 : decode cX3_pass 116 = .ok (.iload 4, 2) := by decide +kernel
theorem dX3_pass_118 : decode cX3_pass 118 = .ok (.istore 4, 2) := by decide +kernel
theorem dX3_pass_120 : decode cX3_pass 120 = .ok (.iinc 7 1, 3) := by decide +kernel
theorem dX3_pass_123 : decode cX3_pass 123 = .ok (.goto (-111), 3) := by decide +kernel
theorem dX3_pass_126 : decode cX3_pass 126 = .ok (.iload 4, 2) := by decide +kernel
theorem dX3_pass_128 : decode cX3_pass 128 = .ok (.iconst (-1), 1) := by decide +kernel
theorem dX3_pass_129 : decode cX3_pass 129 = .ok (.if_icmp .eq 15, 3) := by decide +kernel
theorem dX3_pass_132 : decode cX3_pass 132 = .ok (.aload_n 0, 1) := by decide +kernel
theorem dX3_pass_133 : decode cX3_pass 133 = .ok (.getfield 18, 3) := by decide +kernel
theorem dX3_pass_136 : decode cX3_pass 136 = .ok (.iload 5, 2) := by decide +kernel
theorem dX3_pass_138 : decode cX3_pass 138 = .ok (.iload 4, 2) := by decide +kernel
theorem dX3_pass_140 : decode cX3_pass 140 = .ok (.iastore, 1) := by decide +kernel
theorem dX3_pass_141 : decode cX3_pass 141 = .ok (.iinc 6 1, 3) := by decide +kernel
theorem dX3_pass_144 : decode cX3_pass 144 = .ok (.iload 6, 2) := by decide +kernel
theorem dX3_pass_146 : decode cX3_pass 146 = .ok (.ireturn, 1) := by decide +kernel
theorem dX3_sort_0 : decode cX3_sort 0 = .ok (.iconst 0, 1) := by decide +kernel
theorem dX3_sort_1 : decode cX3_sort 1 = .ok (.istore_n 2, 1) := by decide +kernel
theorem dX3_sort_2 : decode cX3_sort 2 = .ok (.iconst 0, 1) := by decide +kernel
theorem dX3_sort_3 : decode cX3_sort 3 = .ok (.istore_n 3, 1) := by decide +kernel
theorem dX3_sort_4 : decode cX3_sort 4 = .ok (.iload_n 3, 1) := by decide +kernel
theorem dX3_sort_5 : decode cX3_sort 5 = .ok (.bipush 8, 2) := by decide +kernel
theorem dX3_sort_7 : decode cX3_sort 7 = .ok (.if_icmp .ge 27, 3) := by decide +kernel
theorem dX3_sort_10 : decode cX3_sort 10 = .ok (.aload_n 1, 1) := by decide +kernel
theorem dX3_sort_11 : decode cX3_sort 11 = .ok (.iload_n 3, 1) := by decide +kernel
theorem dX3_sort_12 : decode cX3_sort 12 = .ok (.invokevirtual 58, 3) := by decide +kernel
theorem dX3_sort_15 : decode cX3_sort 15 = .ok (.ifCond .eq 13, 3) := by decide +kernel
theorem dX3_sort_18 : decode cX3_sort 18 = .ok (.aload_n 0, 1) := by decide +kernel
theorem dX3_sort_19 : decode cX3_sort 19 = .ok (.getfield 21, 3) := by decide +kernel
theorem dX3_sort_22 : decode cX3_sort 22 = .ok (.iload_n 2, 1) := by decide +kernel
theorem dX3_sort_23 : decode cX3_sort 23 = .ok (.iload_n 3, 1) := by decide +kernel
theorem dX3_sort_24 : decode cX3_sort 24 = .ok (.iastore, 1) := by decide +kernel
theorem dX3_sort_25 : decode cX3_sort 25 = .ok (.iinc 2 1, 3) := by decide +kernel
theorem dX3_sort_28 : decode cX3_sort 28 = .ok (.iinc 3 1, 3) := by decide +kernel
theorem dX3_sort_31 : decode cX3_sort 31 = .ok (.goto (-27), 3) := by decide +kernel
theorem dX3_sort_34 : decode cX3_sort 34 = .ok (.iconst (-1), 1) := by decide +kernel
theorem dX3_sort_35 : decode cX3_sort 35 = .ok (.istore_n 3, 1) := by decide +kernel
theorem dX3_sort_36 : decode cX3_sort 36 = .ok (.iconst 1, 1) := by decide +kernel
theorem dX3_sort_37 : decode cX3_sort 37 = .ok (.istore 4, 2) := by decide +kernel
theorem dX3_sort_39 : decode cX3_sort 39 = .ok (.iconst 0, 1) := by decide +kernel
theorem dX3_sort_40 : decode cX3_sort 40 = .ok (.istore 5, 2) := by decide +kernel
theorem dX3_sort_42 : decode cX3_sort 42 = .ok (.iload 5, 2) := by decide +kernel
theorem dX3_sort_44 : decode cX3_sort 44 = .ok (.sipush 720, 3) := by decide +kernel
theorem dX3_sort_47 : decode cX3_sort 47 = .ok (.if_icmp .ge 67, 3) := by decide +kernel
theorem dX3_sort_50 : decode cX3_sort 50 = .ok (.iload 4, 2) := by decide +kernel
theorem dX3_sort_52 : decode cX3_sort 52 = .ok (.ifCond .eq 62, 3) := by decide +kernel
theorem dX3_sort_55 : decode cX3_sort 55 = .ok (.aload_n 0, 1) := by decide +kernel
theorem dX3_sort_56 : decode cX3_sort 56 = .ok (.aload_n 0, 1) := by decide +kernel
theorem dX3_sort_57 : decode cX3_sort 57 = .ok (.getfield 21, 3) := by decide +kernel
theorem dX3_sort_60 : decode cX3_sort 60 = .ok (.iload_n 2, 1) := by decide +kernel
theorem dX3_sort_61 : decode cX3_sort 61 = .ok (.iconst (-1), 1) := by decide +kernel
theorem dX3_sort_62 : decode cX3_sort 62 = .ok (.invokevirtual 62, 3) := by decide +kernel
theorem dX3_sort_65 : decode cX3_sort 65 = .ok (.istore 6, 2) := by decide +kernel
theorem dX3_sort_67 : decode cX3_sort 67 = .ok (.iload 6, 2) := by decide +kernel
theorem dX3_sort_69 : decode cX3_sort 69 = .ok (.iconst (-1), 1) := by decide +kernel
theorem dX3_sort_70 : decode cX3_sort 70 = .ok (.if_icmp .eq 31, 3) := by decide +kernel
theorem dX3_sort_73 : decode cX3_sort 73 = .ok (.iload_n 3, 1) := by decide +kernel
theorem dX3_sort_74 : decode cX3_sort 74 = .ok (.iconst (-1), 1) := by decide +kernel
theorem dX3_sort_75 : decode cX3_sort 75 = .ok (.if_icmp .eq 9, 3) := by decide +kernel
theorem dX3_sort_78 : decode cX3_sort 78 = .ok (.iload 6, 2) := by decide +kernel
theorem dX3_sort_80 : decode cX3_sort 80 = .ok (.iload_n 3, 1) := by decide +kernel
theorem dX3_sort_81 : decode cX3_sort 81 = .ok (.if_icmp .ge 20, 3) := by decide +kernel
theorem dX3_sort_84 : decode cX3_sort 84 = .ok (.iload 6, 2) := by decide +kernel
theorem dX3_sort_86 : decode cX3_sort 86 = .ok (.istore_n 3, 1) := by decide +kernel
theorem dX3_sort_87 : decode cX3_sort 87 = .ok (.aload_n 0, 1) := by decide +kernel
theorem dX3_sort_88 : decode cX3_sort 88 = .ok (.getfield 21, 3) := by decide +kernel
theorem dX3_sort_91 : decode cX3_sort 91 = .ok (.iconst 0, 1) := by decide +kernel
theorem dX3_sort_92 : decode cX3_sort 92 = .ok (.aload_n 0, 1) := by decide +kernel
theorem dX3_sort_93 : decode cX3_sort 93 = .ok (.getfield 24, 3) := by decide +kernel
theorem dX3_sort_96 : decode cX3_sort 96 = .ok (.iconst 0, 1) := by decide +kernel
theorem dX3_sort_97 : decode cX3_sort 97 = .ok (.iload_n 2, 1) := by decide +kernel
theorem dX3_sort_98 : decode cX3_sort 98 = .ok (.invokestatic 66, 3) := by decide +kernel
theorem dX3_sort_101 : decode cX3_sort 101 = .ok (.aload_n 0, 1) := by decide +kernel
theorem dX3_sort_102 : decode cX3_sort 102 = .ok (.iload_n 2, 1) := by decide +kernel
theorem dX3_sort_103 : decode cX3_sort 103 = .ok (.invokevirtual 72, 3) := by decide +kernel
theorem dX3_sort_106 : decode cX3_sort 106 = .ok (.istore 4, 2) := by decide +kernel
theorem dX3_sort_108 : decode cX3_sort 108 = .ok (.iinc 5 1, 3) := by decide +kernel
theorem dX3_sort_111 : decode cX3_sort 111 = .ok (.goto (-69), 3) := by decide +kernel
theorem dX3_sort_114 : decode cX3_sort 114 = .ok (.iload_n 3, 1) := by decide +kernel
theorem dX3_sort_115 : decode cX3_sort 115 = .ok (.ireturn, 1) := by decide +kernel
theorem dX3_nextOrder_0 : decode cX3_nextOrder 0 = .ok (.iload_n 1, 1) := by decide +kernel
theorem dX3_nextOrder_1 : decode cX3_nextOrder 1 = .ok (.iconst 2, 1) := by decide +kernel
theorem dX3_nextOrder_2 : decode cX3_nextOrder 2 = .ok (.isub, 1) := by decide +kernel
theorem dX3_nextOrder_3 : decode cX3_nextOrder 3 = .ok (.istore_n 2, 1) := by decide +kernel
theorem dX3_nextOrder_4 : decode cX3_nextOrder 4 = .ok (.iload_n 2, 1) := by decide +kernel
theorem dX3_nextOrder_5 : decode cX3_nextOrder 5 = .ok (.ifCond .lt 26, 3) := by decide +kernel
theorem dX3_nextOrder_8 : decode cX3_nextOrder 8 = .ok (.aload_n 0, 1) := by decide +kernel
theorem dX3_nextOrder_9 : decode cX3_nextOrder 9 = .ok (.getfield 21, 3) := by decide +kernel
theorem dX3_nextOrder_12 : decode cX3_nextOrder 12 = .ok (.iload_n 2, 1) := by decide +kernel
theorem dX3_nextOrder_13 : decode cX3_nextOrder 13 = .ok (.iaload, 1) := by decide +kernel
theorem dX3_nextOrder_14 : decode cX3_nextOrder 14 = .ok (.aload_n 0, 1) := by decide +kernel
theorem dX3_nextOrder_15 : decode cX3_nextOrder 15 = .ok (.getfield 21, 3) := by decide +kernel
theorem dX3_nextOrder_18 : decode cX3_nextOrder 18 = .ok (.iload_n 2, 1) := by decide +kernel
theorem dX3_nextOrder_19 : decode cX3_nextOrder 19 = .ok (.iconst 1, 1) := by decide +kernel
theorem dX3_nextOrder_20 : decode cX3_nextOrder 20 = .ok (.iadd, 1) := by decide +kernel
theorem dX3_nextOrder_21 : decode cX3_nextOrder 21 = .ok (.iaload, 1) := by decide +kernel
theorem dX3_nextOrder_22 : decode cX3_nextOrder 22 = .ok (.if_icmp .le 9, 3) := by decide +kernel
theorem dX3_nextOrder_25 : decode cX3_nextOrder 25 = .ok (.iinc 2 (-1), 3) := by decide +kernel
theorem dX3_nextOrder_28 : decode cX3_nextOrder 28 = .ok (.goto (-24), 3) := by decide +kernel
theorem dX3_nextOrder_31 : decode cX3_nextOrder 31 = .ok (.iload_n 2, 1) := by decide +kernel
theorem dX3_nextOrder_32 : decode cX3_nextOrder 32 = .ok (.ifCond .ge 5, 3) := by decide +kernel
theorem dX3_nextOrder_35 : decode cX3_nextOrder 35 = .ok (.iconst 0, 1) := by decide +kernel
theorem dX3_nextOrder_36 : decode cX3_nextOrder 36 = .ok (.ireturn, 1) := by decide +kernel
theorem dX3_nextOrder_37 : decode cX3_nextOrder 37 = .ok (.iload_n 1, 1) := by decide +kernel
theorem dX3_nextOrder_38 : decode cX3_nextOrder 38 = .ok (.iconst 1, 1) := by decide +kernel
theorem dX3_nextOrder_39 : decode cX3_nextOrder 39 = .ok (.isub, 1) := by decide +kernel
theorem dX3_nextOrder_40 : decode cX3_nextOrder 40 = .ok (.istore_n 3, 1) := by decide +kernel
theorem dX3_nextOrder_41 : decode cX3_nextOrder 41 = .ok (.iload_n 3, 1) := by decide +kernel
theorem dX3_nextOrder_42 : decode cX3_nextOrder 42 = .ok (.iload_n 2, 1) := by decide +kernel
theorem dX3_nextOrder_43 : decode cX3_nextOrder 43 = .ok (.iconst 1, 1) := by decide +kernel
theorem dX3_nextOrder_44 : decode cX3_nextOrder 44 = .ok (.iadd, 1) := by decide +kernel
theorem dX3_nextOrder_45 : decode cX3_nextOrder 45 = .ok (.if_icmp .le 24, 3) := by decide +kernel
theorem dX3_nextOrder_48 : decode cX3_nextOrder 48 = .ok (.aload_n 0, 1) := by decide +kernel
theorem dX3_nextOrder_49 : decode cX3_nextOrder 49 = .ok (.getfield 21, 3) := by decide +kernel
theorem dX3_nextOrder_52 : decode cX3_nextOrder 52 = .ok (.iload_n 3, 1) := by decide +kernel
theorem dX3_nextOrder_53 : decode cX3_nextOrder 53 = .ok (.iaload, 1) := by decide +kernel
theorem dX3_nextOrder_54 : decode cX3_nextOrder 54 = .ok (.aload_n 0, 1) := by decide +kernel
theorem dX3_nextOrder_55 : decode cX3_nextOrder 55 = .ok (.getfield 21, 3) := by decide +kernel
theorem dX3_nextOrder_58 : decode cX3_nextOrder 58 = .ok (.iload_n 2, 1) := by decide +kernel
theorem dX3_nextOrder_59 : decode cX3_nextOrder 59 = .ok (.iaload, 1) := by decide +kernel
theorem dX3_nextOrder_60 : decode cX3_nextOrder 60 = .ok (.if_icmp .ge 9, 3) := by decide +kernel
theorem dX3_nextOrder_63 : decode cX3_nextOrder 63 = .ok (.iinc 3 (-1), 3) := by decide +kernel
theorem dX3_nextOrder_66 : decode cX3_nextOrder 66 = .ok (.goto (-25), 3) := by decide +kernel
theorem dX3_nextOrder_69 : decode cX3_nextOrder 69 = .ok (.aload_n 0, 1) := by decide +kernel
theorem dX3_nextOrder_70 : decode cX3_nextOrder 70 = .ok (.iload_n 2, 1) := by decide +kernel
theorem dX3_nextOrder_71 : decode cX3_nextOrder 71 = .ok (.iload_n 3, 1) := by decide +kernel
theorem dX3_nextOrder_72 : decode cX3_nextOrder 72 = .ok (.invokevirtual 75, 3) := by decide +kernel
theorem dX3_nextOrder_75 : decode cX3_nextOrder 75 = .ok (.iload_n 2, 1) := by decide +kernel
theorem dX3_nextOrder_76 : decode cX3_nextOrder 76 = .ok (.iconst 1, 1) := by decide +kernel
theorem dX3_nextOrder_77 : decode cX3_nextOrder 77 = .ok (.iadd, 1) := by decide +kernel
theorem dX3_nextOrder_78 : decode cX3_nextOrder 78 = .ok (.istore 4, 2) := by decide +kernel
theorem dX3_nextOrder_80 : decode cX3_nextOrder 80 = .ok (.iload_n 1, 1) := by decide +kernel
theorem dX3_nextOrder_81 : decode cX3_nextOrder 81 = .ok (.iconst 1, 1) := by decide +kernel
theorem dX3_nextOrder_82 : decode cX3_nextOrder 82 = .ok (.isub, 1) := by decide +kernel
theorem dX3_nextOrder_83 : decode cX3_nextOrder 83 = .ok (.istore 5, 2) := by decide +kernel
theorem dX3_nextOrder_85 : decode cX3_nextOrder 85 = .ok (.iload 4, 2) := by decide +kernel
theorem dX3_nextOrder_87 : decode cX3_nextOrder 87 = .ok (.iload 5, 2) := by decide +kernel
theorem dX3_nextOrder_89 : decode cX3_nextOrder 89 = .ok (.if_icmp .ge 20, 3) := by decide +kernel
theorem dX3_nextOrder_92 : decode cX3_nextOrder 92 = .ok (.aload_n 0, 1) := by decide +kernel
theorem dX3_nextOrder_93 : decode cX3_nextOrder 93 = .ok (.iload 4, 2) := by decide +kernel
theorem dX3_nextOrder_95 : decode cX3_nextOrder 95 = .ok (.iload 5, 2) := by decide +kernel
theorem dX3_nextOrder_97 : decode cX3_nextOrder 97 = .ok (.invokevirtual 75, 3) := by decide +kernel
theorem dX3_nextOrder_100 : decode cX3_nextOrder 100 = .ok (.iinc 4 1, 3) := by decide +kernel
theorem dX3_nextOrder_103 : decode cX3_nextOrder 103 = .ok (.iinc 5 (-1), 3) := by decide +kernel
theorem dX3_nextOrder_106 : decode cX3_nextOrder 106 = .ok (.goto (-21), 3) := by decide +kernel
theorem dX3_nextOrder_109 : decode cX3_nextOrder 109 = .ok (.iconst 1, 1) := by decide +kernel
theorem dX3_nextOrder_110 : decode cX3_nextOrder 110 = .ok (.ireturn, 1) := by decide +kernel
theorem dX3_swap_0 : decode cX3_swap 0 = .ok (.aload_n 0, 1) := by decide +kernel
theorem dX3_swap_1 : decode cX3_swap 1 = .ok (.getfield 21, 3) := by decide +kernel
theorem dX3_swap_4 : decode cX3_swap 4 = .ok (.iload_n 1, 1) := by decide +kernel
theorem dX3_swap_5 : decode cX3_swap 5 = .ok (.iaload, 1) := by decide +kernel
theorem dX3_swap_6 : decode cX3_swap 6 = .ok (.istore_n 3, 1) := by decide +kernel
theorem dX3_swap_7 : decode cX3_swap 7 = .ok (.aload_n 0, 1) := by decide +kernel
theorem dX3_swap_8 : decode cX3_swap 8 = .ok (.getfield 21, 3) := by decide +kernel
theorem dX3_swap_11 : decode cX3_swap 11 = .ok (.iload_n 1, 1) := by decide +kernel
theorem dX3_swap_12 : decode cX3_swap 12 = .ok (.aload_n 0, 1) := by decide +kernel
theorem dX3_swap_13 : decode cX3_swap 13 = .ok (.getfield 21, 3) := by decide +kernel
theorem dX3_swap_16 : decode cX3_swap 16 = .ok (.iload_n 2, 1) := by decide +kernel
theorem dX3_swap_17 : decode cX3_swap 17 = .ok (.iaload, 1) := by decide +kernel
theorem dX3_swap_18 : decode cX3_swap 18 = .ok (.iastore, 1) := by decide +kernel
theorem dX3_swap_19 : decode cX3_swap 19 = .ok (.aload_n 0, 1) := by decide +kernel
theorem dX3_swap_20 : decode cX3_swap 20 = .ok (.getfield 21, 3) := by decide +kernel
theorem dX3_swap_23 : decode cX3_swap 23 = .ok (.iload_n 2, 1) := by decide +kernel
theorem dX3_swap_24 : decode cX3_swap 24 = .ok (.iload_n 3, 1) := by decide +kernel
theorem dX3_swap_25 : decode cX3_swap 25 = .ok (.iastore, 1) := by decide +kernel
theorem dX3_swap_26 : decode cX3_swap 26 = .ok (.return_, 1) := by decide +kernel
theorem dX4_init_0 : decode cX4_init 0 = .ok (.aload_n 0, 1) := by decide +kernel
theorem dX4_init_1 : decode cX4_init 1 = .ok (.invokespecial 3, 3) := by decide +kernel
theorem dX4_init_4 : decode cX4_init 4 = .ok (.aload_n 0, 1) := by decide +kernel
theorem dX4_init_5 : decode cX4_init 5 = .ok (.iconst 0, 1) := by decide +kernel
theorem dX4_init_6 : decode cX4_init 6 = .ok (.putfield 9, 3) := by decide +kernel
theorem dX4_init_9 : decode cX4_init 9 = .ok (.aload_n 0, 1) := by decide +kernel
theorem dX4_init_10 : decode cX4_init 10 = .ok (.bipush 8, 2) := by decide +kernel
theorem dX4_init_12 : decode cX4_init 12 = .ok (.newarray .int, 2) := by decide +kernel
theorem dX4_init_14 : decode cX4_init 14 = .ok (.putfield 15, 3) := by decide +kernel
theorem dX4_init_17 : decode cX4_init 17 = .ok (.aload_n 0, 1) := by decide +kernel
theorem dX4_init_18 : decode cX4_init 18 = .ok (.bipush 8, 2) := by decide +kernel
theorem dX4_init_20 : decode cX4_init 20 = .ok (.newarray .int, 2) := by decide +kernel
theorem dX4_init_22 : decode cX4_init 22 = .ok (.putfield 19, 3) := by decide +kernel
theorem dX4_init_25 : decode cX4_init 25 = .ok (.aload_n 0, 1) := by decide +kernel
theorem dX4_init_26 : decode cX4_init 26 = .ok (.bipush 8, 2) := by decide +kernel
theorem dX4_init_28 : decode cX4_init 28 = .ok (.newarray .int, 2) := by decide +kernel
theorem dX4_init_30 : decode cX4_init 30 = .ok (.putfield 22, 3) := by decide +kernel
theorem dX4_init_33 : decode cX4_init 33 = .ok (.aload_n 0, 1) := by decide +kernel
theorem dX4_init_34 : decode cX4_init 34 = .ok (.bipush 8, 2) := by decide +kernel
theorem dX4_init_36 : decode cX4_init 36 = .ok (.newarray .int, 2) := by decide +kernel
theorem dX4_init_38 : decode cX4_init 38 = .ok (.putfield 25, 3) := by decide +kernel
theorem dX4_init_41 : decode cX4_init 41 = .ok (.return_, 1) := by decide +kernel
theorem dX4_add_0 : decode cX4_add 0 = .ok (.aload_n 0, 1) := by decide +kernel
theorem dX4_add_1 : decode cX4_add 1 = .ok (.getfield 15, 3) := by decide +kernel
theorem dX4_add_4 : decode cX4_add 4 = .ok (.aload_n 0, 1) := by decide +kernel
theorem dX4_add_5 : decode cX4_add 5 = .ok (.getfield 9, 3) := by decide +kernel
theorem dX4_add_8 : decode cX4_add 8 = .ok (.iload_n 1, 1) := by decide +kernel
theorem dX4_add_9 : decode cX4_add 9 = .ok (.iastore, 1) := by decide +kernel
theorem dX4_add_10 : decode cX4_add 10 = .ok (.aload_n 0, 1) := by decide +kernel
theorem dX4_add_11 : decode cX4_add 11 = .ok (.getfield 19, 3) := by decide +kernel
theorem dX4_add_14 : decode cX4_add 14 = .ok (.aload_n 0, 1) := by decide +kernel
theorem dX4_add_15 : decode cX4_add 15 = .ok (.getfield 9, 3) := by decide +kernel
theorem dX4_add_18 : decode cX4_add 18 = .ok (.iload_n 2, 1) := by decide +kernel
theorem dX4_add_19 : decode cX4_add 19 = .ok (.iastore, 1) := by decide +kernel
theorem dX4_add_20 : decode cX4_add 20 = .ok (.aload_n 0, 1) := by decide +kernel
theorem dX4_add_21 : decode cX4_add 21 = .ok (.getfield 22, 3) := by decide +kernel
theorem dX4_add_24 : decode cX4_add 24 = .ok (.aload_n 0, 1) := by decide +kernel
theorem dX4_add_25 : decode cX4_add 25 = .ok (.getfield 9, 3) := by decide +kernel
theorem dX4_add_28 : decode cX4_add 28 = .ok (.iload_n 3, 1) := by decide +kernel
theorem dX4_add_29 : decode cX4_add 29 = .ok (.iastore, 1) := by decide +kernel
theorem dX4_add_30 : decode cX4_add 30 = .ok (.aload_n 0, 1) := by decide +kernel
theorem dX4_add_31 : decode cX4_add 31 = .ok (.getfield 25, 3) := by decide +kernel
theorem dX4_add_34 : decode cX4_add 34 = .ok (.aload_n 0, 1) := by decide +kernel
theorem dX4_add_35 : decode cX4_add 35 = .ok (.getfield 9, 3) := by decide +kernel
theorem dX4_add_38 : decode cX4_add 38 = .ok (.iload 4, 2) := by decide +kernel
theorem dX4_add_40 : decode cX4_add 40 = .ok (.iastore, 1) := by decide +kernel
theorem dX4_add_41 : decode cX4_add 41 = .ok (.aload_n 0, 1) := by decide +kernel
theorem dX4_add_42 : decode cX4_add 42 = .ok (.dup, 1) := by decide +kernel
theorem dX4_add_43 : decode cX4_add 43 = .ok (.getfield 9, 3) := by decide +kernel
theorem dX4_add_46 : decode cX4_add 46 = .ok (.iconst 1, 1) := by decide +kernel
theorem dX4_add_47 : decode cX4_add 47 = .ok (.iadd, 1) := by decide +kernel
theorem dX4_add_48 : decode cX4_add 48 = .ok (.putfield 9, 3) := by decide +kernel
theorem dX4_add_51 : decode cX4_add 51 = .ok (.aload_n 0, 1) := by decide +kernel
theorem dX4_add_52 : decode cX4_add 52 = .ok (.getfield 9, 3) := by decide +kernel
theorem dX4_add_55 : decode cX4_add 55 = .ok (.iconst 1, 1) := by decide +kernel
theorem dX4_add_56 : decode cX4_add 56 = .ok (.isub, 1) := by decide +kernel
theorem dX4_add_57 : decode cX4_add 57 = .ok (.ireturn, 1) := by decide +kernel
theorem dX4_has_0 : decode cX4_has 0 = .ok (.iload_n 1, 1) := by decide +kernel
theorem dX4_has_1 : decode cX4_has 1 = .ok (.ifCond .lt 15, 3) := by decide +kernel
theorem dX4_has_4 : decode cX4_has 4 = .ok (.iload_n 1, 1) := by decide +kernel
theorem dX4_has_5 : decode cX4_has 5 = .ok (.aload_n 0, 1) := by decide +kernel
theorem dX4_has_6 : decode cX4_has 6 = .ok (.getfield 9, 3) := by decide +kernel
theorem dX4_has_9 : decode cX4_has 9 = .ok (.if_icmp .ge 7, 3) := by decide +kernel
theorem dX4_has_12 : decode cX4_has 12 = .ok (.iconst 1, 1) := by decide +kernel
theorem dX4_has_13 : decode cX4_has 13 = .ok (.goto 4, 3) := by decide +kernel
theorem dX4_has_16 : decode cX4_has 16 = .ok (.iconst 0, 1) := by decide +kernel
theorem dX4_has_17 : decode cX4_has 17 = .ok (.ireturn, 1) := by decide +kernel
theorem dX4_hasTwo_0 : decode cX4_hasTwo 0 = .ok (.aload_n 0, 1) := by decide +kernel
theorem dX4_hasTwo_1 : decode cX4_hasTwo 1 = .ok (.iload_n 1, 1) := by decide +kernel
theorem dX4_hasTwo_2 : decode cX4_hasTwo 2 = .ok (.invokevirtual 28, 3) := by decide +kernel
theorem dX4_hasTwo_5 : decode cX4_hasTwo 5 = .ok (.ifCond .eq 20, 3) := by decide +kernel
theorem dX4_hasTwo_8 : decode cX4_hasTwo 8 = .ok (.aload_n 0, 1) := by decide +kernel
theorem dX4_hasTwo_9 : decode cX4_hasTwo 9 = .ok (.iload_n 2, 1) := by decide +kernel
theorem dX4_hasTwo_10 : decode cX4_hasTwo 10 = .ok (.invokevirtual 28, 3) := by decide +kernel
theorem dX4_hasTwo_13 : decode cX4_hasTwo 13 = .ok (.ifCond .eq 12, 3) := by decide +kernel
theorem dX4_hasTwo_16 : decode cX4_hasTwo 16 = .ok (.iload_n 1, 1) := by decide +kernel
theorem dX4_hasTwo_17 : decode cX4_hasTwo 17 = .ok (.iload_n 2, 1) := by decide +kernel
theorem dX4_hasTwo_18 : decode cX4_hasTwo 18 = .ok (.if_icmp .eq 7, 3) := by decide +kernel
theorem dX4_hasTwo_21 : decode cX4_hasTwo 21 = .ok (.iconst 1, 1) := by decide +kernel
theorem dX4_hasTwo_22 : decode cX4_hasTwo 22 = .ok (.goto 4, 3) := by decide +kernel
theorem dX4_hasTwo_25 : decode cX4_hasTwo 25 = .ok (.iconst 0, 1) := by decide +kernel
theorem dX4_hasTwo_26 : decode cX4_hasTwo 26 = .ok (.ireturn, 1) := by decide +kernel
theorem dX4_ageOf_0 : decode cX4_ageOf 0 = .ok (.aload_n 0, 1) := by decide +kernel
theorem dX4_ageOf_1 : decode cX4_ageOf 1 = .ok (.getfield 15, 3) := by decide +kernel
theorem dX4_ageOf_4 : decode cX4_ageOf 4 = .ok (.iload_n 1, 1) := by decide +kernel
theorem dX4_ageOf_5 : decode cX4_ageOf 5 = .ok (.iaload, 1) := by decide +kernel
theorem dX4_ageOf_6 : decode cX4_ageOf 6 = .ok (.iconst 1, 1) := by decide +kernel
theorem dX4_ageOf_7 : decode cX4_ageOf 7 = .ok (.if_icmp .ne 5, 3) := by decide +kernel
theorem dX4_ageOf_10 : decode cX4_ageOf 10 = .ok (.iconst 0, 1) := by decide +kernel
theorem dX4_ageOf_11 : decode cX4_ageOf 11 = .ok (.ireturn, 1) := by decide +kernel
theorem dX4_ageOf_12 : decode cX4_ageOf 12 = .ok (.aload_n 0, 1) := by decide +kernel
theorem dX4_ageOf_13 : decode cX4_ageOf 13 = .ok (.getfield 15, 3) := by decide +kernel
theorem dX4_ageOf_16 : decode cX4_ageOf 16 = .ok (.iload_n 1, 1) := by decide +kernel
theorem dX4_ageOf_17 : decode cX4_ageOf 17 = .ok (.iaload, 1) := by decide +kernel
theorem dX4_ageOf_18 : decode cX4_ageOf 18 = .ok (.iconst 5, 1) := by decide +kernel
theorem dX4_ageOf_19 : decode cX4_ageOf 19 = .ok (.if_icmp .ne 15, 3) := by decide +kernel
theorem dX4_ageOf_22 : decode cX4_ageOf 22 = .ok (.aload_n 0, 1) := by decide +kernel
theorem dX4_ageOf_23 : decode cX4_ageOf 23 = .ok (.getfield 19, 3) := by decide +kernel
theorem dX4_ageOf_26 : decode cX4_ageOf 26 = .ok (.iload_n 1, 1) := by decide +kernel
theorem dX4_ageOf_27 : decode cX4_ageOf 27 = .ok (.iaload, 1) := by decide +kernel
theorem dX4_ageOf_28 : decode cX4_ageOf 28 = .ok (.bipush 20, 2) := by decide +kernel
theorem dX4_ageOf_30 : decode cX4_ageOf 30 = .ok (.iadd, 1) := by decide +kernel
theorem dX4_ageOf_31 : decode cX4_ageOf 31 = .ok (.goto 9, 3) := by decide +kernel
theorem dX4_ageOf_34 : decode cX4_ageOf 34 = .ok (.aload_n 0, 1) := by decide +kernel
theorem dX4_ageOf_35 : decode cX4_ageOf 35 = .ok (.getfield 19, 3) := by decide +kernel
theorem dX4_ageOf_38 : decode cX4_ageOf 38 = .ok (.iload_n 1, 1) := by decide +kernel
theorem dX4_ageOf_39 : decode cX4_ageOf 39 = .ok (.iaload, 1) := by decide +kernel
theorem dX4_ageOf_40 : decode cX4_ageOf 40 = .ok (.ireturn, 1) := by decide +kernel
theorem dX4_loadOf_0 : decode cX4_loadOf 0 = .ok (.aload_n 0, 1) := by decide +kernel
theorem dX4_loadOf_1 : decode cX4_loadOf 1 = .ok (.getfield 15, 3) := by decide +kernel
theorem dX4_loadOf_4 : decode cX4_loadOf 4 = .ok (.iload_n 1, 1) := by decide +kernel
theorem dX4_loadOf_5 : decode cX4_loadOf 5 = .ok (.iaload, 1) := by decide +kernel
theorem dX4_loadOf_6 : decode cX4_loadOf 6 = .ok (.iconst 2, 1) := by decide +kernel
theorem dX4_loadOf_7 : decode cX4_loadOf 7 = .ok (.if_icmp .eq 13, 3) := by decide +kernel
theorem dX4_loadOf_10 : decode cX4_loadOf 10 = .ok (.aload_n 0, 1) := by decide +kernel
theorem dX4_loadOf_11 : decode cX4_loadOf 11 = .ok (.getfield 15, 3) := by decide +kernel
theorem dX4_loadOf_14 : decode cX4_loadOf 14 = .ok (.iload_n 1, 1) := by decide +kernel
theorem dX4_loadOf_15 : decode cX4_loadOf 15 = .ok (.iaload, 1) := by decide +kernel
theorem dX4_loadOf_16 : decode cX4_loadOf 16 = .ok (.iconst 3, 1) := by decide +kernel
theorem dX4_loadOf_17 : decode cX4_loadOf 17 = .ok (.if_icmp .ne 7, 3) := by decide +kernel
theorem dX4_loadOf_20 : decode cX4_loadOf 20 = .ok (.iconst 1, 1) := by decide +kernel
theorem dX4_loadOf_21 : decode cX4_loadOf 21 = .ok (.goto 4, 3) := by decide +kernel
theorem dX4_loadOf_24 : decode cX4_loadOf 24 = .ok (.iconst 0, 1) := by decide +kernel
theorem dX4_loadOf_25 : decode cX4_loadOf 25 = .ok (.istore_n 2, 1) := by decide +kernel
theorem dX4_loadOf_26 : decode cX4_loadOf 26 = .ok (.iload_n 2, 1) := by decide +kernel
theorem dX4_loadOf_27 : decode cX4_loadOf 27 = .ok (.ifCond .eq 14, 3) := by decide +kernel
theorem dX4_loadOf_30 : decode cX4_loadOf 30 = .ok (.aload_n 0, 1) := by decide +kernel
theorem dX4_loadOf_31 : decode cX4_loadOf 31 = .ok (.getfield 22, 3) := by decide +kernel
theorem dX4_loadOf_34 : decode cX4_loadOf 34 = .ok (.iload_n 1, 1) := by decide +kernel
theorem dX4_loadOf_35 : decode cX4_loadOf 35 = .ok (.iaload, 1) := by decide +kernel
theorem dX4_loadOf_36 : decode cX4_loadOf 36 = .ok (.iconst 3, 1) := by decide +kernel
theorem dX4_loadOf_37 : decode cX4_loadOf 37 = .ok (.iadd, 1) := by decide +kernel
theorem dX4_loadOf_38 : decode cX4_loadOf 38 = .ok (.goto 9, 3) := by decide +kernel
theorem dX4_loadOf_41 : decode cX4_loadOf 41 = .ok (.aload_n 0, 1) := by decide +kernel
theorem dX4_loadOf_42 : decode cX4_loadOf 42 = .ok (.getfield 22, 3) := by decide +kernel
theorem dX4_loadOf_45 : decode cX4_loadOf 45 = .ok (.iload_n 1, 1) := by decide +kernel
theorem dX4_loadOf_46 : decode cX4_loadOf 46 = .ok (.iaload, 1) := by decide +kernel
theorem dX4_loadOf_47 : decode cX4_loadOf 47 = .ok (.ireturn, 1) := by decide +kernel
theorem dX4_rankOf_0 : decode cX4_rankOf 0 = .ok (.aload_n 0, 1) := by decide +kernel
theorem dX4_rankOf_1 : decode cX4_rankOf 1 = .ok (.getfield 15, 3) := by decide +kernel
theorem dX4_rankOf_4 : decode cX4_rankOf 4 = .ok (.iload_n 1, 1) := by decide +kernel
theorem dX4_rankOf_5 : decode cX4_rankOf 5 = .ok (.iaload, 1) := by decide +kernel
theorem dX4_rankOf_6 : decode cX4_rankOf 6 = .ok (.iconst 3, 1) := by decide +kernel
theorem dX4_rankOf_7 : decode cX4_rankOf 7 = .ok (.if_icmp .ne 12, 3) := by decide +kernel
theorem dX4_rankOf_10 : decode cX4_rankOf 10 = .ok (.aload_n 0, 1) := by decide +kernel
theorem dX4_rankOf_11 : decode cX4_rankOf 11 = .ok (.getfield 25, 3) := by decide +kernel
theorem dX4_rankOf_14 : decode cX4_rankOf 14 = .ok (.iload_n 1, 1) := by decide +kernel
theorem dX4_rankOf_15 : decode cX4_rankOf 15 = .ok (.iaload, 1) := by decide +kernel
theorem dX4_rankOf_16 : decode cX4_rankOf 16 = .ok (.iconst 2, 1) := by decide +kernel
theorem dX4_rankOf_17 : decode cX4_rankOf 17 = .ok (.iadd, 1) := by decide +kernel
theorem dX4_rankOf_18 : decode cX4_rankOf 18 = .ok (.ireturn, 1) := by decide +kernel
theorem dX4_rankOf_19 : decode cX4_rankOf 19 = .ok (.aload_n 0, 1) := by decide +kernel
theorem dX4_rankOf_20 : decode cX4_rankOf 20 = .ok (.getfield 15, 3) := by decide +kernel
theorem dX4_rankOf_23 : decode cX4_rankOf 23 = .ok (.iload_n 1, 1) := by decide +kernel
theorem dX4_rankOf_24 : decode cX4_rankOf 24 = .ok (.iaload, 1) := by decide +kernel
theorem dX4_rankOf_25 : decode cX4_rankOf 25 = .ok (.iconst 4, 1) := by decide +kernel
theorem dX4_rankOf_26 : decode cX4_rankOf 26 = .ok (.if_icmp .eq 13, 3) := by decide +kernel
theorem dX4_rankOf_29 : decode cX4_rankOf 29 = .ok (.aload_n 0, 1) := by decide +kernel
theorem dX4_rankOf_30 : decode cX4_rankOf 30 = .ok (.getfield 15, 3) := by decide +kernel
theorem dX4_rankOf_33 : decode cX4_rankOf 33 = .ok (.iload_n 1, 1) := by decide +kernel
theorem dX4_rankOf_34 : decode cX4_rankOf 34 = .ok (.iaload, 1) := by decide +kernel
theorem dX4_rankOf_35 : decode cX4_rankOf 35 = .ok (.iconst 5, 1) := by decide +kernel
theorem dX4_rankOf_36 : decode cX4_rankOf 36 = .ok (.if_icmp .ne 7, 3) := by decide +kernel
theorem dX4_rankOf_39 : decode cX4_rankOf 39 = .ok (.iconst 1, 1) := by decide +kernel
theorem dX4_rankOf_40 : decode cX4_rankOf 40 = .ok (.goto 4, 3) := by decide +kernel
theorem dX4_rankOf_43 : decode cX4_rankOf 43 = .ok (.iconst 0, 1) := by decide +kernel
theorem dX4_rankOf_44 : decode cX4_rankOf 44 = .ok (.istore_n 2, 1) := by decide +kernel
theorem dX4_rankOf_45 : decode cX4_rankOf 45 = .ok (.iload_n 2, 1) := by decide +kernel
theorem dX4_rankOf_46 : decode cX4_rankOf 46 = .ok (.ifCond .eq 14, 3) := by decide +kernel
theorem dX4_rankOf_49 : decode cX4_rankOf 49 = .ok (.iconst 2, 1) := by decide +kernel
theorem dX4_rankOf_50 : decode cX4_rankOf 50 = .ok (.aload_n 0, 1) := by decide +kernel
theorem dX4_rankOf_51 : decode cX4_rankOf 51 = .ok (.getfield 25, 3) := by decide +kernel
theorem dX4_rankOf_54 : decode cX4_rankOf 54 = .ok (.iload_n 1, 1) := by decide +kernel
theorem dX4_rankOf_55 : decode cX4_rankOf 55 = .ok (.iaload, 1) := by decide +kernel
theorem dX4_rankOf_56 : decode cX4_rankOf 56 = .ok (.imul, 1) := by decide +kernel
theorem dX4_rankOf_57 : decode cX4_rankOf 57 = .ok (.goto 9, 3) := by decide +kernel
theorem dX4_rankOf_60 : decode cX4_rankOf 60 = .ok (.aload_n 0, 1) := by decide +kernel
theorem dX4_rankOf_61 : decode cX4_rankOf 61 = .ok (.getfield 25, 3) := by decide +kernel
theorem dX4_rankOf_64 : decode cX4_rankOf 64 = .ok (.iload_n 1, 1) := by decide +kernel
theorem dX4_rankOf_65 : decode cX4_rankOf 65 = .ok (.iaload, 1) := by decide +kernel
theorem dX4_rankOf_66 : decode cX4_rankOf 66 = .ok (.ireturn, 1) := by decide +kernel
theorem dX4_copy_0 : decode cX4_copy 0 = .ok (.aload_n 0, 1) := by decide +kernel
theorem dX4_copy_1 : decode cX4_copy 1 = .ok (.aload_n 1, 1) := by decide +kernel
theorem dX4_copy_2 : decode cX4_copy 2 = .ok (.getfield 9, 3) := by decide +kernel
theorem dX4_copy_5 : decode cX4_copy 5 = .ok (.putfield 9, 3) := by decide +kernel
theorem dX4_copy_8 : decode cX4_copy 8 = .ok (.aload_n 1, 1) := by decide +kernel
theorem dX4_copy_9 : decode cX4_copy 9 = .ok (.getfield 15, 3) := by decide +kernel
theorem dX4_copy_12 : decode cX4_copy 12 = .ok (.iconst 0, 1) := by decide +kernel
theorem dX4_copy_13 : decode cX4_copy 13 = .ok (.aload_n 0, 1) := by decide +kernel
theorem dX4_copy_14 : decode cX4_copy 14 = .ok (.getfield 15, 3) := by decide +kernel
theorem dX4_copy_17 : decode cX4_copy 17 = .ok (.iconst 0, 1) := by decide +kernel
theorem dX4_copy_18 : decode cX4_copy 18 = .ok (.bipush 8, 2) := by decide +kernel
theorem dX4_copy_20 : decode cX4_copy 20 = .ok (.invokestatic 32, 3) := by decide +kernel
theorem dX4_copy_23 : decode cX4_copy 23 = .ok (.aload_n 1, 1) := by decide +kernel
theorem dX4_copy_24 : decode cX4_copy 24 = .ok (.getfield 19, 3) := by decide +kernel
theorem dX4_copy_27 : decode cX4_copy 27 = .ok (.iconst 0, 1) := by decide +kernel
theorem dX4_copy_28 : decode cX4_copy 28 = .ok (.aload_n 0, 1) := by decide +kernel
theorem dX4_copy_29 : decode cX4_copy 29 = .ok (.getfield 19, 3) := by decide +kernel
theorem dX4_copy_32 : decode cX4_copy 32 = .ok (.iconst 0, 1) := by decide +kernel
theorem dX4_copy_33 : decode cX4_copy 33 = .ok (.bipush 8, 2) := by decide +kernel
theorem dX4_copy_35 : decode cX4_copy 35 = .ok (.invokestatic 32, 3) := by decide +kernel
theorem dX4_copy_38 : decode cX4_copy 38 = .ok (.aload_n 1, 1) := by decide +kernel
theorem dX4_copy_39 : decode cX4_copy 39 = .ok (.getfield 22, 3) := by decide +kernel
theorem dX4_copy_42 : decode cX4_copy 42 = .ok (.iconst 0, 1) := by decide +kernel
theorem dX4_copy_43 : decode cX4_copy 43 = .ok (.aload_n 0, 1) := by decide +kernel
theorem dX4_copy_44 : decode cX4_copy 44 = .ok (.getfield 22, 3) := by decide +kernel
theorem dX4_copy_47 : decode cX4_copy 47 = .ok (.iconst 0, 1) := by decide +kernel
theorem dX4_copy_48 : decode cX4_copy 48 = .ok (.bipush 8, 2) := by decide +kernel
theorem dX4_copy_50 : decode cX4_copy 50 = .ok (.invokestatic 32, 3) := by decide +kernel
theorem dX4_copy_53 : decode cX4_copy 53 = .ok (.aload_n 1, 1) := by decide +kernel
theorem dX4_copy_54 : decode cX4_copy 54 = .ok (.getfield 25, 3) := by decide +kernel
theorem dX4_copy_57 : decode cX4_copy 57 = .ok (.iconst 0, 1) := by decide +kernel
theorem dX4_copy_58 : decode cX4_copy 58 = .ok (.aload_n 0, 1) := by decide +kernel
theorem dX4_copy_59 : decode cX4_copy 59 = .ok (.getfield 25, 3) := by decide +kernel
theorem dX4_copy_62 : decode cX4_copy 62 = .ok (.iconst 0, 1) := by decide +kernel
theorem dX4_copy_63 : decode cX4_copy 63 = .ok (.bipush 8, 2) := by decide +kernel
theorem dX4_copy_65 : decode cX4_copy 65 = .ok (.invokestatic 32, 3) := by decide +kernel
theorem dX4_copy_68 : decode cX4_copy 68 = .ok (.return_, 1) := by decide +kernel
theorem dX4_mixInto_0 : decode cX4_mixInto 0 = .ok (.lload_n 1, 1) := by decide +kernel
theorem dX4_mixInto_1 : decode cX4_mixInto 1 = .ok (.lstore_n 3, 1) := by decide +kernel
theorem dX4_mixInto_2 : decode cX4_mixInto 2 = .ok (.iconst 0, 1) := by decide +kernel
theorem dX4_mixInto_3 : decode cX4_mixInto 3 = .ok (.istore 5, 2) := by decide +kernel
theorem dX4_mixInto_5 : decode cX4_mixInto 5 = .ok (.iload 5, 2) := by decide +kernel
theorem dX4_mixInto_7 : decode cX4_mixInto 7 = .ok (.aload_n 0, 1) := by decide +kernel
theorem dX4_mixInto_8 : decode cX4_mixInto 8 = .ok (.getfield 9, 3) := by decide +kernel
theorem dX4_mixInto_11 : decode cX4_mixInto 11 = .ok (.if_icmp .ge 69, 3) := by decide +kernel
theorem dX4_mixInto_14 : decode cX4_mixInto 14 = .ok (.ldc2_w 38, 3) := by decide +kernel
theorem dX4_mixInto_17 : decode cX4_mixInto 17 = .ok (.lload_n 3, 1) := by decide +kernel
theorem dX4_mixInto_18 : decode cX4_mixInto 18 = .ok (.lmul, 1) := by decide +kernel
theorem dX4_mixInto_19 : decode cX4_mixInto 19 = .ok (.aload_n 0, 1) := by decide +kernel
theorem dX4_mixInto_20 : decode cX4_mixInto 20 = .ok (.getfield 15, 3) := by decide +kernel
theorem dX4_mixInto_23 : decode cX4_mixInto 23 = .ok (.iload 5, 2) := by decide +kernel
theorem dX4_mixInto_25 : decode cX4_mixInto 25 = .ok (.iaload, 1) := by decide +kernel
theorem dX4_mixInto_26 : decode cX4_mixInto 26 = .ok (.i2l, 1) := by decide +kernel
theorem dX4_mixInto_27 : decode cX4_mixInto 27 = .ok (.ladd, 1) := by decide +kernel
theorem dX4_mixInto_28 : decode cX4_mixInto 28 = .ok (.lstore_n 3, 1) := by decide +kernel
theorem dX4_mixInto_29 : decode cX4_mixInto 29 = .ok (.ldc2_w 38, 3) := by decide +kernel
theorem dX4_mixInto_32 : decode cX4_mixInto 32 = .ok (.lload_n 3, 1) := by decide +kernel
theorem dX4_mixInto_33 : decode cX4_mixInto 33 = .ok (.lmul, 1) := by decide +kernel
theorem dX4_mixInto_34 : decode cX4_mixInto 34 = .ok (.aload_n 0, 1) := by decide +kernel
theorem dX4_mixInto_35 : decode cX4_mixInto 35 = .ok (.getfield 19, 3) := by decide +kernel
theorem dX4_mixInto_38 : decode cX4_mixInto 38 = .ok (.iload 5, 2) := by decide +kernel
theorem dX4_mixInto_40 : decode cX4_mixInto 40 = .ok (.iaload, 1) := by decide +kernel
theorem dX4_mixInto_41 : decode cX4_mixInto 41 = .ok (.i2l, 1) := by decide +kernel
theorem dX4_mixInto_42 : decode cX4_mixInto 42 = .ok (.ladd, 1) := by decide +kernel
theorem dX4_mixInto_43 : decode cX4_mixInto 43 = .ok (.lstore_n 3, 1) := by decide +kernel
theorem dX4_mixInto_44 : decode cX4_mixInto 44 = .ok (.ldc2_w 38, 3) := by decide +kernel
theorem dX4_mixInto_47 : decode cX4_mixInto 47 = .ok (.lload_n 3, 1) := by decide +kernel
theorem dX4_mixInto_48 : decode cX4_mixInto 48 = .ok (.lmul, 1) := by decide +kernel
theorem dX4_mixInto_49 : decode cX4_mixInto 49 = .ok (.aload_n 0, 1) := by decide +kernel
theorem dX4_mixInto_50 : decode cX4_mixInto 50 = .ok (.getfield 22, 3) := by decide +kernel
theorem dX4_mixInto_53 : decode cX4_mixInto 53 = .ok (.iload 5, 2) := by decide +kernel
theorem dX4_mixInto_55 : decode cX4_mixInto 55 = .ok (.iaload, 1) := by decide +kernel
theorem dX4_mixInto_56 : decode cX4_mixInto 56 = .ok (.i2l, 1) := by decide +kernel
theorem dX4_mixInto_57 : decode cX4_mixInto 57 = .ok (.ladd, 1) := by decide +kernel
theorem dX4_mixInto_58 : decode cX4_mixInto 58 = .ok (.lstore_n 3, 1) := by decide +kernel
theorem dX4_mixInto_59 : decode cX4_mixInto 59 = .ok (.ldc2_w 38, 3) := by decide +kernel
theorem dX4_mixInto_62 : decode cX4_mixInto 62 = .ok (.lload_n 3, 1) := by decide +kernel
theorem dX4_mixInto_63 : decode cX4_mixInto 63 = .ok (.lmul, 1) := by decide +kernel
theorem dX4_mixInto_64 : decode cX4_mixInto 64 = .ok (.aload_n 0, 1) := by decide +kernel
theorem dX4_mixInto_65 : decode cX4_mixInto 65 = .ok (.getfield 25, 3) := by decide +kernel
theorem dX4_mixInto_68 : decode cX4_mixInto 68 = .ok (.iload 5, 2) := by decide +kernel
theorem dX4_mixInto_70 : decode cX4_mixInto 70 = .ok (.iaload, 1) := by decide +kernel
theorem dX4_mixInto_71 : decode cX4_mixInto 71 = .ok (.i2l, 1) := by decide +kernel
theorem dX4_mixInto_72 : decode cX4_mixInto 72 = .ok (.ladd, 1) := by decide +kernel
theorem dX4_mixInto_73 : decode cX4_mixInto 73 = .ok (.lstore_n 3, 1) := by decide +kernel
theorem dX4_mixInto_74 : decode cX4_mixInto 74 = .ok (.iinc 5 1, 3) := by decide +kernel
theorem dX4_mixInto_77 : decode cX4_mixInto 77 = .ok (.goto (-72), 3) := by decide +kernel
theorem dX4_mixInto_80 : decode cX4_mixInto 80 = .ok (.lload_n 3, 1) := by decide +kernel
theorem dX4_mixInto_81 : decode cX4_mixInto 81 = .ok (.lreturn, 1) := by decide +kernel
theorem dX5_init_0 : decode cX5_init 0 = .ok (.aload_n 0, 1) := by decide +kernel
theorem dX5_init_1 : decode cX5_init 1 = .ok (.invokespecial 3, 3) := by decide +kernel
theorem dX5_init_4 : decode cX5_init 4 = .ok (.aload_n 0, 1) := by decide +kernel
theorem dX5_init_5 : decode cX5_init 5 = .ok (.iconst (-1), 1) := by decide +kernel
theorem dX5_init_6 : decode cX5_init 6 = .ok (.putfield 9, 3) := by decide +kernel
theorem dX5_init_9 : decode cX5_init 9 = .ok (.aload_n 0, 1) := by decide +kernel
theorem dX5_init_10 : decode cX5_init 10 = .ok (.bipush 9, 2) := by decide +kernel
theorem dX5_init_12 : decode cX5_init 12 = .ok (.putfield 15, 3) := by decide +kernel
theorem dX5_init_15 : decode cX5_init 15 = .ok (.aload_n 0, 1) := by decide +kernel
theorem dX5_init_16 : decode cX5_init 16 = .ok (.iconst (-1), 1) := by decide +kernel
theorem dX5_init_17 : decode cX5_init 17 = .ok (.putfield 18, 3) := by decide +kernel
theorem dX5_init_20 : decode cX5_init 20 = .ok (.return_, 1) := by decide +kernel
theorem dX5_hold_0 : decode cX5_hold 0 = .ok (.aload_n 1, 1) := by decide +kernel
theorem dX5_hold_1 : decode cX5_hold 1 = .ok (.aload_n 2, 1) := by decide +kernel
theorem dX5_hold_2 : decode cX5_hold 2 = .ok (.aload_n 3, 1) := by decide +kernel
theorem dX5_hold_3 : decode cX5_hold 3 = .ok (.iload 4, 2) := by decide +kernel
theorem dX5_hold_5 : decode cX5_hold 5 = .ok (.iload 5, 2) := by decide +kernel
theorem dX5_hold_7 : decode cX5_hold 7 = .ok (.invokevirtual 21, 3) := by decide +kernel
theorem dX5_hold_10 : decode cX5_hold 10 = .ok (.istore 6, 2) := by decide +kernel
theorem dX5_hold_12 : decode cX5_hold 12 = .ok (.aload_n 1, 1) := by decide +kernel
theorem dX5_hold_13 : decode cX5_hold 13 = .ok (.iload 6, 2) := by decide +kernel
theorem dX5_hold_15 : decode cX5_hold 15 = .ok (.invokevirtual 27, 3) := by decide +kernel
theorem dX5_hold_18 : decode cX5_hold 18 = .ok (.istore 7, 2) := by decide +kernel
theorem dX5_hold_20 : decode cX5_hold 20 = .ok (.aload_n 0, 1) := by decide +kernel
theorem dX5_hold_21 : decode cX5_hold 21 = .ok (.iload 7, 2) := by decide +kernel
theorem dX5_hold_23 : decode cX5_hold 23 = .ok (.iconst (-1), 1) := by decide +kernel
theorem dX5_hold_24 : decode cX5_hold 24 = .ok (.if_icmp .ne 7, 3) := by decide +kernel
theorem dX5_hold_27 : decode cX5_hold 27 = .ok (.iconst (-1), 1) := by decide +kernel
theorem dX5_hold_28 : decode cX5_hold 28 = .ok (.goto 11, 3) := by decide +kernel
theorem dX5_hold_31 : decode cX5_hold 31 = .ok (.aload_n 1, 1) := by decide +kernel
theorem dX5_hold_32 : decode cX5_hold 32 = .ok (.iload 6, 2) := by decide +kernel
theorem dX5_hold_34 : decode cX5_hold 34 = .ok (.iload 7, 2) := by decide +kernel
theorem dX5_hold_36 : decode cX5_hold 36 = .ok (.invokevirtual 31, 3) := by decide +kernel
theorem dX5_hold_39 : decode cX5_hold 39 = .ok (.putfield 18, 3) := by decide +kernel
theorem dX5_hold_42 : decode cX5_hold 42 = .ok (.aload_n 0, 1) := by decide +kernel
theorem dX5_hold_43 : decode cX5_hold 43 = .ok (.getfield 18, 3) := by decide +kernel
theorem dX5_hold_46 : decode cX5_hold 46 = .ok (.iconst (-1), 1) := by decide +kernel
theorem dX5_hold_47 : decode cX5_hold 47 = .ok (.if_icmp .ne 15, 3) := by decide +kernel
theorem dX5_hold_50 : decode cX5_hold 50 = .ok (.aload_n 0, 1) := by decide +kernel
theorem dX5_hold_51 : decode cX5_hold 51 = .ok (.iconst (-1), 1) := by decide +kernel
theorem dX5_hold_52 : decode cX5_hold 52 = .ok (.putfield 9, 3) := by decide +kernel
theorem dX5_hold_55 : decode cX5_hold 55 = .ok (.aload_n 0, 1) := by decide +kernel
theorem dX5_hold_56 : decode cX5_hold 56 = .ok (.bipush 9, 2) := by decide +kernel
theorem dX5_hold_58 : decode cX5_hold 58 = .ok (.putfield 15, 3) := by decide +kernel
theorem dX5_hold_61 : decode cX5_hold 61 = .ok (.return_, 1) := by decide +kernel
theorem dX5_hold_62 : decode cX5_hold 62 = .ok (.aload_n 0, 1) := by decide +kernel
theorem dX5_hold_63 : decode cX5_hold 63 = .ok (.iload 7, 2) := by decide +kernel
theorem dX5_hold_65 : decode cX5_hold 65 = .ok (.putfield 15, 3) := by decide +kernel
theorem dX5_hold_68 : decode cX5_hold 68 = .ok (.iload 7, 2) := by decide +kernel
theorem dX5_hold_70 : decode cX5_hold 70 = .ok (.iconst 2, 1) := by decide +kernel
theorem dX5_hold_71 : decode cX5_hold 71 = .ok (.irem, 1) := by decide +kernel
theorem dX5_hold_72 : decode cX5_hold 72 = .ok (.ifCond .ne 7, 3) := by decide +kernel
theorem dX5_hold_75 : decode cX5_hold 75 = .ok (.iconst 1, 1) := by decide +kernel
theorem dX5_hold_76 : decode cX5_hold 76 = .ok (.goto 4, 3) := by decide +kernel
theorem dX5_hold_79 : decode cX5_hold 79 = .ok (.iconst 0, 1) := by decide +kernel
theorem dX5_hold_80 : decode cX5_hold 80 = .ok (.istore 8, 2) := by decide +kernel
theorem dX5_hold_82 : decode cX5_hold 82 = .ok (.aload_n 0, 1) := by decide +kernel
theorem dX5_hold_83 : decode cX5_hold 83 = .ok (.aload_n 1, 1) := by decide +kernel
theorem dX5_hold_84 : decode cX5_hold 84 = .ok (.aload_n 0, 1) := by decide +kernel
theorem dX5_hold_85 : decode cX5_hold 85 = .ok (.getfield 18, 3) := by decide +kernel
theorem dX5_hold_88 : decode cX5_hold 88 = .ok (.aload_n 2, 1) := by decide +kernel
theorem dX5_hold_89 : decode cX5_hold 89 = .ok (.aload_n 3, 1) := by decide +kernel
theorem dX5_hold_90 : decode cX5_hold 90 = .ok (.iload 8, 2) := by decide +kernel
theorem dX5_hold_92 : decode cX5_hold 92 = .ok (.ifCond .eq 8, 3) := by decide +kernel
theorem dX5_hold_95 : decode cX5_hold 95 = .ok (.iload 5, 2) := by decide +kernel
theorem dX5_hold_97 : decode cX5_hold 97 = .ok (.goto 5, 3) := by decide +kernel
theorem dX5_hold_100 : decode cX5_hold 100 = .ok (.iload 4, 2) := by decide +kernel
theorem dX5_hold_102 : decode cX5_hold 102 = .ok (.iload 8, 2) := by decide +kernel
theorem dX5_hold_104 : decode cX5_hold 104 = .ok (.ifCond .eq 8, 3) := by decide +kernel
theorem dX5_hold_107 : decode cX5_hold 107 = .ok (.iload 4, 2) := by decide +kernel
theorem dX5_hold_109 : decode cX5_hold 109 = .ok (.goto 5, 3) := by decide +kernel
theorem dX5_hold_112 : decode cX5_hold 112 = .ok (.iload 5, 2) := by decide +kernel
theorem dX5_hold_114 : decode cX5_hold 114 = .ok (.invokevirtual 35, 3) := by decide +kernel
theorem dX5_hold_117 : decode cX5_hold 117 = .ok (.putfield 9, 3) := by decide +kernel
theorem dX5_hold_120 : decode cX5_hold 120 = .ok (.return_, 1) := by decide +kernel
theorem dX6_init_0 : decode cX6_init 0 = .ok (.aload_n 0, 1) := by decide +kernel
theorem dX6_init_1 : decode cX6_init 1 = .ok (.invokespecial 1, 3) := by decide +kernel
theorem dX6_init_4 : decode cX6_init 4 = .ok (.aload_n 0, 1) := by decide +kernel
theorem dX6_init_5 : decode cX6_init 5 = .ok (.iconst 0, 1) := by decide +kernel
theorem dX6_init_6 : decode cX6_init 6 = .ok (.newarray .int, 2) := by decide +kernel
theorem dX6_init_8 : decode cX6_init 8 = .ok (.putfield 7, 3) := by decide +kernel
theorem dX6_init_11 : decode cX6_init 11 = .ok (.aload_n 0, 1) := by decide +kernel
theorem dX6_init_12 : decode cX6_init 12 = .ok (.iconst 0, 1) := by decide +kernel
theorem dX6_init_13 : decode cX6_init 13 = .ok (.putfield 13, 3) := by decide +kernel
theorem dX6_init_16 : decode cX6_init 16 = .ok (.aload_n 0, 1) := by decide +kernel
theorem dX6_init_17 : decode cX6_init 17 = .ok (.iconst 0, 1) := by decide +kernel
theorem dX6_init_18 : decode cX6_init 18 = .ok (.putfield 17, 3) := by decide +kernel
theorem dX6_init_21 : decode cX6_init 21 = .ok (.aload_n 0, 1) := by decide +kernel
theorem dX6_init_22 : decode cX6_init 22 = .ok (.iconst 0, 1) := by decide +kernel
theorem dX6_init_23 : decode cX6_init 23 = .ok (.putfield 20, 3) := by decide +kernel
theorem dX6_init_26 : decode cX6_init 26 = .ok (.aload_n 0, 1) := by decide +kernel
theorem dX6_init_27 : decode cX6_init 27 = .ok (.iconst 0, 1) := by decide +kernel
theorem dX6_init_28 : decode cX6_init 28 = .ok (.putfield 23, 3) := by decide +kernel
theorem dX6_init_31 : decode cX6_init 31 = .ok (.return_, 1) := by decide +kernel
theorem dX6_open_0 : decode cX6_open 0 = .ok (.aload_n 0, 1) := by decide +kernel
theorem dX6_open_1 : decode cX6_open 1 = .ok (.aload_n 1, 1) := by decide +kernel
theorem dX6_open_2 : decode cX6_open 2 = .ok (.putfield 7, 3) := by decide +kernel
theorem dX6_open_5 : decode cX6_open 5 = .ok (.aload_n 0, 1) := by decide +kernel
theorem dX6_open_6 : decode cX6_open 6 = .ok (.iload_n 2, 1) := by decide +kernel
theorem dX6_open_7 : decode cX6_open 7 = .ok (.aload_n 1, 1) := by decide +kernel
theorem dX6_open_8 : decode cX6_open 8 = .ok (.arraylength, 1) := by decide +kernel
theorem dX6_open_9 : decode cX6_open 9 = .ok (.invokestatic 26, 3) := by decide +kernel
theorem dX6_open_12 : decode cX6_open 12 = .ok (.putfield 13, 3) := by decide +kernel
theorem dX6_open_15 : decode cX6_open 15 = .ok (.aload_n 0, 1) := by decide +kernel
theorem dX6_open_16 : decode cX6_open 16 = .ok (.iconst 0, 1) := by decide +kernel
theorem dX6_open_17 : decode cX6_open 17 = .ok (.putfield 17, 3) := by decide +kernel
theorem dX6_open_20 : decode cX6_open 20 = .ok (.return_, 1) := by decide +kernel
theorem dX6_read_0 : decode cX6_read 0 = .ok (.aload_n 0, 1) := by decide +kernel
theorem dX6_read_1 : decode cX6_read 1 = .ok (.getfield 17, 3) := by decide +kernel
theorem dX6_read_4 : decode cX6_read 4 = .ok (.aload_n 0, 1) := by decide +kernel
theorem dX6_read_5 : decode cX6_read 5 = .ok (.getfield 13, 3) := by decide +kernel
theorem dX6_read_8 : decode cX6_read 8 = .ok (.if_icmp .ge 30, 3) := by decide +kernel
theorem dX6_read_11 : decode cX6_read 11 = .ok (.aload_n 0, 1) := by decide +kernel
theorem dX6_read_12 : decode cX6_read 12 = .ok (.getfield 7, 3) := by decide +kernel
theorem dX6_read_15 : decode cX6_read 15 = .ok (.aload_n 0, 1) := by decide +kernel
theorem dX6_read_16 : decode cX6_read 16 = .ok (.getfield 17, 3) := by decide +kernel
theorem dX6_read_19 : decode cX6_read 19 = .ok (.iaload, 1) := by decide +kernel
theorem dX6_read_20 : decode cX6_read 20 = .ok (.bipush 32, 2) := by decide +kernel
theorem dX6_read_22 : decode cX6_read 22 = .ok (.if_icmp .ne 16, 3) := by decide +kernel
theorem dX6_read_25 : decode cX6_read 25 = .ok (.aload_n 0, 1) := by decide +kernel
theorem dX6_read_26 : decode cX6_read 26 = .ok (.dup, 1) := by decide +kernel
theorem dX6_read_27 : decode cX6_read 27 = .ok (.getfield 17, 3) := by decide +kernel
theorem dX6_read_30 : decode cX6_read 30 = .ok (.iconst 1, 1) := by decide +kernel
theorem dX6_read_31 : decode cX6_read 31 = .ok (.iadd, 1) := by decide +kernel
theorem dX6_read_32 : decode cX6_read 32 = .ok (.putfield 17, 3) := by decide +kernel
theorem dX6_read_35 : decode cX6_read 35 = .ok (.goto (-35), 3) := by decide +kernel
theorem dX6_read_38 : decode cX6_read 38 = .ok (.aload_n 0, 1) := by decide +kernel
theorem dX6_read_39 : decode cX6_read 39 = .ok (.aload_n 0, 1) := by decide +kernel
theorem dX6_read_40 : decode cX6_read 40 = .ok (.getfield 17, 3) := by decide +kernel
theorem dX6_read_43 : decode cX6_read 43 = .ok (.putfield 20, 3) := by decide +kernel
theorem dX6_read_46 : decode cX6_read 46 = .ok (.aload_n 0, 1) := by decide +kernel
theorem dX6_read_47 : decode cX6_read 47 = .ok (.getfield 17, 3) := by decide +kernel
theorem dX6_read_50 : decode cX6_read 50 = .ok (.aload_n 0, 1) := by decide +kernel
theorem dX6_read_51 : decode cX6_read 51 = .ok (.getfield 13, 3) := by decide +kernel
theorem dX6_read_54 : decode cX6_read 54 = .ok (.if_icmp .lt 6, 3) := by decide +kernel
theorem dX6_read_57 : decode cX6_read 57 = .ok (.bipush 15, 2) := by decide +kernel
theorem dX6_read_59 : decode cX6_read 59 = .ok (.ireturn, 1) := by decide +kernel
theorem dX6_read_60 : decode cX6_read 60 = .ok (.aload_n 0, 1) := by decide +kernel
theorem dX6_read_61 : decode cX6_read 61 = .ok (.getfield 7, 3) := by decide +kernel
theorem dX6_read_64 : decode cX6_read 64 = .ok (.aload_n 0, 1) := by decide +kernel
theorem dX6_read_65 : decode cX6_read 65 = .ok (.getfield 17, 3) := by decide +kernel
theorem dX6_read_68 : decode cX6_read 68 = .ok (.iaload, 1) := by decide +kernel
theorem dX6_read_69 : decode cX6_read 69 = .ok (.invokestatic 32, 3) := by decide +kernel
theorem dX6_read_72 : decode cX6_read 72 = .ok (.ifCond .eq 8, 3) := by decide +kernel
theorem dX6_read_75 : decode cX6_read 75 = .ok (.aload_n 0, 1) := by decide +kernel
theorem dX6_read_76 : decode cX6_read 76 = .ok (.invokevirtual 36, 3) := by decide +kernel
theorem dX6_read_79 : decode cX6_read 79 = .ok (.ireturn, 1) := by decide +kernel
theorem dX6_read_80 : decode cX6_read 80 = .ok (.aload_n 0, 1) := by decide +kernel
theorem dX6_read_81 : decode cX6_read 81 = .ok (.getfield 7, 3) := by decide +kernel
theorem dX6_read_84 : decode cX6_read 84 = .ok (.aload_n 0, 1) := by decide +kernel
theorem dX6_read_85 : decode cX6_read 85 = .ok (.getfield 17, 3) := by decide +kernel
theorem dX6_read_88 : decode cX6_read 88 = .ok (.iaload, 1) := by decide +kernel
theorem dX6_read_89 : decode cX6_read 89 = .ok (.invokestatic 40, 3) := by decide +kernel
theorem dX6_read_92 : decode cX6_read 92 = .ok (.ifCond .eq 8, 3) := by decide +kernel
theorem dX6_read_95 : decode cX6_read 95 = .ok (.aload_n 0, 1) := by decide +kernel
theorem dX6_read_96 : decode cX6_read 96 = .ok (.invokevirtual 43, 3) := by decide +kernel
theorem dX6_read_99 : decode cX6_read 99 = .ok (.ireturn, 1) := by decide +kernel
theorem dX6_read_100 : decode cX6_read 100 = .ok (.aload_n 0, 1) := by decide +kernel
theorem dX6_read_101 : decode cX6_read 101 = .ok (.dup, 1) := by decide +kernel
theorem dX6_read_102 : decode cX6_read 102 = .ok (.getfield 17, 3) := by decide +kernel
theorem dX6_read_105 : decode cX6_read 105 = .ok (.iconst 1, 1) := by decide +kernel
theorem dX6_read_106 : decode cX6_read 106 = .ok (.iadd, 1) := by decide +kernel
theorem dX6_read_107 : decode cX6_read 107 = .ok (.putfield 17, 3) := by decide +kernel
theorem dX6_read_110 : decode cX6_read 110 = .ok (.aload_n 0, 1) := by decide +kernel
theorem dX6_read_111 : decode cX6_read 111 = .ok (.getfield 7, 3) := by decide +kernel
theorem dX6_read_114 : decode cX6_read 114 = .ok (.aload_n 0, 1) := by decide +kernel
theorem dX6_read_115 : decode cX6_read 115 = .ok (.getfield 20, 3) := by decide +kernel
theorem dX6_read_118 : decode cX6_read 118 = .ok (.iaload, 1) := by decide +kernel
theorem dX6_read_119 : decode cX6_read 119 = .ok (.bipush 59, 2) := by decide +kernel
theorem dX6_read_121 : decode cX6_read 121 = .ok (.if_icmp .ne 8, 3) := by decide +kernel
theorem dX6_read_124 : decode cX6_read 124 = .ok (.bipush 13, 2) := by decide +kernel
theorem dX6_read_126 : decode cX6_read 126 = .ok (.goto 5, 3) := by decide +kernel
theorem dX6_read_129 : decode cX6_read 129 = .ok (.bipush 14, 2) := by decide +kernel
theorem dX6_read_131 : decode cX6_read 131 = .ok (.ireturn, 1) := by decide +kernel
theorem dX6_readWord_0 : decode cX6_readWord 0 = .ok (.aload_n 0, 1) := by decide +kernel
theorem dX6_readWord_1 : decode cX6_readWord 1 = .ok (.getfield 17, 3) := by decide +kernel
theorem dX6_readWord_4 : decode cX6_readWord 4 = .ok (.aload_n 0, 1) := by decide +kernel
theorem dX6_readWord_5 : decode cX6_readWord 5 = .ok (.getfield 13, 3) := by decide +kernel
theorem dX6_readWord_8 : decode cX6_readWord 8 = .ok (.if_icmp .ge 31, 3) := by decide +kernel
theorem dX6_readWord_11 : decode cX6_readWord 11 = .ok (.aload_n 0, 1) := by decide +kernel
theorem dX6_readWord_12 : decode cX6_readWord 12 = .ok (.getfield 7, 3) := by decide +kernel
theorem dX6_readWord_15 : decode cX6_readWord 15 = .ok (.aload_n 0, 1) := by decide +kernel
theorem dX6_readWord_16 : decode cX6_readWord 16 = .ok (.getfield 17, 3) := by decide +kernel
theorem dX6_readWord_19 : decode cX6_readWord 19 = .ok (.iaload, 1) := by decide +kernel
theorem dX6_readWord_20 : decode cX6_readWord 20 = .ok (.invokestatic 32, 3) := by decide +kernel
theorem dX6_readWord_23 : decode cX6_readWord 23 = .ok (.ifCond .eq 16, 3) := by decide +kernel
theorem dX6_readWord_26 : decode cX6_readWord 26 = .ok (.aload_n 0, 1) := by decide +kernel
theorem dX6_readWord_27 : decode cX6_readWord 27 = .ok (.dup, 1) := by decide +kernel
theorem dX6_readWord_28 : decode cX6_readWord 28 = .ok (.getfield 17, 3) := by decide +kernel
theorem dX6_readWord_31 : decode cX6_readWord 31 = .ok (.iconst 1, 1) := by decide +kernel
theorem dX6_readWord_32 : decode cX6_readWord 32 = .ok (.iadd, 1) := by decide +kernel
theorem dX6_readWord_33 : decode cX6_readWord 33 = .ok (.putfield 17, 3) := by decide +kernel
theorem dX6_readWord_36 : decode cX6_readWord 36 = .ok (.goto (-36), 3) := by decide +kernel
theorem dX6_readWord_39 : decode cX6_readWord 39 = .ok (.iconst 0, 1) := by decide +kernel
theorem dX6_readWord_40 : decode cX6_readWord 40 = .ok (.istore_n 1, 1) := by decide +kernel
theorem dX6_readWord_41 : decode cX6_readWord 41 = .ok (.iload_n 1, 1) := by decide +kernel
theorem dX6_readWord_42 : decode cX6_readWord 42 = .ok (.bipush 12, 2) := by decide +kernel
theorem dX6_readWord_44 : decode cX6_readWord 44 = .ok (.if_icmp .ge 19, 3) := by decide +kernel
theorem dX6_readWord_47 : decode cX6_readWord 47 = .ok (.aload_n 0, 1) := by decide +kernel
theorem dX6_readWord_48 : decode cX6_readWord 48 = .ok (.iload_n 1, 1) := by decide +kernel
theorem dX6_readWord_49 : decode cX6_readWord 49 = .ok (.invokevirtual 46, 3) := by decide +kernel
theorem dX6_readWord_52 : decode cX6_readWord 52 = .ok (.ifCond .eq 5, 3) := by decide +kernel
theorem dX6_readWord_55 : decode cX6_readWord 55 = .ok (.iload_n 1, 1) := by decide +kernel
theorem dX6_readWord_56 : decode cX6_readWord 56 = .ok (.ireturn, 1) := by decide +kernel
theorem dX6_readWord_57 : decode cX6_readWord 57 = .ok (.iinc 1 1, 3) := by decide +kernel
theorem dX6_readWord_60 : decode cX6_readWord 60 = .ok (.goto (-19), 3) := by decide +kernel
theorem dX6_readWord_63 : decode cX6_readWord 63 = .ok (.bipush 14, 2) := by decide +kernel
theorem dX6_readWord_65 : decode cX6_readWord 65 = .ok (.ireturn, 1) := by decide +kernel
theorem dX6_readNumber_0 : decode cX6_readNumber 0 = .ok (.aload_n 0, 1) := by decide +kernel
theorem dX6_readNumber_1 : decode cX6_readNumber 1 = .ok (.iconst 0, 1) := by decide +kernel
theorem dX6_readNumber_2 : decode cX6_readNumber 2 = .ok (.putfield 23, 3) := by decide +kernel
theorem dX6_readNumber_5 : decode cX6_readNumber 5 = .ok (.aload_n 0, 1) := by decide +kernel
theorem dX6_readNumber_6 : decode cX6_readNumber 6 = .ok (.getfield 17, 3) := by decide +kernel
theorem dX6_readNumber_9 : decode cX6_readNumber 9 = .ok (.aload_n 0, 1) := by decide +kernel
theorem dX6_readNumber_10 : decode cX6_readNumber 10 = .ok (.getfield 13, 3) := by decide +kernel
theorem dX6_readNumber_13 : decode cX6_readNumber 13 = .ok (.if_icmp .ge 59, 3) := by decide +kernel
theorem dX6_readNumber_16 : decode cX6_readNumber 16 = .ok (.aload_n 0, 1) := by decide +kernel
theorem dX6_readNumber_17 : decode cX6_readNumber 17 = .ok (.getfield 7, 3) := by decide +kernel
theorem dX6_readNumber_20 : decode cX6_readNumber 20 = .ok (.aload_n 0, 1) := by decide +kernel
theorem dX6_readNumber_21 : decode cX6_readNumber 21 = .ok (.getfield 17, 3) := by decide +kernel
theorem dX6_readNumber_24 : decode cX6_readNumber 24 = .ok (.iaload, 1) := by decide +kernel
theorem dX6_readNumber_25 : decode cX6_readNumber 25 = .ok (.invokestatic 40, 3) := by decide +kernel
theorem dX6_readNumber_28 : decode cX6_readNumber 28 = .ok (.ifCond .eq 44, 3) := by decide +kernel
theorem dX6_readNumber_31 : decode cX6_readNumber 31 = .ok (.aload_n 0, 1) := by decide +kernel
theorem dX6_readNumber_32 : decode cX6_readNumber 32 = .ok (.aload_n 0, 1) := by decide +kernel
theorem dX6_readNumber_33 : decode cX6_readNumber 33 = .ok (.getfield 23, 3) := by decide +kernel
theorem dX6_readNumber_36 : decode cX6_readNumber 36 = .ok (.bipush 10, 2) := by decide +kernel
theorem dX6_readNumber_38 : decode cX6_readNumber 38 = .ok (.imul, 1) := by decide +kernel
theorem dX6_readNumber_39 : decode cX6_readNumber 39 = .ok (.aload_n 0, 1) := by decide +kernel
theorem dX6_readNumber_40 : decode cX6_readNumber 40 = .ok (.getfield 7, 3) := by decide +kernel
theorem dX6_readNumber_43 : decode cX6_readNumber 43 = .ok (.aload_n 0, 1) := by decide +kernel
theorem dX6_readNumber_44 : decode cX6_readNumber 44 = .ok (.getfield 17, 3) := by decide +kernel
theorem dX6_readNumber_47 : decode cX6_readNumber 47 = .ok (.iaload, 1) := by decide +kernel
theorem dX6_readNumber_48 : decode cX6_readNumber 48 = .ok (.iadd, 1) := by decide +kernel
theorem dX6_readNumber_49 : decode cX6_readNumber 49 = .ok (.bipush 48, 2) := by decide +kernel
theorem dX6_readNumber_51 : decode cX6_readNumber 51 = .ok (.isub, 1) := by decide +kernel
theorem dX6_readNumber_52 : decode cX6_readNumber 52 = .ok (.sipush 1000, 3) := by decide +kernel
theorem dX6_readNumber_55 : decode cX6_readNumber 55 = .ok (.irem, 1) := by decide +kernel
theorem dX6_readNumber_56 : decode cX6_readNumber 56 = .ok (.putfield 23, 3) := by decide +kernel
theorem dX6_readNumber_59 : decode cX6_readNumber 59 = .ok (.aload_n 0, 1) := by decide +kernel
theorem dX6_readNumber_60 : decode cX6_readNumber 60 = .ok (.dup, 1) := by decide +kernel
theorem dX6_readNumber_61 : decode cX6_readNumber 61 = .ok (.getfield 17, 3) := by decide +kernel
theorem dX6_readNumber_64 : decode cX6_readNumber 64 = .ok (.iconst 1, 1) := by decide +kernel
theorem dX6_readNumber_65 : decode cX6_readNumber 65 = .ok (.iadd, 1) := by decide +kernel
theorem dX6_readNumber_66 : decode cX6_readNumber 66 = .ok (.putfield 17, 3) := by decide +kernel
theorem dX6_readNumber_69 : decode cX6_readNumber 69 = .ok (.goto (-64), 3) := by decide +kernel
theorem dX6_readNumber_72 : decode cX6_readNumber 72 = .ok (.aload_n 0, 1) := by decide +kernel
theorem dX6_readNumber_73 : decode cX6_readNumber 73 = .ok (.getfield 17, 3) := by decide +kernel
theorem dX6_readNumber_76 : decode cX6_readNumber 76 = .ok (.aload_n 0, 1) := by decide +kernel
theorem dX6_readNumber_77 : decode cX6_readNumber 77 = .ok (.getfield 20, 3) := by decide +kernel
theorem dX6_readNumber_80 : decode cX6_readNumber 80 = .ok (.isub, 1) := by decide +kernel
theorem dX6_readNumber_81 : decode cX6_readNumber 81 = .ok (.iconst 2, 1) := by decide +kernel
theorem dX6_readNumber_82 : decode cX6_readNumber 82 = .ok (.if_icmp .gt 8, 3) := by decide +kernel
theorem dX6_readNumber_85 : decode cX6_readNumber 85 = .ok (.bipush 12, 2) := by decide +kernel
theorem dX6_readNumber_87 : decode cX6_readNumber 87 = .ok (.goto 5, 3) := by decide +kernel
theorem dX6_readNumber_90 : decode cX6_readNumber 90 = .ok (.bipush 14, 2) := by decide +kernel
theorem dX6_readNumber_92 : decode cX6_readNumber 92 = .ok (.ireturn, 1) := by decide +kernel
theorem dX6_spells_0 : decode cX6_spells 0 = .ok (.iload_n 1, 1) := by decide +kernel
theorem dX6_spells_1 : decode cX6_spells 1 = .ok (.bipush 8, 2) := by decide +kernel
theorem dX6_spells_3 : decode cX6_spells 3 = .ok (.imul, 1) := by decide +kernel
theorem dX6_spells_4 : decode cX6_spells 4 = .ok (.istore_n 2, 1) := by decide +kernel
theorem dX6_spells_5 : decode cX6_spells 5 = .ok (.aload_n 0, 1) := by decide +kernel
theorem dX6_spells_6 : decode cX6_spells 6 = .ok (.getfield 17, 3) := by decide +kernel
theorem dX6_spells_9 : decode cX6_spells 9 = .ok (.aload_n 0, 1) := by decide +kernel
theorem dX6_spells_10 : decode cX6_spells 10 = .ok (.getfield 20, 3) := by decide +kernel
theorem dX6_spells_13 : decode cX6_spells 13 = .ok (.isub, 1) := by decide +kernel
theorem dX6_spells_14 : decode cX6_spells 14 = .ok (.istore_n 3, 1) := by decide +kernel
theorem dX6_spells_15 : decode cX6_spells 15 = .ok (.iload_n 3, 1) := by decide +kernel
theorem dX6_spells_16 : decode cX6_spells 16 = .ok (.bipush 8, 2) := by decide +kernel
theorem dX6_spells_18 : decode cX6_spells 18 = .ok (.if_icmp .ge 15, 3) := by decide +kernel
theorem dX6_spells_21 : decode cX6_spells 21 = .ok (.getstatic 49, 3) := by decide +kernel
theorem dX6_spells_24 : decode cX6_spells 24 = .ok (.iload_n 2, 1) := by decide +kernel
theorem dX6_spells_25 : decode cX6_spells 25 = .ok (.iload_n 3, 1) := by decide +kernel
theorem dX6_spells_26 : decode cX6_spells 26 = .ok (.iadd, 1) := by decide +kernel
theorem dX6_spells_27 : decode cX6_spells 27 = .ok (.caload, 1) := by decide +kernel
theorem dX6_spells_28 : decode cX6_spells 28 = .ok (.bipush 32, 2) := by decide +kernel
theorem dX6_spells_30 : decode cX6_spells 30 = .ok (.if_icmp .eq 5, 3) := by decide +kernel
theorem dX6_spells_33 : decode cX6_spells 33 = .ok (.iconst 0, 1) := by decide +kernel
theorem dX6_spells_34 : decode cX6_spells 34 = .ok (.ireturn, 1) := by decide +kernel
theorem dX6_spells_35 : decode cX6_spells 35 = .ok (.iconst 0, 1) := by decide +kernel
theorem dX6_spells_36 : decode cX6_spells 36 = .ok (.istore 4, 2) := by decide +kernel
theorem dX6_spells_38 : decode cX6_spells 38 = .ok (.iload 4, 2) := by decide +kernel
theorem dX6_spells_40 : decode cX6_spells 40 = .ok (.iload_n 3, 1) := by decide +kernel
theorem dX6_spells_41 : decode cX6_spells 41 = .ok (.if_icmp .ge 34, 3) := by decide +kernel
theorem dX6_spells_44 : decode cX6_spells 44 = .ok (.getstatic 49, 3) := by decide +kernel
theorem dX6_spells_47 : decode cX6_spells 47 = .ok (.iload_n 2, 1) := by decide +kernel
theorem dX6_spells_48 : decode cX6_spells 48 = .ok (.iload 4, 2) := by decide +kernel
theorem dX6_spells_50 : decode cX6_spells 50 = .ok (.iadd, 1) := by decide +kernel
theorem dX6_spells_51 : decode cX6_spells 51 = .ok (.caload, 1) := by decide +kernel
theorem dX6_spells_52 : decode cX6_spells 52 = .ok (.aload_n 0, 1) := by decide +kernel
theorem dX6_spells_53 : decode cX6_spells 53 = .ok (.getfield 7, 3) := by decide +kernel
theorem dX6_spells_56 : decode cX6_spells 56 = .ok (.aload_n 0, 1) := by decide +kernel
theorem dX6_spells_57 : decode cX6_spells 57 = .ok (.getfield 20, 3) := by decide +kernel
theorem dX6_spells_60 : decode cX6_spells 60 = .ok (.iload 4, 2) := by decide +kernel
theorem dX6_spells_62 : decode cX6_spells 62 = .ok (.iadd, 1) := by decide +kernel
theorem dX6_spells_63 : decode cX6_spells 63 = .ok (.iaload, 1) := by decide +kernel
theorem dX6_spells_64 : decode cX6_spells 64 = .ok (.if_icmp .eq 5, 3) := by decide +kernel
theorem dX6_spells_67 : decode cX6_spells 67 = .ok (.iconst 0, 1) := by decide +kernel
theorem dX6_spells_68 : decode cX6_spells 68 = .ok (.ireturn, 1) := by decide +kernel
theorem dX6_spells_69 : decode cX6_spells 69 = .ok (.iinc 4 1, 3) := by decide +kernel
theorem dX6_spells_72 : decode cX6_spells 72 = .ok (.goto (-34), 3) := by decide +kernel
theorem dX6_spells_75 : decode cX6_spells 75 = .ok (.iconst 1, 1) := by decide +kernel
theorem dX6_spells_76 : decode cX6_spells 76 = .ok (.ireturn, 1) := by decide +kernel
theorem dX6_isLetter_0 : decode cX6_isLetter 0 = .ok (.iload_n 0, 1) := by decide +kernel
theorem dX6_isLetter_1 : decode cX6_isLetter 1 = .ok (.bipush 97, 2) := by decide +kernel
theorem dX6_isLetter_3 : decode cX6_isLetter 3 = .ok (.if_icmp .lt 13, 3) := by decide +kernel
theorem dX6_isLetter_6 : decode cX6_isLetter 6 = .ok (.iload_n 0, 1) := by decide +kernel
theorem dX6_isLetter_7 : decode cX6_isLetter 7 = .ok (.bipush 122, 2) := by decide +kernel
theorem dX6_isLetter_9 : decode cX6_isLetter 9 = .ok (.if_icmp .gt 7, 3) := by decide +kernel
theorem dX6_isLetter_12 : decode cX6_isLetter 12 = .ok (.iconst 1, 1) := by decide +kernel
theorem dX6_isLetter_13 : decode cX6_isLetter 13 = .ok (.goto 4, 3) := by decide +kernel
theorem dX6_isLetter_16 : decode cX6_isLetter 16 = .ok (.iconst 0, 1) := by decide +kernel
theorem dX6_isLetter_17 : decode cX6_isLetter 17 = .ok (.ireturn, 1) := by decide +kernel
theorem dX6_isFigure_0 : decode cX6_isFigure 0 = .ok (.iload_n 0, 1) := by decide +kernel
theorem dX6_isFigure_1 : decode cX6_isFigure 1 = .ok (.bipush 48, 2) := by decide +kernel
theorem dX6_isFigure_3 : decode cX6_isFigure 3 = .ok (.if_icmp .lt 13, 3) := by decide +kernel
theorem dX6_isFigure_6 : decode cX6_isFigure 6 = .ok (.iload_n 0, 1) := by decide +kernel
theorem dX6_isFigure_7 : decode cX6_isFigure 7 = .ok (.bipush 57, 2) := by decide +kernel
theorem dX6_isFigure_9 : decode cX6_isFigure 9 = .ok (.if_icmp .gt 7, 3) := by decide +kernel
theorem dX6_isFigure_12 : decode cX6_isFigure 12 = .ok (.iconst 1, 1) := by decide +kernel
theorem dX6_isFigure_13 : decode cX6_isFigure 13 = .ok (.goto 4, 3) := by decide +kernel
theorem dX6_isFigure_16 : decode cX6_isFigure 16 = .ok (.iconst 0, 1) := by decide +kernel
theorem dX6_isFigure_17 : decode cX6_isFigure 17 = .ok (.ireturn, 1) := by decide +kernel
theorem dX7_init_0 : decode cX7_init 0 = .ok (.aload_n 0, 1) := by decide +kernel
theorem dX7_init_1 : decode cX7_init 1 = .ok (.invokespecial 3, 3) := by decide +kernel
theorem dX7_init_4 : decode cX7_init 4 = .ok (.aload_n 0, 1) := by decide +kernel
theorem dX7_init_5 : decode cX7_init 5 = .ok (.new 9, 3) := by decide +kernel
theorem dX7_init_8 : decode cX7_init 8 = .ok (.dup, 1) := by decide +kernel
theorem dX7_init_9 : decode cX7_init 9 = .ok (.invokespecial 11, 3) := by decide +kernel
theorem dX7_init_12 : decode cX7_init 12 = .ok (.putfield 12, 3) := by decide +kernel
theorem dX7_init_15 : decode cX7_init 15 = .ok (.aload_n 0, 1) := by decide +kernel
theorem dX7_init_16 : decode cX7_init 16 = .ok (.new 18, 3) := by decide +kernel
theorem dX7_init_19 : decode cX7_init 19 = .ok (.dup, 1) := by decide +kernel
theorem dX7_init_20 : decode cX7_init 20 = .ok (.invokespecial 20, 3) := by decide +kernel
theorem dX7_init_23 : decode cX7_init 23 = .ok (.putfield 21, 3) := by decide +kernel
theorem dX7_init_26 : decode cX7_init 26 = .ok (.aload_n 0, 1) := by decide +kernel
theorem dX7_init_27 : decode cX7_init 27 = .ok (.sipush 160, 3) := by decide +kernel
theorem dX7_init_30 : decode cX7_init 30 = .ok (.newarray .int, 2) := by decide +kernel
theorem dX7_init_32 : decode cX7_init 32 = .ok (.putfield 25, 3) := by decide +kernel
theorem dX7_init_35 : decode cX7_init 35 = .ok (.aload_n 0, 1) := by decide +kernel
theorem dX7_init_36 : decode cX7_init 36 = .ok (.iconst 0, 1) := by decide +kernel
theorem dX7_init_37 : decode cX7_init 37 = .ok (.putfield 29, 3) := by decide +kernel
theorem dX7_init_40 : decode cX7_init 40 = .ok (.aload_n 0, 1) := by decide +kernel
theorem dX7_init_41 : decode cX7_init 41 = .ok (.bipush 8, 2) := by decide +kernel
theorem dX7_init_43 : decode cX7_init 43 = .ok (.newarray .int, 2) := by decide +kernel
theorem dX7_init_45 : decode cX7_init 45 = .ok (.putfield 33, 3) := by decide +kernel
theorem dX7_init_48 : decode cX7_init 48 = .ok (.aload_n 0, 1) := by decide +kernel
theorem dX7_init_49 : decode cX7_init 49 = .ok (.iconst 0, 1) := by decide +kernel
theorem dX7_init_50 : decode cX7_init 50 = .ok (.putfield 36, 3) := by decide +kernel
theorem dX7_init_53 : decode cX7_init 53 = .ok (.aload_n 0, 1) := by decide +kernel
theorem dX7_init_54 : decode cX7_init 54 = .ok (.bipush 6, 2) := by decide +kernel
theorem dX7_init_56 : decode cX7_init 56 = .ok (.newarray .int, 2) := by decide +kernel
theorem dX7_init_58 : decode cX7_init 58 = .ok (.putfield 39, 3) := by decide +kernel
theorem dX7_init_61 : decode cX7_init 61 = .ok (.aload_n 0, 1) := by decide +kernel
theorem dX7_init_62 : decode cX7_init 62 = .ok (.bipush 36, 2) := by decide +kernel
theorem dX7_init_64 : decode cX7_init 64 = .ok (.newarray .int, 2) := by decide +kernel
theorem dX7_init_66 : decode cX7_init 66 = .ok (.putfield 42, 3) := by decide +kernel
theorem dX7_init_69 : decode cX7_init 69 = .ok (.aload_n 0, 1) := by decide +kernel
theorem dX7_init_70 : decode cX7_init 70 = .ok (.bipush 48, 2) := by decide +kernel
theorem dX7_init_72 : decode cX7_init 72 = .ok (.newarray .int, 2) := by decide +kernel
theorem dX7_init_74 : decode cX7_init 74 = .ok (.putfield 45, 3) := by decide +kernel
theorem dX7_init_77 : decode cX7_init 77 = .ok (.aload_n 0, 1) := by decide +kernel
theorem dX7_init_78 : decode cX7_init 78 = .ok (.iconst 0, 1) := by decide +kernel
theorem dX7_init_79 : decode cX7_init 79 = .ok (.putfield 48, 3) := by decide +kernel
theorem dX7_init_82 : decode cX7_init 82 = .ok (.aload_n 0, 1) := by decide +kernel
theorem dX7_init_83 : decode cX7_init 83 = .ok (.getfield 39, 3) := by decide +kernel
theorem dX7_init_86 : decode cX7_init 86 = .ok (.iconst (-1), 1) := by decide +kernel
theorem dX7_init_87 : decode cX7_init 87 = .ok (.invokestatic 51, 3) := by decide +kernel
theorem dX7_init_90 : decode cX7_init 90 = .ok (.return_, 1) := by decide +kernel
theorem dX7_isQueued_0 : decode cX7_isQueued 0 = .ok (.iconst 0, 1) := by decide +kernel
theorem dX7_isQueued_1 : decode cX7_isQueued 1 = .ok (.istore_n 2, 1) := by decide +kernel
theorem dX7_isQueued_2 : decode cX7_isQueued 2 = .ok (.iload_n 2, 1) := by decide +kernel
theorem dX7_isQueued_3 : decode cX7_isQueued 3 = .ok (.aload_n 0, 1) := by decide +kernel
theorem dX7_isQueued_4 : decode cX7_isQueued 4 = .ok (.getfield 36, 3) := by decide +kernel
theorem dX7_isQueued_7 : decode cX7_isQueued 7 = .ok (.if_icmp .ge 21, 3) := by decide +kernel
theorem dX7_isQueued_10 : decode cX7_isQueued 10 = .ok (.aload_n 0, 1) := by decide +kernel
theorem dX7_isQueued_11 : decode cX7_isQueued 11 = .ok (.getfield 33, 3) := by decide +kernel
theorem dX7_isQueued_14 : decode cX7_isQueued 14 = .ok (.iload_n 2, 1) := by decide +kernel
theorem dX7_isQueued_15 : decode cX7_isQueued 15 = .ok (.iaload, 1) := by decide +kernel
theorem dX7_isQueued_16 : decode cX7_isQueued 16 = .ok (.iload_n 1, 1) := by decide +kernel
theorem dX7_isQueued_17 : decode cX7_isQueued 17 = .ok (.if_icmp .ne 5, 3) := by decide +kernel
theorem dX7_isQueued_20 : decode cX7_isQueued 20 = .ok (.iconst 1, 1) := by decide +kernel
theorem dX7_isQueued_21 : decode cX7_isQueued 21 = .ok (.ireturn, 1) := by decide +kernel
theorem dX7_isQueued_22 : decode cX7_isQueued 22 = .ok (.iinc 2 1, 3) := by decide +kernel
theorem dX7_isQueued_25 : decode cX7_isQueued 25 = .ok (.goto (-23), 3) := by decide +kernel
theorem dX7_isQueued_28 : decode cX7_isQueued 28 = .ok (.iconst 0, 1) := by decide +kernel
theorem dX7_isQueued_29 : decode cX7_isQueued 29 = .ok (.ireturn, 1) := by decide +kernel
theorem dX7_copy_0 : decode cX7_copy 0 = .ok (.aload_n 0, 1) := by decide +kernel
theorem dX7_copy_1 : decode cX7_copy 1 = .ok (.getfield 12, 3) := by decide +kernel
theorem dX7_copy_4 : decode cX7_copy 4 = .ok (.aload_n 1, 1) := by decide +kernel
theorem dX7_copy_5 : decode cX7_copy 5 = .ok (.getfield 12, 3) := by decide +kernel
theorem dX7_copy_8 : decode cX7_copy 8 = .ok (.invokevirtual 57, 3) := by decide +kernel
theorem dX7_copy_11 : decode cX7_copy 11 = .ok (.aload_n 0, 1) := by decide +kernel
theorem dX7_copy_12 : decode cX7_copy 12 = .ok (.getfield 21, 3) := by decide +kernel
theorem dX7_copy_15 : decode cX7_copy 15 = .ok (.aload_n 1, 1) := by decide +kernel
theorem dX7_copy_16 : decode cX7_copy 16 = .ok (.getfield 21, 3) := by decide +kernel
theorem dX7_copy_19 : decode cX7_copy 19 = .ok (.invokevirtual 61, 3) := by decide +kernel
theorem dX7_copy_22 : decode cX7_copy 22 = .ok (.aload_n 0, 1) := by decide +kernel
theorem dX7_copy_23 : decode cX7_copy 23 = .ok (.aload_n 1, 1) := by decide +kernel
theorem dX7_copy_24 : decode cX7_copy 24 = .ok (.getfield 29, 3) := by decide +kernel
theorem dX7_copy_27 : decode cX7_copy 27 = .ok (.putfield 29, 3) := by decide +kernel
theorem dX7_copy_30 : decode cX7_copy 30 = .ok (.aload_n 0, 1) := by decide +kernel
theorem dX7_copy_31 : decode cX7_copy 31 = .ok (.aload_n 1, 1) := by decide +kernel
theorem dX7_copy_32 : decode cX7_copy 32 = .ok (.getfield 36, 3) := by decide +kernel
theorem dX7_copy_35 : decode cX7_copy 35 = .ok (.putfield 36, 3) := by decide +kernel
theorem dX7_copy_38 : decode cX7_copy 38 = .ok (.aload_n 0, 1) := by decide +kernel
theorem dX7_copy_39 : decode cX7_copy 39 = .ok (.aload_n 1, 1) := by decide +kernel
theorem dX7_copy_40 : decode cX7_copy 40 = .ok (.getfield 48, 3) := by decide +kernel
theorem dX7_copy_43 : decode cX7_copy 43 = .ok (.putfield 48, 3) := by decide +kernel
theorem dX7_copy_46 : decode cX7_copy 46 = .ok (.aload_n 1, 1) := by decide +kernel
theorem dX7_copy_47 : decode cX7_copy 47 = .ok (.getfield 25, 3) := by decide +kernel
theorem dX7_copy_50 : decode cX7_copy 50 = .ok (.iconst 0, 1) := by decide +kernel
theorem dX7_copy_51 : decode cX7_copy 51 = .ok (.aload_n 0, 1) := by decide +kernel
theorem dX7_copy_52 : decode cX7_copy 52 = .ok (.getfield 25, 3) := by decide +kernel
theorem dX7_copy_55 : decode cX7_copy 55 = .ok (.iconst 0, 1) := by decide +kernel
theorem dX7_copy_56 : decode cX7_copy 56 = .ok (.sipush 160, 3) := by decide +kernel
theorem dX7_copy_59 : decode cX7_copy 59 = .ok (.invokestatic 64, 3) := by decide +kernel
theorem dX7_copy_62 : decode cX7_copy 62 = .ok (.aload_n 1, 1) := by decide +kernel
theorem dX7_copy_63 : decode cX7_copy 63 = .ok (.getfield 33, 3) := by decide +kernel
theorem dX7_copy_66 : decode cX7_copy 66 = .ok (.iconst 0, 1) := by decide +kernel
theorem dX7_copy_67 : decode cX7_copy 67 = .ok (.aload_n 0, 1) := by decide +kernel
theorem dX7_copy_68 : decode cX7_copy 68 = .ok (.getfield 33, 3) := by decide +kernel
theorem dX7_copy_71 : decode cX7_copy 71 = .ok (.iconst 0, 1) := by decide +kernel
theorem dX7_copy_72 : decode cX7_copy 72 = .ok (.bipush 8, 2) := by decide +kernel
theorem dX7_copy_74 : decode cX7_copy 74 = .ok (.invokestatic 64, 3) := by decide +kernel
theorem dX7_copy_77 : decode cX7_copy 77 = .ok (.aload_n 1, 1) := by decide +kernel
theorem dX7_copy_78 : decode cX7_copy 78 = .ok (.getfield 39, 3) := by decide +kernel
theorem dX7_copy_81 : decode cX7_copy 81 = .ok (.iconst 0, 1) := by decide +kernel
theorem dX7_copy_82 : decode cX7_copy 82 = .ok (.aload_n 0, 1) := by decide +kernel
theorem dX7_copy_83 : decode cX7_copy 83 = .ok (.getfield 39, 3) := by decide +kernel
theorem dX7_copy_86 : decode cX7_copy 86 = .ok (.iconst 0, 1) := by decide +kernel
theorem dX7_copy_87 : decode cX7_copy 87 = .ok (.bipush 6, 2) := by decide +kernel
theorem dX7_copy_89 : decode cX7_copy 89 = .ok (.invokestatic 64, 3) := by decide +kernel
theorem dX7_copy_92 : decode cX7_copy 92 = .ok (.aload_n 1, 1) := by decide +kernel
theorem dX7_copy_93 : decode cX7_copy 93 = .ok (.getfield 42, 3) := by decide +kernel
theorem dX7_copy_96 : decode cX7_copy 96 = .ok (.iconst 0, 1) := by decide +kernel
theorem dX7_copy_97 : decode cX7_copy 97 = .ok (.aload_n 0, 1) := by decide +kernel
theorem dX7_copy_98 : decode cX7_copy 98 = .ok (.getfield 42, 3) := by decide +kernel
theorem dX7_copy_101 : decode cX7_copy 101 = .ok (.iconst 0, 1) := by decide +kernel
theorem dX7_copy_102 : decode cX7_copy 102 = .ok (.bipush 36, 2) := by decide +kernel
theorem dX7_copy_104 : decode cX7_copy 104 = .ok (.invokestatic 64, 3) := by decide +kernel
theorem dX7_copy_107 : decode cX7_copy 107 = .ok (.aload_n 1, 1) := by decide +kernel
theorem dX7_copy_108 : decode cX7_copy 108 = .ok (.getfield 45, 3) := by decide +kernel
theorem dX7_copy_111 : decode cX7_copy 111 = .ok (.iconst 0, 1) := by decide +kernel
theorem dX7_copy_112 : decode cX7_copy 112 = .ok (.aload_n 0, 1) := by decide +kernel
theorem dX7_copy_113 : decode cX7_copy 113 = .ok (.getfield 45, 3) := by decide +kernel
theorem dX7_copy_116 : decode cX7_copy 116 = .ok (.iconst 0, 1) := by decide +kernel
theorem dX7_copy_117 : decode cX7_copy 117 = .ok (.bipush 48, 2) := by decide +kernel
theorem dX7_copy_119 : decode cX7_copy 119 = .ok (.invokestatic 64, 3) := by decide +kernel
theorem dX7_copy_122 : decode cX7_copy 122 = .ok (.return_, 1) := by decide +kernel
theorem dX8_init_0 : decode cX8_init 0 = .ok (.aload_n 0, 1) := by decide +kernel
theorem dX8_init_1 : decode cX8_init 1 = .ok (.invokespecial 3, 3) := by decide +kernel
theorem dX8_init_4 : decode cX8_init 4 = .ok (.aload_n 0, 1) := by decide +kernel
theorem dX8_init_5 : decode cX8_init 5 = .ok (.new 9, 3) := by decide +kernel
theorem dX8_init_8 : decode cX8_init 8 = .ok (.dup, 1) := by decide +kernel
theorem dX8_init_9 : decode cX8_init 9 = .ok (.invokespecial 11, 3) := by decide +kernel
theorem dX8_init_12 : decode cX8_init 12 = .ok (.putfield 12, 3) := by decide +kernel
theorem dX8_init_15 : decode cX8_init 15 = .ok (.aload_n 0, 1) := by decide +kernel
theorem dX8_init_16 : decode cX8_init 16 = .ok (.iconst 2, 1) := by decide +kernel
theorem dX8_init_17 : decode cX8_init 17 = .ok (.anewarray 9, 3) := by decide +kernel
theorem dX8_init_20 : decode cX8_init 20 = .ok (.putfield 16, 3) := by decide +kernel
theorem dX8_init_23 : decode cX8_init 23 = .ok (.aload_n 0, 1) := by decide +kernel
theorem dX8_init_24 : decode cX8_init 24 = .ok (.new 20, 3) := by decide +kernel
theorem dX8_init_27 : decode cX8_init 27 = .ok (.dup, 1) := by decide +kernel
theorem dX8_init_28 : decode cX8_init 28 = .ok (.invokespecial 22, 3) := by decide +kernel
theorem dX8_init_31 : decode cX8_init 31 = .ok (.putfield 23, 3) := by decide +kernel
theorem dX8_init_34 : decode cX8_init 34 = .ok (.aload_n 0, 1) := by decide +kernel
theorem dX8_init_35 : decode cX8_init 35 = .ok (.new 20, 3) := by decide +kernel
theorem dX8_init_38 : decode cX8_init 38 = .ok (.dup, 1) := by decide +kernel
theorem dX8_init_39 : decode cX8_init 39 = .ok (.invokespecial 22, 3) := by decide +kernel
theorem dX8_init_42 : decode cX8_init 42 = .ok (.putfield 27, 3) := by decide +kernel
theorem dX8_init_45 : decode cX8_init 45 = .ok (.aload_n 0, 1) := by decide +kernel
theorem dX8_init_46 : decode cX8_init 46 = .ok (.new 30, 3) := by decide +kernel
theorem dX8_init_49 : decode cX8_init 49 = .ok (.dup, 1) := by decide +kernel
theorem dX8_init_50 : decode cX8_init 50 = .ok (.invokespecial 32, 3) := by decide +kernel
theorem dX8_init_53 : decode cX8_init 53 = .ok (.putfield 33, 3) := by decide +kernel
theorem dX8_init_56 : decode cX8_init 56 = .ok (.aload_n 0, 1) := by decide +kernel
theorem dX8_init_57 : decode cX8_init 57 = .ok (.new 37, 3) := by decide +kernel
theorem dX8_init_60 : decode cX8_init 60 = .ok (.dup, 1) := by decide +kernel
theorem dX8_init_61 : decode cX8_init 61 = .ok (.invokespecial 39, 3) := by decide +kernel
theorem dX8_init_64 : decode cX8_init 64 = .ok (.putfield 40, 3) := by decide +kernel
theorem dX8_init_67 : decode cX8_init 67 = .ok (.aload_n 0, 1) := by decide +kernel
theorem dX8_init_68 : decode cX8_init 68 = .ok (.new 44, 3) := by decide +kernel
theorem dX8_init_71 : decode cX8_init 71 = .ok (.dup, 1) := by decide +kernel
theorem dX8_init_72 : decode cX8_init 72 = .ok (.invokespecial 46, 3) := by decide +kernel
theorem dX8_init_75 : decode cX8_init 75 = .ok (.putfield 47, 3) := by decide +kernel
theorem dX8_init_78 : decode cX8_init 78 = .ok (.aload_n 0, 1) := by decide +kernel
theorem dX8_init_79 : decode cX8_init 79 = .ok (.new 51, 3) := by decide +kernel
theorem dX8_init_82 : decode cX8_init 82 = .ok (.dup, 1) := by decide +kernel
theorem dX8_init_83 : decode cX8_init 83 = .ok (.invokespecial 53, 3) := by decide +kernel
theorem dX8_init_86 : decode cX8_init 86 = .ok (.putfield 54, 3) := by decide +kernel
theorem dX8_init_89 : decode cX8_init 89 = .ok (.aload_n 0, 1) := by decide +kernel
theorem dX8_init_90 : decode cX8_init 90 = .ok (.bipush 64, 2) := by decide +kernel
theorem dX8_init_92 : decode cX8_init 92 = .ok (.newarray .int, 2) := by decide +kernel
theorem dX8_init_94 : decode cX8_init 94 = .ok (.putfield 58, 3) := by decide +kernel
theorem dX8_init_97 : decode cX8_init 97 = .ok (.aload_n 0, 1) := by decide +kernel
theorem dX8_init_98 : decode cX8_init 98 = .ok (.iconst 0, 1) := by decide +kernel
theorem dX8_init_99 : decode cX8_init 99 = .ok (.putfield 62, 3) := by decide +kernel
theorem dX8_init_102 : decode cX8_init 102 = .ok (.aload_n 0, 1) := by decide +kernel
theorem dX8_init_103 : decode cX8_init 103 = .ok (.iconst 1, 1) := by decide +kernel
theorem dX8_init_104 : decode cX8_init 104 = .ok (.putfield 66, 3) := by decide +kernel
theorem dX8_init_107 : decode cX8_init 107 = .ok (.aload_n 0, 1) := by decide +kernel
theorem dX8_init_108 : decode cX8_init 108 = .ok (.iconst 0, 1) := by decide +kernel
theorem dX8_init_109 : decode cX8_init 109 = .ok (.putfield 69, 3) := by decide +kernel
theorem dX8_init_112 : decode cX8_init 112 = .ok (.aload_n 0, 1) := by decide +kernel
theorem dX8_init_113 : decode cX8_init 113 = .ok (.iconst 0, 1) := by decide +kernel
theorem dX8_init_114 : decode cX8_init 114 = .ok (.putfield 72, 3) := by decide +kernel
theorem dX8_init_117 : decode cX8_init 117 = .ok (.aload_n 0, 1) := by decide +kernel
theorem dX8_init_118 : decode cX8_init 118 = .ok (.iconst 0, 1) := by decide +kernel
theorem dX8_init_119 : decode cX8_init 119 = .ok (.putfield 75, 3) := by decide +kernel
theorem dX8_init_122 : decode cX8_init 122 = .ok (.return_, 1) := by decide +kernel
theorem dX8_person_0 : decode cX8_person 0 = .ok (.iload_n 1, 1) := by decide +kernel
theorem dX8_person_1 : decode cX8_person 1 = .ok (.iconst 0, 1) := by decide +kernel
theorem dX8_person_2 : decode cX8_person 2 = .ok (.iconst 5, 1) := by decide +kernel
theorem dX8_person_3 : decode cX8_person 3 = .ok (.invokestatic 78, 3) := by decide +kernel
theorem dX8_person_6 : decode cX8_person 6 = .ok (.ifCond .eq 34, 3) := by decide +kernel
theorem dX8_person_9 : decode cX8_person 9 = .ok (.iload_n 2, 1) := by decide +kernel
theorem dX8_person_10 : decode cX8_person 10 = .ok (.iconst 0, 1) := by decide +kernel
theorem dX8_person_11 : decode cX8_person 11 = .ok (.bipush 99, 2) := by decide +kernel
theorem dX8_person_13 : decode cX8_person 13 = .ok (.invokestatic 78, 3) := by decide +kernel
theorem dX8_person_16 : decode cX8_person 16 = .ok (.ifCond .eq 24, 3) := by decide +kernel
theorem dX8_person_19 : decode cX8_person 19 = .ok (.iload_n 3, 1) := by decide +kernel
theorem dX8_person_20 : decode cX8_person 20 = .ok (.iconst 0, 1) := by decide +kernel
theorem dX8_person_21 : decode cX8_person 21 = .ok (.bipush 9, 2) := by decide +kernel
theorem dX8_person_23 : decode cX8_person 23 = .ok (.invokestatic 78, 3) := by decide +kernel
theorem dX8_person_26 : decode cX8_person 26 = .ok (.ifCond .eq 14, 3) := by decide +kernel
theorem dX8_person_29 : decode cX8_person 29 = .ok (.iload 4, 2) := by decide +kernel
theorem dX8_person_31 : decode cX8_person 31 = .ok (.iconst 0, 1) := by decide +kernel
theorem dX8_person_32 : decode cX8_person 32 = .ok (.bipush 9, 2) := by decide +kernel
theorem dX8_person_34 : decode cX8_person 34 = .ok (.invokestatic 78, 3) := by decide +kernel
theorem dX8_person_37 : decode cX8_person 37 = .ok (.ifCond .ne 10, 3) := by decide +kernel
theorem dX8_person_40 : decode cX8_person 40 = .ok (.aload_n 0, 1) := by decide +kernel
theorem dX8_person_41 : decode cX8_person 41 = .ok (.bipush (-2), 2) := by decide +kernel
theorem dX8_person_43 : decode cX8_person 43 = .ok (.invokevirtual 82, 3) := by decide +kernel
theorem dX8_person_46 : decode cX8_person 46 = .ok (.ireturn, 1) := by decide +kernel
theorem dX8_person_47 : decode cX8_person 47 = .ok (.aload_n 0, 1) := by decide +kernel
theorem dX8_person_48 : decode cX8_person 48 = .ok (.getfield 12, 3) := by decide +kernel
theorem dX8_person_51 : decode cX8_person 51 = .ok (.getfield 86, 3) := by decide +kernel
theorem dX8_person_54 : decode cX8_person 54 = .ok (.getfield 90, 3) := by decide +kernel
theorem dX8_person_57 : decode cX8_person 57 = .ok (.bipush 8, 2) := by decide +kernel
theorem dX8_person_59 : decode cX8_person 59 = .ok (.if_icmp .lt 8, 3) := by decide +kernel
theorem dX8_person_62 : decode cX8_person 62 = .ok (.aload_n 0, 1) := by decide +kernel
theorem dX8_person_63 : decode cX8_person 63 = .ok (.invokevirtual 95, 3) := by decide +kernel
theorem dX8_person_66 : decode cX8_person 66 = .ok (.ireturn, 1) := by decide +kernel
theorem dX8_person_67 : decode cX8_person 67 = .ok (.aload_n 0, 1) := by decide +kernel
theorem dX8_person_68 : decode cX8_person 68 = .ok (.getfield 12, 3) := by decide +kernel
theorem dX8_person_71 : decode cX8_person 71 = .ok (.getfield 86, 3) := by decide +kernel
theorem dX8_person_74 : decode cX8_person 74 = .ok (.iload_n 1, 1) := by decide +kernel
theorem dX8_person_75 : decode cX8_person 75 = .ok (.iload_n 2, 1) := by decide +kernel
theorem dX8_person_76 : decode cX8_person 76 = .ok (.iload_n 3, 1) := by decide +kernel
theorem dX8_person_77 : decode cX8_person 77 = .ok (.iload 4, 2) := by decide +kernel
theorem dX8_person_79 : decode cX8_person 79 = .ok (.invokevirtual 99, 3) := by decide +kernel
theorem dX8_person_82 : decode cX8_person 82 = .ok (.ireturn, 1) := by decide +kernel
theorem dX8_counts_0 : decode cX8_counts 0 = .ok (.aload_n 0, 1) := by decide +kernel
theorem dX8_counts_1 : decode cX8_counts 1 = .ok (.getfield 12, 3) := by decide +kernel
theorem dX8_counts_4 : decode cX8_counts 4 = .ok (.getfield 86, 3) := by decide +kernel
theorem dX8_counts_7 : decode cX8_counts 7 = .ok (.iload_n 1, 1) := by decide +kernel
theorem dX8_counts_8 : decode cX8_counts 8 = .ok (.invokevirtual 103, 3) := by decide +kernel
theorem dX8_counts_11 : decode cX8_counts 11 = .ok (.ifCond .eq 12, 3) := by decide +kernel
theorem dX8_counts_14 : decode cX8_counts 14 = .ok (.iload_n 2, 1) := by decide +kernel
theorem dX8_counts_15 : decode cX8_counts 15 = .ok (.iconst 0, 1) := by decide +kernel
theorem dX8_counts_16 : decode cX8_counts 16 = .ok (.iconst 2, 1) := by decide +kernel
theorem dX8_counts_17 : decode cX8_counts 17 = .ok (.invokestatic 78, 3) := by decide +kernel
theorem dX8_counts_20 : decode cX8_counts 20 = .ok (.ifCond .ne 10, 3) := by decide +kernel
theorem dX8_counts_23 : decode cX8_counts 23 = .ok (.aload_n 0, 1) := by decide +kernel
theorem dX8_counts_24 : decode cX8_counts 24 = .ok (.bipush (-2), 2) := by decide +kernel
theorem dX8_counts_26 : decode cX8_counts 26 = .ok (.invokevirtual 82, 3) := by decide +kernel
theorem dX8_counts_29 : decode cX8_counts 29 = .ok (.ireturn, 1) := by decide +kernel
theorem dX8_counts_30 : decode cX8_counts 30 = .ok (.iload_n 2, 1) := by decide +kernel
theorem dX8_counts_31 : decode cX8_counts 31 = .ok (.ifCond .ne 15, 3) := by decide +kernel
theorem dX8_counts_34 : decode cX8_counts 34 = .ok (.aload_n 0, 1) := by decide +kernel
theorem dX8_counts_35 : decode cX8_counts 35 = .ok (.getfield 12, 3) := by decide +kernel
theorem dX8_counts_38 : decode cX8_counts 38 = .ok (.getfield 86, 3) := by decide +kernel
theorem dX8_counts_41 : decode cX8_counts 41 = .ok (.iload_n 1, 1) := by decide +kernel
theorem dX8_counts_42 : decode cX8_counts 42 = .ok (.invokevirtual 107, 3) := by decide +kernel
theorem dX8_counts_45 : decode cX8_counts 45 = .ok (.ireturn, 1) := by decide +kernel
theorem dX8_counts_46 : decode cX8_counts 46 = .ok (.iload_n 2, 1) := by decide +kernel
theorem dX8_counts_47 : decode cX8_counts 47 = .ok (.iconst 1, 1) := by decide +kernel
theorem dX8_counts_48 : decode cX8_counts 48 = .ok (.if_icmp .ne 17, 3) := by decide +kernel
theorem dX8_counts_51 : decode cX8_counts 51 = .ok (.aload_n 0, 1) := by decide +kernel
theorem dX8_counts_52 : decode cX8_counts 52 = .ok (.getfield 12, 3) := by decide +kernel
theorem dX8_counts_55 : decode cX8_counts 55 = .ok (.getfield 86, 3) := by decide +kernel
theorem dX8_counts_58 : decode cX8_counts 58 = .ok (.iload_n 1, 1) := by decide +kernel
theorem dX8_counts_59 : decode cX8_counts 59 = .ok (.invokevirtual 110, 3) := by decide +kernel
theorem dX8_counts_62 : decode cX8_counts 62 = .ok (.goto 14, 3) := by decide +kernel
theorem dX8_counts_65 : decode cX8_counts 65 = .ok (.aload_n 0, 1) := by decide +kernel
theorem dX8_counts_66 : decode cX8_counts 66 = .ok (.getfield 12, 3) := by decide +kernel
theorem dX8_counts_69 : decode cX8_counts 69 = .ok (.getfield 86, 3) := by decide +kernel
theorem dX8_counts_72 : decode cX8_counts 72 = .ok (.iload_n 1, 1) := by decide +kernel
theorem dX8_counts_73 : decode cX8_counts 73 = .ok (.invokevirtual 113, 3) := by decide +kernel
theorem dX8_counts_76 : decode cX8_counts 76 = .ok (.ireturn, 1) := by decide +kernel
theorem dX8_owe_0 : decode cX8_owe 0 = .ok (.aload_n 0, 1) := by decide +kernel
theorem dX8_owe_1 : decode cX8_owe 1 = .ok (.getfield 12, 3) := by decide +kernel
theorem dX8_owe_4 : decode cX8_owe 4 = .ok (.getfield 86, 3) := by decide +kernel
theorem dX8_owe_7 : decode cX8_owe 7 = .ok (.iload_n 1, 1) := by decide +kernel
theorem dX8_owe_8 : decode cX8_owe 8 = .ok (.iload_n 2, 1) := by decide +kernel
theorem dX8_owe_9 : decode cX8_owe 9 = .ok (.invokevirtual 116, 3) := by decide +kernel
theorem dX8_owe_12 : decode cX8_owe 12 = .ok (.ifCond .eq 13, 3) := by decide +kernel
theorem dX8_owe_15 : decode cX8_owe 15 = .ok (.iload_n 3, 1) := by decide +kernel
theorem dX8_owe_16 : decode cX8_owe 16 = .ok (.iconst 0, 1) := by decide +kernel
theorem dX8_owe_17 : decode cX8_owe 17 = .ok (.bipush 99, 2) := by decide +kernel
theorem dX8_owe_19 : decode cX8_owe 19 = .ok (.invokestatic 78, 3) := by decide +kernel
theorem dX8_owe_22 : decode cX8_owe 22 = .ok (.ifCond .ne 10, 3) := by decide +kernel
theorem dX8_owe_25 : decode cX8_owe 25 = .ok (.aload_n 0, 1) := by decide +kernel
theorem dX8_owe_26 : decode cX8_owe 26 = .ok (.bipush (-2), 2) := by decide +kernel
theorem dX8_owe_28 : decode cX8_owe 28 = .ok (.invokevirtual 82, 3) := by decide +kernel
theorem dX8_owe_31 : decode cX8_owe 31 = .ok (.ireturn, 1) := by decide +kernel
theorem dX8_owe_32 : decode cX8_owe 32 = .ok (.aload_n 0, 1) := by decide +kernel
theorem dX8_owe_33 : decode cX8_owe 33 = .ok (.getfield 12, 3) := by decide +kernel
theorem dX8_owe_36 : decode cX8_owe 36 = .ok (.getfield 120, 3) := by decide +kernel
theorem dX8_owe_39 : decode cX8_owe 39 = .ok (.getfield 123, 3) := by decide +kernel
theorem dX8_owe_42 : decode cX8_owe 42 = .ok (.iload_n 1, 1) := by decide +kernel
theorem dX8_owe_43 : decode cX8_owe 43 = .ok (.iload_n 2, 1) := by decide +kernel
theorem dX8_owe_44 : decode cX8_owe 44 = .ok (.invokestatic 126, 3) := by decide +kernel
theorem dX8_owe_47 : decode cX8_owe 47 = .ok (.iaload, 1) := by decide +kernel
theorem dX8_owe_48 : decode cX8_owe 48 = .ok (.istore 4, 2) := by decide +kernel
theorem dX8_owe_50 : decode cX8_owe 50 = .ok (.aload_n 0, 1) := by decide +kernel
theorem dX8_owe_51 : decode cX8_owe 51 = .ok (.getfield 12, 3) := by decide +kernel
theorem dX8_owe_54 : decode cX8_owe 54 = .ok (.getfield 120, 3) := by decide +kernel
theorem dX8_owe_57 : decode cX8_owe 57 = .ok (.getfield 123, 3) := by decide +kernel
theorem dX8_owe_60 : decode cX8_owe 60 = .ok (.iload_n 1, 1) := by decide +kernel
theorem dX8_owe_61 : decode cX8_owe 61 = .ok (.iload_n 2, 1) := by decide +kernel
theorem dX8_owe_62 : decode cX8_owe 62 = .ok (.invokestatic 126, 3) := by decide +kernel
theorem dX8_owe_65 : decode cX8_owe 65 = .ok (.iload_n 3, 1) := by decide +kernel
theorem dX8_owe_66 : decode cX8_owe 66 = .ok (.iastore, 1) := by decide +kernel
theorem dX8_owe_67 : decode cX8_owe 67 = .ok (.iload 4, 2) := by decide +kernel
theorem dX8_owe_69 : decode cX8_owe 69 = .ok (.ireturn, 1) := by decide +kernel
theorem dX8_owes_0 : decode cX8_owes 0 = .ok (.aload_n 0, 1) := by decide +kernel
theorem dX8_owes_1 : decode cX8_owes 1 = .ok (.getfield 12, 3) := by decide +kernel
theorem dX8_owes_4 : decode cX8_owes 4 = .ok (.getfield 86, 3) := by decide +kernel
theorem dX8_owes_7 : decode cX8_owes 7 = .ok (.iload_n 1, 1) := by decide +kernel
theorem dX8_owes_8 : decode cX8_owes 8 = .ok (.iload_n 2, 1) := by decide +kernel
theorem dX8_owes_9 : decode cX8_owes 9 = .ok (.invokevirtual 116, 3) := by decide +kernel
theorem dX8_owes_12 : decode cX8_owes 12 = .ok (.ifCond .ne 10, 3) := by decide +kernel
theorem dX8_owes_15 : decode cX8_owes 15 = .ok (.aload_n 0, 1) := by decide +kernel
theorem dX8_owes_16 : decode cX8_owes 16 = .ok (.bipush (-2), 2) := by decide +kernel
theorem dX8_owes_18 : decode cX8_owes 18 = .ok (.invokevirtual 82, 3) := by decide +kernel
theorem dX8_owes_21 : decode cX8_owes 21 = .ok (.ireturn, 1) := by decide +kernel
theorem dX8_owes_22 : decode cX8_owes 22 = .ok (.aload_n 0, 1) := by decide +kernel
theorem dX8_owes_23 : decode cX8_owes 23 = .ok (.getfield 12, 3) := by decide +kernel
theorem dX8_owes_26 : decode cX8_owes 26 = .ok (.getfield 120, 3) := by decide +kernel
theorem dX8_owes_29 : decode cX8_owes 29 = .ok (.getfield 123, 3) := by decide +kernel
theorem dX8_owes_32 : decode cX8_owes 32 = .ok (.iload_n 1, 1) := by decide +kernel
theorem dX8_owes_33 : decode cX8_owes 33 = .ok (.iload_n 2, 1) := by decide +kernel
theorem dX8_owes_34 : decode cX8_owes 34 = .ok (.invokestatic 126, 3) := by decide +kernel
theorem dX8_owes_37 : decode cX8_owes 37 = .ok (.iaload, 1) := by decide +kernel
theorem dX8_owes_38 : decode cX8_owes 38 = .ok (.ireturn, 1) := by decide +kernel
theorem dX8_type_0 : decode cX8_type 0 = .ok (.iload_n 3, 1) := by decide +kernel
theorem dX8_type_1 : decode cX8_type 1 = .ok (.iconst 1, 1) := by decide +kernel
theorem dX8_type_2 : decode cX8_type 2 = .ok (.bipush 8, 2) := by decide +kernel
theorem dX8_type_4 : decode cX8_type 4 = .ok (.invokestatic 78, 3) := by decide +kernel
theorem dX8_type_7 : decode cX8_type 7 = .ok (.ifCond .ne 10, 3) := by decide +kernel
theorem dX8_type_10 : decode cX8_type 10 = .ok (.aload_n 0, 1) := by decide +kernel
theorem dX8_type_11 : decode cX8_type 11 = .ok (.bipush (-2), 2) := by decide +kernel
theorem dX8_type_13 : decode cX8_type 13 = .ok (.invokevirtual 82, 3) := by decide +kernel
theorem dX8_type_16 : decode cX8_type 16 = .ok (.ireturn, 1) := by decide +kernel
theorem dX8_type_17 : decode cX8_type 17 = .ok (.aload_n 0, 1) := by decide +kernel
theorem dX8_type_18 : decode cX8_type 18 = .ok (.getfield 12, 3) := by decide +kernel
theorem dX8_type_21 : decode cX8_type 21 = .ok (.getfield 130, 3) := by decide +kernel
theorem dX8_type_24 : decode cX8_type 24 = .ok (.iload_n 3, 1) := by decide +kernel
theorem dX8_type_25 : decode cX8_type 25 = .ok (.iadd, 1) := by decide +kernel
theorem dX8_type_26 : decode cX8_type 26 = .ok (.sipush 160, 3) := by decide +kernel
theorem dX8_type_29 : decode cX8_type 29 = .ok (.if_icmp .le 8, 3) := by decide +kernel
theorem dX8_type_32 : decode cX8_type 32 = .ok (.aload_n 0, 1) := by decide +kernel
theorem dX8_type_33 : decode cX8_type 33 = .ok (.invokevirtual 95, 3) := by decide +kernel
theorem dX8_type_36 : decode cX8_type 36 = .ok (.ireturn, 1) := by decide +kernel
theorem dX8_type_37 : decode cX8_type 37 = .ok (.iload_n 3, 1) := by decide +kernel
theorem dX8_type_38 : decode cX8_type 38 = .ok (.iconst 1, 1) := by decide +kernel
theorem dX8_type_39 : decode cX8_type 39 = .ok (.isub, 1) := by decide +kernel
theorem dX8_type_40 : decode cX8_type 40 = .ok (.istore 4, 2) := by decide +kernel
theorem dX8_type_42 : decode cX8_type 42 = .ok (.iload 4, 2) := by decide +kernel
theorem dX8_type_44 : decode cX8_type 44 = .ok (.ifCond .lt 49, 3) := by decide +kernel
theorem dX8_type_47 : decode cX8_type 47 = .ok (.aload_n 0, 1) := by decide +kernel
theorem dX8_type_48 : decode cX8_type 48 = .ok (.getfield 12, 3) := by decide +kernel
theorem dX8_type_51 : decode cX8_type 51 = .ok (.getfield 133, 3) := by decide +kernel
theorem dX8_type_54 : decode cX8_type 54 = .ok (.aload_n 0, 1) := by decide +kernel
theorem dX8_type_55 : decode cX8_type 55 = .ok (.getfield 12, 3) := by decide +kernel
theorem dX8_type_58 : decode cX8_type 58 = .ok (.getfield 130, 3) := by decide +kernel
theorem dX8_type_61 : decode cX8_type 61 = .ok (.lload_n 1, 1) := by decide +kernel
theorem dX8_type_62 : decode cX8_type 62 = .ok (.bipush 8, 2) := by decide +kernel
theorem dX8_type_64 : decode cX8_type 64 = .ok (.iload 4, 2) := by decide +kernel
theorem dX8_type_66 : decode cX8_type 66 = .ok (.imul, 1) := by decide +kernel
theorem dX8_type_67 : decode cX8_type 67 = .ok (.lushr, 1) := by decide +kernel
theorem dX8_type_68 : decode cX8_type 68 = .ok (.l2i, 1) := by decide +kernel
theorem dX8_type_69 : decode cX8_type 69 = .ok (.sipush 255, 3) := by decide +kernel
theorem dX8_type_72 : decode cX8_type 72 = .ok (.iand, 1) := by decide +kernel
theorem dX8_type_73 : decode cX8_type 73 = .ok (.iastore, 1) := by decide +kernel
theorem dX8_type_74 : decode cX8_type 74 = .ok (.aload_n 0, 1) := by decide +kernel
theorem dX8_type_75 : decode cX8_type 75 = .ok (.getfield 12, 3) := by decide +kernel
theorem dX8_type_78 : decode cX8_type 78 = .ok (.dup, 1) := by decide +kernel
theorem dX8_type_79 : decode cX8_type 79 = .ok (.getfield 130, 3) := by decide +kernel
theorem dX8_type_82 : decode cX8_type 82 = .ok (.iconst 1, 1) := by decide +kernel
theorem dX8_type_83 : decode cX8_type 83 = .ok (.iadd, 1) := by decide +kernel
theorem dX8_type_84 : decode cX8_type 84 = .ok (.putfield 130, 3) := by decide +kernel
theorem dX8_type_87 : decode cX8_type 87 = .ok (.iinc 4 (-1), 3) := by decide +kernel
theorem dX8_type_90 : decode cX8_type 90 = .ok (.goto (-48), 3) := by decide +kernel
theorem dX8_type_93 : decode cX8_type 93 = .ok (.aload_n 0, 1) := by decide +kernel
theorem dX8_type_94 : decode cX8_type 94 = .ok (.getfield 23, 3) := by decide +kernel
theorem dX8_type_97 : decode cX8_type 97 = .ok (.aload_n 0, 1) := by decide +kernel
theorem dX8_type_98 : decode cX8_type 98 = .ok (.getfield 12, 3) := by decide +kernel
theorem dX8_type_101 : decode cX8_type 101 = .ok (.getfield 133, 3) := by decide +kernel
theorem dX8_type_104 : decode cX8_type 104 = .ok (.aload_n 0, 1) := by decide +kernel
theorem dX8_type_105 : decode cX8_type 105 = .ok (.getfield 12, 3) := by decide +kernel
theorem dX8_type_108 : decode cX8_type 108 = .ok (.getfield 130, 3) := by decide +kernel
theorem dX8_type_111 : decode cX8_type 111 = .ok (.invokevirtual 136, 3) := by decide +kernel
theorem dX8_type_114 : decode cX8_type 114 = .ok (.aload_n 0, 1) := by decide +kernel
theorem dX8_type_115 : decode cX8_type 115 = .ok (.getfield 12, 3) := by decide +kernel
theorem dX8_type_118 : decode cX8_type 118 = .ok (.getfield 130, 3) := by decide +kernel
theorem dX8_type_121 : decode cX8_type 121 = .ok (.ireturn, 1) := by decide +kernel
theorem dX8_clear_0 : decode cX8_clear 0 = .ok (.aload_n 0, 1) := by decide +kernel
theorem dX8_clear_1 : decode cX8_clear 1 = .ok (.getfield 12, 3) := by decide +kernel
theorem dX8_clear_4 : decode cX8_clear 4 = .ok (.getfield 130, 3) := by decide +kernel
theorem dX8_clear_7 : decode cX8_clear 7 = .ok (.istore_n 1, 1) := by decide +kernel
theorem dX8_clear_8 : decode cX8_clear 8 = .ok (.aload_n 0, 1) := by decide +kernel
theorem dX8_clear_9 : decode cX8_clear 9 = .ok (.getfield 12, 3) := by decide +kernel
theorem dX8_clear_12 : decode cX8_clear 12 = .ok (.iconst 0, 1) := by decide +kernel
theorem dX8_clear_13 : decode cX8_clear 13 = .ok (.putfield 130, 3) := by decide +kernel
theorem dX8_clear_16 : decode cX8_clear 16 = .ok (.aload_n 0, 1) := by decide +kernel
theorem dX8_clear_17 : decode cX8_clear 17 = .ok (.getfield 23, 3) := by decide +kernel
theorem dX8_clear_20 : decode cX8_clear 20 = .ok (.aload_n 0, 1) := by decide +kernel
theorem dX8_clear_21 : decode cX8_clear 21 = .ok (.getfield 12, 3) := by decide +kernel
theorem dX8_clear_24 : decode cX8_clear 24 = .ok (.getfield 133, 3) := by decide +kernel
theorem dX8_clear_27 : decode cX8_clear 27 = .ok (.aload_n 0, 1) := by decide +kernel
theorem dX8_clear_28 : decode cX8_clear 28 = .ok (.getfield 12, 3) := by decide +kernel
theorem dX8_clear_31 : decode cX8_clear 31 = .ok (.getfield 130, 3) := by decide +kernel
theorem dX8_clear_34 : decode cX8_clear 34 = .ok (.invokevirtual 136, 3) := by decide +kernel
theorem dX8_clear_37 : decode cX8_clear 37 = .ok (.iload_n 1, 1) := by decide +kernel
theorem dX8_clear_38 : decode cX8_clear 38 = .ok (.ireturn, 1) := by decide +kernel
theorem dX8_fault_0 : decode cX8_fault 0 = .ok (.aload_n 0, 1) := by decide +kernel
theorem dX8_fault_1 : decode cX8_fault 1 = .ok (.getfield 23, 3) := by decide +kernel
theorem dX8_fault_4 : decode cX8_fault 4 = .ok (.getfield 140, 3) := by decide +kernel
theorem dX8_fault_7 : decode cX8_fault 7 = .ok (.ireturn, 1) := by decide +kernel
theorem dX8_item_0 : decode cX8_item 0 = .ok (.iload_n 1, 1) := by decide +kernel
theorem dX8_item_1 : decode cX8_item 1 = .ok (.iconst 0, 1) := by decide +kernel
theorem dX8_item_2 : decode cX8_item 2 = .ok (.bipush 8, 2) := by decide +kernel
theorem dX8_item_4 : decode cX8_item 4 = .ok (.invokestatic 78, 3) := by decide +kernel
theorem dX8_item_7 : decode cX8_item 7 = .ok (.ifCond .eq 12, 3) := by decide +kernel
theorem dX8_item_10 : decode cX8_item 10 = .ok (.iload_n 2, 1) := by decide +kernel
theorem dX8_item_11 : decode cX8_item 11 = .ok (.iconst 0, 1) := by decide +kernel
theorem dX8_item_12 : decode cX8_item 12 = .ok (.iconst 3, 1) := by decide +kernel
theorem dX8_item_13 : decode cX8_item 13 = .ok (.invokestatic 78, 3) := by decide +kernel
theorem dX8_item_16 : decode cX8_item 16 = .ok (.ifCond .ne 10, 3) := by decide +kernel
theorem dX8_item_19 : decode cX8_item 19 = .ok (.aload_n 0, 1) := by decide +kernel
theorem dX8_item_20 : decode cX8_item 20 = .ok (.bipush (-2), 2) := by decide +kernel
theorem dX8_item_22 : decode cX8_item 22 = .ok (.invokevirtual 82, 3) := by decide +kernel
theorem dX8_item_25 : decode cX8_item 25 = .ok (.ireturn, 1) := by decide +kernel
theorem dX8_item_26 : decode cX8_item 26 = .ok (.aload_n 0, 1) := by decide +kernel
theorem dX8_item_27 : decode cX8_item 27 = .ok (.invokevirtual 143, 3) := by decide +kernel
theorem dX8_item_30 : decode cX8_item 30 = .ok (.ifCond .eq 10, 3) := by decide +kernel
theorem dX8_item_33 : decode cX8_item 33 = .ok (.aload_n 0, 1) := by decide +kernel
theorem dX8_item_34 : decode cX8_item 34 = .ok (.bipush (-3), 2) := by decide +kernel
theorem dX8_item_36 : decode cX8_item 36 = .ok (.invokevirtual 147, 3) := by decide +kernel
theorem dX8_item_39 : decode cX8_item 39 = .ok (.ireturn, 1) := by decide +kernel
theorem dX8_item_40 : decode cX8_item 40 = .ok (.iload_n 1, 1) := by decide +kernel
theorem dX8_item_41 : decode cX8_item 41 = .ok (.aload_n 0, 1) := by decide +kernel
theorem dX8_item_42 : decode cX8_item 42 = .ok (.getfield 23, 3) := by decide +kernel
theorem dX8_item_45 : decode cX8_item 45 = .ok (.getfield 150, 3) := by decide +kernel
theorem dX8_item_48 : decode cX8_item 48 = .ok (.if_icmp .lt 10, 3) := by decide +kernel
theorem dX8_item_51 : decode cX8_item 51 = .ok (.aload_n 0, 1) := by decide +kernel
theorem dX8_item_52 : decode cX8_item 52 = .ok (.bipush (-2), 2) := by decide +kernel
theorem dX8_item_54 : decode cX8_item 54 = .ok (.invokevirtual 82, 3) := by decide +kernel
theorem dX8_item_57 : decode cX8_item 57 = .ok (.ireturn, 1) := by decide +kernel
theorem dX8_item_58 : decode cX8_item 58 = .ok (.iload_n 2, 1) := by decide +kernel
theorem dX8_item_59 : decode cX8_item 59 = .ok (.tableswitch 57 0 2 #[25, 35, 47], 25) := by decide +kernel
theorem dX8_item_84 : decode cX8_item 84 = .ok (.aload_n 0, 1) := by decide +kernel
theorem dX8_item_85 : decode cX8_item 85 = .ok (.getfield 23, 3) := by decide +kernel
theorem dX8_item_88 : decode cX8_item 88 = .ok (.getfield 151, 3) := by decide +kernel
theorem dX8_item_91 : decode cX8_item 91 = .ok (.iload_n 1, 1) := by decide +kernel
theorem dX8_item_92 : decode cX8_item 92 = .ok (.iaload, 1) := by decide +kernel
theorem dX8_item_93 : decode cX8_item 93 = .ok (.ireturn, 1) := by decide +kernel
theorem dX8_item_94 : decode cX8_item 94 = .ok (.aload_n 0, 1) := by decide +kernel
theorem dX8_item_95 : decode cX8_item 95 = .ok (.getfield 23, 3) := by decide +kernel
theorem dX8_item_98 : decode cX8_item 98 = .ok (.getfield 154, 3) := by decide +kernel
theorem dX8_item_101 : decode cX8_item 101 = .ok (.iload_n 1, 1) := by decide +kernel
theorem dX8_item_102 : decode cX8_item 102 = .ok (.ishr, 1) := by decide +kernel
theorem dX8_item_103 : decode cX8_item 103 = .ok (.iconst 1, 1) := by decide +kernel
theorem dX8_item_104 : decode cX8_item 104 = .ok (.iand, 1) := by decide +kernel
theorem dX8_item_105 : decode cX8_item 105 = .ok (.ireturn, 1) := by decide +kernel
theorem dX8_item_106 : decode cX8_item 106 = .ok (.aload_n 0, 1) := by decide +kernel
theorem dX8_item_107 : decode cX8_item 107 = .ok (.getfield 23, 3) := by decide +kernel
theorem dX8_item_110 : decode cX8_item 110 = .ok (.getfield 157, 3) := by decide +kernel
theorem dX8_item_113 : decode cX8_item 113 = .ok (.iload_n 1, 1) := by decide +kernel
theorem dX8_item_114 : decode cX8_item 114 = .ok (.iaload, 1) := by decide +kernel
theorem dX8_item_115 : decode cX8_item 115 = .ok (.ireturn, 1) := by decide +kernel
theorem dX8_item_116 : decode cX8_item 116 = .ok (.aload_n 0, 1) := by decide +kernel
theorem dX8_item_117 : decode cX8_item 117 = .ok (.getfield 23, 3) := by decide +kernel
theorem dX8_item_120 : decode cX8_item 120 = .ok (.getfield 160, 3) := by decide +kernel
theorem dX8_item_123 : decode cX8_item 123 = .ok (.iload_n 1, 1) := by decide +kernel
theorem dX8_item_124 : decode cX8_item 124 = .ok (.iaload, 1) := by decide +kernel
theorem dX8_item_125 : decode cX8_item 125 = .ok (.ireturn, 1) := by decide +kernel
theorem dX8_talk_0 : decode cX8_talk 0 = .ok (.aload_n 0, 1) := by decide +kernel
theorem dX8_talk_1 : decode cX8_talk 1 = .ok (.getfield 12, 3) := by decide +kernel
theorem dX8_talk_4 : decode cX8_talk 4 = .ok (.getfield 86, 3) := by decide +kernel
theorem dX8_talk_7 : decode cX8_talk 7 = .ok (.iload_n 1, 1) := by decide +kernel
theorem dX8_talk_8 : decode cX8_talk 8 = .ok (.iload_n 2, 1) := by decide +kernel
theorem dX8_talk_9 : decode cX8_talk 9 = .ok (.invokevirtual 116, 3) := by decide +kernel
theorem dX8_talk_12 : decode cX8_talk 12 = .ok (.ifCond .eq 12, 3) := by decide +kernel
theorem dX8_talk_15 : decode cX8_talk 15 = .ok (.iload_n 3, 1) := by decide +kernel
theorem dX8_talk_16 : decode cX8_talk 16 = .ok (.iconst 0, 1) := by decide +kernel
theorem dX8_talk_17 : decode cX8_talk 17 = .ok (.iconst 2, 1) := by decide +kernel
theorem dX8_talk_18 : decode cX8_talk 18 = .ok (.invokestatic 78, 3) := by decide +kernel
theorem dX8_talk_21 : decode cX8_talk 21 = .ok (.ifCond .ne 10, 3) := by decide +kernel
theorem dX8_talk_24 : decode cX8_talk 24 = .ok (.aload_n 0, 1) := by decide +kernel
theorem dX8_talk_25 : decode cX8_talk 25 = .ok (.bipush (-2), 2) := by decide +kernel
theorem dX8_talk_27 : decode cX8_talk 27 = .ok (.invokevirtual 82, 3) := by decide +kernel
theorem dX8_talk_30 : decode cX8_talk 30 = .ok (.ireturn, 1) := by decide +kernel
theorem dX8_talk_31 : decode cX8_talk 31 = .ok (.aload_n 0, 1) := by decide +kernel
theorem dX8_talk_32 : decode cX8_talk 32 = .ok (.invokevirtual 143, 3) := by decide +kernel
theorem dX8_talk_35 : decode cX8_talk 35 = .ok (.ifCond .eq 10, 3) := by decide +kernel
theorem dX8_talk_38 : decode cX8_talk 38 = .ok (.aload_n 0, 1) := by decide +kernel
theorem dX8_talk_39 : decode cX8_talk 39 = .ok (.bipush (-3), 2) := by decide +kernel
theorem dX8_talk_41 : decode cX8_talk 41 = .ok (.invokevirtual 147, 3) := by decide +kernel
theorem dX8_talk_44 : decode cX8_talk 44 = .ok (.ireturn, 1) := by decide +kernel
theorem dX8_talk_45 : decode cX8_talk 45 = .ok (.aload_n 0, 1) := by decide +kernel
theorem dX8_talk_46 : decode cX8_talk 46 = .ok (.getfield 33, 3) := by decide +kernel
theorem dX8_talk_49 : decode cX8_talk 49 = .ok (.aload_n 0, 1) := by decide +kernel
theorem dX8_talk_50 : decode cX8_talk 50 = .ok (.getfield 23, 3) := by decide +kernel
theorem dX8_talk_53 : decode cX8_talk 53 = .ok (.aload_n 0, 1) := by decide +kernel
theorem dX8_talk_54 : decode cX8_talk 54 = .ok (.getfield 12, 3) := by decide +kernel
theorem dX8_talk_57 : decode cX8_talk 57 = .ok (.getfield 86, 3) := by decide +kernel
theorem dX8_talk_60 : decode cX8_talk 60 = .ok (.aload_n 0, 1) := by decide +kernel
theorem dX8_talk_61 : decode cX8_talk 61 = .ok (.getfield 12, 3) := by decide +kernel
theorem dX8_talk_64 : decode cX8_talk 64 = .ok (.getfield 120, 3) := by decide +kernel
theorem dX8_talk_67 : decode cX8_talk 67 = .ok (.iload_n 1, 1) := by decide +kernel
theorem dX8_talk_68 : decode cX8_talk 68 = .ok (.iload_n 2, 1) := by decide +kernel
theorem dX8_talk_69 : decode cX8_talk 69 = .ok (.invokevirtual 163, 3) := by decide +kernel
theorem dX8_talk_72 : decode cX8_talk 72 = .ok (.iload_n 3, 1) := by decide +kernel
theorem dX8_talk_73 : decode cX8_talk 73 = .ok (.ifCond .ne 11, 3) := by decide +kernel
theorem dX8_talk_76 : decode cX8_talk 76 = .ok (.aload_n 0, 1) := by decide +kernel
theorem dX8_talk_77 : decode cX8_talk 77 = .ok (.getfield 33, 3) := by decide +kernel
theorem dX8_talk_80 : decode cX8_talk 80 = .ok (.getfield 167, 3) := by decide +kernel
theorem dX8_talk_83 : decode cX8_talk 83 = .ok (.ireturn, 1) := by decide +kernel
theorem dX8_talk_84 : decode cX8_talk 84 = .ok (.iload_n 3, 1) := by decide +kernel
theorem dX8_talk_85 : decode cX8_talk 85 = .ok (.iconst 1, 1) := by decide +kernel
theorem dX8_talk_86 : decode cX8_talk 86 = .ok (.if_icmp .ne 13, 3) := by decide +kernel
theorem dX8_talk_89 : decode cX8_talk 89 = .ok (.aload_n 0, 1) := by decide +kernel
theorem dX8_talk_90 : decode cX8_talk 90 = .ok (.getfield 33, 3) := by decide +kernel
theorem dX8_talk_93 : decode cX8_talk 93 = .ok (.getfield 170, 3) := by decide +kernel
theorem dX8_talk_96 : decode cX8_talk 96 = .ok (.goto 10, 3) := by decide +kernel
theorem dX8_talk_99 : decode cX8_talk 99 = .ok (.aload_n 0, 1) := by decide +kernel
theorem dX8_talk_100 : decode cX8_talk 100 = .ok (.getfield 33, 3) := by decide +kernel
theorem dX8_talk_103 : decode cX8_talk 103 = .ok (.getfield 173, 3) := by decide +kernel
theorem dX8_talk_106 : decode cX8_talk 106 = .ok (.ireturn, 1) := by decide +kernel
theorem dX8_meet_0 : decode cX8_meet 0 = .ok (.aload_n 0, 1) := by decide +kernel
theorem dX8_meet_1 : decode cX8_meet 1 = .ok (.getfield 12, 3) := by decide +kernel
theorem dX8_meet_4 : decode cX8_meet 4 = .ok (.getfield 86, 3) := by decide +kernel
theorem dX8_meet_7 : decode cX8_meet 7 = .ok (.iload_n 1, 1) := by decide +kernel
theorem dX8_meet_8 : decode cX8_meet 8 = .ok (.iload_n 2, 1) := by decide +kernel
theorem dX8_meet_9 : decode cX8_meet 9 = .ok (.invokevirtual 116, 3) := by decide +kernel
theorem dX8_meet_12 : decode cX8_meet 12 = .ok (.ifCond .ne 10, 3) := by decide +kernel
theorem dX8_meet_15 : decode cX8_meet 15 = .ok (.aload_n 0, 1) := by decide +kernel
theorem dX8_meet_16 : decode cX8_meet 16 = .ok (.bipush (-2), 2) := by decide +kernel
theorem dX8_meet_18 : decode cX8_meet 18 = .ok (.invokevirtual 82, 3) := by decide +kernel
theorem dX8_meet_21 : decode cX8_meet 21 = .ok (.ireturn, 1) := by decide +kernel
theorem dX8_meet_22 : decode cX8_meet 22 = .ok (.aload_n 0, 1) := by decide +kernel
theorem dX8_meet_23 : decode cX8_meet 23 = .ok (.invokevirtual 143, 3) := by decide +kernel
theorem dX8_meet_26 : decode cX8_meet 26 = .ok (.ifCond .eq 10, 3) := by decide +kernel
theorem dX8_meet_29 : decode cX8_meet 29 = .ok (.aload_n 0, 1) := by decide +kernel
theorem dX8_meet_30 : decode cX8_meet 30 = .ok (.bipush (-3), 2) := by decide +kernel
theorem dX8_meet_32 : decode cX8_meet 32 = .ok (.invokevirtual 147, 3) := by decide +kernel
theorem dX8_meet_35 : decode cX8_meet 35 = .ok (.ireturn, 1) := by decide +kernel
theorem dX8_meet_36 : decode cX8_meet 36 = .ok (.aload_n 0, 1) := by decide +kernel
theorem dX8_meet_37 : decode cX8_meet 37 = .ok (.getfield 33, 3) := by decide +kernel
theorem dX8_meet_40 : decode cX8_meet 40 = .ok (.aload_n 0, 1) := by decide +kernel
theorem dX8_meet_41 : decode cX8_meet 41 = .ok (.getfield 23, 3) := by decide +kernel
theorem dX8_meet_44 : decode cX8_meet 44 = .ok (.aload_n 0, 1) := by decide +kernel
theorem dX8_meet_45 : decode cX8_meet 45 = .ok (.getfield 12, 3) := by decide +kernel
theorem dX8_meet_48 : decode cX8_meet 48 = .ok (.getfield 86, 3) := by decide +kernel
theorem dX8_meet_51 : decode cX8_meet 51 = .ok (.aload_n 0, 1) := by decide +kernel
theorem dX8_meet_52 : decode cX8_meet 52 = .ok (.getfield 12, 3) := by decide +kernel
theorem dX8_meet_55 : decode cX8_meet 55 = .ok (.getfield 120, 3) := by decide +kernel
theorem dX8_meet_58 : decode cX8_meet 58 = .ok (.iload_n 1, 1) := by decide +kernel
theorem dX8_meet_59 : decode cX8_meet 59 = .ok (.iload_n 2, 1) := by decide +kernel
theorem dX8_meet_60 : decode cX8_meet 60 = .ok (.invokevirtual 163, 3) := by decide +kernel
theorem dX8_meet_63 : decode cX8_meet 63 = .ok (.aload_n 0, 1) := by decide +kernel
theorem dX8_meet_64 : decode cX8_meet 64 = .ok (.getfield 33, 3) := by decide +kernel
theorem dX8_meet_67 : decode cX8_meet 67 = .ok (.getfield 167, 3) := by decide +kernel
theorem dX8_meet_70 : decode cX8_meet 70 = .ok (.iconst (-1), 1) := by decide +kernel
theorem dX8_meet_71 : decode cX8_meet 71 = .ok (.if_icmp .eq 36, 3) := by decide +kernel
theorem dX8_meet_74 : decode cX8_meet 74 = .ok (.aload_n 0, 1) := by decide +kernel
theorem dX8_meet_75 : decode cX8_meet 75 = .ok (.getfield 12, 3) := by decide +kernel
theorem dX8_meet_78 : decode cX8_meet 78 = .ok (.getfield 120, 3) := by decide +kernel
theorem dX8_meet_81 : decode cX8_meet 81 = .ok (.aload_n 0, 1) := by decide +kernel
theorem dX8_meet_82 : decode cX8_meet 82 = .ok (.getfield 33, 3) := by decide +kernel
theorem dX8_meet_85 : decode cX8_meet 85 = .ok (.getfield 167, 3) := by decide +kernel
theorem dX8_meet_88 : decode cX8_meet 88 = .ok (.aload_n 0, 1) := by decide +kernel
theorem dX8_meet_89 : decode cX8_meet 89 = .ok (.getfield 33, 3) := by decide +kernel
theorem dX8_meet_92 : decode cX8_meet 92 = .ok (.getfield 167, 3) := by decide +kernel
theorem dX8_meet_95 : decode cX8_meet 95 = .ok (.iload_n 1, 1) := by decide +kernel
theorem dX8_meet_96 : decode cX8_meet 96 = .ok (.if_icmp .ne 7, 3) := by decide +kernel
theorem dX8_meet_99 : decode cX8_meet 99 = .ok (.iload_n 2, 1) := by decide +kernel
theorem dX8_meet_100 : decode cX8_meet 100 = .ok (.goto 4, 3) := by decide +kernel
theorem dX8_meet_103 : decode cX8_meet 103 = .ok (.iload_n 1, 1) := by decide +kernel
theorem dX8_meet_104 : decode cX8_meet 104 = .ok (.invokevirtual 176, 3) := by decide +kernel
theorem dX8_meet_107 : decode cX8_meet 107 = .ok (.aload_n 0, 1) := by decide +kernel
theorem dX8_meet_108 : decode cX8_meet 108 = .ok (.getfield 33, 3) := by decide +kernel
theorem dX8_meet_111 : decode cX8_meet 111 = .ok (.getfield 167, 3) := by decide +kernel
theorem dX8_meet_114 : decode cX8_meet 114 = .ok (.ireturn, 1) := by decide +kernel
theorem dX8_come_0 : decode cX8_come 0 = .ok (.aload_n 0, 1) := by decide +kernel
theorem dX8_come_1 : decode cX8_come 1 = .ok (.getfield 12, 3) := by decide +kernel
theorem dX8_come_4 : decode cX8_come 4 = .ok (.getfield 86, 3) := by decide +kernel
theorem dX8_come_7 : decode cX8_come 7 = .ok (.iload_n 1, 1) := by decide +kernel
theorem dX8_come_8 : decode cX8_come 8 = .ok (.invokevirtual 103, 3) := by decide +kernel
theorem dX8_come_11 : decode cX8_come 11 = .ok (.ifCond .eq 14, 3) := by decide +kernel
theorem dX8_come_14 : decode cX8_come 14 = .ok (.aload_n 0, 1) := by decide +kernel
theorem dX8_come_15 : decode cX8_come 15 = .ok (.getfield 12, 3) := by decide +kernel
theorem dX8_come_18 : decode cX8_come 18 = .ok (.iload_n 1, 1) := by decide +kernel
theorem dX8_come_19 : decode cX8_come 19 = .ok (.invokevirtual 180, 3) := by decide +kernel
theorem dX8_come_22 : decode cX8_come 22 = .ok (.ifCond .eq 10, 3) := by decide +kernel
theorem dX8_come_25 : decode cX8_come 25 = .ok (.aload_n 0, 1) := by decide +kernel
theorem dX8_come_26 : decode cX8_come 26 = .ok (.bipush (-2), 2) := by decide +kernel
theorem dX8_come_28 : decode cX8_come 28 = .ok (.invokevirtual 82, 3) := by decide +kernel
theorem dX8_come_31 : decode cX8_come 31 = .ok (.ireturn, 1) := by decide +kernel
theorem dX8_come_32 : decode cX8_come 32 = .ok (.aload_n 0, 1) := by decide +kernel
theorem dX8_come_33 : decode cX8_come 33 = .ok (.getfield 12, 3) := by decide +kernel
theorem dX8_come_36 : decode cX8_come 36 = .ok (.getfield 183, 3) := by decide +kernel
theorem dX8_come_39 : decode cX8_come 39 = .ok (.aload_n 0, 1) := by decide +kernel
theorem dX8_come_40 : decode cX8_come 40 = .ok (.getfield 12, 3) := by decide +kernel
theorem dX8_come_43 : decode cX8_come 43 = .ok (.getfield 186, 3) := by decide +kernel
theorem dX8_come_46 : decode cX8_come 46 = .ok (.iload_n 1, 1) := by decide +kernel
theorem dX8_come_47 : decode cX8_come 47 = .ok (.iastore, 1) := by decide +kernel
theorem dX8_come_48 : decode cX8_come 48 = .ok (.aload_n 0, 1) := by decide +kernel
theorem dX8_come_49 : decode cX8_come 49 = .ok (.getfield 12, 3) := by decide +kernel
theorem dX8_come_52 : decode cX8_come 52 = .ok (.dup, 1) := by decide +kernel
theorem dX8_come_53 : decode cX8_come 53 = .ok (.getfield 186, 3) := by decide +kernel
theorem dX8_come_56 : decode cX8_come 56 = .ok (.iconst 1, 1) := by decide +kernel
theorem dX8_come_57 : decode cX8_come 57 = .ok (.iadd, 1) := by decide +kernel
theorem dX8_come_58 : decode cX8_come 58 = .ok (.putfield 186, 3) := by decide +kernel
theorem dX8_come_61 : decode cX8_come 61 = .ok (.aload_n 0, 1) := by decide +kernel
theorem dX8_come_62 : decode cX8_come 62 = .ok (.getfield 12, 3) := by decide +kernel
theorem dX8_come_65 : decode cX8_come 65 = .ok (.getfield 186, 3) := by decide +kernel
theorem dX8_come_68 : decode cX8_come 68 = .ok (.ireturn, 1) := by decide +kernel
theorem dX8_disperse_0 : decode cX8_disperse 0 = .ok (.aload_n 0, 1) := by decide +kernel
theorem dX8_disperse_1 : decode cX8_disperse 1 = .ok (.getfield 12, 3) := by decide +kernel
theorem dX8_disperse_4 : decode cX8_disperse 4 = .ok (.getfield 186, 3) := by decide +kernel
theorem dX8_disperse_7 : decode cX8_disperse 7 = .ok (.istore_n 1, 1) := by decide +kernel
theorem dX8_disperse_8 : decode cX8_disperse 8 = .ok (.aload_n 0, 1) := by decide +kernel
theorem dX8_disperse_9 : decode cX8_disperse 9 = .ok (.getfield 12, 3) := by decide +kernel
theorem dX8_disperse_12 : decode cX8_disperse 12 = .ok (.iconst 0, 1) := by decide +kernel
theorem dX8_disperse_13 : decode cX8_disperse 13 = .ok (.putfield 186, 3) := by decide +kernel
theorem dX8_disperse_16 : decode cX8_disperse 16 = .ok (.iload_n 1, 1) := by decide +kernel
theorem dX8_disperse_17 : decode cX8_disperse 17 = .ok (.ireturn, 1) := by decide +kernel
theorem dX8_through_0 : decode cX8_through 0 = .ok (.iload_n 1, 1) := by decide +kernel
theorem dX8_through_1 : decode cX8_through 1 = .ok (.iconst (-1), 1) := by decide +kernel
theorem dX8_through_2 : decode cX8_through 2 = .ok (.if_icmp .ge 10, 3) := by decide +kernel
theorem dX8_through_5 : decode cX8_through 5 = .ok (.aload_n 0, 1) := by decide +kernel
theorem dX8_through_6 : decode cX8_through 6 = .ok (.bipush (-10), 2) := by decide +kernel
theorem dX8_through_8 : decode cX8_through 8 = .ok (.invokevirtual 82, 3) := by decide +kernel
theorem dX8_through_11 : decode cX8_through 11 = .ok (.ireturn, 1) := by decide +kernel
theorem dX8_through_12 : decode cX8_through 12 = .ok (.aload_n 0, 1) := by decide +kernel
theorem dX8_through_13 : decode cX8_through 13 = .ok (.invokevirtual 143, 3) := by decide +kernel
theorem dX8_through_16 : decode cX8_through 16 = .ok (.ifCond .eq 10, 3) := by decide +kernel
theorem dX8_through_19 : decode cX8_through 19 = .ok (.aload_n 0, 1) := by decide +kernel
theorem dX8_through_20 : decode cX8_through 20 = .ok (.bipush (-20), 2) := by decide +kernel
theorem dX8_through_22 : decode cX8_through 22 = .ok (.invokevirtual 147, 3) := by decide +kernel
theorem dX8_through_25 : decode cX8_through 25 = .ok (.ireturn, 1) := by decide +kernel
theorem dX8_through_26 : decode cX8_through 26 = .ok (.aload_n 0, 1) := by decide +kernel
theorem dX8_through_27 : decode cX8_through 27 = .ok (.getfield 40, 3) := by decide +kernel
theorem dX8_through_30 : decode cX8_through 30 = .ok (.aload_n 0, 1) := by decide +kernel
theorem dX8_through_31 : decode cX8_through 31 = .ok (.getfield 23, 3) := by decide +kernel
theorem dX8_through_34 : decode cX8_through 34 = .ok (.aload_n 0, 1) := by decide +kernel
theorem dX8_through_35 : decode cX8_through 35 = .ok (.getfield 12, 3) := by decide +kernel
theorem dX8_through_38 : decode cX8_through 38 = .ok (.aload_n 0, 1) := by decide +kernel
theorem dX8_through_39 : decode cX8_through 39 = .ok (.getfield 33, 3) := by decide +kernel
theorem dX8_through_42 : decode cX8_through 42 = .ok (.invokevirtual 189, 3) := by decide +kernel
theorem dX8_through_45 : decode cX8_through 45 = .ok (.aload_n 0, 1) := by decide +kernel
theorem dX8_through_46 : decode cX8_through 46 = .ok (.getfield 40, 3) := by decide +kernel
theorem dX8_through_49 : decode cX8_through 49 = .ok (.aload_n 0, 1) := by decide +kernel
theorem dX8_through_50 : decode cX8_through 50 = .ok (.getfield 12, 3) := by decide +kernel
theorem dX8_through_53 : decode cX8_through 53 = .ok (.getfield 183, 3) := by decide +kernel
theorem dX8_through_56 : decode cX8_through 56 = .ok (.aload_n 0, 1) := by decide +kernel
theorem dX8_through_57 : decode cX8_through 57 = .ok (.getfield 12, 3) := by decide +kernel
theorem dX8_through_60 : decode cX8_through 60 = .ok (.getfield 186, 3) := by decide +kernel
theorem dX8_through_63 : decode cX8_through 63 = .ok (.iconst (-1), 1) := by decide +kernel
theorem dX8_through_64 : decode cX8_through 64 = .ok (.invokevirtual 193, 3) := by decide +kernel
theorem dX8_through_67 : decode cX8_through 67 = .ok (.istore_n 2, 1) := by decide +kernel
theorem dX8_through_68 : decode cX8_through 68 = .ok (.iload_n 2, 1) := by decide +kernel
theorem dX8_through_69 : decode cX8_through 69 = .ok (.iconst (-1), 1) := by decide +kernel
theorem dX8_through_70 : decode cX8_through 70 = .ok (.if_icmp .eq 8, 3) := by decide +kernel
theorem dX8_through_73 : decode cX8_through 73 = .ok (.iload_n 1, 1) := by decide +kernel
theorem dX8_through_74 : decode cX8_through 74 = .ok (.iconst (-1), 1) := by decide +kernel
theorem dX8_through_75 : decode cX8_through 75 = .ok (.if_icmp .ne 5, 3) := by decide +kernel
theorem dX8_through_78 : decode cX8_through 78 = .ok (.iload_n 2, 1) := by decide +kernel
theorem dX8_through_79 : decode cX8_through 79 = .ok (.ireturn, 1) := by decide +kernel
theorem dX8_through_80 : decode cX8_through 80 = .ok (.iload_n 1, 1) := by decide +kernel
theorem dX8_through_81 : decode cX8_through 81 = .ok (.aload_n 0, 1) := by decide +kernel
theorem dX8_through_82 : decode cX8_through 82 = .ok (.getfield 12, 3) := by decide +kernel
theorem dX8_through_85 : decode cX8_through 85 = .ok (.getfield 186, 3) := by decide +kernel
theorem dX8_through_88 : decode cX8_through 88 = .ok (.if_icmp .ge 15, 3) := by decide +kernel
theorem dX8_through_91 : decode cX8_through 91 = .ok (.aload_n 0, 1) := by decide +kernel
theorem dX8_through_92 : decode cX8_through 92 = .ok (.getfield 40, 3) := by decide +kernel
theorem dX8_through_95 : decode cX8_through 95 = .ok (.getfield 197, 3) := by decide +kernel
theorem dX8_through_98 : decode cX8_through 98 = .ok (.iload_n 1, 1) := by decide +kernel
theorem dX8_through_99 : decode cX8_through 99 = .ok (.iaload, 1) := by decide +kernel
theorem dX8_through_100 : decode cX8_through 100 = .ok (.goto 5, 3) := by decide +kernel
theorem dX8_through_103 : decode cX8_through 103 = .ok (.bipush (-5), 2) := by decide +kernel
theorem dX8_through_105 : decode cX8_through 105 = .ok (.ireturn, 1) := by decide +kernel
theorem dX8_soonest_0 : decode cX8_soonest 0 = .ok (.iload_n 1, 1) := by decide +kernel
theorem dX8_soonest_1 : decode cX8_soonest 1 = .ok (.iconst (-1), 1) := by decide +kernel
theorem dX8_soonest_2 : decode cX8_soonest 2 = .ok (.if_icmp .ge 10, 3) := by decide +kernel
theorem dX8_soonest_5 : decode cX8_soonest 5 = .ok (.aload_n 0, 1) := by decide +kernel
theorem dX8_soonest_6 : decode cX8_soonest 6 = .ok (.bipush (-10), 2) := by decide +kernel
theorem dX8_soonest_8 : decode cX8_soonest 8 = .ok (.invokevirtual 82, 3) := by decide +kernel
theorem dX8_soonest_11 : decode cX8_soonest 11 = .ok (.ireturn, 1) := by decide +kernel
theorem dX8_soonest_12 : decode cX8_soonest 12 = .ok (.aload_n 0, 1) := by decide +kernel
theorem dX8_soonest_13 : decode cX8_soonest 13 = .ok (.invokevirtual 143, 3) := by decide +kernel
theorem dX8_soonest_16 : decode cX8_soonest 16 = .ok (.ifCond .ne 15, 3) := by decide +kernel
theorem dX8_soonest_19 : decode cX8_soonest 19 = .ok (.aload_n 0, 1) := by decide +kernel
theorem dX8_soonest_20 : decode cX8_soonest 20 = .ok (.getfield 12, 3) := by decide +kernel
theorem dX8_soonest_23 : decode cX8_soonest 23 = .ok (.getfield 186, 3) := by decide +kernel
theorem dX8_soonest_26 : decode cX8_soonest 26 = .ok (.bipush 6, 2) := by decide +kernel
theorem dX8_soonest_28 : decode cX8_soonest 28 = .ok (.if_icmp .le 10, 3) := by decide +kernel
theorem dX8_soonest_31 : decode cX8_soonest 31 = .ok (.aload_n 0, 1) := by decide +kernel
theorem dX8_soonest_32 : decode cX8_soonest 32 = .ok (.bipush (-20), 2) := by decide +kernel
theorem dX8_soonest_34 : decode cX8_soonest 34 = .ok (.invokevirtual 147, 3) := by decide +kernel
theorem dX8_soonest_37 : decode cX8_soonest 37 = .ok (.ireturn, 1) := by decide +kernel
theorem dX8_soonest_38 : decode cX8_soonest 38 = .ok (.aload_n 0, 1) := by decide +kernel
theorem dX8_soonest_39 : decode cX8_soonest 39 = .ok (.getfield 40, 3) := by decide +kernel
theorem dX8_soonest_42 : decode cX8_soonest 42 = .ok (.aload_n 0, 1) := by decide +kernel
theorem dX8_soonest_43 : decode cX8_soonest 43 = .ok (.getfield 23, 3) := by decide +kernel
theorem dX8_soonest_46 : decode cX8_soonest 46 = .ok (.aload_n 0, 1) := by decide +kernel
theorem dX8_soonest_47 : decode cX8_soonest 47 = .ok (.getfield 12, 3) := by decide +kernel
theorem dX8_soonest_50 : decode cX8_soonest 50 = .ok (.aload_n 0, 1) := by decide +kernel
theorem dX8_soonest_51 : decode cX8_soonest 51 = .ok (.getfield 33, 3) := by decide +kernel
theorem dX8_soonest_54 : decode cX8_soonest 54 = .ok (.invokevirtual 189, 3) := by decide +kernel
theorem dX8_soonest_57 : decode cX8_soonest 57 = .ok (.aload_n 0, 1) := by decide +kernel
theorem dX8_soonest_58 : decode cX8_soonest 58 = .ok (.getfield 40, 3) := by decide +kernel
theorem dX8_soonest_61 : decode cX8_soonest 61 = .ok (.aload_n 0, 1) := by decide +kernel
theorem dX8_soonest_62 : decode cX8_soonest 62 = .ok (.getfield 12, 3) := by decide +kernel
theorem dX8_soonest_65 : decode cX8_soonest 65 = .ok (.invokevirtual 200, 3) := by decide +kernel
theorem dX8_soonest_68 : decode cX8_soonest 68 = .ok (.istore_n 2, 1) := by decide +kernel
theorem dX8_soonest_69 : decode cX8_soonest 69 = .ok (.iload_n 2, 1) := by decide +kernel
theorem dX8_soonest_70 : decode cX8_soonest 70 = .ok (.iconst (-1), 1) := by decide +kernel
theorem dX8_soonest_71 : decode cX8_soonest 71 = .ok (.if_icmp .ne 10, 3) := by decide +kernel
theorem dX8_soonest_74 : decode cX8_soonest 74 = .ok (.aload_n 0, 1) := by decide +kernel
theorem dX8_soonest_75 : decode cX8_soonest 75 = .ok (.bipush (-20), 2) := by decide +kernel
theorem dX8_soonest_77 : decode cX8_soonest 77 = .ok (.invokevirtual 147, 3) := by decide +kernel
theorem dX8_soonest_80 : decode cX8_soonest 80 = .ok (.ireturn, 1) := by decide +kernel
theorem dX8_soonest_81 : decode cX8_soonest 81 = .ok (.iload_n 1, 1) := by decide +kernel
theorem dX8_soonest_82 : decode cX8_soonest 82 = .ok (.iconst (-1), 1) := by decide +kernel
theorem dX8_soonest_83 : decode cX8_soonest 83 = .ok (.if_icmp .ne 5, 3) := by decide +kernel
theorem dX8_soonest_86 : decode cX8_soonest 86 = .ok (.iload_n 2, 1) := by decide +kernel
theorem dX8_soonest_87 : decode cX8_soonest 87 = .ok (.ireturn, 1) := by decide +kernel
theorem dX8_soonest_88 : decode cX8_soonest 88 = .ok (.iload_n 1, 1) := by decide +kernel
theorem dX8_soonest_89 : decode cX8_soonest 89 = .ok (.aload_n 0, 1) := by decide +kernel
theorem dX8_soonest_90 : decode cX8_soonest 90 = .ok (.getfield 12, 3) := by decide +kernel
theorem dX8_soonest_93 : decode cX8_soonest 93 = .ok (.getfield 186, 3) := by decide +kernel
theorem dX8_soonest_96 : decode cX8_soonest 96 = .ok (.if_icmp .ge 15, 3) := by decide +kernel
theorem dX8_soonest_99 : decode cX8_soonest 99 = .ok (.aload_n 0, 1) := by decide +kernel
theorem dX8_soonest_100 : decode cX8_soonest 100 = .ok (.getfield 40, 3) := by decide +kernel
theorem dX8_soonest_103 : decode cX8_soonest 103 = .ok (.getfield 204, 3) := by decide +kernel
theorem dX8_soonest_106 : decode cX8_soonest 106 = .ok (.iload_n 1, 1) := by decide +kernel
theorem dX8_soonest_107 : decode cX8_soonest 107 = .ok (.iaload, 1) := by decide +kernel
theorem dX8_soonest_108 : decode cX8_soonest 108 = .ok (.goto 5, 3) := by decide +kernel
theorem dX8_soonest_111 : decode cX8_soonest 111 = .ok (.bipush (-5), 2) := by decide +kernel
theorem dX8_soonest_113 : decode cX8_soonest 113 = .ok (.ireturn, 1) := by decide +kernel
theorem dX8_avoid_0 : decode cX8_avoid 0 = .ok (.aload_n 0, 1) := by decide +kernel
theorem dX8_avoid_1 : decode cX8_avoid 1 = .ok (.invokevirtual 143, 3) := by decide +kernel
theorem dX8_avoid_4 : decode cX8_avoid 4 = .ok (.ifCond .eq 10, 3) := by decide +kernel
theorem dX8_avoid_7 : decode cX8_avoid 7 = .ok (.aload_n 0, 1) := by decide +kernel
theorem dX8_avoid_8 : decode cX8_avoid 8 = .ok (.bipush (-3), 2) := by decide +kernel
theorem dX8_avoid_10 : decode cX8_avoid 10 = .ok (.invokevirtual 147, 3) := by decide +kernel
theorem dX8_avoid_13 : decode cX8_avoid 13 = .ok (.ireturn, 1) := by decide +kernel
theorem dX8_avoid_14 : decode cX8_avoid 14 = .ok (.aload_n 0, 1) := by decide +kernel
theorem dX8_avoid_15 : decode cX8_avoid 15 = .ok (.getfield 40, 3) := by decide +kernel
theorem dX8_avoid_18 : decode cX8_avoid 18 = .ok (.aload_n 0, 1) := by decide +kernel
theorem dX8_avoid_19 : decode cX8_avoid 19 = .ok (.getfield 23, 3) := by decide +kernel
theorem dX8_avoid_22 : decode cX8_avoid 22 = .ok (.aload_n 0, 1) := by decide +kernel
theorem dX8_avoid_23 : decode cX8_avoid 23 = .ok (.getfield 12, 3) := by decide +kernel
theorem dX8_avoid_26 : decode cX8_avoid 26 = .ok (.aload_n 0, 1) := by decide +kernel
theorem dX8_avoid_27 : decode cX8_avoid 27 = .ok (.getfield 33, 3) := by decide +kernel
theorem dX8_avoid_30 : decode cX8_avoid 30 = .ok (.invokevirtual 189, 3) := by decide +kernel
theorem dX8_avoid_33 : decode cX8_avoid 33 = .ok (.iconst (-1), 1) := by decide +kernel
theorem dX8_avoid_34 : decode cX8_avoid 34 = .ok (.istore_n 1, 1) := by decide +kernel
theorem dX8_avoid_35 : decode cX8_avoid 35 = .ok (.iconst 0, 1) := by decide +kernel
theorem dX8_avoid_36 : decode cX8_avoid 36 = .ok (.istore_n 2, 1) := by decide +kernel
theorem dX8_avoid_37 : decode cX8_avoid 37 = .ok (.iconst 0, 1) := by decide +kernel
theorem dX8_avoid_38 : decode cX8_avoid 38 = .ok (.istore_n 3, 1) := by decide +kernel
theorem dX8_avoid_39 : decode cX8_avoid 39 = .ok (.iload_n 3, 1) := by decide +kernel
theorem dX8_avoid_40 : decode cX8_avoid 40 = .ok (.aload_n 0, 1) := by decide +kernel
theorem dX8_avoid_41 : decode cX8_avoid 41 = .ok (.getfield 12, 3) := by decide +kernel
theorem dX8_avoid_44 : decode cX8_avoid 44 = .ok (.getfield 186, 3) := by decide +kernel
theorem dX8_avoid_47 : decode cX8_avoid 47 = .ok (.if_icmp .ge 76, 3) := by decide +kernel
theorem dX8_avoid_50 : decode cX8_avoid 50 = .ok (.aload_n 0, 1) := by decide +kernel
theorem dX8_avoid_51 : decode cX8_avoid 51 = .ok (.getfield 40, 3) := by decide +kernel
theorem dX8_avoid_54 : decode cX8_avoid 54 = .ok (.aload_n 0, 1) := by decide +kernel
theorem dX8_avoid_55 : decode cX8_avoid 55 = .ok (.getfield 12, 3) := by decide +kernel
theorem dX8_avoid_58 : decode cX8_avoid 58 = .ok (.getfield 183, 3) := by decide +kernel
theorem dX8_avoid_61 : decode cX8_avoid 61 = .ok (.aload_n 0, 1) := by decide +kernel
theorem dX8_avoid_62 : decode cX8_avoid 62 = .ok (.getfield 12, 3) := by decide +kernel
theorem dX8_avoid_65 : decode cX8_avoid 65 = .ok (.getfield 186, 3) := by decide +kernel
theorem dX8_avoid_68 : decode cX8_avoid 68 = .ok (.aload_n 0, 1) := by decide +kernel
theorem dX8_avoid_69 : decode cX8_avoid 69 = .ok (.getfield 12, 3) := by decide +kernel
theorem dX8_avoid_72 : decode cX8_avoid 72 = .ok (.getfield 183, 3) := by decide +kernel
theorem dX8_avoid_75 : decode cX8_avoid 75 = .ok (.iload_n 3, 1) := by decide +kernel
theorem dX8_avoid_76 : decode cX8_avoid 76 = .ok (.iaload, 1) := by decide +kernel
theorem dX8_avoid_77 : decode cX8_avoid 77 = .ok (.invokevirtual 193, 3) := by decide +kernel
theorem dX8_avoid_80 : decode cX8_avoid 80 = .ok (.istore 4, 2) := by decide +kernel
theorem dX8_avoid_82 : decode cX8_avoid 82 = .ok (.iload 4, 2) := by decide +kernel
theorem dX8_avoid_84 : decode cX8_avoid 84 = .ok (.iconst (-1), 1) := by decide +kernel
theorem dX8_avoid_85 : decode cX8_avoid 85 = .ok (.if_icmp .ne 8, 3) := by decide +kernel
theorem dX8_avoid_88 : decode cX8_avoid 88 = .ok (.sipush 999, 3) := by decide +kernel
theorem dX8_avoid_91 : decode cX8_avoid 91 = .ok (.istore 4, 2) := by decide +kernel
theorem dX8_avoid_93 : decode cX8_avoid 93 = .ok (.iload_n 1, 1) := by decide +kernel
theorem dX8_avoid_94 : decode cX8_avoid 94 = .ok (.iconst (-1), 1) := by decide +kernel
theorem dX8_avoid_95 : decode cX8_avoid 95 = .ok (.if_icmp .eq 9, 3) := by decide +kernel
theorem dX8_avoid_98 : decode cX8_avoid 98 = .ok (.iload 4, 2) := by decide +kernel
theorem dX8_avoid_100 : decode cX8_avoid 100 = .ok (.iload_n 2, 1) := by decide +kernel
theorem dX8_avoid_101 : decode cX8_avoid 101 = .ok (.if_icmp .ge 16, 3) := by decide +kernel
theorem dX8_avoid_104 : decode cX8_avoid 104 = .ok (.aload_n 0, 1) := by decide +kernel
theorem dX8_avoid_105 : decode cX8_avoid 105 = .ok (.getfield 12, 3) := by decide +kernel
theorem dX8_avoid_108 : decode cX8_avoid 108 = .ok (.getfield 183, 3) := by decide +kernel
theorem dX8_avoid_111 : decode cX8_avoid 111 = .ok (.iload_n 3, 1) := by decide +kernel
theorem dX8_avoid_112 : decode cX8_avoid 112 = .ok (.iaload, 1) := by decide +kernel
theorem dX8_avoid_113 : decode cX8_avoid 113 = .ok (.istore_n 1, 1) := by decide +kernel
theorem dX8_avoid_114 : decode cX8_avoid 114 = .ok (.iload 4, 2) := by decide +kernel
theorem dX8_avoid_116 : decode cX8_avoid 116 = .ok (.istore_n 2, 1) := by decide +kernel
theorem dX8_avoid_117 : decode cX8_avoid 117 = .ok (.iinc 3 1, 3) := by decide +kernel
theorem dX8_avoid_120 : decode cX8_avoid 120 = .ok (.goto (-81), 3) := by decide +kernel
theorem dX8_avoid_123 : decode cX8_avoid 123 = .ok (.iload_n 1, 1) := by decide +kernel
theorem dX8_avoid_124 : decode cX8_avoid 124 = .ok (.ireturn, 1) := by decide +kernel
theorem dX8_waits_0 : decode cX8_waits 0 = .ok (.iload_n 1, 1) := by decide +kernel
theorem dX8_waits_1 : decode cX8_waits 1 = .ok (.invokestatic 207, 3) := by decide +kernel
theorem dX8_waits_4 : decode cX8_waits 4 = .ok (.ifCond .eq 22, 3) := by decide +kernel
theorem dX8_waits_7 : decode cX8_waits 7 = .ok (.iload_n 2, 1) := by decide +kernel
theorem dX8_waits_8 : decode cX8_waits 8 = .ok (.iconst (-1), 1) := by decide +kernel
theorem dX8_waits_9 : decode cX8_waits 9 = .ok (.if_icmp .eq 24, 3) := by decide +kernel
theorem dX8_waits_12 : decode cX8_waits 12 = .ok (.aload_n 0, 1) := by decide +kernel
theorem dX8_waits_13 : decode cX8_waits 13 = .ok (.getfield 12, 3) := by decide +kernel
theorem dX8_waits_16 : decode cX8_waits 16 = .ok (.getfield 86, 3) := by decide +kernel
theorem dX8_waits_19 : decode cX8_waits 19 = .ok (.iload_n 2, 1) := by decide +kernel
theorem dX8_waits_20 : decode cX8_waits 20 = .ok (.invokevirtual 103, 3) := by decide +kernel
theorem dX8_waits_23 : decode cX8_waits 23 = .ok (.ifCond .ne 10, 3) := by decide +kernel
theorem dX8_waits_26 : decode cX8_waits 26 = .ok (.aload_n 0, 1) := by decide +kernel
theorem dX8_waits_27 : decode cX8_waits 27 = .ok (.bipush (-10), 2) := by decide +kernel
theorem dX8_waits_29 : decode cX8_waits 29 = .ok (.invokevirtual 82, 3) := by decide +kernel
theorem dX8_waits_32 : decode cX8_waits 32 = .ok (.ireturn, 1) := by decide +kernel
theorem dX8_waits_33 : decode cX8_waits 33 = .ok (.aload_n 0, 1) := by decide +kernel
theorem dX8_waits_34 : decode cX8_waits 34 = .ok (.getfield 12, 3) := by decide +kernel
theorem dX8_waits_37 : decode cX8_waits 37 = .ok (.getfield 210, 3) := by decide +kernel
theorem dX8_waits_40 : decode cX8_waits 40 = .ok (.iload_n 1, 1) := by decide +kernel
theorem dX8_waits_41 : decode cX8_waits 41 = .ok (.iaload, 1) := by decide +kernel
theorem dX8_waits_42 : decode cX8_waits 42 = .ok (.istore_n 3, 1) := by decide +kernel
theorem dX8_waits_43 : decode cX8_waits 43 = .ok (.aload_n 0, 1) := by decide +kernel
theorem dX8_waits_44 : decode cX8_waits 44 = .ok (.getfield 12, 3) := by decide +kernel
theorem dX8_waits_47 : decode cX8_waits 47 = .ok (.getfield 210, 3) := by decide +kernel
theorem dX8_waits_50 : decode cX8_waits 50 = .ok (.iload_n 1, 1) := by decide +kernel
theorem dX8_waits_51 : decode cX8_waits 51 = .ok (.iload_n 2, 1) := by decide +kernel
theorem dX8_waits_52 : decode cX8_waits 52 = .ok (.iastore, 1) := by decide +kernel
theorem dX8_waits_53 : decode cX8_waits 53 = .ok (.iload_n 3, 1) := by decide +kernel
theorem dX8_waits_54 : decode cX8_waits 54 = .ok (.ireturn, 1) := by decide +kernel
theorem dX8_leg_0 : decode cX8_leg 0 = .ok (.iload_n 1, 1) := by decide +kernel
theorem dX8_leg_1 : decode cX8_leg 1 = .ok (.invokestatic 207, 3) := by decide +kernel
theorem dX8_leg_4 : decode cX8_leg 4 = .ok (.ifCond .eq 25, 3) := by decide +kernel
theorem dX8_leg_7 : decode cX8_leg 7 = .ok (.iload_n 2, 1) := by decide +kernel
theorem dX8_leg_8 : decode cX8_leg 8 = .ok (.invokestatic 207, 3) := by decide +kernel
theorem dX8_leg_11 : decode cX8_leg 11 = .ok (.ifCond .eq 18, 3) := by decide +kernel
theorem dX8_leg_14 : decode cX8_leg 14 = .ok (.iload_n 1, 1) := by decide +kernel
theorem dX8_leg_15 : decode cX8_leg 15 = .ok (.iload_n 2, 1) := by decide +kernel
theorem dX8_leg_16 : decode cX8_leg 16 = .ok (.if_icmp .eq 13, 3) := by decide +kernel
theorem dX8_leg_19 : decode cX8_leg 19 = .ok (.iload_n 3, 1) := by decide +kernel
theorem dX8_leg_20 : decode cX8_leg 20 = .ok (.iconst 0, 1) := by decide +kernel
theorem dX8_leg_21 : decode cX8_leg 21 = .ok (.bipush 99, 2) := by decide +kernel
theorem dX8_leg_23 : decode cX8_leg 23 = .ok (.invokestatic 78, 3) := by decide +kernel
theorem dX8_leg_26 : decode cX8_leg 26 = .ok (.ifCond .ne 10, 3) := by decide +kernel
theorem dX8_leg_29 : decode cX8_leg 29 = .ok (.aload_n 0, 1) := by decide +kernel
theorem dX8_leg_30 : decode cX8_leg 30 = .ok (.bipush (-2), 2) := by decide +kernel
theorem dX8_leg_32 : decode cX8_leg 32 = .ok (.invokevirtual 82, 3) := by decide +kernel
theorem dX8_leg_35 : decode cX8_leg 35 = .ok (.ireturn, 1) := by decide +kernel
theorem dX8_leg_36 : decode cX8_leg 36 = .ok (.aload_n 0, 1) := by decide +kernel
theorem dX8_leg_37 : decode cX8_leg 37 = .ok (.getfield 12, 3) := by decide +kernel
theorem dX8_leg_40 : decode cX8_leg 40 = .ok (.getfield 213, 3) := by decide +kernel
theorem dX8_leg_43 : decode cX8_leg 43 = .ok (.iload_n 1, 1) := by decide +kernel
theorem dX8_leg_44 : decode cX8_leg 44 = .ok (.bipush 6, 2) := by decide +kernel
theorem dX8_leg_46 : decode cX8_leg 46 = .ok (.imul, 1) := by decide +kernel
theorem dX8_leg_47 : decode cX8_leg 47 = .ok (.iload_n 2, 1) := by decide +kernel
theorem dX8_leg_48 : decode cX8_leg 48 = .ok (.iadd, 1) := by decide +kernel
theorem dX8_leg_49 : decode cX8_leg 49 = .ok (.iaload, 1) := by decide +kernel
theorem dX8_leg_50 : decode cX8_leg 50 = .ok (.istore 4, 2) := by decide +kernel
theorem dX8_leg_52 : decode cX8_leg 52 = .ok (.aload_n 0, 1) := by decide +kernel
theorem dX8_leg_53 : decode cX8_leg 53 = .ok (.getfield 12, 3) := by decide +kernel
theorem dX8_leg_56 : decode cX8_leg 56 = .ok (.getfield 213, 3) := by decide +kernel
theorem dX8_leg_59 : decode cX8_leg 59 = .ok (.iload_n 1, 1) := by decide +kernel
theorem dX8_leg_60 : decode cX8_leg 60 = .ok (.bipush 6, 2) := by decide +kernel
theorem dX8_leg_62 : decode cX8_leg 62 = .ok (.imul, 1) := by decide +kernel
theorem dX8_leg_63 : decode cX8_leg 63 = .ok (.iload_n 2, 1) := by decide +kernel
theorem dX8_leg_64 : decode cX8_leg 64 = .ok (.iadd, 1) := by decide +kernel
theorem dX8_leg_65 : decode cX8_leg 65 = .ok (.iload_n 3, 1) := by decide +kernel
theorem dX8_leg_66 : decode cX8_leg 66 = .ok (.iastore, 1) := by decide +kernel
theorem dX8_leg_67 : decode cX8_leg 67 = .ok (.aload_n 0, 1) := by decide +kernel
theorem dX8_leg_68 : decode cX8_leg 68 = .ok (.getfield 12, 3) := by decide +kernel
theorem dX8_leg_71 : decode cX8_leg 71 = .ok (.getfield 213, 3) := by decide +kernel
theorem dX8_leg_74 : decode cX8_leg 74 = .ok (.iload_n 2, 1) := by decide +kernel
theorem dX8_leg_75 : decode cX8_leg 75 = .ok (.bipush 6, 2) := by decide +kernel
theorem dX8_leg_77 : decode cX8_leg 77 = .ok (.imul, 1) := by decide +kernel
theorem dX8_leg_78 : decode cX8_leg 78 = .ok (.iload_n 1, 1) := by decide +kernel
theorem dX8_leg_79 : decode cX8_leg 79 = .ok (.iadd, 1) := by decide +kernel
theorem dX8_leg_80 : decode cX8_leg 80 = .ok (.iload_n 3, 1) := by decide +kernel
theorem dX8_leg_81 : decode cX8_leg 81 = .ok (.iastore, 1) := by decide +kernel
theorem dX8_leg_82 : decode cX8_leg 82 = .ok (.iload 4, 2) := by decide +kernel
theorem dX8_leg_84 : decode cX8_leg 84 = .ok (.ireturn, 1) := by decide +kernel
theorem dX8_way_0 : decode cX8_way 0 = .ok (.aload_n 0, 1) := by decide +kernel
theorem dX8_way_1 : decode cX8_way 1 = .ok (.getfield 12, 3) := by decide +kernel
theorem dX8_way_4 : decode cX8_way 4 = .ok (.getfield 86, 3) := by decide +kernel
theorem dX8_way_7 : decode cX8_way 7 = .ok (.iload_n 1, 1) := by decide +kernel
theorem dX8_way_8 : decode cX8_way 8 = .ok (.invokevirtual 103, 3) := by decide +kernel
theorem dX8_way_11 : decode cX8_way 11 = .ok (.ifCond .eq 23, 3) := by decide +kernel
theorem dX8_way_14 : decode cX8_way 14 = .ok (.iload_n 2, 1) := by decide +kernel
theorem dX8_way_15 : decode cX8_way 15 = .ok (.invokestatic 207, 3) := by decide +kernel
theorem dX8_way_18 : decode cX8_way 18 = .ok (.ifCond .eq 16, 3) := by decide +kernel
theorem dX8_way_21 : decode cX8_way 21 = .ok (.iload_n 3, 1) := by decide +kernel
theorem dX8_way_22 : decode cX8_way 22 = .ok (.invokestatic 207, 3) := by decide +kernel
theorem dX8_way_25 : decode cX8_way 25 = .ok (.ifCond .eq 9, 3) := by decide +kernel
theorem dX8_way_28 : decode cX8_way 28 = .ok (.iload 4, 2) := by decide +kernel
theorem dX8_way_30 : decode cX8_way 30 = .ok (.iconst (-1), 1) := by decide +kernel
theorem dX8_way_31 : decode cX8_way 31 = .ok (.if_icmp .ge 10, 3) := by decide +kernel
theorem dX8_way_34 : decode cX8_way 34 = .ok (.aload_n 0, 1) := by decide +kernel
theorem dX8_way_35 : decode cX8_way 35 = .ok (.bipush (-10), 2) := by decide +kernel
theorem dX8_way_37 : decode cX8_way 37 = .ok (.invokevirtual 82, 3) := by decide +kernel
theorem dX8_way_40 : decode cX8_way 40 = .ok (.ireturn, 1) := by decide +kernel
theorem dX8_way_41 : decode cX8_way 41 = .ok (.aload_n 0, 1) := by decide +kernel
theorem dX8_way_42 : decode cX8_way 42 = .ok (.invokevirtual 143, 3) := by decide +kernel
theorem dX8_way_45 : decode cX8_way 45 = .ok (.ifCond .eq 10, 3) := by decide +kernel
theorem dX8_way_48 : decode cX8_way 48 = .ok (.aload_n 0, 1) := by decide +kernel
theorem dX8_way_49 : decode cX8_way 49 = .ok (.bipush (-20), 2) := by decide +kernel
theorem dX8_way_51 : decode cX8_way 51 = .ok (.invokevirtual 147, 3) := by decide +kernel
theorem dX8_way_54 : decode cX8_way 54 = .ok (.ireturn, 1) := by decide +kernel
theorem dX8_way_55 : decode cX8_way 55 = .ok (.iconst 0, 1) := by decide +kernel
theorem dX8_way_56 : decode cX8_way 56 = .ok (.istore 5, 2) := by decide +kernel
theorem dX8_way_58 : decode cX8_way 58 = .ok (.iload 5, 2) := by decide +kernel
theorem dX8_way_60 : decode cX8_way 60 = .ok (.bipush 6, 2) := by decide +kernel
theorem dX8_way_62 : decode cX8_way 62 = .ok (.if_icmp .ge 26, 3) := by decide +kernel
theorem dX8_way_65 : decode cX8_way 65 = .ok (.aload_n 0, 1) := by decide +kernel
theorem dX8_way_66 : decode cX8_way 66 = .ok (.getfield 47, 3) := by decide +kernel
theorem dX8_way_69 : decode cX8_way 69 = .ok (.getfield 216, 3) := by decide +kernel
theorem dX8_way_72 : decode cX8_way 72 = .ok (.iload 5, 2) := by decide +kernel
theorem dX8_way_74 : decode cX8_way 74 = .ok (.aload_n 0, 1) := by decide +kernel
theorem dX8_way_75 : decode cX8_way 75 = .ok (.iload 5, 2) := by decide +kernel
theorem dX8_way_77 : decode cX8_way 77 = .ok (.iload_n 1, 1) := by decide +kernel
theorem dX8_way_78 : decode cX8_way 78 = .ok (.invokevirtual 219, 3) := by decide +kernel
theorem dX8_way_81 : decode cX8_way 81 = .ok (.iastore, 1) := by decide +kernel
theorem dX8_way_82 : decode cX8_way 82 = .ok (.iinc 5 1, 3) := by decide +kernel
theorem dX8_way_85 : decode cX8_way 85 = .ok (.goto (-27), 3) := by decide +kernel
theorem dX8_way_88 : decode cX8_way 88 = .ok (.aload_n 0, 1) := by decide +kernel
theorem dX8_way_89 : decode cX8_way 89 = .ok (.getfield 47, 3) := by decide +kernel
theorem dX8_way_92 : decode cX8_way 92 = .ok (.aload_n 0, 1) := by decide +kernel
theorem dX8_way_93 : decode cX8_way 93 = .ok (.getfield 12, 3) := by decide +kernel
theorem dX8_way_96 : decode cX8_way 96 = .ok (.getfield 213, 3) := by decide +kernel
theorem dX8_way_99 : decode cX8_way 99 = .ok (.iload_n 2, 1) := by decide +kernel
theorem dX8_way_100 : decode cX8_way 100 = .ok (.iload_n 3, 1) := by decide +kernel
theorem dX8_way_101 : decode cX8_way 101 = .ok (.invokevirtual 222, 3) := by decide +kernel
theorem dX8_way_104 : decode cX8_way 104 = .ok (.istore 5, 2) := by decide +kernel
theorem dX8_way_106 : decode cX8_way 106 = .ok (.iload 5, 2) := by decide +kernel
theorem dX8_way_108 : decode cX8_way 108 = .ok (.iconst (-1), 1) := by decide +kernel
theorem dX8_way_109 : decode cX8_way 109 = .ok (.if_icmp .eq 9, 3) := by decide +kernel
theorem dX8_way_112 : decode cX8_way 112 = .ok (.iload 4, 2) := by decide +kernel
theorem dX8_way_114 : decode cX8_way 114 = .ok (.iconst (-1), 1) := by decide +kernel
theorem dX8_way_115 : decode cX8_way 115 = .ok (.if_icmp .ne 6, 3) := by decide +kernel
theorem dX8_way_118 : decode cX8_way 118 = .ok (.iload 5, 2) := by decide +kernel
theorem dX8_way_120 : decode cX8_way 120 = .ok (.ireturn, 1) := by decide +kernel
theorem dX8_way_121 : decode cX8_way 121 = .ok (.iload 4, 2) := by decide +kernel
theorem dX8_way_123 : decode cX8_way 123 = .ok (.aload_n 0, 1) := by decide +kernel
theorem dX8_way_124 : decode cX8_way 124 = .ok (.getfield 47, 3) := by decide +kernel
theorem dX8_way_127 : decode cX8_way 127 = .ok (.getfield 225, 3) := by decide +kernel
theorem dX8_way_130 : decode cX8_way 130 = .ok (.if_icmp .ge 16, 3) := by decide +kernel
theorem dX8_way_133 : decode cX8_way 133 = .ok (.aload_n 0, 1) := by decide +kernel
theorem dX8_way_134 : decode cX8_way 134 = .ok (.getfield 47, 3) := by decide +kernel
theorem dX8_way_137 : decode cX8_way 137 = .ok (.getfield 228, 3) := by decide +kernel
theorem dX8_way_140 : decode cX8_way 140 = .ok (.iload 4, 2) := by decide +kernel
theorem dX8_way_142 : decode cX8_way 142 = .ok (.iaload, 1) := by decide +kernel
theorem dX8_way_143 : decode cX8_way 143 = .ok (.goto 5, 3) := by decide +kernel
theorem dX8_way_146 : decode cX8_way 146 = .ok (.bipush (-5), 2) := by decide +kernel
theorem dX8_way_148 : decode cX8_way 148 = .ok (.ireturn, 1) := by decide +kernel
theorem dX8_tell_0 : decode cX8_tell 0 = .ok (.aload_n 0, 1) := by decide +kernel
theorem dX8_tell_1 : decode cX8_tell 1 = .ok (.getfield 12, 3) := by decide +kernel
theorem dX8_tell_4 : decode cX8_tell 4 = .ok (.getfield 86, 3) := by decide +kernel
theorem dX8_tell_7 : decode cX8_tell 7 = .ok (.iload_n 1, 1) := by decide +kernel
theorem dX8_tell_8 : decode cX8_tell 8 = .ok (.iload_n 2, 1) := by decide +kernel
theorem dX8_tell_9 : decode cX8_tell 9 = .ok (.invokevirtual 116, 3) := by decide +kernel
theorem dX8_tell_12 : decode cX8_tell 12 = .ok (.ifCond .eq 13, 3) := by decide +kernel
theorem dX8_tell_15 : decode cX8_tell 15 = .ok (.iload_n 3, 1) := by decide +kernel
theorem dX8_tell_16 : decode cX8_tell 16 = .ok (.iload_n 1, 1) := by decide +kernel
theorem dX8_tell_17 : decode cX8_tell 17 = .ok (.if_icmp .eq 15, 3) := by decide +kernel
theorem dX8_tell_20 : decode cX8_tell 20 = .ok (.iload_n 3, 1) := by decide +kernel
theorem dX8_tell_21 : decode cX8_tell 21 = .ok (.iload_n 2, 1) := by decide +kernel
theorem dX8_tell_22 : decode cX8_tell 22 = .ok (.if_icmp .eq 10, 3) := by decide +kernel
theorem dX8_tell_25 : decode cX8_tell 25 = .ok (.aload_n 0, 1) := by decide +kernel
theorem dX8_tell_26 : decode cX8_tell 26 = .ok (.bipush (-2), 2) := by decide +kernel
theorem dX8_tell_28 : decode cX8_tell 28 = .ok (.invokevirtual 82, 3) := by decide +kernel
theorem dX8_tell_31 : decode cX8_tell 31 = .ok (.ireturn, 1) := by decide +kernel
theorem dX8_tell_32 : decode cX8_tell 32 = .ok (.aload_n 0, 1) := by decide +kernel
theorem dX8_tell_33 : decode cX8_tell 33 = .ok (.getfield 12, 3) := by decide +kernel
theorem dX8_tell_36 : decode cX8_tell 36 = .ok (.getfield 231, 3) := by decide +kernel
theorem dX8_tell_39 : decode cX8_tell 39 = .ok (.bipush 16, 2) := by decide +kernel
theorem dX8_tell_41 : decode cX8_tell 41 = .ok (.if_icmp .lt 8, 3) := by decide +kernel
theorem dX8_tell_44 : decode cX8_tell 44 = .ok (.aload_n 0, 1) := by decide +kernel
theorem dX8_tell_45 : decode cX8_tell 45 = .ok (.invokevirtual 95, 3) := by decide +kernel
theorem dX8_tell_48 : decode cX8_tell 48 = .ok (.ireturn, 1) := by decide +kernel
theorem dX8_tell_49 : decode cX8_tell 49 = .ok (.aload_n 0, 1) := by decide +kernel
theorem dX8_tell_50 : decode cX8_tell 50 = .ok (.getfield 12, 3) := by decide +kernel
theorem dX8_tell_53 : decode cX8_tell 53 = .ok (.getfield 231, 3) := by decide +kernel
theorem dX8_tell_56 : decode cX8_tell 56 = .ok (.iconst 3, 1) := by decide +kernel
theorem dX8_tell_57 : decode cX8_tell 57 = .ok (.imul, 1) := by decide +kernel
theorem dX8_tell_58 : decode cX8_tell 58 = .ok (.istore 4, 2) := by decide +kernel
theorem dX8_tell_60 : decode cX8_tell 60 = .ok (.aload_n 0, 1) := by decide +kernel
theorem dX8_tell_61 : decode cX8_tell 61 = .ok (.getfield 12, 3) := by decide +kernel
theorem dX8_tell_64 : decode cX8_tell 64 = .ok (.getfield 234, 3) := by decide +kernel
theorem dX8_tell_67 : decode cX8_tell 67 = .ok (.iload 4, 2) := by decide +kernel
theorem dX8_tell_69 : decode cX8_tell 69 = .ok (.iload_n 1, 1) := by decide +kernel
theorem dX8_tell_70 : decode cX8_tell 70 = .ok (.iastore, 1) := by decide +kernel
theorem dX8_tell_71 : decode cX8_tell 71 = .ok (.aload_n 0, 1) := by decide +kernel
theorem dX8_tell_72 : decode cX8_tell 72 = .ok (.getfield 12, 3) := by decide +kernel
theorem dX8_tell_75 : decode cX8_tell 75 = .ok (.getfield 234, 3) := by decide +kernel
theorem dX8_tell_78 : decode cX8_tell 78 = .ok (.iload 4, 2) := by decide +kernel
theorem dX8_tell_80 : decode cX8_tell 80 = .ok (.iconst 1, 1) := by decide +kernel
theorem dX8_tell_81 : decode cX8_tell 81 = .ok (.iadd, 1) := by decide +kernel
theorem dX8_tell_82 : decode cX8_tell 82 = .ok (.iload_n 2, 1) := by decide +kernel
theorem dX8_tell_83 : decode cX8_tell 83 = .ok (.iastore, 1) := by decide +kernel
theorem dX8_tell_84 : decode cX8_tell 84 = .ok (.aload_n 0, 1) := by decide +kernel
theorem dX8_tell_85 : decode cX8_tell 85 = .ok (.getfield 12, 3) := by decide +kernel
theorem dX8_tell_88 : decode cX8_tell 88 = .ok (.getfield 234, 3) := by decide +kernel
theorem dX8_tell_91 : decode cX8_tell 91 = .ok (.iload 4, 2) := by decide +kernel
theorem dX8_tell_93 : decode cX8_tell 93 = .ok (.iconst 2, 1) := by decide +kernel
theorem dX8_tell_94 : decode cX8_tell 94 = .ok (.iadd, 1) := by decide +kernel
theorem dX8_tell_95 : decode cX8_tell 95 = .ok (.iload_n 3, 1) := by decide +kernel
theorem dX8_tell_96 : decode cX8_tell 96 = .ok (.iastore, 1) := by decide +kernel
theorem dX8_tell_97 : decode cX8_tell 97 = .ok (.aload_n 0, 1) := by decide +kernel
theorem dX8_tell_98 : decode cX8_tell 98 = .ok (.getfield 12, 3) := by decide +kernel
theorem dX8_tell_101 : decode cX8_tell 101 = .ok (.dup, 1) := by decide +kernel
theorem dX8_tell_102 : decode cX8_tell 102 = .ok (.getfield 231, 3) := by decide +kernel
theorem dX8_tell_105 : decode cX8_tell 105 = .ok (.iconst 1, 1) := by decide +kernel
theorem dX8_tell_106 : decode cX8_tell 106 = .ok (.iadd, 1) := by decide +kernel
theorem dX8_tell_107 : decode cX8_tell 107 = .ok (.putfield 231, 3) := by decide +kernel
theorem dX8_tell_110 : decode cX8_tell 110 = .ok (.aload_n 0, 1) := by decide +kernel
theorem dX8_tell_111 : decode cX8_tell 111 = .ok (.getfield 12, 3) := by decide +kernel
theorem dX8_tell_114 : decode cX8_tell 114 = .ok (.getfield 231, 3) := by decide +kernel
theorem dX8_tell_117 : decode cX8_tell 117 = .ok (.iconst 1, 1) := by decide +kernel
theorem dX8_tell_118 : decode cX8_tell 118 = .ok (.isub, 1) := by decide +kernel
theorem dX8_tell_119 : decode cX8_tell 119 = .ok (.ireturn, 1) := by decide +kernel
theorem dX8_forget_0 : decode cX8_forget 0 = .ok (.aload_n 0, 1) := by decide +kernel
theorem dX8_forget_1 : decode cX8_forget 1 = .ok (.getfield 12, 3) := by decide +kernel
theorem dX8_forget_4 : decode cX8_forget 4 = .ok (.getfield 231, 3) := by decide +kernel
theorem dX8_forget_7 : decode cX8_forget 7 = .ok (.istore_n 1, 1) := by decide +kernel
theorem dX8_forget_8 : decode cX8_forget 8 = .ok (.aload_n 0, 1) := by decide +kernel
theorem dX8_forget_9 : decode cX8_forget 9 = .ok (.getfield 12, 3) := by decide +kernel
theorem dX8_forget_12 : decode cX8_forget 12 = .ok (.iconst 0, 1) := by decide +kernel
theorem dX8_forget_13 : decode cX8_forget 13 = .ok (.putfield 231, 3) := by decide +kernel
theorem dX8_forget_16 : decode cX8_forget 16 = .ok (.iload_n 1, 1) := by decide +kernel
theorem dX8_forget_17 : decode cX8_forget 17 = .ok (.ireturn, 1) := by decide +kernel
theorem dX8_judge_0 : decode cX8_judge 0 = .ok (.aload_n 0, 1) := by decide +kernel
theorem dX8_judge_1 : decode cX8_judge 1 = .ok (.invokevirtual 143, 3) := by decide +kernel
theorem dX8_judge_4 : decode cX8_judge 4 = .ok (.ifCond .eq 10, 3) := by decide +kernel
theorem dX8_judge_7 : decode cX8_judge 7 = .ok (.aload_n 0, 1) := by decide +kernel
theorem dX8_judge_8 : decode cX8_judge 8 = .ok (.bipush (-3), 2) := by decide +kernel
theorem dX8_judge_10 : decode cX8_judge 10 = .ok (.invokevirtual 147, 3) := by decide +kernel
theorem dX8_judge_13 : decode cX8_judge 13 = .ok (.ireturn, 1) := by decide +kernel
theorem dX8_judge_14 : decode cX8_judge 14 = .ok (.aload_n 0, 1) := by decide +kernel
theorem dX8_judge_15 : decode cX8_judge 15 = .ok (.aload_n 0, 1) := by decide +kernel
theorem dX8_judge_16 : decode cX8_judge 16 = .ok (.getfield 23, 3) := by decide +kernel
theorem dX8_judge_19 : decode cX8_judge 19 = .ok (.invokevirtual 237, 3) := by decide +kernel
theorem dX8_judge_22 : decode cX8_judge 22 = .ok (.ireturn, 1) := by decide +kernel
theorem dX8_learns_0 : decode cX8_learns 0 = .ok (.iconst 0, 1) := by decide +kernel
theorem dX8_learns_1 : decode cX8_learns 1 = .ok (.istore_n 1, 1) := by decide +kernel
theorem dX8_learns_2 : decode cX8_learns 2 = .ok (.iconst 0, 1) := by decide +kernel
theorem dX8_learns_3 : decode cX8_learns 3 = .ok (.istore_n 2, 1) := by decide +kernel
theorem dX8_learns_4 : decode cX8_learns 4 = .ok (.iload_n 2, 1) := by decide +kernel
theorem dX8_learns_5 : decode cX8_learns 5 = .ok (.bipush 10, 2) := by decide +kernel
theorem dX8_learns_7 : decode cX8_learns 7 = .ok (.if_icmp .ge 35, 3) := by decide +kernel
theorem dX8_learns_10 : decode cX8_learns 10 = .ok (.aload_n 0, 1) := by decide +kernel
theorem dX8_learns_11 : decode cX8_learns 11 = .ok (.getfield 27, 3) := by decide +kernel
theorem dX8_learns_14 : decode cX8_learns 14 = .ok (.iload_n 2, 1) := by decide +kernel
theorem dX8_learns_15 : decode cX8_learns 15 = .ok (.invokevirtual 241, 3) := by decide +kernel
theorem dX8_learns_18 : decode cX8_learns 18 = .ok (.aload_n 0, 1) := by decide +kernel
theorem dX8_learns_19 : decode cX8_learns 19 = .ok (.aload_n 0, 1) := by decide +kernel
theorem dX8_learns_20 : decode cX8_learns 20 = .ok (.getfield 27, 3) := by decide +kernel
theorem dX8_learns_23 : decode cX8_learns 23 = .ok (.invokevirtual 237, 3) := by decide +kernel
theorem dX8_learns_26 : decode cX8_learns 26 = .ok (.iconst (-1), 1) := by decide +kernel
theorem dX8_learns_27 : decode cX8_learns 27 = .ok (.if_icmp .ne 9, 3) := by decide +kernel
theorem dX8_learns_30 : decode cX8_learns 30 = .ok (.iload_n 1, 1) := by decide +kernel
theorem dX8_learns_31 : decode cX8_learns 31 = .ok (.iconst 1, 1) := by decide +kernel
theorem dX8_learns_32 : decode cX8_learns 32 = .ok (.iload_n 2, 1) := by decide +kernel
theorem dX8_learns_33 : decode cX8_learns 33 = .ok (.ishl, 1) := by decide +kernel
theorem dX8_learns_34 : decode cX8_learns 34 = .ok (.ior, 1) := by decide +kernel
theorem dX8_learns_35 : decode cX8_learns 35 = .ok (.istore_n 1, 1) := by decide +kernel
theorem dX8_learns_36 : decode cX8_learns 36 = .ok (.iinc 2 1, 3) := by decide +kernel
theorem dX8_learns_39 : decode cX8_learns 39 = .ok (.goto (-35), 3) := by decide +kernel
theorem dX8_learns_42 : decode cX8_learns 42 = .ok (.iload_n 1, 1) := by decide +kernel
theorem dX8_learns_43 : decode cX8_learns 43 = .ok (.ireturn, 1) := by decide +kernel
theorem dX8_struck_0 : decode cX8_struck 0 = .ok (.iload_n 1, 1) := by decide +kernel
theorem dX8_struck_1 : decode cX8_struck 1 = .ok (.iconst (-1), 1) := by decide +kernel
theorem dX8_struck_2 : decode cX8_struck 2 = .ok (.if_icmp .ne 12, 3) := by decide +kernel
theorem dX8_struck_5 : decode cX8_struck 5 = .ok (.iload_n 2, 1) := by decide +kernel
theorem dX8_struck_6 : decode cX8_struck 6 = .ok (.iconst (-1), 1) := by decide +kernel
theorem dX8_struck_7 : decode cX8_struck 7 = .ok (.if_icmp .ne 7, 3) := by decide +kernel
theorem dX8_struck_10 : decode cX8_struck 10 = .ok (.iconst 1, 1) := by decide +kernel
theorem dX8_struck_11 : decode cX8_struck 11 = .ok (.goto 4, 3) := by decide +kernel
theorem dX8_struck_14 : decode cX8_struck 14 = .ok (.iconst 0, 1) := by decide +kernel
theorem dX8_struck_15 : decode cX8_struck 15 = .ok (.istore_n 3, 1) := by decide +kernel
theorem dX8_struck_16 : decode cX8_struck 16 = .ok (.iload_n 3, 1) := by decide +kernel
theorem dX8_struck_17 : decode cX8_struck 17 = .ok (.ifCond .ne 25, 3) := by decide +kernel
theorem dX8_struck_20 : decode cX8_struck 20 = .ok (.aload_n 0, 1) := by decide +kernel
theorem dX8_struck_21 : decode cX8_struck 21 = .ok (.getfield 12, 3) := by decide +kernel
theorem dX8_struck_24 : decode cX8_struck 24 = .ok (.getfield 86, 3) := by decide +kernel
theorem dX8_struck_27 : decode cX8_struck 27 = .ok (.iload_n 1, 1) := by decide +kernel
theorem dX8_struck_28 : decode cX8_struck 28 = .ok (.iload_n 2, 1) := by decide +kernel
theorem dX8_struck_29 : decode cX8_struck 29 = .ok (.invokevirtual 116, 3) := by decide +kernel
theorem dX8_struck_32 : decode cX8_struck 32 = .ok (.ifCond .ne 10, 3) := by decide +kernel
theorem dX8_struck_35 : decode cX8_struck 35 = .ok (.aload_n 0, 1) := by decide +kernel
theorem dX8_struck_36 : decode cX8_struck 36 = .ok (.bipush (-10), 2) := by decide +kernel
theorem dX8_struck_38 : decode cX8_struck 38 = .ok (.invokevirtual 82, 3) := by decide +kernel
theorem dX8_struck_41 : decode cX8_struck 41 = .ok (.ireturn, 1) := by decide +kernel
theorem dX8_struck_42 : decode cX8_struck 42 = .ok (.aload_n 0, 1) := by decide +kernel
theorem dX8_struck_43 : decode cX8_struck 43 = .ok (.getfield 54, 3) := by decide +kernel
theorem dX8_struck_46 : decode cX8_struck 46 = .ok (.aload_n 0, 1) := by decide +kernel
theorem dX8_struck_47 : decode cX8_struck 47 = .ok (.getfield 12, 3) := by decide +kernel
theorem dX8_struck_50 : decode cX8_struck 50 = .ok (.getfield 120, 3) := by decide +kernel
theorem dX8_struck_53 : decode cX8_struck 53 = .ok (.invokevirtual 245, 3) := by decide +kernel
theorem dX8_struck_56 : decode cX8_struck 56 = .ok (.aload_n 0, 1) := by decide +kernel
theorem dX8_struck_57 : decode cX8_struck 57 = .ok (.getfield 54, 3) := by decide +kernel
theorem dX8_struck_60 : decode cX8_struck 60 = .ok (.invokevirtual 249, 3) := by decide +kernel
theorem dX8_struck_63 : decode cX8_struck 63 = .ok (.iload_n 3, 1) := by decide +kernel
theorem dX8_struck_64 : decode cX8_struck 64 = .ok (.ifCond .eq 13, 3) := by decide +kernel
theorem dX8_struck_67 : decode cX8_struck 67 = .ok (.aload_n 0, 1) := by decide +kernel
theorem dX8_struck_68 : decode cX8_struck 68 = .ok (.getfield 54, 3) := by decide +kernel
theorem dX8_struck_71 : decode cX8_struck 71 = .ok (.invokevirtual 252, 3) := by decide +kernel
theorem dX8_struck_74 : decode cX8_struck 74 = .ok (.goto 16, 3) := by decide +kernel
theorem dX8_struck_77 : decode cX8_struck 77 = .ok (.aload_n 0, 1) := by decide +kernel
theorem dX8_struck_78 : decode cX8_struck 78 = .ok (.getfield 54, 3) := by decide +kernel
theorem dX8_struck_81 : decode cX8_struck 81 = .ok (.getfield 123, 3) := by decide +kernel
theorem dX8_struck_84 : decode cX8_struck 84 = .ok (.iload_n 1, 1) := by decide +kernel
theorem dX8_struck_85 : decode cX8_struck 85 = .ok (.iload_n 2, 1) := by decide +kernel
theorem dX8_struck_86 : decode cX8_struck 86 = .ok (.invokestatic 126, 3) := by decide +kernel
theorem dX8_struck_89 : decode cX8_struck 89 = .ok (.iaload, 1) := by decide +kernel
theorem dX8_struck_90 : decode cX8_struck 90 = .ok (.ireturn, 1) := by decide +kernel
theorem dX8_have_0 : decode cX8_have 0 = .ok (.aload_n 0, 1) := by decide +kernel
theorem dX8_have_1 : decode cX8_have 1 = .ok (.getfield 12, 3) := by decide +kernel
theorem dX8_have_4 : decode cX8_have 4 = .ok (.getfield 86, 3) := by decide +kernel
theorem dX8_have_7 : decode cX8_have 7 = .ok (.iload_n 1, 1) := by decide +kernel
theorem dX8_have_8 : decode cX8_have 8 = .ok (.iload_n 2, 1) := by decide +kernel
theorem dX8_have_9 : decode cX8_have 9 = .ok (.invokevirtual 116, 3) := by decide +kernel
theorem dX8_have_12 : decode cX8_have 12 = .ok (.ifCond .ne 10, 3) := by decide +kernel
theorem dX8_have_15 : decode cX8_have 15 = .ok (.aload_n 0, 1) := by decide +kernel
theorem dX8_have_16 : decode cX8_have 16 = .ok (.bipush (-2), 2) := by decide +kernel
theorem dX8_have_18 : decode cX8_have 18 = .ok (.invokevirtual 82, 3) := by decide +kernel
theorem dX8_have_21 : decode cX8_have 21 = .ok (.ireturn, 1) := by decide +kernel
theorem dX8_have_22 : decode cX8_have 22 = .ok (.aload_n 0, 1) := by decide +kernel
theorem dX8_have_23 : decode cX8_have 23 = .ok (.invokevirtual 143, 3) := by decide +kernel
theorem dX8_have_26 : decode cX8_have 26 = .ok (.ifCond .eq 10, 3) := by decide +kernel
theorem dX8_have_29 : decode cX8_have 29 = .ok (.aload_n 0, 1) := by decide +kernel
theorem dX8_have_30 : decode cX8_have 30 = .ok (.bipush (-3), 2) := by decide +kernel
theorem dX8_have_32 : decode cX8_have 32 = .ok (.invokevirtual 147, 3) := by decide +kernel
theorem dX8_have_35 : decode cX8_have 35 = .ok (.ireturn, 1) := by decide +kernel
theorem dX8_have_36 : decode cX8_have 36 = .ok (.aload_n 0, 1) := by decide +kernel
theorem dX8_have_37 : decode cX8_have 37 = .ok (.getfield 12, 3) := by decide +kernel
theorem dX8_have_40 : decode cX8_have 40 = .ok (.getfield 86, 3) := by decide +kernel
theorem dX8_have_43 : decode cX8_have 43 = .ok (.getfield 255, 3) := by decide +kernel
theorem dX8_have_46 : decode cX8_have 46 = .ok (.iload_n 1, 1) := by decide +kernel
theorem dX8_have_47 : decode cX8_have 47 = .ok (.iaload, 1) := by decide +kernel
theorem dX8_have_48 : decode cX8_have 48 = .ok (.istore 4, 2) := by decide +kernel
theorem dX8_have_50 : decode cX8_have 50 = .ok (.iconst (-1), 1) := by decide +kernel
theorem dX8_have_51 : decode cX8_have 51 = .ok (.istore 5, 2) := by decide +kernel
theorem dX8_have_53 : decode cX8_have 53 = .ok (.iconst 0, 1) := by decide +kernel
theorem dX8_have_54 : decode cX8_have 54 = .ok (.istore 6, 2) := by decide +kernel
theorem dX8_have_56 : decode cX8_have 56 = .ok (.iload 6, 2) := by decide +kernel
theorem dX8_have_58 : decode cX8_have 58 = .ok (.bipush 9, 2) := by decide +kernel
theorem dX8_have_60 : decode cX8_have 60 = .ok (.if_icmp .gt 43, 3) := by decide +kernel
theorem dX8_have_63 : decode cX8_have 63 = .ok (.iload 5, 2) := by decide +kernel
theorem dX8_have_65 : decode cX8_have 65 = .ok (.iconst (-1), 1) := by decide +kernel
theorem dX8_have_66 : decode cX8_have 66 = .ok (.if_icmp .ne 37, 3) := by decide +kernel
theorem dX8_have_69 : decode cX8_have 69 = .ok (.aload_n 0, 1) := by decide +kernel
theorem dX8_have_70 : decode cX8_have 70 = .ok (.getfield 12, 3) := by decide +kernel
theorem dX8_have_73 : decode cX8_have 73 = .ok (.getfield 86, 3) := by decide +kernel
theorem dX8_have_76 : decode cX8_have 76 = .ok (.getfield 255, 3) := by decide +kernel
theorem dX8_have_79 : decode cX8_have 79 = .ok (.iload_n 1, 1) := by decide +kernel
theorem dX8_have_80 : decode cX8_have 80 = .ok (.iload 6, 2) := by decide +kernel
theorem dX8_have_82 : decode cX8_have 82 = .ok (.iastore, 1) := by decide +kernel
theorem dX8_have_83 : decode cX8_have 83 = .ok (.aload_n 0, 1) := by decide +kernel
theorem dX8_have_84 : decode cX8_have 84 = .ok (.iload_n 1, 1) := by decide +kernel
theorem dX8_have_85 : decode cX8_have 85 = .ok (.iload_n 2, 1) := by decide +kernel
theorem dX8_have_86 : decode cX8_have 86 = .ok (.iload_n 3, 1) := by decide +kernel
theorem dX8_have_87 : decode cX8_have 87 = .ok (.invokevirtual 258, 3) := by decide +kernel
theorem dX8_have_90 : decode cX8_have 90 = .ok (.ifCond .eq 7, 3) := by decide +kernel
theorem dX8_have_93 : decode cX8_have 93 = .ok (.iload 6, 2) := by decide +kernel
theorem dX8_have_95 : decode cX8_have 95 = .ok (.istore 5, 2) := by decide +kernel
theorem dX8_have_97 : decode cX8_have 97 = .ok (.iinc 6 1, 3) := by decide +kernel
theorem dX8_have_100 : decode cX8_have 100 = .ok (.goto (-44), 3) := by decide +kernel
theorem dX8_have_103 : decode cX8_have 103 = .ok (.aload_n 0, 1) := by decide +kernel
theorem dX8_have_104 : decode cX8_have 104 = .ok (.getfield 12, 3) := by decide +kernel
theorem dX8_have_107 : decode cX8_have 107 = .ok (.getfield 86, 3) := by decide +kernel
theorem dX8_have_110 : decode cX8_have 110 = .ok (.getfield 255, 3) := by decide +kernel
theorem dX8_have_113 : decode cX8_have 113 = .ok (.iload_n 1, 1) := by decide +kernel
theorem dX8_have_114 : decode cX8_have 114 = .ok (.iload 4, 2) := by decide +kernel
theorem dX8_have_116 : decode cX8_have 116 = .ok (.iastore, 1) := by decide +kernel
theorem dX8_have_117 : decode cX8_have 117 = .ok (.iload 5, 2) := by decide +kernel
theorem dX8_have_119 : decode cX8_have 119 = .ok (.ireturn, 1) := by decide +kernel
theorem dX8_firsts_0 : decode cX8_firsts 0 = .ok (.aload_n 0, 1) := by decide +kernel
theorem dX8_firsts_1 : decode cX8_firsts 1 = .ok (.getfield 12, 3) := by decide +kernel
theorem dX8_firsts_4 : decode cX8_firsts 4 = .ok (.getfield 86, 3) := by decide +kernel
theorem dX8_firsts_7 : decode cX8_firsts 7 = .ok (.iload_n 1, 1) := by decide +kernel
theorem dX8_firsts_8 : decode cX8_firsts 8 = .ok (.invokevirtual 103, 3) := by decide +kernel
theorem dX8_firsts_11 : decode cX8_firsts 11 = .ok (.ifCond .ne 10, 3) := by decide +kernel
theorem dX8_firsts_14 : decode cX8_firsts 14 = .ok (.aload_n 0, 1) := by decide +kernel
theorem dX8_firsts_15 : decode cX8_firsts 15 = .ok (.bipush (-2), 2) := by decide +kernel
theorem dX8_firsts_17 : decode cX8_firsts 17 = .ok (.invokevirtual 82, 3) := by decide +kernel
theorem dX8_firsts_20 : decode cX8_firsts 20 = .ok (.ireturn, 1) := by decide +kernel
theorem dX8_firsts_21 : decode cX8_firsts 21 = .ok (.aload_n 0, 1) := by decide +kernel
theorem dX8_firsts_22 : decode cX8_firsts 22 = .ok (.invokevirtual 143, 3) := by decide +kernel
theorem dX8_firsts_25 : decode cX8_firsts 25 = .ok (.ifCond .ne 17, 3) := by decide +kernel
theorem dX8_firsts_28 : decode cX8_firsts 28 = .ok (.aload_n 0, 1) := by decide +kernel
theorem dX8_firsts_29 : decode cX8_firsts 29 = .ok (.getfield 12, 3) := by decide +kernel
theorem dX8_firsts_32 : decode cX8_firsts 32 = .ok (.getfield 86, 3) := by decide +kernel
theorem dX8_firsts_35 : decode cX8_firsts 35 = .ok (.getfield 90, 3) := by decide +kernel
theorem dX8_firsts_38 : decode cX8_firsts 38 = .ok (.iconst 2, 1) := by decide +kernel
theorem dX8_firsts_39 : decode cX8_firsts 39 = .ok (.if_icmp .ge 10, 3) := by decide +kernel
theorem dX8_firsts_42 : decode cX8_firsts 42 = .ok (.aload_n 0, 1) := by decide +kernel
theorem dX8_firsts_43 : decode cX8_firsts 43 = .ok (.bipush (-3), 2) := by decide +kernel
theorem dX8_firsts_45 : decode cX8_firsts 45 = .ok (.invokevirtual 147, 3) := by decide +kernel
theorem dX8_firsts_48 : decode cX8_firsts 48 = .ok (.ireturn, 1) := by decide +kernel
theorem dX8_firsts_49 : decode cX8_firsts 49 = .ok (.iconst 0, 1) := by decide +kernel
theorem dX8_firsts_50 : decode cX8_firsts 50 = .ok (.istore_n 2, 1) := by decide +kernel
theorem dX8_firsts_51 : decode cX8_firsts 51 = .ok (.iconst 0, 1) := by decide +kernel
theorem dX8_firsts_52 : decode cX8_firsts 52 = .ok (.istore_n 3, 1) := by decide +kernel
theorem dX8_firsts_53 : decode cX8_firsts 53 = .ok (.iload_n 3, 1) := by decide +kernel
theorem dX8_firsts_54 : decode cX8_firsts 54 = .ok (.aload_n 0, 1) := by decide +kernel
theorem dX8_firsts_55 : decode cX8_firsts 55 = .ok (.getfield 12, 3) := by decide +kernel
theorem dX8_firsts_58 : decode cX8_firsts 58 = .ok (.getfield 86, 3) := by decide +kernel
theorem dX8_firsts_61 : decode cX8_firsts 61 = .ok (.getfield 90, 3) := by decide +kernel
theorem dX8_firsts_64 : decode cX8_firsts 64 = .ok (.if_icmp .ge 50, 3) := by decide +kernel
theorem dX8_firsts_67 : decode cX8_firsts 67 = .ok (.iload_n 3, 1) := by decide +kernel
theorem dX8_firsts_68 : decode cX8_firsts 68 = .ok (.iload_n 1, 1) := by decide +kernel
theorem dX8_firsts_69 : decode cX8_firsts 69 = .ok (.if_icmp .eq 39, 3) := by decide +kernel
theorem dX8_firsts_72 : decode cX8_firsts 72 = .ok (.iload_n 2, 1) := by decide +kernel
theorem dX8_firsts_73 : decode cX8_firsts 73 = .ok (.aload_n 0, 1) := by decide +kernel
theorem dX8_firsts_74 : decode cX8_firsts 74 = .ok (.iload_n 1, 1) := by decide +kernel
theorem dX8_firsts_75 : decode cX8_firsts 75 = .ok (.iload_n 3, 1) := by decide +kernel
theorem dX8_firsts_76 : decode cX8_firsts 76 = .ok (.iconst 1, 1) := by decide +kernel
theorem dX8_firsts_77 : decode cX8_firsts 77 = .ok (.invokevirtual 258, 3) := by decide +kernel
theorem dX8_firsts_80 : decode cX8_firsts 80 = .ok (.ifCond .eq 7, 3) := by decide +kernel
theorem dX8_firsts_83 : decode cX8_firsts 83 = .ok (.iconst 1, 1) := by decide +kernel
theorem dX8_firsts_84 : decode cX8_firsts 84 = .ok (.goto 4, 3) := by decide +kernel
theorem dX8_firsts_87 : decode cX8_firsts 87 = .ok (.iconst 0, 1) := by decide +kernel
theorem dX8_firsts_88 : decode cX8_firsts 88 = .ok (.iadd, 1) := by decide +kernel
theorem dX8_firsts_89 : decode cX8_firsts 89 = .ok (.istore_n 2, 1) := by decide +kernel
theorem dX8_firsts_90 : decode cX8_firsts 90 = .ok (.iload_n 2, 1) := by decide +kernel
theorem dX8_firsts_91 : decode cX8_firsts 91 = .ok (.aload_n 0, 1) := by decide +kernel
theorem dX8_firsts_92 : decode cX8_firsts 92 = .ok (.iload_n 1, 1) := by decide +kernel
theorem dX8_firsts_93 : decode cX8_firsts 93 = .ok (.iload_n 3, 1) := by decide +kernel
theorem dX8_firsts_94 : decode cX8_firsts 94 = .ok (.iconst 0, 1) := by decide +kernel
theorem dX8_firsts_95 : decode cX8_firsts 95 = .ok (.invokevirtual 258, 3) := by decide +kernel
theorem dX8_firsts_98 : decode cX8_firsts 98 = .ok (.ifCond .eq 7, 3) := by decide +kernel
theorem dX8_firsts_101 : decode cX8_firsts 101 = .ok (.iconst 1, 1) := by decide +kernel
theorem dX8_firsts_102 : decode cX8_firsts 102 = .ok (.goto 4, 3) := by decide +kernel
theorem dX8_firsts_105 : decode cX8_firsts 105 = .ok (.iconst 0, 1) := by decide +kernel
theorem dX8_firsts_106 : decode cX8_firsts 106 = .ok (.iadd, 1) := by decide +kernel
theorem dX8_firsts_107 : decode cX8_firsts 107 = .ok (.istore_n 2, 1) := by decide +kernel
theorem dX8_firsts_108 : decode cX8_firsts 108 = .ok (.iinc 3 1, 3) := by decide +kernel
theorem dX8_firsts_111 : decode cX8_firsts 111 = .ok (.goto (-58), 3) := by decide +kernel
theorem dX8_firsts_114 : decode cX8_firsts 114 = .ok (.aload_n 0, 1) := by decide +kernel
theorem dX8_firsts_115 : decode cX8_firsts 115 = .ok (.iload_n 2, 1) := by decide +kernel
theorem dX8_firsts_116 : decode cX8_firsts 116 = .ok (.iconst 2, 1) := by decide +kernel
theorem dX8_firsts_117 : decode cX8_firsts 117 = .ok (.aload_n 0, 1) := by decide +kernel
theorem dX8_firsts_118 : decode cX8_firsts 118 = .ok (.getfield 12, 3) := by decide +kernel
theorem dX8_firsts_121 : decode cX8_firsts 121 = .ok (.getfield 86, 3) := by decide +kernel
theorem dX8_firsts_124 : decode cX8_firsts 124 = .ok (.getfield 90, 3) := by decide +kernel
theorem dX8_firsts_127 : decode cX8_firsts 127 = .ok (.iconst 1, 1) := by decide +kernel
theorem dX8_firsts_128 : decode cX8_firsts 128 = .ok (.isub, 1) := by decide +kernel
theorem dX8_firsts_129 : decode cX8_firsts 129 = .ok (.imul, 1) := by decide +kernel
theorem dX8_firsts_130 : decode cX8_firsts 130 = .ok (.invokevirtual 262, 3) := by decide +kernel
theorem dX8_firsts_133 : decode cX8_firsts 133 = .ok (.iconst 1, 1) := by decide +kernel
theorem dX8_firsts_134 : decode cX8_firsts 134 = .ok (.ireturn, 1) := by decide +kernel
theorem dX8_strikes_0 : decode cX8_strikes 0 = .ok (.aload_n 0, 1) := by decide +kernel
theorem dX8_strikes_1 : decode cX8_strikes 1 = .ok (.invokevirtual 143, 3) := by decide +kernel
theorem dX8_strikes_4 : decode cX8_strikes 4 = .ok (.ifCond .eq 10, 3) := by decide +kernel
theorem dX8_strikes_7 : decode cX8_strikes 7 = .ok (.aload_n 0, 1) := by decide +kernel
theorem dX8_strikes_8 : decode cX8_strikes 8 = .ok (.bipush (-3), 2) := by decide +kernel
theorem dX8_strikes_10 : decode cX8_strikes 10 = .ok (.invokevirtual 147, 3) := by decide +kernel
theorem dX8_strikes_13 : decode cX8_strikes 13 = .ok (.ireturn, 1) := by decide +kernel
theorem dX8_strikes_14 : decode cX8_strikes 14 = .ok (.aload_n 0, 1) := by decide +kernel
theorem dX8_strikes_15 : decode cX8_strikes 15 = .ok (.invokevirtual 265, 3) := by decide +kernel
theorem dX8_strikes_18 : decode cX8_strikes 18 = .ok (.istore_n 1, 1) := by decide +kernel
theorem dX8_strikes_19 : decode cX8_strikes 19 = .ok (.iconst (-1), 1) := by decide +kernel
theorem dX8_strikes_20 : decode cX8_strikes 20 = .ok (.istore_n 2, 1) := by decide +kernel
theorem dX8_strikes_21 : decode cX8_strikes 21 = .ok (.iconst 0, 1) := by decide +kernel
theorem dX8_strikes_22 : decode cX8_strikes 22 = .ok (.istore_n 3, 1) := by decide +kernel
theorem dX8_strikes_23 : decode cX8_strikes 23 = .ok (.iload_n 3, 1) := by decide +kernel
theorem dX8_strikes_24 : decode cX8_strikes 24 = .ok (.iconst 1, 1) := by decide +kernel
theorem dX8_strikes_25 : decode cX8_strikes 25 = .ok (.aload_n 0, 1) := by decide +kernel
theorem dX8_strikes_26 : decode cX8_strikes 26 = .ok (.getfield 23, 3) := by decide +kernel
theorem dX8_strikes_29 : decode cX8_strikes 29 = .ok (.getfield 150, 3) := by decide +kernel
theorem dX8_strikes_32 : decode cX8_strikes 32 = .ok (.ishl, 1) := by decide +kernel
theorem dX8_strikes_33 : decode cX8_strikes 33 = .ok (.if_icmp .ge 48, 3) := by decide +kernel
theorem dX8_strikes_36 : decode cX8_strikes 36 = .ok (.iload_n 2, 1) := by decide +kernel
theorem dX8_strikes_37 : decode cX8_strikes 37 = .ok (.iconst (-1), 1) := by decide +kernel
theorem dX8_strikes_38 : decode cX8_strikes 38 = .ok (.if_icmp .eq 14, 3) := by decide +kernel
theorem dX8_strikes_41 : decode cX8_strikes 41 = .ok (.iload_n 3, 1) := by decide +kernel
theorem dX8_strikes_42 : decode cX8_strikes 42 = .ok (.invokestatic 268, 3) := by decide +kernel
theorem dX8_strikes_45 : decode cX8_strikes 45 = .ok (.iload_n 2, 1) := by decide +kernel
theorem dX8_strikes_46 : decode cX8_strikes 46 = .ok (.invokestatic 268, 3) := by decide +kernel
theorem dX8_strikes_49 : decode cX8_strikes 49 = .ok (.if_icmp .ge 7, 3) := by decide +kernel
theorem dX8_strikes_52 : decode cX8_strikes 52 = .ok (.iconst 1, 1) := by decide +kernel
theorem dX8_strikes_53 : decode cX8_strikes 53 = .ok (.goto 4, 3) := by decide +kernel
theorem dX8_strikes_56 : decode cX8_strikes 56 = .ok (.iconst 0, 1) := by decide +kernel
theorem dX8_strikes_57 : decode cX8_strikes 57 = .ok (.istore 4, 2) := by decide +kernel
theorem dX8_strikes_59 : decode cX8_strikes 59 = .ok (.iload 4, 2) := by decide +kernel
theorem dX8_strikes_61 : decode cX8_strikes 61 = .ok (.ifCond .eq 14, 3) := by decide +kernel
theorem dX8_strikes_64 : decode cX8_strikes 64 = .ok (.aload_n 0, 1) := by decide +kernel
theorem dX8_strikes_65 : decode cX8_strikes 65 = .ok (.iload_n 1, 1) := by decide +kernel
theorem dX8_strikes_66 : decode cX8_strikes 66 = .ok (.iload_n 3, 1) := by decide +kernel
theorem dX8_strikes_67 : decode cX8_strikes 67 = .ok (.invokevirtual 273, 3) := by decide +kernel
theorem dX8_strikes_70 : decode cX8_strikes 70 = .ok (.ifCond .eq 5, 3) := by decide +kernel
theorem dX8_strikes_73 : decode cX8_strikes 73 = .ok (.iload_n 3, 1) := by decide +kernel
theorem dX8_strikes_74 : decode cX8_strikes 74 = .ok (.istore_n 2, 1) := by decide +kernel
theorem dX8_strikes_75 : decode cX8_strikes 75 = .ok (.iinc 3 1, 3) := by decide +kernel
theorem dX8_strikes_78 : decode cX8_strikes 78 = .ok (.goto (-55), 3) := by decide +kernel
theorem dX8_strikes_81 : decode cX8_strikes 81 = .ok (.iload_n 2, 1) := by decide +kernel
theorem dX8_strikes_82 : decode cX8_strikes 82 = .ok (.ireturn, 1) := by decide +kernel
theorem dX8_part_0 : decode cX8_part 0 = .ok (.iload_n 1, 1) := by decide +kernel
theorem dX8_part_1 : decode cX8_part 1 = .ok (.iconst 0, 1) := by decide +kernel
theorem dX8_part_2 : decode cX8_part 2 = .ok (.iconst 1, 1) := by decide +kernel
theorem dX8_part_3 : decode cX8_part 3 = .ok (.invokestatic 78, 3) := by decide +kernel
theorem dX8_part_6 : decode cX8_part 6 = .ok (.ifCond .ne 10, 3) := by decide +kernel
theorem dX8_part_9 : decode cX8_part 9 = .ok (.aload_n 0, 1) := by decide +kernel
theorem dX8_part_10 : decode cX8_part 10 = .ok (.bipush (-2), 2) := by decide +kernel
theorem dX8_part_12 : decode cX8_part 12 = .ok (.invokevirtual 82, 3) := by decide +kernel
theorem dX8_part_15 : decode cX8_part 15 = .ok (.ireturn, 1) := by decide +kernel
theorem dX8_part_16 : decode cX8_part 16 = .ok (.iload_n 1, 1) := by decide +kernel
theorem dX8_part_17 : decode cX8_part 17 = .ok (.ifCond .ne 10, 3) := by decide +kernel
theorem dX8_part_20 : decode cX8_part 20 = .ok (.aload_n 0, 1) := by decide +kernel
theorem dX8_part_21 : decode cX8_part 21 = .ok (.getfield 62, 3) := by decide +kernel
theorem dX8_part_24 : decode cX8_part 24 = .ok (.goto 7, 3) := by decide +kernel
theorem dX8_part_27 : decode cX8_part 27 = .ok (.aload_n 0, 1) := by decide +kernel
theorem dX8_part_28 : decode cX8_part 28 = .ok (.getfield 66, 3) := by decide +kernel
theorem dX8_part_31 : decode cX8_part 31 = .ok (.ireturn, 1) := by decide +kernel
theorem dX8_image_0 : decode cX8_image 0 = .ok (.iload_n 1, 1) := by decide +kernel
theorem dX8_image_1 : decode cX8_image 1 = .ok (.iconst 0, 1) := by decide +kernel
theorem dX8_image_2 : decode cX8_image 2 = .ok (.iconst 1, 1) := by decide +kernel
theorem dX8_image_3 : decode cX8_image 3 = .ok (.invokestatic 78, 3) := by decide +kernel
theorem dX8_image_6 : decode cX8_image 6 = .ok (.ifCond .ne 10, 3) := by decide +kernel
theorem dX8_image_9 : decode cX8_image 9 = .ok (.aload_n 0, 1) := by decide +kernel
theorem dX8_image_10 : decode cX8_image 10 = .ok (.bipush (-2), 2) := by decide +kernel
theorem dX8_image_12 : decode cX8_image 12 = .ok (.invokevirtual 82, 3) := by decide +kernel
theorem dX8_image_15 : decode cX8_image 15 = .ok (.ireturn, 1) := by decide +kernel
theorem dX8_image_16 : decode cX8_image 16 = .ok (.aload_n 0, 1) := by decide +kernel
theorem dX8_image_17 : decode cX8_image 17 = .ok (.getfield 16, 3) := by decide +kernel
theorem dX8_image_20 : decode cX8_image 20 = .ok (.iload_n 1, 1) := by decide +kernel
theorem dX8_image_21 : decode cX8_image 21 = .ok (.aaload, 1) := by decide +kernel
theorem dX8_image_22 : decode cX8_image 22 = .ok (.ifnonnull 13, 3) := by decide +kernel
theorem dX8_image_25 : decode cX8_image 25 = .ok (.new 9, 3) := by decide +kernel
theorem dX8_image_28 : decode cX8_image 28 = .ok (.dup, 1) := by decide +kernel
theorem dX8_image_29 : decode cX8_image 29 = .ok (.invokespecial 11, 3) := by decide +kernel
theorem dX8_image_32 : decode cX8_image 32 = .ok (.goto 9, 3) := by decide +kernel
theorem dX8_image_35 : decode cX8_image 35 = .ok (.aload_n 0, 1) := by decide +kernel
theorem dX8_image_36 : decode cX8_image 36 = .ok (.getfield 16, 3) := by decide +kernel
theorem dX8_image_39 : decode cX8_image 39 = .ok (.iload_n 1, 1) := by decide +kernel
theorem dX8_image_40 : decode cX8_image 40 = .ok (.aaload, 1) := by decide +kernel
theorem dX8_image_41 : decode cX8_image 41 = .ok (.astore_n 2, 1) := by decide +kernel
theorem dX8_image_42 : decode cX8_image 42 = .ok (.aload_n 2, 1) := by decide +kernel
theorem dX8_image_43 : decode cX8_image 43 = .ok (.aload_n 0, 1) := by decide +kernel
theorem dX8_image_44 : decode cX8_image 44 = .ok (.getfield 12, 3) := by decide +kernel
theorem dX8_image_47 : decode cX8_image 47 = .ok (.invokevirtual 276, 3) := by decide +kernel
theorem dX8_image_50 : decode cX8_image 50 = .ok (.aload_n 0, 1) := by decide +kernel
theorem dX8_image_51 : decode cX8_image 51 = .ok (.getfield 16, 3) := by decide +kernel
theorem dX8_image_54 : decode cX8_image 54 = .ok (.iload_n 1, 1) := by decide +kernel
theorem dX8_image_55 : decode cX8_image 55 = .ok (.aload_n 2, 1) := by decide +kernel
theorem dX8_image_56 : decode cX8_image 56 = .ok (.aastore, 1) := by decide +kernel
theorem dX8_image_57 : decode cX8_image 57 = .ok (.iconst 1, 1) := by decide +kernel
theorem dX8_image_58 : decode cX8_image 58 = .ok (.ireturn, 1) := by decide +kernel
theorem dX8_from_0 : decode cX8_from 0 = .ok (.iload_n 1, 1) := by decide +kernel
theorem dX8_from_1 : decode cX8_from 1 = .ok (.iconst 0, 1) := by decide +kernel
theorem dX8_from_2 : decode cX8_from 2 = .ok (.iconst 1, 1) := by decide +kernel
theorem dX8_from_3 : decode cX8_from 3 = .ok (.invokestatic 78, 3) := by decide +kernel
theorem dX8_from_6 : decode cX8_from 6 = .ok (.ifCond .ne 10, 3) := by decide +kernel
theorem dX8_from_9 : decode cX8_from 9 = .ok (.aload_n 0, 1) := by decide +kernel
theorem dX8_from_10 : decode cX8_from 10 = .ok (.bipush (-2), 2) := by decide +kernel
theorem dX8_from_12 : decode cX8_from 12 = .ok (.invokevirtual 82, 3) := by decide +kernel
theorem dX8_from_15 : decode cX8_from 15 = .ok (.ireturn, 1) := by decide +kernel
theorem dX8_from_16 : decode cX8_from 16 = .ok (.aload_n 0, 1) := by decide +kernel
theorem dX8_from_17 : decode cX8_from 17 = .ok (.getfield 16, 3) := by decide +kernel
theorem dX8_from_20 : decode cX8_from 20 = .ok (.iload_n 1, 1) := by decide +kernel
theorem dX8_from_21 : decode cX8_from 21 = .ok (.aaload, 1) := by decide +kernel
theorem dX8_from_22 : decode cX8_from 22 = .ok (.astore_n 2, 1) := by decide +kernel
theorem dX8_from_23 : decode cX8_from 23 = .ok (.aload_n 2, 1) := by decide +kernel
theorem dX8_from_24 : decode cX8_from 24 = .ok (.ifnonnull 10, 3) := by decide +kernel
theorem dX8_from_27 : decode cX8_from 27 = .ok (.aload_n 0, 1) := by decide +kernel
theorem dX8_from_28 : decode cX8_from 28 = .ok (.bipush (-3), 2) := by decide +kernel
theorem dX8_from_30 : decode cX8_from 30 = .ok (.invokevirtual 147, 3) := by decide +kernel
theorem dX8_from_33 : decode cX8_from 33 = .ok (.ireturn, 1) := by decide +kernel
theorem dX8_from_34 : decode cX8_from 34 = .ok (.aload_n 0, 1) := by decide +kernel
theorem dX8_from_35 : decode cX8_from 35 = .ok (.getfield 12, 3) := by decide +kernel
theorem dX8_from_38 : decode cX8_from 38 = .ok (.aload_n 2, 1) := by decide +kernel
theorem dX8_from_39 : decode cX8_from 39 = .ok (.invokevirtual 276, 3) := by decide +kernel
theorem dX8_from_42 : decode cX8_from 42 = .ok (.aload_n 0, 1) := by decide +kernel
theorem dX8_from_43 : decode cX8_from 43 = .ok (.getfield 23, 3) := by decide +kernel
theorem dX8_from_46 : decode cX8_from 46 = .ok (.aload_n 0, 1) := by decide +kernel
theorem dX8_from_47 : decode cX8_from 47 = .ok (.getfield 12, 3) := by decide +kernel
theorem dX8_from_50 : decode cX8_from 50 = .ok (.getfield 133, 3) := by decide +kernel
theorem dX8_from_53 : decode cX8_from 53 = .ok (.aload_n 0, 1) := by decide +kernel
theorem dX8_from_54 : decode cX8_from 54 = .ok (.getfield 12, 3) := by decide +kernel
theorem dX8_from_57 : decode cX8_from 57 = .ok (.getfield 130, 3) := by decide +kernel
theorem dX8_from_60 : decode cX8_from 60 = .ok (.invokevirtual 136, 3) := by decide +kernel
theorem dX8_from_63 : decode cX8_from 63 = .ok (.iconst 1, 1) := by decide +kernel
theorem dX8_from_64 : decode cX8_from 64 = .ok (.ireturn, 1) := by decide +kernel
theorem dX8_status_0 : decode cX8_status 0 = .ok (.iload_n 1, 1) := by decide +kernel
theorem dX8_status_1 : decode cX8_status 1 = .ok (.tableswitch 42 0 2 #[27, 32, 37], 27) := by decide +kernel
theorem dX8_status_28 : decode cX8_status 28 = .ok (.aload_n 0, 1) := by decide +kernel
theorem dX8_status_29 : decode cX8_status 29 = .ok (.getfield 69, 3) := by decide +kernel
theorem dX8_status_32 : decode cX8_status 32 = .ok (.ireturn, 1) := by decide +kernel
theorem dX8_status_33 : decode cX8_status 33 = .ok (.aload_n 0, 1) := by decide +kernel
theorem dX8_status_34 : decode cX8_status 34 = .ok (.getfield 72, 3) := by decide +kernel
theorem dX8_status_37 : decode cX8_status 37 = .ok (.ireturn, 1) := by decide +kernel
theorem dX8_status_38 : decode cX8_status 38 = .ok (.aload_n 0, 1) := by decide +kernel
theorem dX8_status_39 : decode cX8_status 39 = .ok (.getfield 75, 3) := by decide +kernel
theorem dX8_status_42 : decode cX8_status 42 = .ok (.ireturn, 1) := by decide +kernel
theorem dX8_status_43 : decode cX8_status 43 = .ok (.aload_n 0, 1) := by decide +kernel
theorem dX8_status_44 : decode cX8_status 44 = .ok (.iconst (-1), 1) := by decide +kernel
theorem dX8_status_45 : decode cX8_status 45 = .ok (.invokevirtual 82, 3) := by decide +kernel
theorem dX8_status_48 : decode cX8_status 48 = .ok (.ireturn, 1) := by decide +kernel
theorem dX8_count_0 : decode cX8_count 0 = .ok (.iload_n 1, 1) := by decide +kernel
theorem dX8_count_1 : decode cX8_count 1 = .ok (.tableswitch 66 0 3 #[31, 42, 50, 58], 31) := by decide +kernel
theorem dX8_count_32 : decode cX8_count 32 = .ok (.aload_n 0, 1) := by decide +kernel
theorem dX8_count_33 : decode cX8_count 33 = .ok (.getfield 12, 3) := by decide +kernel
theorem dX8_count_36 : decode cX8_count 36 = .ok (.getfield 86, 3) := by decide +kernel
theorem dX8_count_39 : decode cX8_count 39 = .ok (.getfield 90, 3) := by decide +kernel
theorem dX8_count_42 : decode cX8_count 42 = .ok (.ireturn, 1) := by decide +kernel
theorem dX8_count_43 : decode cX8_count 43 = .ok (.aload_n 0, 1) := by decide +kernel
theorem dX8_count_44 : decode cX8_count 44 = .ok (.getfield 12, 3) := by decide +kernel
theorem dX8_count_47 : decode cX8_count 47 = .ok (.getfield 130, 3) := by decide +kernel
theorem dX8_count_50 : decode cX8_count 50 = .ok (.ireturn, 1) := by decide +kernel
theorem dX8_count_51 : decode cX8_count 51 = .ok (.aload_n 0, 1) := by decide +kernel
theorem dX8_count_52 : decode cX8_count 52 = .ok (.getfield 12, 3) := by decide +kernel
theorem dX8_count_55 : decode cX8_count 55 = .ok (.getfield 186, 3) := by decide +kernel
theorem dX8_count_58 : decode cX8_count 58 = .ok (.ireturn, 1) := by decide +kernel
theorem dX8_count_59 : decode cX8_count 59 = .ok (.aload_n 0, 1) := by decide +kernel
theorem dX8_count_60 : decode cX8_count 60 = .ok (.getfield 12, 3) := by decide +kernel
theorem dX8_count_63 : decode cX8_count 63 = .ok (.getfield 231, 3) := by decide +kernel
theorem dX8_count_66 : decode cX8_count 66 = .ok (.ireturn, 1) := by decide +kernel
theorem dX8_count_67 : decode cX8_count 67 = .ok (.aload_n 0, 1) := by decide +kernel
theorem dX8_count_68 : decode cX8_count 68 = .ok (.bipush (-2), 2) := by decide +kernel
theorem dX8_count_70 : decode cX8_count 70 = .ok (.invokevirtual 82, 3) := by decide +kernel
theorem dX8_count_73 : decode cX8_count 73 = .ok (.ireturn, 1) := by decide +kernel
theorem dX8_digest_0 : decode cX8_digest 0 = .ok (.ldc2_w 279, 3) := by decide +kernel
theorem dX8_digest_3 : decode cX8_digest 3 = .ok (.lstore_n 1, 1) := by decide +kernel
theorem dX8_digest_4 : decode cX8_digest 4 = .ok (.ldc2_w 281, 3) := by decide +kernel
theorem dX8_digest_7 : decode cX8_digest 7 = .ok (.lload_n 1, 1) := by decide +kernel
theorem dX8_digest_8 : decode cX8_digest 8 = .ok (.lmul, 1) := by decide +kernel
theorem dX8_digest_9 : decode cX8_digest 9 = .ok (.aload_n 0, 1) := by decide +kernel
theorem dX8_digest_10 : decode cX8_digest 10 = .ok (.getfield 12, 3) := by decide +kernel
theorem dX8_digest_13 : decode cX8_digest 13 = .ok (.getfield 86, 3) := by decide +kernel
theorem dX8_digest_16 : decode cX8_digest 16 = .ok (.getfield 90, 3) := by decide +kernel
theorem dX8_digest_19 : decode cX8_digest 19 = .ok (.i2l, 1) := by decide +kernel
theorem dX8_digest_20 : decode cX8_digest 20 = .ok (.ladd, 1) := by decide +kernel
theorem dX8_digest_21 : decode cX8_digest 21 = .ok (.lstore_n 1, 1) := by decide +kernel
theorem dX8_digest_22 : decode cX8_digest 22 = .ok (.ldc2_w 281, 3) := by decide +kernel
theorem dX8_digest_25 : decode cX8_digest 25 = .ok (.lload_n 1, 1) := by decide +kernel
theorem dX8_digest_26 : decode cX8_digest 26 = .ok (.lmul, 1) := by decide +kernel
theorem dX8_digest_27 : decode cX8_digest 27 = .ok (.aload_n 0, 1) := by decide +kernel
theorem dX8_digest_28 : decode cX8_digest 28 = .ok (.getfield 12, 3) := by decide +kernel
theorem dX8_digest_31 : decode cX8_digest 31 = .ok (.getfield 130, 3) := by decide +kernel
theorem dX8_digest_34 : decode cX8_digest 34 = .ok (.i2l, 1) := by decide +kernel
theorem dX8_digest_35 : decode cX8_digest 35 = .ok (.ladd, 1) := by decide +kernel
theorem dX8_digest_36 : decode cX8_digest 36 = .ok (.lstore_n 1, 1) := by decide +kernel
theorem dX8_digest_37 : decode cX8_digest 37 = .ok (.ldc2_w 281, 3) := by decide +kernel
theorem dX8_digest_40 : decode cX8_digest 40 = .ok (.lload_n 1, 1) := by decide +kernel
theorem dX8_digest_41 : decode cX8_digest 41 = .ok (.lmul, 1) := by decide +kernel
theorem dX8_digest_42 : decode cX8_digest 42 = .ok (.aload_n 0, 1) := by decide +kernel
theorem dX8_digest_43 : decode cX8_digest 43 = .ok (.getfield 12, 3) := by decide +kernel
theorem dX8_digest_46 : decode cX8_digest 46 = .ok (.getfield 186, 3) := by decide +kernel
theorem dX8_digest_49 : decode cX8_digest 49 = .ok (.i2l, 1) := by decide +kernel
theorem dX8_digest_50 : decode cX8_digest 50 = .ok (.ladd, 1) := by decide +kernel
theorem dX8_digest_51 : decode cX8_digest 51 = .ok (.lstore_n 1, 1) := by decide +kernel
theorem dX8_digest_52 : decode cX8_digest 52 = .ok (.ldc2_w 281, 3) := by decide +kernel
theorem dX8_digest_55 : decode cX8_digest 55 = .ok (.lload_n 1, 1) := by decide +kernel
theorem dX8_digest_56 : decode cX8_digest 56 = .ok (.lmul, 1) := by decide +kernel
theorem dX8_digest_57 : decode cX8_digest 57 = .ok (.aload_n 0, 1) := by decide +kernel
theorem dX8_digest_58 : decode cX8_digest 58 = .ok (.getfield 12, 3) := by decide +kernel
theorem dX8_digest_61 : decode cX8_digest 61 = .ok (.getfield 231, 3) := by decide +kernel
theorem dX8_digest_64 : decode cX8_digest 64 = .ok (.i2l, 1) := by decide +kernel
theorem dX8_digest_65 : decode cX8_digest 65 = .ok (.ladd, 1) := by decide +kernel
theorem dX8_digest_66 : decode cX8_digest 66 = .ok (.lstore_n 1, 1) := by decide +kernel
theorem dX8_digest_67 : decode cX8_digest 67 = .ok (.aload_n 0, 1) := by decide +kernel
theorem dX8_digest_68 : decode cX8_digest 68 = .ok (.getfield 12, 3) := by decide +kernel
theorem dX8_digest_71 : decode cX8_digest 71 = .ok (.getfield 86, 3) := by decide +kernel
theorem dX8_digest_74 : decode cX8_digest 74 = .ok (.lload_n 1, 1) := by decide +kernel
theorem dX8_digest_75 : decode cX8_digest 75 = .ok (.invokevirtual 283, 3) := by decide +kernel
theorem dX8_digest_78 : decode cX8_digest 78 = .ok (.lstore_n 1, 1) := by decide +kernel
theorem dX8_digest_79 : decode cX8_digest 79 = .ok (.aload_n 0, 1) := by decide +kernel
theorem dX8_digest_80 : decode cX8_digest 80 = .ok (.getfield 12, 3) := by decide +kernel
theorem dX8_digest_83 : decode cX8_digest 83 = .ok (.getfield 120, 3) := by decide +kernel
theorem dX8_digest_86 : decode cX8_digest 86 = .ok (.lload_n 1, 1) := by decide +kernel
theorem dX8_digest_87 : decode cX8_digest 87 = .ok (.invokevirtual 287, 3) := by decide +kernel
theorem dX8_digest_90 : decode cX8_digest 90 = .ok (.lstore_n 1, 1) := by decide +kernel
theorem dX8_digest_91 : decode cX8_digest 91 = .ok (.lload_n 1, 1) := by decide +kernel
theorem dX8_digest_92 : decode cX8_digest 92 = .ok (.aload_n 0, 1) := by decide +kernel
theorem dX8_digest_93 : decode cX8_digest 93 = .ok (.getfield 12, 3) := by decide +kernel
theorem dX8_digest_96 : decode cX8_digest 96 = .ok (.getfield 133, 3) := by decide +kernel
theorem dX8_digest_99 : decode cX8_digest 99 = .ok (.aload_n 0, 1) := by decide +kernel
theorem dX8_digest_100 : decode cX8_digest 100 = .ok (.getfield 12, 3) := by decide +kernel
theorem dX8_digest_103 : decode cX8_digest 103 = .ok (.getfield 130, 3) := by decide +kernel
theorem dX8_digest_106 : decode cX8_digest 106 = .ok (.invokestatic 288, 3) := by decide +kernel
theorem dX8_digest_109 : decode cX8_digest 109 = .ok (.lstore_n 1, 1) := by decide +kernel
theorem dX8_digest_110 : decode cX8_digest 110 = .ok (.lload_n 1, 1) := by decide +kernel
theorem dX8_digest_111 : decode cX8_digest 111 = .ok (.aload_n 0, 1) := by decide +kernel
theorem dX8_digest_112 : decode cX8_digest 112 = .ok (.getfield 12, 3) := by decide +kernel
theorem dX8_digest_115 : decode cX8_digest 115 = .ok (.getfield 183, 3) := by decide +kernel
theorem dX8_digest_118 : decode cX8_digest 118 = .ok (.aload_n 0, 1) := by decide +kernel
theorem dX8_digest_119 : decode cX8_digest 119 = .ok (.getfield 12, 3) := by decide +kernel
theorem dX8_digest_122 : decode cX8_digest 122 = .ok (.getfield 186, 3) := by decide +kernel
theorem dX8_digest_125 : decode cX8_digest 125 = .ok (.invokestatic 288, 3) := by decide +kernel
theorem dX8_digest_128 : decode cX8_digest 128 = .ok (.lstore_n 1, 1) := by decide +kernel
theorem dX8_digest_129 : decode cX8_digest 129 = .ok (.lload_n 1, 1) := by decide +kernel
theorem dX8_digest_130 : decode cX8_digest 130 = .ok (.aload_n 0, 1) := by decide +kernel
theorem dX8_digest_131 : decode cX8_digest 131 = .ok (.getfield 12, 3) := by decide +kernel
theorem dX8_digest_134 : decode cX8_digest 134 = .ok (.getfield 210, 3) := by decide +kernel
theorem dX8_digest_137 : decode cX8_digest 137 = .ok (.bipush 6, 2) := by decide +kernel
theorem dX8_digest_139 : decode cX8_digest 139 = .ok (.invokestatic 288, 3) := by decide +kernel
theorem dX8_digest_142 : decode cX8_digest 142 = .ok (.lstore_n 1, 1) := by decide +kernel
theorem dX8_digest_143 : decode cX8_digest 143 = .ok (.aload_n 0, 1) := by decide +kernel
theorem dX8_digest_144 : decode cX8_digest 144 = .ok (.lload_n 1, 1) := by decide +kernel
theorem dX8_digest_145 : decode cX8_digest 145 = .ok (.invokevirtual 292, 3) := by decide +kernel
theorem dX8_digest_148 : decode cX8_digest 148 = .ok (.lstore_n 1, 1) := by decide +kernel
theorem dX8_digest_149 : decode cX8_digest 149 = .ok (.lload_n 1, 1) := by decide +kernel
theorem dX8_digest_150 : decode cX8_digest 150 = .ok (.aload_n 0, 1) := by decide +kernel
theorem dX8_digest_151 : decode cX8_digest 151 = .ok (.getfield 12, 3) := by decide +kernel
theorem dX8_digest_154 : decode cX8_digest 154 = .ok (.getfield 234, 3) := by decide +kernel
theorem dX8_digest_157 : decode cX8_digest 157 = .ok (.aload_n 0, 1) := by decide +kernel
theorem dX8_digest_158 : decode cX8_digest 158 = .ok (.getfield 12, 3) := by decide +kernel
theorem dX8_digest_161 : decode cX8_digest 161 = .ok (.getfield 231, 3) := by decide +kernel
theorem dX8_digest_164 : decode cX8_digest 164 = .ok (.iconst 3, 1) := by decide +kernel
theorem dX8_digest_165 : decode cX8_digest 165 = .ok (.imul, 1) := by decide +kernel
theorem dX8_digest_166 : decode cX8_digest 166 = .ok (.invokestatic 288, 3) := by decide +kernel
theorem dX8_digest_169 : decode cX8_digest 169 = .ok (.lstore_n 1, 1) := by decide +kernel
theorem dX8_digest_170 : decode cX8_digest 170 = .ok (.ldc2_w 281, 3) := by decide +kernel
theorem dX8_digest_173 : decode cX8_digest 173 = .ok (.lload_n 1, 1) := by decide +kernel
theorem dX8_digest_174 : decode cX8_digest 174 = .ok (.lmul, 1) := by decide +kernel
theorem dX8_digest_175 : decode cX8_digest 175 = .ok (.aload_n 0, 1) := by decide +kernel
theorem dX8_digest_176 : decode cX8_digest 176 = .ok (.getfield 62, 3) := by decide +kernel
theorem dX8_digest_179 : decode cX8_digest 179 = .ok (.i2l, 1) := by decide +kernel
theorem dX8_digest_180 : decode cX8_digest 180 = .ok (.ladd, 1) := by decide +kernel
theorem dX8_digest_181 : decode cX8_digest 181 = .ok (.lstore_n 1, 1) := by decide +kernel
theorem dX8_digest_182 : decode cX8_digest 182 = .ok (.ldc2_w 281, 3) := by decide +kernel
theorem dX8_digest_185 : decode cX8_digest 185 = .ok (.lload_n 1, 1) := by decide +kernel
theorem dX8_digest_186 : decode cX8_digest 186 = .ok (.lmul, 1) := by decide +kernel
theorem dX8_digest_187 : decode cX8_digest 187 = .ok (.aload_n 0, 1) := by decide +kernel
theorem dX8_digest_188 : decode cX8_digest 188 = .ok (.getfield 66, 3) := by decide +kernel
theorem dX8_digest_191 : decode cX8_digest 191 = .ok (.i2l, 1) := by decide +kernel
theorem dX8_digest_192 : decode cX8_digest 192 = .ok (.ladd, 1) := by decide +kernel
theorem dX8_digest_193 : decode cX8_digest 193 = .ok (.lreturn, 1) := by decide +kernel
theorem dX8_bad_0 : decode cX8_bad 0 = .ok (.aload_n 0, 1) := by decide +kernel
theorem dX8_bad_1 : decode cX8_bad 1 = .ok (.dup, 1) := by decide +kernel
theorem dX8_bad_2 : decode cX8_bad 2 = .ok (.getfield 69, 3) := by decide +kernel
theorem dX8_bad_5 : decode cX8_bad 5 = .ok (.iconst 1, 1) := by decide +kernel
theorem dX8_bad_6 : decode cX8_bad 6 = .ok (.iadd, 1) := by decide +kernel
theorem dX8_bad_7 : decode cX8_bad 7 = .ok (.putfield 69, 3) := by decide +kernel
theorem dX8_bad_10 : decode cX8_bad 10 = .ok (.iload_n 1, 1) := by decide +kernel
theorem dX8_bad_11 : decode cX8_bad 11 = .ok (.ireturn, 1) := by decide +kernel
theorem dX8_no_0 : decode cX8_no 0 = .ok (.aload_n 0, 1) := by decide +kernel
theorem dX8_no_1 : decode cX8_no 1 = .ok (.dup, 1) := by decide +kernel
theorem dX8_no_2 : decode cX8_no 2 = .ok (.getfield 72, 3) := by decide +kernel
theorem dX8_no_5 : decode cX8_no 5 = .ok (.iconst 1, 1) := by decide +kernel
theorem dX8_no_6 : decode cX8_no 6 = .ok (.iadd, 1) := by decide +kernel
theorem dX8_no_7 : decode cX8_no 7 = .ok (.putfield 72, 3) := by decide +kernel
theorem dX8_no_10 : decode cX8_no 10 = .ok (.iload_n 1, 1) := by decide +kernel
theorem dX8_no_11 : decode cX8_no 11 = .ok (.ireturn, 1) := by decide +kernel
theorem dX8_full_0 : decode cX8_full 0 = .ok (.aload_n 0, 1) := by decide +kernel
theorem dX8_full_1 : decode cX8_full 1 = .ok (.dup, 1) := by decide +kernel
theorem dX8_full_2 : decode cX8_full 2 = .ok (.getfield 75, 3) := by decide +kernel
theorem dX8_full_5 : decode cX8_full 5 = .ok (.iconst 1, 1) := by decide +kernel
theorem dX8_full_6 : decode cX8_full 6 = .ok (.iadd, 1) := by decide +kernel
theorem dX8_full_7 : decode cX8_full 7 = .ok (.putfield 75, 3) := by decide +kernel
theorem dX8_full_10 : decode cX8_full 10 = .ok (.bipush (-4), 2) := by decide +kernel
theorem dX8_full_12 : decode cX8_full 12 = .ok (.ireturn, 1) := by decide +kernel
theorem dX8_faulty_0 : decode cX8_faulty 0 = .ok (.aload_n 0, 1) := by decide +kernel
theorem dX8_faulty_1 : decode cX8_faulty 1 = .ok (.getfield 23, 3) := by decide +kernel
theorem dX8_faulty_4 : decode cX8_faulty 4 = .ok (.getfield 140, 3) := by decide +kernel
theorem dX8_faulty_7 : decode cX8_faulty 7 = .ok (.iconst (-1), 1) := by decide +kernel
theorem dX8_faulty_8 : decode cX8_faulty 8 = .ok (.if_icmp .eq 7, 3) := by decide +kernel
theorem dX8_faulty_11 : decode cX8_faulty 11 = .ok (.iconst 1, 1) := by decide +kernel
theorem dX8_faulty_12 : decode cX8_faulty 12 = .ok (.goto 4, 3) := by decide +kernel
theorem dX8_faulty_15 : decode cX8_faulty 15 = .ok (.iconst 0, 1) := by decide +kernel
theorem dX8_faulty_16 : decode cX8_faulty 16 = .ok (.ireturn, 1) := by decide +kernel
theorem dX8_within_0 : decode cX8_within 0 = .ok (.iload_n 0, 1) := by decide +kernel
theorem dX8_within_1 : decode cX8_within 1 = .ok (.iload_n 1, 1) := by decide +kernel
theorem dX8_within_2 : decode cX8_within 2 = .ok (.if_icmp .lt 12, 3) := by decide +kernel
theorem dX8_within_5 : decode cX8_within 5 = .ok (.iload_n 0, 1) := by decide +kernel
theorem dX8_within_6 : decode cX8_within 6 = .ok (.iload_n 2, 1) := by decide +kernel
theorem dX8_within_7 : decode cX8_within 7 = .ok (.if_icmp .gt 7, 3) := by decide +kernel
theorem dX8_within_10 : decode cX8_within 10 = .ok (.iconst 1, 1) := by decide +kernel
theorem dX8_within_11 : decode cX8_within 11 = .ok (.goto 4, 3) := by decide +kernel
theorem dX8_within_14 : decode cX8_within 14 = .ok (.iconst 0, 1) := by decide +kernel
theorem dX8_within_15 : decode cX8_within 15 = .ok (.ireturn, 1) := by decide +kernel
theorem dX8_isDoor_0 : decode cX8_isDoor 0 = .ok (.iload_n 0, 1) := by decide +kernel
theorem dX8_isDoor_1 : decode cX8_isDoor 1 = .ok (.iconst 0, 1) := by decide +kernel
theorem dX8_isDoor_2 : decode cX8_isDoor 2 = .ok (.iconst 5, 1) := by decide +kernel
theorem dX8_isDoor_3 : decode cX8_isDoor 3 = .ok (.invokestatic 78, 3) := by decide +kernel
theorem dX8_isDoor_6 : decode cX8_isDoor 6 = .ok (.ireturn, 1) := by decide +kernel
theorem dX8_pair_0 : decode cX8_pair 0 = .ok (.iload_n 0, 1) := by decide +kernel
theorem dX8_pair_1 : decode cX8_pair 1 = .ok (.bipush 8, 2) := by decide +kernel
theorem dX8_pair_3 : decode cX8_pair 3 = .ok (.imul, 1) := by decide +kernel
theorem dX8_pair_4 : decode cX8_pair 4 = .ok (.iload_n 1, 1) := by decide +kernel
theorem dX8_pair_5 : decode cX8_pair 5 = .ok (.iadd, 1) := by decide +kernel
theorem dX8_pair_6 : decode cX8_pair 6 = .ok (.ireturn, 1) := by decide +kernel
theorem dX8_tollAt_0 : decode cX8_tollAt 0 = .ok (.aload_n 0, 1) := by decide +kernel
theorem dX8_tollAt_1 : decode cX8_tollAt 1 = .ok (.getfield 12, 3) := by decide +kernel
theorem dX8_tollAt_4 : decode cX8_tollAt 4 = .ok (.getfield 210, 3) := by decide +kernel
theorem dX8_tollAt_7 : decode cX8_tollAt 7 = .ok (.iload_n 1, 1) := by decide +kernel
theorem dX8_tollAt_8 : decode cX8_tollAt 8 = .ok (.iaload, 1) := by decide +kernel
theorem dX8_tollAt_9 : decode cX8_tollAt 9 = .ok (.istore_n 3, 1) := by decide +kernel
theorem dX8_tollAt_10 : decode cX8_tollAt 10 = .ok (.iload_n 3, 1) := by decide +kernel
theorem dX8_tollAt_11 : decode cX8_tollAt 11 = .ok (.iconst (-1), 1) := by decide +kernel
theorem dX8_tollAt_12 : decode cX8_tollAt 12 = .ok (.if_icmp .eq 8, 3) := by decide +kernel
theorem dX8_tollAt_15 : decode cX8_tollAt 15 = .ok (.iload_n 3, 1) := by decide +kernel
theorem dX8_tollAt_16 : decode cX8_tollAt 16 = .ok (.iload_n 2, 1) := by decide +kernel
theorem dX8_tollAt_17 : decode cX8_tollAt 17 = .ok (.if_icmp .ne 5, 3) := by decide +kernel
theorem dX8_tollAt_20 : decode cX8_tollAt 20 = .ok (.iconst 0, 1) := by decide +kernel
theorem dX8_tollAt_21 : decode cX8_tollAt 21 = .ok (.ireturn, 1) := by decide +kernel
theorem dX8_tollAt_22 : decode cX8_tollAt 22 = .ok (.aload_n 0, 1) := by decide +kernel
theorem dX8_tollAt_23 : decode cX8_tollAt 23 = .ok (.getfield 33, 3) := by decide +kernel
theorem dX8_tollAt_26 : decode cX8_tollAt 26 = .ok (.aload_n 0, 1) := by decide +kernel
theorem dX8_tollAt_27 : decode cX8_tollAt 27 = .ok (.getfield 23, 3) := by decide +kernel
theorem dX8_tollAt_30 : decode cX8_tollAt 30 = .ok (.aload_n 0, 1) := by decide +kernel
theorem dX8_tollAt_31 : decode cX8_tollAt 31 = .ok (.getfield 12, 3) := by decide +kernel
theorem dX8_tollAt_34 : decode cX8_tollAt 34 = .ok (.getfield 86, 3) := by decide +kernel
theorem dX8_tollAt_37 : decode cX8_tollAt 37 = .ok (.aload_n 0, 1) := by decide +kernel
theorem dX8_tollAt_38 : decode cX8_tollAt 38 = .ok (.getfield 12, 3) := by decide +kernel
theorem dX8_tollAt_41 : decode cX8_tollAt 41 = .ok (.getfield 120, 3) := by decide +kernel
theorem dX8_tollAt_44 : decode cX8_tollAt 44 = .ok (.iload_n 3, 1) := by decide +kernel
theorem dX8_tollAt_45 : decode cX8_tollAt 45 = .ok (.iload_n 2, 1) := by decide +kernel
theorem dX8_tollAt_46 : decode cX8_tollAt 46 = .ok (.invokevirtual 163, 3) := by decide +kernel
theorem dX8_tollAt_49 : decode cX8_tollAt 49 = .ok (.aload_n 0, 1) := by decide +kernel
theorem dX8_tollAt_50 : decode cX8_tollAt 50 = .ok (.getfield 33, 3) := by decide +kernel
theorem dX8_tollAt_53 : decode cX8_tollAt 53 = .ok (.getfield 167, 3) := by decide +kernel
theorem dX8_tollAt_56 : decode cX8_tollAt 56 = .ok (.iconst (-1), 1) := by decide +kernel
theorem dX8_tollAt_57 : decode cX8_tollAt 57 = .ok (.if_icmp .ne 5, 3) := by decide +kernel
theorem dX8_tollAt_60 : decode cX8_tollAt 60 = .ok (.iconst (-1), 1) := by decide +kernel
theorem dX8_tollAt_61 : decode cX8_tollAt 61 = .ok (.ireturn, 1) := by decide +kernel
theorem dX8_tollAt_62 : decode cX8_tollAt 62 = .ok (.aload_n 0, 1) := by decide +kernel
theorem dX8_tollAt_63 : decode cX8_tollAt 63 = .ok (.getfield 33, 3) := by decide +kernel
theorem dX8_tollAt_66 : decode cX8_tollAt 66 = .ok (.getfield 167, 3) := by decide +kernel
theorem dX8_tollAt_69 : decode cX8_tollAt 69 = .ok (.iload_n 3, 1) := by decide +kernel
theorem dX8_tollAt_70 : decode cX8_tollAt 70 = .ok (.if_icmp .ne 15, 3) := by decide +kernel
theorem dX8_tollAt_73 : decode cX8_tollAt 73 = .ok (.aload_n 0, 1) := by decide +kernel
theorem dX8_tollAt_74 : decode cX8_tollAt 74 = .ok (.getfield 33, 3) := by decide +kernel
theorem dX8_tollAt_77 : decode cX8_tollAt 77 = .ok (.getfield 170, 3) := by decide +kernel
theorem dX8_tollAt_80 : decode cX8_tollAt 80 = .ok (.iconst 1, 1) := by decide +kernel
theorem dX8_tollAt_81 : decode cX8_tollAt 81 = .ok (.iadd, 1) := by decide +kernel
theorem dX8_tollAt_82 : decode cX8_tollAt 82 = .ok (.goto 10, 3) := by decide +kernel
theorem dX8_tollAt_85 : decode cX8_tollAt 85 = .ok (.aload_n 0, 1) := by decide +kernel
theorem dX8_tollAt_86 : decode cX8_tollAt 86 = .ok (.getfield 33, 3) := by decide +kernel
theorem dX8_tollAt_89 : decode cX8_tollAt 89 = .ok (.getfield 170, 3) := by decide +kernel
theorem dX8_tollAt_92 : decode cX8_tollAt 92 = .ok (.ireturn, 1) := by decide +kernel
theorem dX8_firstWrong_0 : decode cX8_firstWrong 0 = .ok (.aload_n 0, 1) := by decide +kernel
theorem dX8_firstWrong_1 : decode cX8_firstWrong 1 = .ok (.getfield 54, 3) := by decide +kernel
theorem dX8_firstWrong_4 : decode cX8_firstWrong 4 = .ok (.aload_n 0, 1) := by decide +kernel
theorem dX8_firstWrong_5 : decode cX8_firstWrong 5 = .ok (.getfield 12, 3) := by decide +kernel
theorem dX8_firstWrong_8 : decode cX8_firstWrong 8 = .ok (.getfield 120, 3) := by decide +kernel
theorem dX8_firstWrong_11 : decode cX8_firstWrong 11 = .ok (.invokevirtual 245, 3) := by decide +kernel
theorem dX8_firstWrong_14 : decode cX8_firstWrong 14 = .ok (.iconst 0, 1) := by decide +kernel
theorem dX8_firstWrong_15 : decode cX8_firstWrong 15 = .ok (.istore_n 2, 1) := by decide +kernel
theorem dX8_firstWrong_16 : decode cX8_firstWrong 16 = .ok (.iload_n 2, 1) := by decide +kernel
theorem dX8_firstWrong_17 : decode cX8_firstWrong 17 = .ok (.aload_n 0, 1) := by decide +kernel
theorem dX8_firstWrong_18 : decode cX8_firstWrong 18 = .ok (.getfield 12, 3) := by decide +kernel
theorem dX8_firstWrong_21 : decode cX8_firstWrong 21 = .ok (.getfield 231, 3) := by decide +kernel
theorem dX8_firstWrong_24 : decode cX8_firstWrong 24 = .ok (.if_icmp .ge 108, 3) := by decide +kernel
theorem dX8_firstWrong_27 : decode cX8_firstWrong 27 = .ok (.aload_n 0, 1) := by decide +kernel
theorem dX8_firstWrong_28 : decode cX8_firstWrong 28 = .ok (.getfield 12, 3) := by decide +kernel
theorem dX8_firstWrong_31 : decode cX8_firstWrong 31 = .ok (.getfield 234, 3) := by decide +kernel
theorem dX8_firstWrong_34 : decode cX8_firstWrong 34 = .ok (.iload_n 2, 1) := by decide +kernel
theorem dX8_firstWrong_35 : decode cX8_firstWrong 35 = .ok (.iconst 3, 1) := by decide +kernel
theorem dX8_firstWrong_36 : decode cX8_firstWrong 36 = .ok (.imul, 1) := by decide +kernel
theorem dX8_firstWrong_37 : decode cX8_firstWrong 37 = .ok (.iaload, 1) := by decide +kernel
theorem dX8_firstWrong_38 : decode cX8_firstWrong 38 = .ok (.istore_n 3, 1) := by decide +kernel
theorem dX8_firstWrong_39 : decode cX8_firstWrong 39 = .ok (.aload_n 0, 1) := by decide +kernel
theorem dX8_firstWrong_40 : decode cX8_firstWrong 40 = .ok (.getfield 12, 3) := by decide +kernel
theorem dX8_firstWrong_43 : decode cX8_firstWrong 43 = .ok (.getfield 234, 3) := by decide +kernel
theorem dX8_firstWrong_46 : decode cX8_firstWrong 46 = .ok (.iload_n 2, 1) := by decide +kernel
theorem dX8_firstWrong_47 : decode cX8_firstWrong 47 = .ok (.iconst 3, 1) := by decide +kernel
theorem dX8_firstWrong_48 : decode cX8_firstWrong 48 = .ok (.imul, 1) := by decide +kernel
theorem dX8_firstWrong_49 : decode cX8_firstWrong 49 = .ok (.iconst 1, 1) := by decide +kernel
theorem dX8_firstWrong_50 : decode cX8_firstWrong 50 = .ok (.iadd, 1) := by decide +kernel
theorem dX8_firstWrong_51 : decode cX8_firstWrong 51 = .ok (.iaload, 1) := by decide +kernel
theorem dX8_firstWrong_52 : decode cX8_firstWrong 52 = .ok (.istore 4, 2) := by decide +kernel
theorem dX8_firstWrong_54 : decode cX8_firstWrong 54 = .ok (.aload_n 0, 1) := by decide +kernel
theorem dX8_firstWrong_55 : decode cX8_firstWrong 55 = .ok (.getfield 12, 3) := by decide +kernel
theorem dX8_firstWrong_58 : decode cX8_firstWrong 58 = .ok (.getfield 234, 3) := by decide +kernel
theorem dX8_firstWrong_61 : decode cX8_firstWrong 61 = .ok (.iload_n 2, 1) := by decide +kernel
theorem dX8_firstWrong_62 : decode cX8_firstWrong 62 = .ok (.iconst 3, 1) := by decide +kernel
theorem dX8_firstWrong_63 : decode cX8_firstWrong 63 = .ok (.imul, 1) := by decide +kernel
theorem dX8_firstWrong_64 : decode cX8_firstWrong 64 = .ok (.iconst 2, 1) := by decide +kernel
theorem dX8_firstWrong_65 : decode cX8_firstWrong 65 = .ok (.iadd, 1) := by decide +kernel
theorem dX8_firstWrong_66 : decode cX8_firstWrong 66 = .ok (.iaload, 1) := by decide +kernel
theorem dX8_firstWrong_67 : decode cX8_firstWrong 67 = .ok (.istore 5, 2) := by decide +kernel
theorem dX8_firstWrong_69 : decode cX8_firstWrong 69 = .ok (.aload_n 0, 1) := by decide +kernel
theorem dX8_firstWrong_70 : decode cX8_firstWrong 70 = .ok (.getfield 33, 3) := by decide +kernel
theorem dX8_firstWrong_73 : decode cX8_firstWrong 73 = .ok (.aload_n 1, 1) := by decide +kernel
theorem dX8_firstWrong_74 : decode cX8_firstWrong 74 = .ok (.aload_n 0, 1) := by decide +kernel
theorem dX8_firstWrong_75 : decode cX8_firstWrong 75 = .ok (.getfield 12, 3) := by decide +kernel
theorem dX8_firstWrong_78 : decode cX8_firstWrong 78 = .ok (.getfield 86, 3) := by decide +kernel
theorem dX8_firstWrong_81 : decode cX8_firstWrong 81 = .ok (.aload_n 0, 1) := by decide +kernel
theorem dX8_firstWrong_82 : decode cX8_firstWrong 82 = .ok (.getfield 54, 3) := by decide +kernel
theorem dX8_firstWrong_85 : decode cX8_firstWrong 85 = .ok (.iload_n 3, 1) := by decide +kernel
theorem dX8_firstWrong_86 : decode cX8_firstWrong 86 = .ok (.iload 4, 2) := by decide +kernel
theorem dX8_firstWrong_88 : decode cX8_firstWrong 88 = .ok (.invokevirtual 163, 3) := by decide +kernel
theorem dX8_firstWrong_91 : decode cX8_firstWrong 91 = .ok (.aload_n 0, 1) := by decide +kernel
theorem dX8_firstWrong_92 : decode cX8_firstWrong 92 = .ok (.getfield 33, 3) := by decide +kernel
theorem dX8_firstWrong_95 : decode cX8_firstWrong 95 = .ok (.getfield 167, 3) := by decide +kernel
theorem dX8_firstWrong_98 : decode cX8_firstWrong 98 = .ok (.iload 5, 2) := by decide +kernel
theorem dX8_firstWrong_100 : decode cX8_firstWrong 100 = .ok (.if_icmp .eq 5, 3) := by decide +kernel
theorem dX8_firstWrong_103 : decode cX8_firstWrong 103 = .ok (.iload_n 2, 1) := by decide +kernel
theorem dX8_firstWrong_104 : decode cX8_firstWrong 104 = .ok (.ireturn, 1) := by decide +kernel
theorem dX8_firstWrong_105 : decode cX8_firstWrong 105 = .ok (.aload_n 0, 1) := by decide +kernel
theorem dX8_firstWrong_106 : decode cX8_firstWrong 106 = .ok (.getfield 54, 3) := by decide +kernel
theorem dX8_firstWrong_109 : decode cX8_firstWrong 109 = .ok (.iload 5, 2) := by decide +kernel
theorem dX8_firstWrong_111 : decode cX8_firstWrong 111 = .ok (.iload 5, 2) := by decide +kernel
theorem dX8_firstWrong_113 : decode cX8_firstWrong 113 = .ok (.iload_n 3, 1) := by decide +kernel
theorem dX8_firstWrong_114 : decode cX8_firstWrong 114 = .ok (.if_icmp .ne 8, 3) := by decide +kernel
theorem dX8_firstWrong_117 : decode cX8_firstWrong 117 = .ok (.iload 4, 2) := by decide +kernel
theorem dX8_firstWrong_119 : decode cX8_firstWrong 119 = .ok (.goto 4, 3) := by decide +kernel
theorem dX8_firstWrong_122 : decode cX8_firstWrong 122 = .ok (.iload_n 3, 1) := by decide +kernel
theorem dX8_firstWrong_123 : decode cX8_firstWrong 123 = .ok (.invokevirtual 176, 3) := by decide +kernel
theorem dX8_firstWrong_126 : decode cX8_firstWrong 126 = .ok (.iinc 2 1, 3) := by decide +kernel
theorem dX8_firstWrong_129 : decode cX8_firstWrong 129 = .ok (.goto (-113), 3) := by decide +kernel
theorem dX8_firstWrong_132 : decode cX8_firstWrong 132 = .ok (.iconst (-1), 1) := by decide +kernel
theorem dX8_firstWrong_133 : decode cX8_firstWrong 133 = .ok (.ireturn, 1) := by decide +kernel
theorem dX8_goesFirst_0 : decode cX8_goesFirst 0 = .ok (.iload_n 3, 1) := by decide +kernel
theorem dX8_goesFirst_1 : decode cX8_goesFirst 1 = .ok (.ifCond .eq 33, 3) := by decide +kernel
theorem dX8_goesFirst_4 : decode cX8_goesFirst 4 = .ok (.aload_n 0, 1) := by decide +kernel
theorem dX8_goesFirst_5 : decode cX8_goesFirst 5 = .ok (.getfield 33, 3) := by decide +kernel
theorem dX8_goesFirst_8 : decode cX8_goesFirst 8 = .ok (.aload_n 0, 1) := by decide +kernel
theorem dX8_goesFirst_9 : decode cX8_goesFirst 9 = .ok (.getfield 23, 3) := by decide +kernel
theorem dX8_goesFirst_12 : decode cX8_goesFirst 12 = .ok (.aload_n 0, 1) := by decide +kernel
theorem dX8_goesFirst_13 : decode cX8_goesFirst 13 = .ok (.getfield 12, 3) := by decide +kernel
theorem dX8_goesFirst_16 : decode cX8_goesFirst 16 = .ok (.getfield 86, 3) := by decide +kernel
theorem dX8_goesFirst_19 : decode cX8_goesFirst 19 = .ok (.aload_n 0, 1) := by decide +kernel
theorem dX8_goesFirst_20 : decode cX8_goesFirst 20 = .ok (.getfield 12, 3) := by decide +kernel
theorem dX8_goesFirst_23 : decode cX8_goesFirst 23 = .ok (.getfield 120, 3) := by decide +kernel
theorem dX8_goesFirst_26 : decode cX8_goesFirst 26 = .ok (.iload_n 1, 1) := by decide +kernel
theorem dX8_goesFirst_27 : decode cX8_goesFirst 27 = .ok (.iload_n 2, 1) := by decide +kernel
theorem dX8_goesFirst_28 : decode cX8_goesFirst 28 = .ok (.invokevirtual 163, 3) := by decide +kernel
theorem dX8_goesFirst_31 : decode cX8_goesFirst 31 = .ok (.goto 30, 3) := by decide +kernel
theorem dX8_goesFirst_34 : decode cX8_goesFirst 34 = .ok (.aload_n 0, 1) := by decide +kernel
theorem dX8_goesFirst_35 : decode cX8_goesFirst 35 = .ok (.getfield 33, 3) := by decide +kernel
theorem dX8_goesFirst_38 : decode cX8_goesFirst 38 = .ok (.aload_n 0, 1) := by decide +kernel
theorem dX8_goesFirst_39 : decode cX8_goesFirst 39 = .ok (.getfield 23, 3) := by decide +kernel
theorem dX8_goesFirst_42 : decode cX8_goesFirst 42 = .ok (.aload_n 0, 1) := by decide +kernel
theorem dX8_goesFirst_43 : decode cX8_goesFirst 43 = .ok (.getfield 12, 3) := by decide +kernel
theorem dX8_goesFirst_46 : decode cX8_goesFirst 46 = .ok (.getfield 86, 3) := by decide +kernel
theorem dX8_goesFirst_49 : decode cX8_goesFirst 49 = .ok (.aload_n 0, 1) := by decide +kernel
theorem dX8_goesFirst_50 : decode cX8_goesFirst 50 = .ok (.getfield 12, 3) := by decide +kernel
theorem dX8_goesFirst_53 : decode cX8_goesFirst 53 = .ok (.getfield 120, 3) := by decide +kernel
theorem dX8_goesFirst_56 : decode cX8_goesFirst 56 = .ok (.iload_n 2, 1) := by decide +kernel
theorem dX8_goesFirst_57 : decode cX8_goesFirst 57 = .ok (.iload_n 1, 1) := by decide +kernel
theorem dX8_goesFirst_58 : decode cX8_goesFirst 58 = .ok (.invokevirtual 163, 3) := by decide +kernel
theorem dX8_goesFirst_61 : decode cX8_goesFirst 61 = .ok (.aload_n 0, 1) := by decide +kernel
theorem dX8_goesFirst_62 : decode cX8_goesFirst 62 = .ok (.getfield 33, 3) := by decide +kernel
theorem dX8_goesFirst_65 : decode cX8_goesFirst 65 = .ok (.getfield 167, 3) := by decide +kernel
theorem dX8_goesFirst_68 : decode cX8_goesFirst 68 = .ok (.iload_n 1, 1) := by decide +kernel
theorem dX8_goesFirst_69 : decode cX8_goesFirst 69 = .ok (.if_icmp .ne 7, 3) := by decide +kernel
theorem dX8_goesFirst_72 : decode cX8_goesFirst 72 = .ok (.iconst 1, 1) := by decide +kernel
theorem dX8_goesFirst_73 : decode cX8_goesFirst 73 = .ok (.goto 4, 3) := by decide +kernel
theorem dX8_goesFirst_76 : decode cX8_goesFirst 76 = .ok (.iconst 0, 1) := by decide +kernel
theorem dX8_goesFirst_77 : decode cX8_goesFirst 77 = .ok (.ireturn, 1) := by decide +kernel
theorem dX8_setFraction_0 : decode cX8_setFraction 0 = .ok (.aload_n 0, 1) := by decide +kernel
theorem dX8_setFraction_1 : decode cX8_setFraction 1 = .ok (.iload_n 1, 1) := by decide +kernel
theorem dX8_setFraction_2 : decode cX8_setFraction 2 = .ok (.putfield 62, 3) := by decide +kernel
theorem dX8_setFraction_5 : decode cX8_setFraction 5 = .ok (.aload_n 0, 1) := by decide +kernel
theorem dX8_setFraction_6 : decode cX8_setFraction 6 = .ok (.iload_n 2, 1) := by decide +kernel
theorem dX8_setFraction_7 : decode cX8_setFraction 7 = .ok (.putfield 66, 3) := by decide +kernel
theorem dX8_setFraction_10 : decode cX8_setFraction 10 = .ok (.iload_n 2, 1) := by decide +kernel
theorem dX8_setFraction_11 : decode cX8_setFraction 11 = .ok (.istore_n 3, 1) := by decide +kernel
theorem dX8_setFraction_12 : decode cX8_setFraction 12 = .ok (.iload_n 3, 1) := by decide +kernel
theorem dX8_setFraction_13 : decode cX8_setFraction 13 = .ok (.iconst 1, 1) := by decide +kernel
theorem dX8_setFraction_14 : decode cX8_setFraction 14 = .ok (.if_icmp .le 47, 3) := by decide +kernel
theorem dX8_setFraction_17 : decode cX8_setFraction 17 = .ok (.aload_n 0, 1) := by decide +kernel
theorem dX8_setFraction_18 : decode cX8_setFraction 18 = .ok (.getfield 62, 3) := by decide +kernel
theorem dX8_setFraction_21 : decode cX8_setFraction 21 = .ok (.iload_n 3, 1) := by decide +kernel
theorem dX8_setFraction_22 : decode cX8_setFraction 22 = .ok (.irem, 1) := by decide +kernel
theorem dX8_setFraction_23 : decode cX8_setFraction 23 = .ok (.ifCond .ne 32, 3) := by decide +kernel
theorem dX8_setFraction_26 : decode cX8_setFraction 26 = .ok (.aload_n 0, 1) := by decide +kernel
theorem dX8_setFraction_27 : decode cX8_setFraction 27 = .ok (.getfield 66, 3) := by decide +kernel
theorem dX8_setFraction_30 : decode cX8_setFraction 30 = .ok (.iload_n 3, 1) := by decide +kernel
theorem dX8_setFraction_31 : decode cX8_setFraction 31 = .ok (.irem, 1) := by decide +kernel
theorem dX8_setFraction_32 : decode cX8_setFraction 32 = .ok (.ifCond .ne 23, 3) := by decide +kernel
theorem dX8_setFraction_35 : decode cX8_setFraction 35 = .ok (.aload_n 0, 1) := by decide +kernel
theorem dX8_setFraction_36 : decode cX8_setFraction 36 = .ok (.dup, 1) := by decide +kernel
theorem dX8_setFraction_37 : decode cX8_setFraction 37 = .ok (.getfield 62, 3) := by decide +kernel
theorem dX8_setFraction_40 : decode cX8_setFraction 40 = .ok (.iload_n 3, 1) := by decide +kernel
theorem dX8_setFraction_41 : decode cX8_setFraction 41 = .ok (.idiv, 1) := by decide +kernel
theorem dX8_setFraction_42 : decode cX8_setFraction 42 = .ok (.putfield 62, 3) := by decide +kernel
theorem dX8_setFraction_45 : decode cX8_setFraction 45 = .ok (.aload_n 0, 1) := by decide +kernel
theorem dX8_setFraction_46 : decode cX8_setFraction 46 = .ok (.dup, 1) := by decide +kernel
theorem dX8_setFraction_47 : decode cX8_setFraction 47 = .ok (.getfield 66, 3) := by decide +kernel
theorem dX8_setFraction_50 : decode cX8_setFraction 50 = .ok (.iload_n 3, 1) := by decide +kernel
theorem dX8_setFraction_51 : decode cX8_setFraction 51 = .ok (.idiv, 1) := by decide +kernel
theorem dX8_setFraction_52 : decode cX8_setFraction 52 = .ok (.putfield 66, 3) := by decide +kernel
theorem dX8_setFraction_55 : decode cX8_setFraction 55 = .ok (.iinc 3 (-1), 3) := by decide +kernel
theorem dX8_setFraction_58 : decode cX8_setFraction 58 = .ok (.goto (-46), 3) := by decide +kernel
theorem dX8_setFraction_61 : decode cX8_setFraction 61 = .ok (.return_, 1) := by decide +kernel
theorem dX8_nameAllTwo_0 : decode cX8_nameAllTwo 0 = .ok (.iconst 0, 1) := by decide +kernel
theorem dX8_nameAllTwo_1 : decode cX8_nameAllTwo 1 = .ok (.istore_n 1, 1) := by decide +kernel
theorem dX8_nameAllTwo_2 : decode cX8_nameAllTwo 2 = .ok (.iconst 0, 1) := by decide +kernel
theorem dX8_nameAllTwo_3 : decode cX8_nameAllTwo 3 = .ok (.istore_n 2, 1) := by decide +kernel
theorem dX8_nameAllTwo_4 : decode cX8_nameAllTwo 4 = .ok (.iload_n 2, 1) := by decide +kernel
theorem dX8_nameAllTwo_5 : decode cX8_nameAllTwo 5 = .ok (.aload_n 0, 1) := by decide +kernel
theorem dX8_nameAllTwo_6 : decode cX8_nameAllTwo 6 = .ok (.getfield 12, 3) := by decide +kernel
theorem dX8_nameAllTwo_9 : decode cX8_nameAllTwo 9 = .ok (.getfield 86, 3) := by decide +kernel
theorem dX8_nameAllTwo_12 : decode cX8_nameAllTwo 12 = .ok (.getfield 90, 3) := by decide +kernel
theorem dX8_nameAllTwo_15 : decode cX8_nameAllTwo 15 = .ok (.if_icmp .ge 65, 3) := by decide +kernel
theorem dX8_nameAllTwo_18 : decode cX8_nameAllTwo 18 = .ok (.iload_n 2, 1) := by decide +kernel
theorem dX8_nameAllTwo_19 : decode cX8_nameAllTwo 19 = .ok (.iconst 1, 1) := by decide +kernel
theorem dX8_nameAllTwo_20 : decode cX8_nameAllTwo 20 = .ok (.iadd, 1) := by decide +kernel
theorem dX8_nameAllTwo_21 : decode cX8_nameAllTwo 21 = .ok (.istore_n 3, 1) := by decide +kernel
theorem dX8_nameAllTwo_22 : decode cX8_nameAllTwo 22 = .ok (.iload_n 3, 1) := by decide +kernel
theorem dX8_nameAllTwo_23 : decode cX8_nameAllTwo 23 = .ok (.aload_n 0, 1) := by decide +kernel
theorem dX8_nameAllTwo_24 : decode cX8_nameAllTwo 24 = .ok (.getfield 12, 3) := by decide +kernel
theorem dX8_nameAllTwo_27 : decode cX8_nameAllTwo 27 = .ok (.getfield 86, 3) := by decide +kernel
theorem dX8_nameAllTwo_30 : decode cX8_nameAllTwo 30 = .ok (.getfield 90, 3) := by decide +kernel
theorem dX8_nameAllTwo_33 : decode cX8_nameAllTwo 33 = .ok (.if_icmp .ge 41, 3) := by decide +kernel
theorem dX8_nameAllTwo_36 : decode cX8_nameAllTwo 36 = .ok (.aload_n 0, 1) := by decide +kernel
theorem dX8_nameAllTwo_37 : decode cX8_nameAllTwo 37 = .ok (.getfield 58, 3) := by decide +kernel
theorem dX8_nameAllTwo_40 : decode cX8_nameAllTwo 40 = .ok (.iload_n 1, 1) := by decide +kernel
theorem dX8_nameAllTwo_41 : decode cX8_nameAllTwo 41 = .ok (.aload_n 0, 1) := by decide +kernel
theorem dX8_nameAllTwo_42 : decode cX8_nameAllTwo 42 = .ok (.getfield 23, 3) := by decide +kernel
theorem dX8_nameAllTwo_45 : decode cX8_nameAllTwo 45 = .ok (.aload_n 0, 1) := by decide +kernel
theorem dX8_nameAllTwo_46 : decode cX8_nameAllTwo 46 = .ok (.getfield 12, 3) := by decide +kernel
theorem dX8_nameAllTwo_49 : decode cX8_nameAllTwo 49 = .ok (.getfield 86, 3) := by decide +kernel
theorem dX8_nameAllTwo_52 : decode cX8_nameAllTwo 52 = .ok (.aload_n 0, 1) := by decide +kernel
theorem dX8_nameAllTwo_53 : decode cX8_nameAllTwo 53 = .ok (.getfield 12, 3) := by decide +kernel
theorem dX8_nameAllTwo_56 : decode cX8_nameAllTwo 56 = .ok (.getfield 120, 3) := by decide +kernel
theorem dX8_nameAllTwo_59 : decode cX8_nameAllTwo 59 = .ok (.iload_n 2, 1) := by decide +kernel
theorem dX8_nameAllTwo_60 : decode cX8_nameAllTwo 60 = .ok (.iload_n 3, 1) := by decide +kernel
theorem dX8_nameAllTwo_61 : decode cX8_nameAllTwo 61 = .ok (.invokevirtual 295, 3) := by decide +kernel
theorem dX8_nameAllTwo_64 : decode cX8_nameAllTwo 64 = .ok (.iastore, 1) := by decide +kernel
theorem dX8_nameAllTwo_65 : decode cX8_nameAllTwo 65 = .ok (.iinc 1 1, 3) := by decide +kernel
theorem dX8_nameAllTwo_68 : decode cX8_nameAllTwo 68 = .ok (.iinc 3 1, 3) := by decide +kernel
theorem dX8_nameAllTwo_71 : decode cX8_nameAllTwo 71 = .ok (.goto (-49), 3) := by decide +kernel
theorem dX8_nameAllTwo_74 : decode cX8_nameAllTwo 74 = .ok (.iinc 2 1, 3) := by decide +kernel
theorem dX8_nameAllTwo_77 : decode cX8_nameAllTwo 77 = .ok (.goto (-73), 3) := by decide +kernel
theorem dX8_nameAllTwo_80 : decode cX8_nameAllTwo 80 = .ok (.iload_n 1, 1) := by decide +kernel
theorem dX8_nameAllTwo_81 : decode cX8_nameAllTwo 81 = .ok (.ireturn, 1) := by decide +kernel
theorem dX8_allSettle_0 : decode cX8_allSettle 0 = .ok (.iconst 0, 1) := by decide +kernel
theorem dX8_allSettle_1 : decode cX8_allSettle 1 = .ok (.istore_n 3, 1) := by decide +kernel
theorem dX8_allSettle_2 : decode cX8_allSettle 2 = .ok (.iload_n 3, 1) := by decide +kernel
theorem dX8_allSettle_3 : decode cX8_allSettle 3 = .ok (.iload_n 1, 1) := by decide +kernel
theorem dX8_allSettle_4 : decode cX8_allSettle 4 = .ok (.if_icmp .ge 32, 3) := by decide +kernel
theorem dX8_allSettle_7 : decode cX8_allSettle 7 = .ok (.aload_n 0, 1) := by decide +kernel
theorem dX8_allSettle_8 : decode cX8_allSettle 8 = .ok (.getfield 23, 3) := by decide +kernel
theorem dX8_allSettle_11 : decode cX8_allSettle 11 = .ok (.aload_n 0, 1) := by decide +kernel
theorem dX8_allSettle_12 : decode cX8_allSettle 12 = .ok (.getfield 58, 3) := by decide +kernel
theorem dX8_allSettle_15 : decode cX8_allSettle 15 = .ok (.iload_n 3, 1) := by decide +kernel
theorem dX8_allSettle_16 : decode cX8_allSettle 16 = .ok (.iaload, 1) := by decide +kernel
theorem dX8_allSettle_17 : decode cX8_allSettle 17 = .ok (.iload_n 2, 1) := by decide +kernel
theorem dX8_allSettle_18 : decode cX8_allSettle 18 = .ok (.iconst (-1), 1) := by decide +kernel
theorem dX8_allSettle_19 : decode cX8_allSettle 19 = .ok (.ixor, 1) := by decide +kernel
theorem dX8_allSettle_20 : decode cX8_allSettle 20 = .ok (.iand, 1) := by decide +kernel
theorem dX8_allSettle_21 : decode cX8_allSettle 21 = .ok (.invokevirtual 298, 3) := by decide +kernel
theorem dX8_allSettle_24 : decode cX8_allSettle 24 = .ok (.iconst (-1), 1) := by decide +kernel
theorem dX8_allSettle_25 : decode cX8_allSettle 25 = .ok (.if_icmp .ne 5, 3) := by decide +kernel
theorem dX8_allSettle_28 : decode cX8_allSettle 28 = .ok (.iconst 0, 1) := by decide +kernel
theorem dX8_allSettle_29 : decode cX8_allSettle 29 = .ok (.ireturn, 1) := by decide +kernel
theorem dX8_allSettle_30 : decode cX8_allSettle 30 = .ok (.iinc 3 1, 3) := by decide +kernel
theorem dX8_allSettle_33 : decode cX8_allSettle 33 = .ok (.goto (-31), 3) := by decide +kernel
theorem dX8_allSettle_36 : decode cX8_allSettle 36 = .ok (.iconst 1, 1) := by decide +kernel
theorem dX8_allSettle_37 : decode cX8_allSettle 37 = .ok (.ireturn, 1) := by decide +kernel
theorem dX8_mixLegs_0 : decode cX8_mixLegs 0 = .ok (.lload_n 1, 1) := by decide +kernel
theorem dX8_mixLegs_1 : decode cX8_mixLegs 1 = .ok (.lstore_n 3, 1) := by decide +kernel
theorem dX8_mixLegs_2 : decode cX8_mixLegs 2 = .ok (.iconst 0, 1) := by decide +kernel
theorem dX8_mixLegs_3 : decode cX8_mixLegs 3 = .ok (.istore 5, 2) := by decide +kernel
theorem dX8_mixLegs_5 : decode cX8_mixLegs 5 = .ok (.iload 5, 2) := by decide +kernel
theorem dX8_mixLegs_7 : decode cX8_mixLegs 7 = .ok (.bipush 6, 2) := by decide +kernel
theorem dX8_mixLegs_9 : decode cX8_mixLegs 9 = .ok (.if_icmp .ge 52, 3) := by decide +kernel
theorem dX8_mixLegs_12 : decode cX8_mixLegs 12 = .ok (.iload 5, 2) := by decide +kernel
theorem dX8_mixLegs_14 : decode cX8_mixLegs 14 = .ok (.iconst 1, 1) := by decide +kernel
theorem dX8_mixLegs_15 : decode cX8_mixLegs 15 = .ok (.iadd, 1) := by decide +kernel
theorem dX8_mixLegs_16 : decode cX8_mixLegs 16 = .ok (.istore 6, 2) := by decide +kernel
theorem dX8_mixLegs_18 : decode cX8_mixLegs 18 = .ok (.iload 6, 2) := by decide +kernel
theorem dX8_mixLegs_20 : decode cX8_mixLegs 20 = .ok (.bipush 6, 2) := by decide +kernel
theorem dX8_mixLegs_22 : decode cX8_mixLegs 22 = .ok (.if_icmp .ge 33, 3) := by decide +kernel
theorem dX8_mixLegs_25 : decode cX8_mixLegs 25 = .ok (.ldc2_w 281, 3) := by decide +kernel
theorem dX8_mixLegs_28 : decode cX8_mixLegs 28 = .ok (.lload_n 3, 1) := by decide +kernel
theorem dX8_mixLegs_29 : decode cX8_mixLegs 29 = .ok (.lmul, 1) := by decide +kernel
theorem dX8_mixLegs_30 : decode cX8_mixLegs 30 = .ok (.aload_n 0, 1) := by decide +kernel
theorem dX8_mixLegs_31 : decode cX8_mixLegs 31 = .ok (.getfield 12, 3) := by decide +kernel
theorem dX8_mixLegs_34 : decode cX8_mixLegs 34 = .ok (.getfield 213, 3) := by decide +kernel
theorem dX8_mixLegs_37 : decode cX8_mixLegs 37 = .ok (.iload 5, 2) := by decide +kernel
theorem dX8_mixLegs_39 : decode cX8_mixLegs 39 = .ok (.bipush 6, 2) := by decide +kernel
theorem dX8_mixLegs_41 : decode cX8_mixLegs 41 = .ok (.imul, 1) := by decide +kernel
theorem dX8_mixLegs_42 : decode cX8_mixLegs 42 = .ok (.iload 6, 2) := by decide +kernel
theorem dX8_mixLegs_44 : decode cX8_mixLegs 44 = .ok (.iadd, 1) := by decide +kernel
theorem dX8_mixLegs_45 : decode cX8_mixLegs 45 = .ok (.iaload, 1) := by decide +kernel
theorem dX8_mixLegs_46 : decode cX8_mixLegs 46 = .ok (.i2l, 1) := by decide +kernel
theorem dX8_mixLegs_47 : decode cX8_mixLegs 47 = .ok (.ladd, 1) := by decide +kernel
theorem dX8_mixLegs_48 : decode cX8_mixLegs 48 = .ok (.lstore_n 3, 1) := by decide +kernel
theorem dX8_mixLegs_49 : decode cX8_mixLegs 49 = .ok (.iinc 6 1, 3) := by decide +kernel
theorem dX8_mixLegs_52 : decode cX8_mixLegs 52 = .ok (.goto (-34), 3) := by decide +kernel
theorem dX8_mixLegs_55 : decode cX8_mixLegs 55 = .ok (.iinc 5 1, 3) := by decide +kernel
theorem dX8_mixLegs_58 : decode cX8_mixLegs 58 = .ok (.goto (-53), 3) := by decide +kernel
theorem dX8_mixLegs_61 : decode cX8_mixLegs 61 = .ok (.lload_n 3, 1) := by decide +kernel
theorem dX8_mixLegs_62 : decode cX8_mixLegs 62 = .ok (.lreturn, 1) := by decide +kernel
theorem dX8_mix_0 : decode cX8_mix 0 = .ok (.lload_n 0, 1) := by decide +kernel
theorem dX8_mix_1 : decode cX8_mix 1 = .ok (.lstore 4, 2) := by decide +kernel
theorem dX8_mix_3 : decode cX8_mix 3 = .ok (.iconst 0, 1) := by decide +kernel
theorem dX8_mix_4 : decode cX8_mix 4 = .ok (.istore 6, 2) := by decide +kernel
theorem dX8_mix_6 : decode cX8_mix 6 = .ok (.iload 6, 2) := by decide +kernel
theorem dX8_mix_8 : decode cX8_mix 8 = .ok (.iload_n 3, 1) := by decide +kernel
theorem dX8_mix_9 : decode cX8_mix 9 = .ok (.if_icmp .ge 30, 3) := by decide +kernel
theorem dX8_mix_12 : decode cX8_mix 12 = .ok (.iload 6, 2) := by decide +kernel
theorem dX8_mix_14 : decode cX8_mix 14 = .ok (.aload_n 2, 1) := by decide +kernel
theorem dX8_mix_15 : decode cX8_mix 15 = .ok (.arraylength, 1) := by decide +kernel
theorem dX8_mix_16 : decode cX8_mix 16 = .ok (.if_icmp .ge 23, 3) := by decide +kernel
theorem dX8_mix_19 : decode cX8_mix 19 = .ok (.ldc2_w 281, 3) := by decide +kernel
theorem dX8_mix_22 : decode cX8_mix 22 = .ok (.lload 4, 2) := by decide +kernel
theorem dX8_mix_24 : decode cX8_mix 24 = .ok (.lmul, 1) := by decide +kernel
theorem dX8_mix_25 : decode cX8_mix 25 = .ok (.aload_n 2, 1) := by decide +kernel
theorem dX8_mix_26 : decode cX8_mix 26 = .ok (.iload 6, 2) := by decide +kernel
theorem dX8_mix_28 : decode cX8_mix 28 = .ok (.iaload, 1) := by decide +kernel
theorem dX8_mix_29 : decode cX8_mix 29 = .ok (.i2l, 1) := by decide +kernel
theorem dX8_mix_30 : decode cX8_mix 30 = .ok (.ladd, 1) := by decide +kernel
theorem dX8_mix_31 : decode cX8_mix 31 = .ok (.lstore 4, 2) := by decide +kernel
theorem dX8_mix_33 : decode cX8_mix 33 = .ok (.iinc 6 1, 3) := by decide +kernel
theorem dX8_mix_36 : decode cX8_mix 36 = .ok (.goto (-30), 3) := by decide +kernel
theorem dX8_mix_39 : decode cX8_mix 39 = .ok (.lload 4, 2) := by decide +kernel
theorem dX8_mix_41 : decode cX8_mix 41 = .ok (.lreturn, 1) := by decide +kernel
theorem dX9_in_0 : decode cX9_in 0 = .ok (.lload_n 0, 1) := by decide +kernel
theorem dX9_in_1 : decode cX9_in 1 = .ok (.lload_n 2, 1) := by decide +kernel
theorem dX9_in_2 : decode cX9_in 2 = .ok (.lcmp, 1) := by decide +kernel
theorem dX9_in_3 : decode cX9_in 3 = .ok (.ifCond .lt 14, 3) := by decide +kernel
theorem dX9_in_6 : decode cX9_in 6 = .ok (.lload_n 0, 1) := by decide +kernel
theorem dX9_in_7 : decode cX9_in 7 = .ok (.lload 4, 2) := by decide +kernel
theorem dX9_in_9 : decode cX9_in 9 = .ok (.lcmp, 1) := by decide +kernel
theorem dX9_in_10 : decode cX9_in 10 = .ok (.ifCond .gt 7, 3) := by decide +kernel
theorem dX9_in_13 : decode cX9_in 13 = .ok (.iconst 1, 1) := by decide +kernel
theorem dX9_in_14 : decode cX9_in 14 = .ok (.goto 4, 3) := by decide +kernel
theorem dX9_in_17 : decode cX9_in 17 = .ok (.iconst 0, 1) := by decide +kernel
theorem dX9_in_18 : decode cX9_in 18 = .ok (.ireturn, 1) := by decide +kernel
theorem dX9_init_0 : decode cX9_init 0 = .ok (.aload_n 0, 1) := by decide +kernel
theorem dX9_init_1 : decode cX9_init 1 = .ok (.invokespecial 1, 3) := by decide +kernel
theorem dX9_init_4 : decode cX9_init 4 = .ok (.aload_n 0, 1) := by decide +kernel
theorem dX9_init_5 : decode cX9_init 5 = .ok (.sipush 480, 3) := by decide +kernel
theorem dX9_init_8 : decode cX9_init 8 = .ok (.newarray .int, 2) := by decide +kernel
theorem dX9_init_10 : decode cX9_init 10 = .ok (.putfield 7, 3) := by decide +kernel
theorem dX9_init_13 : decode cX9_init 13 = .ok (.aload_n 0, 1) := by decide +kernel
theorem dX9_init_14 : decode cX9_init 14 = .ok (.sipush 960, 3) := by decide +kernel
theorem dX9_init_17 : decode cX9_init 17 = .ok (.newarray .int, 2) := by decide +kernel
theorem dX9_init_19 : decode cX9_init 19 = .ok (.putfield 13, 3) := by decide +kernel
theorem dX9_init_22 : decode cX9_init 22 = .ok (.aload_n 0, 1) := by decide +kernel
theorem dX9_init_23 : decode cX9_init 23 = .ok (.iconst 2, 1) := by decide +kernel
theorem dX9_init_24 : decode cX9_init 24 = .ok (.newarray .boolean, 2) := by decide +kernel
theorem dX9_init_26 : decode cX9_init 26 = .ok (.putfield 16, 3) := by decide +kernel
theorem dX9_init_29 : decode cX9_init 29 = .ok (.aload_n 0, 1) := by decide +kernel
theorem dX9_init_30 : decode cX9_init 30 = .ok (.iconst 3, 1) := by decide +kernel
theorem dX9_init_31 : decode cX9_init 31 = .ok (.newarray .int, 2) := by decide +kernel
theorem dX9_init_33 : decode cX9_init 33 = .ok (.putfield 20, 3) := by decide +kernel
theorem dX9_init_36 : decode cX9_init 36 = .ok (.aload_n 0, 1) := by decide +kernel
theorem dX9_init_37 : decode cX9_init 37 = .ok (.bipush 40, 2) := by decide +kernel
theorem dX9_init_39 : decode cX9_init 39 = .ok (.newarray .int, 2) := by decide +kernel
theorem dX9_init_41 : decode cX9_init 41 = .ok (.putfield 23, 3) := by decide +kernel
theorem dX9_init_44 : decode cX9_init 44 = .ok (.aload_n 0, 1) := by decide +kernel
theorem dX9_init_45 : decode cX9_init 45 = .ok (.sipush 128, 3) := by decide +kernel
theorem dX9_init_48 : decode cX9_init 48 = .ok (.newarray .int, 2) := by decide +kernel
theorem dX9_init_50 : decode cX9_init 50 = .ok (.putfield 26, 3) := by decide +kernel
theorem dX9_init_53 : decode cX9_init 53 = .ok (.aload_n 0, 1) := by decide +kernel
theorem dX9_init_54 : decode cX9_init 54 = .ok (.bipush 8, 2) := by decide +kernel
theorem dX9_init_56 : decode cX9_init 56 = .ok (.newarray .int, 2) := by decide +kernel
theorem dX9_init_58 : decode cX9_init 58 = .ok (.putfield 29, 3) := by decide +kernel
theorem dX9_init_61 : decode cX9_init 61 = .ok (.aload_n 0, 1) := by decide +kernel
theorem dX9_init_62 : decode cX9_init 62 = .ok (.bipush 8, 2) := by decide +kernel
theorem dX9_init_64 : decode cX9_init 64 = .ok (.newarray .int, 2) := by decide +kernel
theorem dX9_init_66 : decode cX9_init 66 = .ok (.putfield 32, 3) := by decide +kernel
theorem dX9_init_69 : decode cX9_init 69 = .ok (.aload_n 0, 1) := by decide +kernel
theorem dX9_init_70 : decode cX9_init 70 = .ok (.bipush 8, 2) := by decide +kernel
theorem dX9_init_72 : decode cX9_init 72 = .ok (.newarray .int, 2) := by decide +kernel
theorem dX9_init_74 : decode cX9_init 74 = .ok (.putfield 35, 3) := by decide +kernel
theorem dX9_init_77 : decode cX9_init 77 = .ok (.aload_n 0, 1) := by decide +kernel
theorem dX9_init_78 : decode cX9_init 78 = .ok (.bipush 6, 2) := by decide +kernel
theorem dX9_init_80 : decode cX9_init 80 = .ok (.newarray .int, 2) := by decide +kernel
theorem dX9_init_82 : decode cX9_init 82 = .ok (.putfield 38, 3) := by decide +kernel
theorem dX9_init_85 : decode cX9_init 85 = .ok (.aload_n 0, 1) := by decide +kernel
theorem dX9_init_86 : decode cX9_init 86 = .ok (.bipush 6, 2) := by decide +kernel
theorem dX9_init_88 : decode cX9_init 88 = .ok (.newarray .int, 2) := by decide +kernel
theorem dX9_init_90 : decode cX9_init 90 = .ok (.putfield 41, 3) := by decide +kernel
theorem dX9_init_93 : decode cX9_init 93 = .ok (.aload_n 0, 1) := by decide +kernel
theorem dX9_init_94 : decode cX9_init 94 = .ok (.bipush 64, 2) := by decide +kernel
theorem dX9_init_96 : decode cX9_init 96 = .ok (.newarray .int, 2) := by decide +kernel
theorem dX9_init_98 : decode cX9_init 98 = .ok (.putfield 44, 3) := by decide +kernel
theorem dX9_init_101 : decode cX9_init 101 = .ok (.iconst 0, 1) := by decide +kernel
theorem dX9_init_102 : decode cX9_init 102 = .ok (.istore_n 1, 1) := by decide +kernel
theorem dX9_init_103 : decode cX9_init 103 = .ok (.iload_n 1, 1) := by decide +kernel
theorem dX9_init_104 : decode cX9_init 104 = .ok (.bipush 64, 2) := by decide +kernel
theorem dX9_init_106 : decode cX9_init 106 = .ok (.if_icmp .ge 19, 3) := by decide +kernel
theorem dX9_init_109 : decode cX9_init 109 = .ok (.aload_n 0, 1) := by decide +kernel
theorem dX9_init_110 : decode cX9_init 110 = .ok (.getfield 7, 3) := by decide +kernel
theorem dX9_init_113 : decode cX9_init 113 = .ok (.bipush 100, 2) := by decide +kernel
theorem dX9_init_115 : decode cX9_init 115 = .ok (.iload_n 1, 1) := by decide +kernel
theorem dX9_init_116 : decode cX9_init 116 = .ok (.iadd, 1) := by decide +kernel
theorem dX9_init_117 : decode cX9_init 117 = .ok (.iconst (-1), 1) := by decide +kernel
theorem dX9_init_118 : decode cX9_init 118 = .ok (.iastore, 1) := by decide +kernel
theorem dX9_init_119 : decode cX9_init 119 = .ok (.iinc 1 1, 3) := by decide +kernel
theorem dX9_init_122 : decode cX9_init 122 = .ok (.goto (-19), 3) := by decide +kernel
theorem dX9_init_125 : decode cX9_init 125 = .ok (.iconst 0, 1) := by decide +kernel
theorem dX9_init_126 : decode cX9_init 126 = .ok (.istore_n 1, 1) := by decide +kernel
theorem dX9_init_127 : decode cX9_init 127 = .ok (.iload_n 1, 1) := by decide +kernel
theorem dX9_init_128 : decode cX9_init 128 = .ok (.bipush 6, 2) := by decide +kernel
theorem dX9_init_130 : decode cX9_init 130 = .ok (.if_icmp .ge 20, 3) := by decide +kernel
theorem dX9_init_133 : decode cX9_init 133 = .ok (.aload_n 0, 1) := by decide +kernel
theorem dX9_init_134 : decode cX9_init 134 = .ok (.getfield 7, 3) := by decide +kernel
theorem dX9_init_137 : decode cX9_init 137 = .ok (.sipush 172, 3) := by decide +kernel
theorem dX9_init_140 : decode cX9_init 140 = .ok (.iload_n 1, 1) := by decide +kernel
theorem dX9_init_141 : decode cX9_init 141 = .ok (.iadd, 1) := by decide +kernel
theorem dX9_init_142 : decode cX9_init 142 = .ok (.iconst (-1), 1) := by decide +kernel
theorem dX9_init_143 : decode cX9_init 143 = .ok (.iastore, 1) := by decide +kernel
theorem dX9_init_144 : decode cX9_init 144 = .ok (.iinc 1 1, 3) := by decide +kernel
theorem dX9_init_147 : decode cX9_init 147 = .ok (.goto (-20), 3) := by decide +kernel
theorem dX9_init_150 : decode cX9_init 150 = .ok (.aload_n 0, 1) := by decide +kernel
theorem dX9_init_151 : decode cX9_init 151 = .ok (.iconst 1, 1) := by decide +kernel
theorem dX9_init_152 : decode cX9_init 152 = .ok (.putfield 47, 3) := by decide +kernel
theorem dX9_init_155 : decode cX9_init 155 = .ok (.return_, 1) := by decide +kernel
theorem dX9_refuses_0 : decode cX9_refuses 0 = .ok (.aload_n 0, 1) := by decide +kernel
theorem dX9_refuses_1 : decode cX9_refuses 1 = .ok (.getfield 20, 3) := by decide +kernel
theorem dX9_refuses_4 : decode cX9_refuses 4 = .ok (.iload_n 1, 1) := by decide +kernel
theorem dX9_refuses_5 : decode cX9_refuses 5 = .ok (.dup2, 1) := by decide +kernel
theorem dX9_refuses_6 : decode cX9_refuses 6 = .ok (.iaload, 1) := by decide +kernel
theorem dX9_refuses_7 : decode cX9_refuses 7 = .ok (.iconst 1, 1) := by decide +kernel
theorem dX9_refuses_8 : decode cX9_refuses 8 = .ok (.iadd, 1) := by decide +kernel
theorem dX9_refuses_9 : decode cX9_refuses 9 = .ok (.iastore, 1) := by decide +kernel
theorem dX9_refuses_10 : decode cX9_refuses 10 = .ok (.iload_n 2, 1) := by decide +kernel
theorem dX9_refuses_11 : decode cX9_refuses 11 = .ok (.ireturn, 1) := by decide +kernel
theorem dX9_bad_0 : decode cX9_bad 0 = .ok (.aload_n 0, 1) := by decide +kernel
theorem dX9_bad_1 : decode cX9_bad 1 = .ok (.iconst 0, 1) := by decide +kernel
theorem dX9_bad_2 : decode cX9_bad 2 = .ok (.bipush (-2), 2) := by decide +kernel
theorem dX9_bad_4 : decode cX9_bad 4 = .ok (.invokevirtual 51, 3) := by decide +kernel
theorem dX9_bad_7 : decode cX9_bad 7 = .ok (.ireturn, 1) := by decide +kernel
theorem dX9_no_0 : decode cX9_no 0 = .ok (.aload_n 0, 1) := by decide +kernel
theorem dX9_no_1 : decode cX9_no 1 = .ok (.iconst 1, 1) := by decide +kernel
theorem dX9_no_2 : decode cX9_no 2 = .ok (.bipush (-3), 2) := by decide +kernel
theorem dX9_no_4 : decode cX9_no 4 = .ok (.invokevirtual 51, 3) := by decide +kernel
theorem dX9_no_7 : decode cX9_no 7 = .ok (.ireturn, 1) := by decide +kernel
theorem dX9_full_0 : decode cX9_full 0 = .ok (.aload_n 0, 1) := by decide +kernel
theorem dX9_full_1 : decode cX9_full 1 = .ok (.iconst 2, 1) := by decide +kernel
theorem dX9_full_2 : decode cX9_full 2 = .ok (.bipush (-4), 2) := by decide +kernel
theorem dX9_full_4 : decode cX9_full 4 = .ok (.invokevirtual 51, 3) := by decide +kernel
theorem dX9_full_7 : decode cX9_full 7 = .ok (.ireturn, 1) := by decide +kernel
theorem dX9_isPerson_0 : decode cX9_isPerson 0 = .ok (.iload_n 1, 1) := by decide +kernel
theorem dX9_isPerson_1 : decode cX9_isPerson 1 = .ok (.i2l, 1) := by decide +kernel
theorem dX9_isPerson_2 : decode cX9_isPerson 2 = .ok (.lconst 0, 1) := by decide +kernel
theorem dX9_isPerson_3 : decode cX9_isPerson 3 = .ok (.aload_n 0, 1) := by decide +kernel
theorem dX9_isPerson_4 : decode cX9_isPerson 4 = .ok (.getfield 7, 3) := by decide +kernel
theorem dX9_isPerson_7 : decode cX9_isPerson 7 = .ok (.iconst 0, 1) := by decide +kernel
theorem dX9_isPerson_8 : decode cX9_isPerson 8 = .ok (.iaload, 1) := by decide +kernel
theorem dX9_isPerson_9 : decode cX9_isPerson 9 = .ok (.iconst 1, 1) := by decide +kernel
theorem dX9_isPerson_10 : decode cX9_isPerson 10 = .ok (.isub, 1) := by decide +kernel
theorem dX9_isPerson_11 : decode cX9_isPerson 11 = .ok (.i2l, 1) := by decide +kernel
theorem dX9_isPerson_12 : decode cX9_isPerson 12 = .ok (.invokestatic 55, 3) := by decide +kernel
theorem dX9_isPerson_15 : decode cX9_isPerson 15 = .ok (.ireturn, 1) := by decide +kernel
theorem dX9_areTwo_0 : decode cX9_areTwo 0 = .ok (.aload_n 0, 1) := by decide +kernel
theorem dX9_areTwo_1 : decode cX9_areTwo 1 = .ok (.iload_n 1, 1) := by decide +kernel
theorem dX9_areTwo_2 : decode cX9_areTwo 2 = .ok (.invokevirtual 59, 3) := by decide +kernel
theorem dX9_areTwo_5 : decode cX9_areTwo 5 = .ok (.ifCond .eq 20, 3) := by decide +kernel
theorem dX9_areTwo_8 : decode cX9_areTwo 8 = .ok (.aload_n 0, 1) := by decide +kernel
theorem dX9_areTwo_9 : decode cX9_areTwo 9 = .ok (.iload_n 2, 1) := by decide +kernel
theorem dX9_areTwo_10 : decode cX9_areTwo 10 = .ok (.invokevirtual 59, 3) := by decide +kernel
theorem dX9_areTwo_13 : decode cX9_areTwo 13 = .ok (.ifCond .eq 12, 3) := by decide +kernel
theorem dX9_areTwo_16 : decode cX9_areTwo 16 = .ok (.iload_n 1, 1) := by decide +kernel
theorem dX9_areTwo_17 : decode cX9_areTwo 17 = .ok (.iload_n 2, 1) := by decide +kernel
theorem dX9_areTwo_18 : decode cX9_areTwo 18 = .ok (.if_icmp .eq 7, 3) := by decide +kernel
theorem dX9_areTwo_21 : decode cX9_areTwo 21 = .ok (.iconst 1, 1) := by decide +kernel
theorem dX9_areTwo_22 : decode cX9_areTwo 22 = .ok (.goto 4, 3) := by decide +kernel
theorem dX9_areTwo_25 : decode cX9_areTwo 25 = .ok (.iconst 0, 1) := by decide +kernel
theorem dX9_areTwo_26 : decode cX9_areTwo 26 = .ok (.ireturn, 1) := by decide +kernel
theorem dX9_person_0 : decode cX9_person 0 = .ok (.iload_n 1, 1) := by decide +kernel
theorem dX9_person_1 : decode cX9_person 1 = .ok (.i2l, 1) := by decide +kernel
theorem dX9_person_2 : decode cX9_person 2 = .ok (.lconst 0, 1) := by decide +kernel
theorem dX9_person_3 : decode cX9_person 3 = .ok (.ldc2_w 63, 3) := by decide +kernel
theorem dX9_person_6 : decode cX9_person 6 = .ok (.invokestatic 55, 3) := by decide +kernel
theorem dX9_person_9 : decode cX9_person 9 = .ok (.ifCond .eq 40, 3) := by decide +kernel
theorem dX9_person_12 : decode cX9_person 12 = .ok (.iload_n 2, 1) := by decide +kernel
theorem dX9_person_13 : decode cX9_person 13 = .ok (.i2l, 1) := by decide +kernel
theorem dX9_person_14 : decode cX9_person 14 = .ok (.lconst 0, 1) := by decide +kernel
theorem dX9_person_15 : decode cX9_person 15 = .ok (.ldc2_w 65, 3) := by decide +kernel
theorem dX9_person_18 : decode cX9_person 18 = .ok (.invokestatic 55, 3) := by decide +kernel
theorem dX9_person_21 : decode cX9_person 21 = .ok (.ifCond .eq 28, 3) := by decide +kernel
theorem dX9_person_24 : decode cX9_person 24 = .ok (.iload_n 3, 1) := by decide +kernel
theorem dX9_person_25 : decode cX9_person 25 = .ok (.i2l, 1) := by decide +kernel
theorem dX9_person_26 : decode cX9_person 26 = .ok (.lconst 0, 1) := by decide +kernel
theorem dX9_person_27 : decode cX9_person 27 = .ok (.ldc2_w 67, 3) := by decide +kernel
theorem dX9_person_30 : decode cX9_person 30 = .ok (.invokestatic 55, 3) := by decide +kernel
theorem dX9_person_33 : decode cX9_person 33 = .ok (.ifCond .eq 16, 3) := by decide +kernel
theorem dX9_person_36 : decode cX9_person 36 = .ok (.iload 4, 2) := by decide +kernel
theorem dX9_person_38 : decode cX9_person 38 = .ok (.i2l, 1) := by decide +kernel
theorem dX9_person_39 : decode cX9_person 39 = .ok (.lconst 0, 1) := by decide +kernel
theorem dX9_person_40 : decode cX9_person 40 = .ok (.ldc2_w 67, 3) := by decide +kernel
theorem dX9_person_43 : decode cX9_person 43 = .ok (.invokestatic 55, 3) := by decide +kernel
theorem dX9_person_46 : decode cX9_person 46 = .ok (.ifCond .ne 8, 3) := by decide +kernel
theorem dX9_person_49 : decode cX9_person 49 = .ok (.aload_n 0, 1) := by decide +kernel
theorem dX9_person_50 : decode cX9_person 50 = .ok (.invokevirtual 69, 3) := by decide +kernel
theorem dX9_person_53 : decode cX9_person 53 = .ok (.ireturn, 1) := by decide +kernel
theorem dX9_person_54 : decode cX9_person 54 = .ok (.aload_n 0, 1) := by decide +kernel
theorem dX9_person_55 : decode cX9_person 55 = .ok (.getfield 7, 3) := by decide +kernel
theorem dX9_person_58 : decode cX9_person 58 = .ok (.iconst 0, 1) := by decide +kernel
theorem dX9_person_59 : decode cX9_person 59 = .ok (.iaload, 1) := by decide +kernel
theorem dX9_person_60 : decode cX9_person 60 = .ok (.bipush 8, 2) := by decide +kernel
theorem dX9_person_62 : decode cX9_person 62 = .ok (.if_icmp .ne 8, 3) := by decide +kernel
theorem dX9_person_65 : decode cX9_person 65 = .ok (.aload_n 0, 1) := by decide +kernel
theorem dX9_person_66 : decode cX9_person 66 = .ok (.invokevirtual 73, 3) := by decide +kernel
theorem dX9_person_69 : decode cX9_person 69 = .ok (.ireturn, 1) := by decide +kernel
theorem dX9_person_70 : decode cX9_person 70 = .ok (.iconst 4, 1) := by decide +kernel
theorem dX9_person_71 : decode cX9_person 71 = .ok (.iconst 4, 1) := by decide +kernel
theorem dX9_person_72 : decode cX9_person 72 = .ok (.aload_n 0, 1) := by decide +kernel
theorem dX9_person_73 : decode cX9_person 73 = .ok (.getfield 7, 3) := by decide +kernel
theorem dX9_person_76 : decode cX9_person 76 = .ok (.iconst 0, 1) := by decide +kernel
theorem dX9_person_77 : decode cX9_person 77 = .ok (.iaload, 1) := by decide +kernel
theorem dX9_person_78 : decode cX9_person 78 = .ok (.imul, 1) := by decide +kernel
theorem dX9_person_79 : decode cX9_person 79 = .ok (.iadd, 1) := by decide +kernel
theorem dX9_person_80 : decode cX9_person 80 = .ok (.istore 5, 2) := by decide +kernel
theorem dX9_person_82 : decode cX9_person 82 = .ok (.aload_n 0, 1) := by decide +kernel
theorem dX9_person_83 : decode cX9_person 83 = .ok (.getfield 7, 3) := by decide +kernel
theorem dX9_person_86 : decode cX9_person 86 = .ok (.iload 5, 2) := by decide +kernel
theorem dX9_person_88 : decode cX9_person 88 = .ok (.iload_n 1, 1) := by decide +kernel
theorem dX9_person_89 : decode cX9_person 89 = .ok (.iastore, 1) := by decide +kernel
theorem dX9_person_90 : decode cX9_person 90 = .ok (.aload_n 0, 1) := by decide +kernel
theorem dX9_person_91 : decode cX9_person 91 = .ok (.getfield 7, 3) := by decide +kernel
theorem dX9_person_94 : decode cX9_person 94 = .ok (.iload 5, 2) := by decide +kernel
theorem dX9_person_96 : decode cX9_person 96 = .ok (.iconst 1, 1) := by decide +kernel
theorem dX9_person_97 : decode cX9_person 97 = .ok (.iadd, 1) := by decide +kernel
theorem dX9_person_98 : decode cX9_person 98 = .ok (.iload_n 2, 1) := by decide +kernel
theorem dX9_person_99 : decode cX9_person 99 = .ok (.iastore, 1) := by decide +kernel
theorem dX9_person_100 : decode cX9_person 100 = .ok (.aload_n 0, 1) := by decide +kernel
theorem dX9_person_101 : decode cX9_person 101 = .ok (.getfield 7, 3) := by decide +kernel
theorem dX9_person_104 : decode cX9_person 104 = .ok (.iload 5, 2) := by decide +kernel
theorem dX9_person_106 : decode cX9_person 106 = .ok (.iconst 2, 1) := by decide +kernel
theorem dX9_person_107 : decode cX9_person 107 = .ok (.iadd, 1) := by decide +kernel
theorem dX9_person_108 : decode cX9_person 108 = .ok (.iload_n 3, 1) := by decide +kernel
theorem dX9_person_109 : decode cX9_person 109 = .ok (.iastore, 1) := by decide +kernel
theorem dX9_person_110 : decode cX9_person 110 = .ok (.aload_n 0, 1) := by decide +kernel
theorem dX9_person_111 : decode cX9_person 111 = .ok (.getfield 7, 3) := by decide +kernel
theorem dX9_person_114 : decode cX9_person 114 = .ok (.iload 5, 2) := by decide +kernel
theorem dX9_person_116 : decode cX9_person 116 = .ok (.iconst 3, 1) := by decide +kernel
theorem dX9_person_117 : decode cX9_person 117 = .ok (.iadd, 1) := by decide +kernel
theorem dX9_person_118 : decode cX9_person 118 = .ok (.iload 4, 2) := by decide +kernel
theorem dX9_person_120 : decode cX9_person 120 = .ok (.iastore, 1) := by decide +kernel
theorem dX9_person_121 : decode cX9_person 121 = .ok (.aload_n 0, 1) := by decide +kernel
theorem dX9_person_122 : decode cX9_person 122 = .ok (.getfield 7, 3) := by decide +kernel
theorem dX9_person_125 : decode cX9_person 125 = .ok (.iconst 0, 1) := by decide +kernel
theorem dX9_person_126 : decode cX9_person 126 = .ok (.dup2, 1) := by decide +kernel
theorem dX9_person_127 : decode cX9_person 127 = .ok (.iaload, 1) := by decide +kernel
theorem dX9_person_128 : decode cX9_person 128 = .ok (.iconst 1, 1) := by decide +kernel
theorem dX9_person_129 : decode cX9_person 129 = .ok (.iadd, 1) := by decide +kernel
theorem dX9_person_130 : decode cX9_person 130 = .ok (.iastore, 1) := by decide +kernel
theorem dX9_person_131 : decode cX9_person 131 = .ok (.aload_n 0, 1) := by decide +kernel
theorem dX9_person_132 : decode cX9_person 132 = .ok (.getfield 7, 3) := by decide +kernel
theorem dX9_person_135 : decode cX9_person 135 = .ok (.iconst 0, 1) := by decide +kernel
theorem dX9_person_136 : decode cX9_person 136 = .ok (.iaload, 1) := by decide +kernel
theorem dX9_person_137 : decode cX9_person 137 = .ok (.iconst 1, 1) := by decide +kernel
theorem dX9_person_138 : decode cX9_person 138 = .ok (.isub, 1) := by decide +kernel
theorem dX9_person_139 : decode cX9_person 139 = .ok (.ireturn, 1) := by decide +kernel
theorem dX9_countsOf_0 : decode cX9_countsOf 0 = .ok (.aload_n 0, 1) := by decide +kernel
theorem dX9_countsOf_1 : decode cX9_countsOf 1 = .ok (.getfield 7, 3) := by decide +kernel
theorem dX9_countsOf_4 : decode cX9_countsOf 4 = .ok (.iconst 4, 1) := by decide +kernel
theorem dX9_countsOf_5 : decode cX9_countsOf 5 = .ok (.iconst 4, 1) := by decide +kernel
theorem dX9_countsOf_6 : decode cX9_countsOf 6 = .ok (.iload_n 1, 1) := by decide +kernel
theorem dX9_countsOf_7 : decode cX9_countsOf 7 = .ok (.imul, 1) := by decide +kernel
theorem dX9_countsOf_8 : decode cX9_countsOf 8 = .ok (.iadd, 1) := by decide +kernel
theorem dX9_countsOf_9 : decode cX9_countsOf 9 = .ok (.iaload, 1) := by decide +kernel
theorem dX9_countsOf_10 : decode cX9_countsOf 10 = .ok (.istore_n 3, 1) := by decide +kernel
theorem dX9_countsOf_11 : decode cX9_countsOf 11 = .ok (.aload_n 0, 1) := by decide +kernel
theorem dX9_countsOf_12 : decode cX9_countsOf 12 = .ok (.getfield 7, 3) := by decide +kernel
theorem dX9_countsOf_15 : decode cX9_countsOf 15 = .ok (.iconst 4, 1) := by decide +kernel
theorem dX9_countsOf_16 : decode cX9_countsOf 16 = .ok (.iconst 4, 1) := by decide +kernel
theorem dX9_countsOf_17 : decode cX9_countsOf 17 = .ok (.iload_n 1, 1) := by decide +kernel
theorem dX9_countsOf_18 : decode cX9_countsOf 18 = .ok (.imul, 1) := by decide +kernel
theorem dX9_countsOf_19 : decode cX9_countsOf 19 = .ok (.iadd, 1) := by decide +kernel
theorem dX9_countsOf_20 : decode cX9_countsOf 20 = .ok (.iconst 1, 1) := by decide +kernel
theorem dX9_countsOf_21 : decode cX9_countsOf 21 = .ok (.iadd, 1) := by decide +kernel
theorem dX9_countsOf_22 : decode cX9_countsOf 22 = .ok (.iload_n 2, 1) := by decide +kernel
theorem dX9_countsOf_23 : decode cX9_countsOf 23 = .ok (.iadd, 1) := by decide +kernel
theorem dX9_countsOf_24 : decode cX9_countsOf 24 = .ok (.iaload, 1) := by decide +kernel
theorem dX9_countsOf_25 : decode cX9_countsOf 25 = .ok (.istore 4, 2) := by decide +kernel
theorem dX9_countsOf_27 : decode cX9_countsOf 27 = .ok (.iload_n 2, 1) := by decide +kernel
theorem dX9_countsOf_28 : decode cX9_countsOf 28 = .ok (.ifCond .ne 28, 3) := by decide +kernel
theorem dX9_countsOf_31 : decode cX9_countsOf 31 = .ok (.iload_n 3, 1) := by decide +kernel
theorem dX9_countsOf_32 : decode cX9_countsOf 32 = .ok (.iconst 1, 1) := by decide +kernel
theorem dX9_countsOf_33 : decode cX9_countsOf 33 = .ok (.if_icmp .ne 7, 3) := by decide +kernel
theorem dX9_countsOf_36 : decode cX9_countsOf 36 = .ok (.iconst 0, 1) := by decide +kernel
theorem dX9_countsOf_37 : decode cX9_countsOf 37 = .ok (.goto 18, 3) := by decide +kernel
theorem dX9_countsOf_40 : decode cX9_countsOf 40 = .ok (.iload_n 3, 1) := by decide +kernel
theorem dX9_countsOf_41 : decode cX9_countsOf 41 = .ok (.iconst 5, 1) := by decide +kernel
theorem dX9_countsOf_42 : decode cX9_countsOf 42 = .ok (.if_icmp .ne 11, 3) := by decide +kernel
theorem dX9_countsOf_45 : decode cX9_countsOf 45 = .ok (.iload 4, 2) := by decide +kernel
theorem dX9_countsOf_47 : decode cX9_countsOf 47 = .ok (.bipush 20, 2) := by decide +kernel
theorem dX9_countsOf_49 : decode cX9_countsOf 49 = .ok (.iadd, 1) := by decide +kernel
theorem dX9_countsOf_50 : decode cX9_countsOf 50 = .ok (.goto 5, 3) := by decide +kernel
theorem dX9_countsOf_53 : decode cX9_countsOf 53 = .ok (.iload 4, 2) := by decide +kernel
theorem dX9_countsOf_55 : decode cX9_countsOf 55 = .ok (.ireturn, 1) := by decide +kernel
theorem dX9_countsOf_56 : decode cX9_countsOf 56 = .ok (.iload_n 2, 1) := by decide +kernel
theorem dX9_countsOf_57 : decode cX9_countsOf 57 = .ok (.iconst 1, 1) := by decide +kernel
theorem dX9_countsOf_58 : decode cX9_countsOf 58 = .ok (.if_icmp .ne 23, 3) := by decide +kernel
theorem dX9_countsOf_61 : decode cX9_countsOf 61 = .ok (.iload_n 3, 1) := by decide +kernel
theorem dX9_countsOf_62 : decode cX9_countsOf 62 = .ok (.iconst 2, 1) := by decide +kernel
theorem dX9_countsOf_63 : decode cX9_countsOf 63 = .ok (.if_icmp .eq 8, 3) := by decide +kernel
theorem dX9_countsOf_66 : decode cX9_countsOf 66 = .ok (.iload_n 3, 1) := by decide +kernel
theorem dX9_countsOf_67 : decode cX9_countsOf 67 = .ok (.iconst 3, 1) := by decide +kernel
theorem dX9_countsOf_68 : decode cX9_countsOf 68 = .ok (.if_icmp .ne 10, 3) := by decide +kernel
theorem dX9_countsOf_71 : decode cX9_countsOf 71 = .ok (.iload 4, 2) := by decide +kernel
theorem dX9_countsOf_73 : decode cX9_countsOf 73 = .ok (.iconst 3, 1) := by decide +kernel
theorem dX9_countsOf_74 : decode cX9_countsOf 74 = .ok (.iadd, 1) := by decide +kernel
theorem dX9_countsOf_75 : decode cX9_countsOf 75 = .ok (.goto 5, 3) := by decide +kernel
theorem dX9_countsOf_78 : decode cX9_countsOf 78 = .ok (.iload 4, 2) := by decide +kernel
theorem dX9_countsOf_80 : decode cX9_countsOf 80 = .ok (.ireturn, 1) := by decide +kernel
theorem dX9_countsOf_81 : decode cX9_countsOf 81 = .ok (.iload_n 3, 1) := by decide +kernel
theorem dX9_countsOf_82 : decode cX9_countsOf 82 = .ok (.iconst 3, 1) := by decide +kernel
theorem dX9_countsOf_83 : decode cX9_countsOf 83 = .ok (.if_icmp .ne 10, 3) := by decide +kernel
theorem dX9_countsOf_86 : decode cX9_countsOf 86 = .ok (.iload 4, 2) := by decide +kernel
theorem dX9_countsOf_88 : decode cX9_countsOf 88 = .ok (.iconst 2, 1) := by decide +kernel
theorem dX9_countsOf_89 : decode cX9_countsOf 89 = .ok (.iadd, 1) := by decide +kernel
theorem dX9_countsOf_90 : decode cX9_countsOf 90 = .ok (.goto 22, 3) := by decide +kernel
theorem dX9_countsOf_93 : decode cX9_countsOf 93 = .ok (.iload_n 3, 1) := by decide +kernel
theorem dX9_countsOf_94 : decode cX9_countsOf 94 = .ok (.iconst 4, 1) := by decide +kernel
theorem dX9_countsOf_95 : decode cX9_countsOf 95 = .ok (.if_icmp .eq 8, 3) := by decide +kernel
theorem dX9_countsOf_98 : decode cX9_countsOf 98 = .ok (.iload_n 3, 1) := by decide +kernel
theorem dX9_countsOf_99 : decode cX9_countsOf 99 = .ok (.iconst 5, 1) := by decide +kernel
theorem dX9_countsOf_100 : decode cX9_countsOf 100 = .ok (.if_icmp .ne 10, 3) := by decide +kernel
theorem dX9_countsOf_103 : decode cX9_countsOf 103 = .ok (.iconst 2, 1) := by decide +kernel
theorem dX9_countsOf_104 : decode cX9_countsOf 104 = .ok (.iload 4, 2) := by decide +kernel
theorem dX9_countsOf_106 : decode cX9_countsOf 106 = .ok (.imul, 1) := by decide +kernel
theorem dX9_countsOf_107 : decode cX9_countsOf 107 = .ok (.goto 5, 3) := by decide +kernel
theorem dX9_countsOf_110 : decode cX9_countsOf 110 = .ok (.iload 4, 2) := by decide +kernel
theorem dX9_countsOf_112 : decode cX9_countsOf 112 = .ok (.ireturn, 1) := by decide +kernel
theorem dX9_counts_0 : decode cX9_counts 0 = .ok (.aload_n 0, 1) := by decide +kernel
theorem dX9_counts_1 : decode cX9_counts 1 = .ok (.iload_n 1, 1) := by decide +kernel
theorem dX9_counts_2 : decode cX9_counts 2 = .ok (.invokevirtual 59, 3) := by decide +kernel
theorem dX9_counts_5 : decode cX9_counts 5 = .ok (.ifCond .eq 24, 3) := by decide +kernel
theorem dX9_counts_8 : decode cX9_counts 8 = .ok (.iload_n 2, 1) := by decide +kernel
theorem dX9_counts_9 : decode cX9_counts 9 = .ok (.i2l, 1) := by decide +kernel
theorem dX9_counts_10 : decode cX9_counts 10 = .ok (.lconst 0, 1) := by decide +kernel
theorem dX9_counts_11 : decode cX9_counts 11 = .ok (.ldc2_w 76, 3) := by decide +kernel
theorem dX9_counts_14 : decode cX9_counts 14 = .ok (.invokestatic 55, 3) := by decide +kernel
theorem dX9_counts_17 : decode cX9_counts 17 = .ok (.ifCond .eq 12, 3) := by decide +kernel
theorem dX9_counts_20 : decode cX9_counts 20 = .ok (.aload_n 0, 1) := by decide +kernel
theorem dX9_counts_21 : decode cX9_counts 21 = .ok (.iload_n 1, 1) := by decide +kernel
theorem dX9_counts_22 : decode cX9_counts 22 = .ok (.iload_n 2, 1) := by decide +kernel
theorem dX9_counts_23 : decode cX9_counts 23 = .ok (.invokevirtual 78, 3) := by decide +kernel
theorem dX9_counts_26 : decode cX9_counts 26 = .ok (.goto 7, 3) := by decide +kernel
theorem dX9_counts_29 : decode cX9_counts 29 = .ok (.aload_n 0, 1) := by decide +kernel
theorem dX9_counts_30 : decode cX9_counts 30 = .ok (.invokevirtual 69, 3) := by decide +kernel
theorem dX9_counts_33 : decode cX9_counts 33 = .ok (.ireturn, 1) := by decide +kernel
theorem dX9_owe_0 : decode cX9_owe 0 = .ok (.aload_n 0, 1) := by decide +kernel
theorem dX9_owe_1 : decode cX9_owe 1 = .ok (.iload_n 1, 1) := by decide +kernel
theorem dX9_owe_2 : decode cX9_owe 2 = .ok (.iload_n 2, 1) := by decide +kernel
theorem dX9_owe_3 : decode cX9_owe 3 = .ok (.invokevirtual 81, 3) := by decide +kernel
theorem dX9_owe_6 : decode cX9_owe 6 = .ok (.ifCond .eq 15, 3) := by decide +kernel
theorem dX9_owe_9 : decode cX9_owe 9 = .ok (.iload_n 3, 1) := by decide +kernel
theorem dX9_owe_10 : decode cX9_owe 10 = .ok (.i2l, 1) := by decide +kernel
theorem dX9_owe_11 : decode cX9_owe 11 = .ok (.lconst 0, 1) := by decide +kernel
theorem dX9_owe_12 : decode cX9_owe 12 = .ok (.ldc2_w 65, 3) := by decide +kernel
theorem dX9_owe_15 : decode cX9_owe 15 = .ok (.invokestatic 55, 3) := by decide +kernel
theorem dX9_owe_18 : decode cX9_owe 18 = .ok (.ifCond .ne 8, 3) := by decide +kernel
theorem dX9_owe_21 : decode cX9_owe 21 = .ok (.aload_n 0, 1) := by decide +kernel
theorem dX9_owe_22 : decode cX9_owe 22 = .ok (.invokevirtual 69, 3) := by decide +kernel
theorem dX9_owe_25 : decode cX9_owe 25 = .ok (.ireturn, 1) := by decide +kernel
theorem dX9_owe_26 : decode cX9_owe 26 = .ok (.aload_n 0, 1) := by decide +kernel
theorem dX9_owe_27 : decode cX9_owe 27 = .ok (.getfield 7, 3) := by decide +kernel
theorem dX9_owe_30 : decode cX9_owe 30 = .ok (.bipush 36, 2) := by decide +kernel
theorem dX9_owe_32 : decode cX9_owe 32 = .ok (.bipush 8, 2) := by decide +kernel
theorem dX9_owe_34 : decode cX9_owe 34 = .ok (.iload_n 1, 1) := by decide +kernel
theorem dX9_owe_35 : decode cX9_owe 35 = .ok (.imul, 1) := by decide +kernel
theorem dX9_owe_36 : decode cX9_owe 36 = .ok (.iadd, 1) := by decide +kernel
theorem dX9_owe_37 : decode cX9_owe 37 = .ok (.iload_n 2, 1) := by decide +kernel
theorem dX9_owe_38 : decode cX9_owe 38 = .ok (.iadd, 1) := by decide +kernel
theorem dX9_owe_39 : decode cX9_owe 39 = .ok (.iaload, 1) := by decide +kernel
theorem dX9_owe_40 : decode cX9_owe 40 = .ok (.istore 4, 2) := by decide +kernel
theorem dX9_owe_42 : decode cX9_owe 42 = .ok (.aload_n 0, 1) := by decide +kernel
theorem dX9_owe_43 : decode cX9_owe 43 = .ok (.getfield 7, 3) := by decide +kernel
theorem dX9_owe_46 : decode cX9_owe 46 = .ok (.bipush 36, 2) := by decide +kernel
theorem dX9_owe_48 : decode cX9_owe 48 = .ok (.bipush 8, 2) := by decide +kernel
theorem dX9_owe_50 : decode cX9_owe 50 = .ok (.iload_n 1, 1) := by decide +kernel
theorem dX9_owe_51 : decode cX9_owe 51 = .ok (.imul, 1) := by decide +kernel
theorem dX9_owe_52 : decode cX9_owe 52 = .ok (.iadd, 1) := by decide +kernel
theorem dX9_owe_53 : decode cX9_owe 53 = .ok (.iload_n 2, 1) := by decide +kernel
theorem dX9_owe_54 : decode cX9_owe 54 = .ok (.iadd, 1) := by decide +kernel
theorem dX9_owe_55 : decode cX9_owe 55 = .ok (.iload_n 3, 1) := by decide +kernel
theorem dX9_owe_56 : decode cX9_owe 56 = .ok (.iastore, 1) := by decide +kernel
theorem dX9_owe_57 : decode cX9_owe 57 = .ok (.iload 4, 2) := by decide +kernel
theorem dX9_owe_59 : decode cX9_owe 59 = .ok (.ireturn, 1) := by decide +kernel
theorem dX9_owes_0 : decode cX9_owes 0 = .ok (.aload_n 0, 1) := by decide +kernel
theorem dX9_owes_1 : decode cX9_owes 1 = .ok (.iload_n 1, 1) := by decide +kernel
theorem dX9_owes_2 : decode cX9_owes 2 = .ok (.iload_n 2, 1) := by decide +kernel
theorem dX9_owes_3 : decode cX9_owes 3 = .ok (.invokevirtual 81, 3) := by decide +kernel
theorem dX9_owes_6 : decode cX9_owes 6 = .ok (.ifCond .eq 20, 3) := by decide +kernel
theorem dX9_owes_9 : decode cX9_owes 9 = .ok (.aload_n 0, 1) := by decide +kernel
theorem dX9_owes_10 : decode cX9_owes 10 = .ok (.getfield 7, 3) := by decide +kernel
theorem dX9_owes_13 : decode cX9_owes 13 = .ok (.bipush 36, 2) := by decide +kernel
theorem dX9_owes_15 : decode cX9_owes 15 = .ok (.bipush 8, 2) := by decide +kernel
theorem dX9_owes_17 : decode cX9_owes 17 = .ok (.iload_n 1, 1) := by decide +kernel
theorem dX9_owes_18 : decode cX9_owes 18 = .ok (.imul, 1) := by decide +kernel
theorem dX9_owes_19 : decode cX9_owes 19 = .ok (.iadd, 1) := by decide +kernel
theorem dX9_owes_20 : decode cX9_owes 20 = .ok (.iload_n 2, 1) := by decide +kernel
theorem dX9_owes_21 : decode cX9_owes 21 = .ok (.iadd, 1) := by decide +kernel
theorem dX9_owes_22 : decode cX9_owes 22 = .ok (.iaload, 1) := by decide +kernel
theorem dX9_owes_23 : decode cX9_owes 23 = .ok (.goto 7, 3) := by decide +kernel
theorem dX9_owes_26 : decode cX9_owes 26 = .ok (.aload_n 0, 1) := by decide +kernel
theorem dX9_owes_27 : decode cX9_owes 27 = .ok (.invokevirtual 69, 3) := by decide +kernel
theorem dX9_owes_30 : decode cX9_owes 30 = .ok (.ireturn, 1) := by decide +kernel
theorem dX9_lastOf_0 : decode cX9_lastOf 0 = .ok (.aload_n 0, 1) := by decide +kernel
theorem dX9_lastOf_1 : decode cX9_lastOf 1 = .ok (.getfield 7, 3) := by decide +kernel
theorem dX9_lastOf_4 : decode cX9_lastOf 4 = .ok (.bipush 100, 2) := by decide +kernel
theorem dX9_lastOf_6 : decode cX9_lastOf 6 = .ok (.iload_n 1, 1) := by decide +kernel
theorem dX9_lastOf_7 : decode cX9_lastOf 7 = .ok (.iload_n 2, 1) := by decide +kernel
theorem dX9_lastOf_8 : decode cX9_lastOf 8 = .ok (.if_icmp .ge 12, 3) := by decide +kernel
theorem dX9_lastOf_11 : decode cX9_lastOf 11 = .ok (.bipush 8, 2) := by decide +kernel
theorem dX9_lastOf_13 : decode cX9_lastOf 13 = .ok (.iload_n 1, 1) := by decide +kernel
theorem dX9_lastOf_14 : decode cX9_lastOf 14 = .ok (.imul, 1) := by decide +kernel
theorem dX9_lastOf_15 : decode cX9_lastOf 15 = .ok (.iload_n 2, 1) := by decide +kernel
theorem dX9_lastOf_16 : decode cX9_lastOf 16 = .ok (.iadd, 1) := by decide +kernel
theorem dX9_lastOf_17 : decode cX9_lastOf 17 = .ok (.goto 9, 3) := by decide +kernel
theorem dX9_lastOf_20 : decode cX9_lastOf 20 = .ok (.bipush 8, 2) := by decide +kernel
theorem dX9_lastOf_22 : decode cX9_lastOf 22 = .ok (.iload_n 2, 1) := by decide +kernel
theorem dX9_lastOf_23 : decode cX9_lastOf 23 = .ok (.imul, 1) := by decide +kernel
theorem dX9_lastOf_24 : decode cX9_lastOf 24 = .ok (.iload_n 1, 1) := by decide +kernel
theorem dX9_lastOf_25 : decode cX9_lastOf 25 = .ok (.iadd, 1) := by decide +kernel
theorem dX9_lastOf_26 : decode cX9_lastOf 26 = .ok (.iadd, 1) := by decide +kernel
theorem dX9_lastOf_27 : decode cX9_lastOf 27 = .ok (.iaload, 1) := by decide +kernel
theorem dX9_lastOf_28 : decode cX9_lastOf 28 = .ok (.ireturn, 1) := by decide +kernel
theorem dX9_went_0 : decode cX9_went 0 = .ok (.aload_n 0, 1) := by decide +kernel
theorem dX9_went_1 : decode cX9_went 1 = .ok (.getfield 7, 3) := by decide +kernel
theorem dX9_went_4 : decode cX9_went 4 = .ok (.bipush 36, 2) := by decide +kernel
theorem dX9_went_6 : decode cX9_went 6 = .ok (.bipush 8, 2) := by decide +kernel
theorem dX9_went_8 : decode cX9_went 8 = .ok (.iload_n 1, 1) := by decide +kernel
theorem dX9_went_9 : decode cX9_went 9 = .ok (.imul, 1) := by decide +kernel
theorem dX9_went_10 : decode cX9_went 10 = .ok (.iadd, 1) := by decide +kernel
theorem dX9_went_11 : decode cX9_went 11 = .ok (.iload_n 2, 1) := by decide +kernel
theorem dX9_went_12 : decode cX9_went 12 = .ok (.iadd, 1) := by decide +kernel
theorem dX9_went_13 : decode cX9_went 13 = .ok (.iaload, 1) := by decide +kernel
theorem dX9_went_14 : decode cX9_went 14 = .ok (.iconst 1, 1) := by decide +kernel
theorem dX9_went_15 : decode cX9_went 15 = .ok (.iadd, 1) := by decide +kernel
theorem dX9_went_16 : decode cX9_went 16 = .ok (.istore_n 3, 1) := by decide +kernel
theorem dX9_went_17 : decode cX9_went 17 = .ok (.aload_n 0, 1) := by decide +kernel
theorem dX9_went_18 : decode cX9_went 18 = .ok (.getfield 7, 3) := by decide +kernel
theorem dX9_went_21 : decode cX9_went 21 = .ok (.bipush 36, 2) := by decide +kernel
theorem dX9_went_23 : decode cX9_went 23 = .ok (.bipush 8, 2) := by decide +kernel
theorem dX9_went_25 : decode cX9_went 25 = .ok (.iload_n 1, 1) := by decide +kernel
theorem dX9_went_26 : decode cX9_went 26 = .ok (.imul, 1) := by decide +kernel
theorem dX9_went_27 : decode cX9_went 27 = .ok (.iadd, 1) := by decide +kernel
theorem dX9_went_28 : decode cX9_went 28 = .ok (.iload_n 2, 1) := by decide +kernel
theorem dX9_went_29 : decode cX9_went 29 = .ok (.iadd, 1) := by decide +kernel
theorem dX9_went_30 : decode cX9_went 30 = .ok (.iload_n 3, 1) := by decide +kernel
theorem dX9_went_31 : decode cX9_went 31 = .ok (.bipush 99, 2) := by decide +kernel
theorem dX9_went_33 : decode cX9_went 33 = .ok (.if_icmp .le 8, 3) := by decide +kernel
theorem dX9_went_36 : decode cX9_went 36 = .ok (.bipush 99, 2) := by decide +kernel
theorem dX9_went_38 : decode cX9_went 38 = .ok (.goto 4, 3) := by decide +kernel
theorem dX9_went_41 : decode cX9_went 41 = .ok (.iload_n 3, 1) := by decide +kernel
theorem dX9_went_42 : decode cX9_went 42 = .ok (.iastore, 1) := by decide +kernel
theorem dX9_went_43 : decode cX9_went 43 = .ok (.aload_n 0, 1) := by decide +kernel
theorem dX9_went_44 : decode cX9_went 44 = .ok (.getfield 7, 3) := by decide +kernel
theorem dX9_went_47 : decode cX9_went 47 = .ok (.bipush 100, 2) := by decide +kernel
theorem dX9_went_49 : decode cX9_went 49 = .ok (.iload_n 1, 1) := by decide +kernel
theorem dX9_went_50 : decode cX9_went 50 = .ok (.iload_n 2, 1) := by decide +kernel
theorem dX9_went_51 : decode cX9_went 51 = .ok (.if_icmp .ge 12, 3) := by decide +kernel
theorem dX9_went_54 : decode cX9_went 54 = .ok (.bipush 8, 2) := by decide +kernel
theorem dX9_went_56 : decode cX9_went 56 = .ok (.iload_n 1, 1) := by decide +kernel
theorem dX9_went_57 : decode cX9_went 57 = .ok (.imul, 1) := by decide +kernel
theorem dX9_went_58 : decode cX9_went 58 = .ok (.iload_n 2, 1) := by decide +kernel
theorem dX9_went_59 : decode cX9_went 59 = .ok (.iadd, 1) := by decide +kernel
theorem dX9_went_60 : decode cX9_went 60 = .ok (.goto 9, 3) := by decide +kernel
theorem dX9_went_63 : decode cX9_went 63 = .ok (.bipush 8, 2) := by decide +kernel
theorem dX9_went_65 : decode cX9_went 65 = .ok (.iload_n 2, 1) := by decide +kernel
theorem dX9_went_66 : decode cX9_went 66 = .ok (.imul, 1) := by decide +kernel
theorem dX9_went_67 : decode cX9_went 67 = .ok (.iload_n 1, 1) := by decide +kernel
theorem dX9_went_68 : decode cX9_went 68 = .ok (.iadd, 1) := by decide +kernel
theorem dX9_went_69 : decode cX9_went 69 = .ok (.iadd, 1) := by decide +kernel
theorem dX9_went_70 : decode cX9_went 70 = .ok (.iload_n 1, 1) := by decide +kernel
theorem dX9_went_71 : decode cX9_went 71 = .ok (.iastore, 1) := by decide +kernel
theorem dX9_went_72 : decode cX9_went 72 = .ok (.return_, 1) := by decide +kernel
theorem dX9_type_0 : decode cX9_type 0 = .ok (.iload_n 3, 1) := by decide +kernel
theorem dX9_type_1 : decode cX9_type 1 = .ok (.i2l, 1) := by decide +kernel
theorem dX9_type_2 : decode cX9_type 2 = .ok (.lconst 1, 1) := by decide +kernel
theorem dX9_type_3 : decode cX9_type 3 = .ok (.ldc2_w 85, 3) := by decide +kernel
theorem dX9_type_6 : decode cX9_type 6 = .ok (.invokestatic 55, 3) := by decide +kernel
theorem dX9_type_9 : decode cX9_type 9 = .ok (.ifCond .ne 8, 3) := by decide +kernel
theorem dX9_type_12 : decode cX9_type 12 = .ok (.aload_n 0, 1) := by decide +kernel
theorem dX9_type_13 : decode cX9_type 13 = .ok (.invokevirtual 69, 3) := by decide +kernel
theorem dX9_type_16 : decode cX9_type 16 = .ok (.ireturn, 1) := by decide +kernel
theorem dX9_type_17 : decode cX9_type 17 = .ok (.aload_n 0, 1) := by decide +kernel
theorem dX9_type_18 : decode cX9_type 18 = .ok (.getfield 7, 3) := by decide +kernel
theorem dX9_type_21 : decode cX9_type 21 = .ok (.iconst 1, 1) := by decide +kernel
theorem dX9_type_22 : decode cX9_type 22 = .ok (.iaload, 1) := by decide +kernel
theorem dX9_type_23 : decode cX9_type 23 = .ok (.iload_n 3, 1) := by decide +kernel
theorem dX9_type_24 : decode cX9_type 24 = .ok (.iadd, 1) := by decide +kernel
theorem dX9_type_25 : decode cX9_type 25 = .ok (.sipush 160, 3) := by decide +kernel
theorem dX9_type_28 : decode cX9_type 28 = .ok (.if_icmp .le 8, 3) := by decide +kernel
theorem dX9_type_31 : decode cX9_type 31 = .ok (.aload_n 0, 1) := by decide +kernel
theorem dX9_type_32 : decode cX9_type 32 = .ok (.invokevirtual 73, 3) := by decide +kernel
theorem dX9_type_35 : decode cX9_type 35 = .ok (.ireturn, 1) := by decide +kernel
theorem dX9_type_36 : decode cX9_type 36 = .ok (.iload_n 3, 1) := by decide +kernel
theorem dX9_type_37 : decode cX9_type 37 = .ok (.iconst 1, 1) := by decide +kernel
theorem dX9_type_38 : decode cX9_type 38 = .ok (.isub, 1) := by decide +kernel
theorem dX9_type_39 : decode cX9_type 39 = .ok (.istore 4, 2) := by decide +kernel
theorem dX9_type_41 : decode cX9_type 41 = .ok (.iload 4, 2) := by decide +kernel
theorem dX9_type_43 : decode cX9_type 43 = .ok (.ifCond .lt 46, 3) := by decide +kernel
theorem dX9_type_46 : decode cX9_type 46 = .ok (.aload_n 0, 1) := by decide +kernel
theorem dX9_type_47 : decode cX9_type 47 = .ok (.getfield 7, 3) := by decide +kernel
theorem dX9_type_50 : decode cX9_type 50 = .ok (.sipush 264, 3) := by decide +kernel
theorem dX9_type_53 : decode cX9_type 53 = .ok (.aload_n 0, 1) := by decide +kernel
theorem dX9_type_54 : decode cX9_type 54 = .ok (.getfield 7, 3) := by decide +kernel
theorem dX9_type_57 : decode cX9_type 57 = .ok (.iconst 1, 1) := by decide +kernel
theorem dX9_type_58 : decode cX9_type 58 = .ok (.iaload, 1) := by decide +kernel
theorem dX9_type_59 : decode cX9_type 59 = .ok (.iadd, 1) := by decide +kernel
theorem dX9_type_60 : decode cX9_type 60 = .ok (.lload_n 1, 1) := by decide +kernel
theorem dX9_type_61 : decode cX9_type 61 = .ok (.bipush 8, 2) := by decide +kernel
theorem dX9_type_63 : decode cX9_type 63 = .ok (.iload 4, 2) := by decide +kernel
theorem dX9_type_65 : decode cX9_type 65 = .ok (.imul, 1) := by decide +kernel
theorem dX9_type_66 : decode cX9_type 66 = .ok (.lshr, 1) := by decide +kernel
theorem dX9_type_67 : decode cX9_type 67 = .ok (.ldc2_w 87, 3) := by decide +kernel
theorem dX9_type_70 : decode cX9_type 70 = .ok (.land, 1) := by decide +kernel
theorem dX9_type_71 : decode cX9_type 71 = .ok (.l2i, 1) := by decide +kernel
theorem dX9_type_72 : decode cX9_type 72 = .ok (.iastore, 1) := by decide +kernel
theorem dX9_type_73 : decode cX9_type 73 = .ok (.aload_n 0, 1) := by decide +kernel
theorem dX9_type_74 : decode cX9_type 74 = .ok (.getfield 7, 3) := by decide +kernel
theorem dX9_type_77 : decode cX9_type 77 = .ok (.iconst 1, 1) := by decide +kernel
theorem dX9_type_78 : decode cX9_type 78 = .ok (.dup2, 1) := by decide +kernel
theorem dX9_type_79 : decode cX9_type 79 = .ok (.iaload, 1) := by decide +kernel
theorem dX9_type_80 : decode cX9_type 80 = .ok (.iconst 1, 1) := by decide +kernel
theorem dX9_type_81 : decode cX9_type 81 = .ok (.iadd, 1) := by decide +kernel
theorem dX9_type_82 : decode cX9_type 82 = .ok (.iastore, 1) := by decide +kernel
theorem dX9_type_83 : decode cX9_type 83 = .ok (.iinc 4 (-1), 3) := by decide +kernel
theorem dX9_type_86 : decode cX9_type 86 = .ok (.goto (-45), 3) := by decide +kernel
theorem dX9_type_89 : decode cX9_type 89 = .ok (.aload_n 0, 1) := by decide +kernel
theorem dX9_type_90 : decode cX9_type 90 = .ok (.getfield 7, 3) := by decide +kernel
theorem dX9_type_93 : decode cX9_type 93 = .ok (.iconst 1, 1) := by decide +kernel
theorem dX9_type_94 : decode cX9_type 94 = .ok (.iaload, 1) := by decide +kernel
theorem dX9_type_95 : decode cX9_type 95 = .ok (.ireturn, 1) := by decide +kernel
theorem dX9_clear_0 : decode cX9_clear 0 = .ok (.aload_n 0, 1) := by decide +kernel
theorem dX9_clear_1 : decode cX9_clear 1 = .ok (.getfield 7, 3) := by decide +kernel
theorem dX9_clear_4 : decode cX9_clear 4 = .ok (.iconst 1, 1) := by decide +kernel
theorem dX9_clear_5 : decode cX9_clear 5 = .ok (.iaload, 1) := by decide +kernel
theorem dX9_clear_6 : decode cX9_clear 6 = .ok (.istore_n 1, 1) := by decide +kernel
theorem dX9_clear_7 : decode cX9_clear 7 = .ok (.aload_n 0, 1) := by decide +kernel
theorem dX9_clear_8 : decode cX9_clear 8 = .ok (.getfield 7, 3) := by decide +kernel
theorem dX9_clear_11 : decode cX9_clear 11 = .ok (.iconst 1, 1) := by decide +kernel
theorem dX9_clear_12 : decode cX9_clear 12 = .ok (.iconst 0, 1) := by decide +kernel
theorem dX9_clear_13 : decode cX9_clear 13 = .ok (.iastore, 1) := by decide +kernel
theorem dX9_clear_14 : decode cX9_clear 14 = .ok (.iload_n 1, 1) := by decide +kernel
theorem dX9_clear_15 : decode cX9_clear 15 = .ok (.ireturn, 1) := by decide +kernel
theorem dX9_isAt_0 : decode cX9_isAt 0 = .ok (.aload_n 0, 1) := by decide +kernel
theorem dX9_isAt_1 : decode cX9_isAt 1 = .ok (.getfield 89, 3) := by decide +kernel
theorem dX9_isAt_4 : decode cX9_isAt 4 = .ok (.aload_n 0, 1) := by decide +kernel
theorem dX9_isAt_5 : decode cX9_isAt 5 = .ok (.getfield 7, 3) := by decide +kernel
theorem dX9_isAt_8 : decode cX9_isAt 8 = .ok (.iconst 1, 1) := by decide +kernel
theorem dX9_isAt_9 : decode cX9_isAt 9 = .ok (.iaload, 1) := by decide +kernel
theorem dX9_isAt_10 : decode cX9_isAt 10 = .ok (.if_icmp .ge 31, 3) := by decide +kernel
theorem dX9_isAt_13 : decode cX9_isAt 13 = .ok (.aload_n 0, 1) := by decide +kernel
theorem dX9_isAt_14 : decode cX9_isAt 14 = .ok (.getfield 7, 3) := by decide +kernel
theorem dX9_isAt_17 : decode cX9_isAt 17 = .ok (.sipush 264, 3) := by decide +kernel
theorem dX9_isAt_20 : decode cX9_isAt 20 = .ok (.aload_n 0, 1) := by decide +kernel
theorem dX9_isAt_21 : decode cX9_isAt 21 = .ok (.getfield 89, 3) := by decide +kernel
theorem dX9_isAt_24 : decode cX9_isAt 24 = .ok (.iadd, 1) := by decide +kernel
theorem dX9_isAt_25 : decode cX9_isAt 25 = .ok (.iaload, 1) := by decide +kernel
theorem dX9_isAt_26 : decode cX9_isAt 26 = .ok (.i2l, 1) := by decide +kernel
theorem dX9_isAt_27 : decode cX9_isAt 27 = .ok (.iload_n 1, 1) := by decide +kernel
theorem dX9_isAt_28 : decode cX9_isAt 28 = .ok (.i2l, 1) := by decide +kernel
theorem dX9_isAt_29 : decode cX9_isAt 29 = .ok (.iload_n 2, 1) := by decide +kernel
theorem dX9_isAt_30 : decode cX9_isAt 30 = .ok (.i2l, 1) := by decide +kernel
theorem dX9_isAt_31 : decode cX9_isAt 31 = .ok (.invokestatic 55, 3) := by decide +kernel
theorem dX9_isAt_34 : decode cX9_isAt 34 = .ok (.ifCond .eq 7, 3) := by decide +kernel
theorem dX9_isAt_37 : decode cX9_isAt 37 = .ok (.iconst 1, 1) := by decide +kernel
theorem dX9_isAt_38 : decode cX9_isAt 38 = .ok (.goto 4, 3) := by decide +kernel
theorem dX9_isAt_41 : decode cX9_isAt 41 = .ok (.iconst 0, 1) := by decide +kernel
theorem dX9_isAt_42 : decode cX9_isAt 42 = .ok (.ireturn, 1) := by decide +kernel
theorem dX9_wordOf_0 : decode cX9_wordOf 0 = .ok (.lload_n 0, 1) := by decide +kernel
theorem dX9_wordOf_1 : decode cX9_wordOf 1 = .ok (.ldc2_w 92, 3) := by decide +kernel
theorem dX9_wordOf_4 : decode cX9_wordOf 4 = .ok (.lcmp, 1) := by decide +kernel
theorem dX9_wordOf_5 : decode cX9_wordOf 5 = .ok (.ifCond .ne 7, 3) := by decide +kernel
theorem dX9_wordOf_8 : decode cX9_wordOf 8 = .ok (.iconst 0, 1) := by decide +kernel
theorem dX9_wordOf_9 : decode cX9_wordOf 9 = .ok (.goto 52, 3) := by decide +kernel
theorem dX9_wordOf_12 : decode cX9_wordOf 12 = .ok (.lload_n 0, 1) := by decide +kernel
theorem dX9_wordOf_13 : decode cX9_wordOf 13 = .ok (.ldc2_w 94, 3) := by decide +kernel
theorem dX9_wordOf_16 : decode cX9_wordOf 16 = .ok (.lcmp, 1) := by decide +kernel
theorem dX9_wordOf_17 : decode cX9_wordOf 17 = .ok (.ifCond .ne 7, 3) := by decide +kernel
theorem dX9_wordOf_20 : decode cX9_wordOf 20 = .ok (.iconst 1, 1) := by decide +kernel
theorem dX9_wordOf_21 : decode cX9_wordOf 21 = .ok (.goto 40, 3) := by decide +kernel
theorem dX9_wordOf_24 : decode cX9_wordOf 24 = .ok (.lload_n 0, 1) := by decide +kernel
theorem dX9_wordOf_25 : decode cX9_wordOf 25 = .ok (.ldc2_w 96, 3) := by decide +kernel
theorem dX9_wordOf_28 : decode cX9_wordOf 28 = .ok (.lcmp, 1) := by decide +kernel
theorem dX9_wordOf_29 : decode cX9_wordOf 29 = .ok (.ifCond .ne 7, 3) := by decide +kernel
theorem dX9_wordOf_32 : decode cX9_wordOf 32 = .ok (.iconst 2, 1) := by decide +kernel
theorem dX9_wordOf_33 : decode cX9_wordOf 33 = .ok (.goto 28, 3) := by decide +kernel
theorem dX9_wordOf_36 : decode cX9_wordOf 36 = .ok (.lload_n 0, 1) := by decide +kernel
theorem dX9_wordOf_37 : decode cX9_wordOf 37 = .ok (.ldc2_w 98, 3) := by decide +kernel
theorem dX9_wordOf_40 : decode cX9_wordOf 40 = .ok (.lcmp, 1) := by decide +kernel
theorem dX9_wordOf_41 : decode cX9_wordOf 41 = .ok (.ifCond .ne 7, 3) := by decide +kernel
theorem dX9_wordOf_44 : decode cX9_wordOf 44 = .ok (.iconst 3, 1) := by decide +kernel
theorem dX9_wordOf_45 : decode cX9_wordOf 45 = .ok (.goto 16, 3) := by decide +kernel
theorem dX9_wordOf_48 : decode cX9_wordOf 48 = .ok (.lload_n 0, 1) := by decide +kernel
theorem dX9_wordOf_49 : decode cX9_wordOf 49 = .ok (.ldc2_w 100, 3) := by decide +kernel
theorem dX9_wordOf_52 : decode cX9_wordOf 52 = .ok (.lcmp, 1) := by decide +kernel
theorem dX9_wordOf_53 : decode cX9_wordOf 53 = .ok (.ifCond .ne 7, 3) := by decide +kernel
theorem dX9_wordOf_56 : decode cX9_wordOf 56 = .ok (.iconst 4, 1) := by decide +kernel
theorem dX9_wordOf_57 : decode cX9_wordOf 57 = .ok (.goto 4, 3) := by decide +kernel
theorem dX9_wordOf_60 : decode cX9_wordOf 60 = .ok (.iconst (-1), 1) := by decide +kernel
theorem dX9_wordOf_61 : decode cX9_wordOf 61 = .ok (.istore_n 2, 1) := by decide +kernel
theorem dX9_wordOf_62 : decode cX9_wordOf 62 = .ok (.lload_n 0, 1) := by decide +kernel
theorem dX9_wordOf_63 : decode cX9_wordOf 63 = .ok (.ldc2_w 102, 3) := by decide +kernel
theorem dX9_wordOf_66 : decode cX9_wordOf 66 = .ok (.lcmp, 1) := by decide +kernel
theorem dX9_wordOf_67 : decode cX9_wordOf 67 = .ok (.ifCond .ne 7, 3) := by decide +kernel
theorem dX9_wordOf_70 : decode cX9_wordOf 70 = .ok (.iconst 5, 1) := by decide +kernel
theorem dX9_wordOf_71 : decode cX9_wordOf 71 = .ok (.goto 56, 3) := by decide +kernel
theorem dX9_wordOf_74 : decode cX9_wordOf 74 = .ok (.lload_n 0, 1) := by decide +kernel
theorem dX9_wordOf_75 : decode cX9_wordOf 75 = .ok (.ldc2_w 104, 3) := by decide +kernel
theorem dX9_wordOf_78 : decode cX9_wordOf 78 = .ok (.lcmp, 1) := by decide +kernel
theorem dX9_wordOf_79 : decode cX9_wordOf 79 = .ok (.ifCond .ne 8, 3) := by decide +kernel
theorem dX9_wordOf_82 : decode cX9_wordOf 82 = .ok (.bipush 6, 2) := by decide +kernel
theorem dX9_wordOf_84 : decode cX9_wordOf 84 = .ok (.goto 43, 3) := by decide +kernel
theorem dX9_wordOf_87 : decode cX9_wordOf 87 = .ok (.lload_n 0, 1) := by decide +kernel
theorem dX9_wordOf_88 : decode cX9_wordOf 88 = .ok (.ldc2_w 106, 3) := by decide +kernel
theorem dX9_wordOf_91 : decode cX9_wordOf 91 = .ok (.lcmp, 1) := by decide +kernel
theorem dX9_wordOf_92 : decode cX9_wordOf 92 = .ok (.ifCond .ne 8, 3) := by decide +kernel
theorem dX9_wordOf_95 : decode cX9_wordOf 95 = .ok (.bipush 7, 2) := by decide +kernel
theorem dX9_wordOf_97 : decode cX9_wordOf 97 = .ok (.goto 30, 3) := by decide +kernel
theorem dX9_wordOf_100 : decode cX9_wordOf 100 = .ok (.lload_n 0, 1) := by decide +kernel
theorem dX9_wordOf_101 : decode cX9_wordOf 101 = .ok (.ldc2_w 108, 3) := by decide +kernel
theorem dX9_wordOf_104 : decode cX9_wordOf 104 = .ok (.lcmp, 1) := by decide +kernel
theorem dX9_wordOf_105 : decode cX9_wordOf 105 = .ok (.ifCond .ne 8, 3) := by decide +kernel
theorem dX9_wordOf_108 : decode cX9_wordOf 108 = .ok (.bipush 8, 2) := by decide +kernel
theorem dX9_wordOf_110 : decode cX9_wordOf 110 = .ok (.goto 17, 3) := by decide +kernel
theorem dX9_wordOf_113 : decode cX9_wordOf 113 = .ok (.lload_n 0, 1) := by decide +kernel
theorem dX9_wordOf_114 : decode cX9_wordOf 114 = .ok (.ldc2_w 110, 3) := by decide +kernel
theorem dX9_wordOf_117 : decode cX9_wordOf 117 = .ok (.lcmp, 1) := by decide +kernel
theorem dX9_wordOf_118 : decode cX9_wordOf 118 = .ok (.ifCond .ne 8, 3) := by decide +kernel
theorem dX9_wordOf_121 : decode cX9_wordOf 121 = .ok (.bipush 9, 2) := by decide +kernel
theorem dX9_wordOf_123 : decode cX9_wordOf 123 = .ok (.goto 4, 3) := by decide +kernel
theorem dX9_wordOf_126 : decode cX9_wordOf 126 = .ok (.iconst (-1), 1) := by decide +kernel
theorem dX9_wordOf_127 : decode cX9_wordOf 127 = .ok (.istore_n 3, 1) := by decide +kernel
theorem dX9_wordOf_128 : decode cX9_wordOf 128 = .ok (.iload_n 2, 1) := by decide +kernel
theorem dX9_wordOf_129 : decode cX9_wordOf 129 = .ok (.iconst (-1), 1) := by decide +kernel
theorem dX9_wordOf_130 : decode cX9_wordOf 130 = .ok (.if_icmp .eq 10, 3) := by decide +kernel
theorem dX9_wordOf_133 : decode cX9_wordOf 133 = .ok (.bipush 10, 2) := by decide +kernel
theorem dX9_wordOf_135 : decode cX9_wordOf 135 = .ok (.iload_n 2, 1) := by decide +kernel
theorem dX9_wordOf_136 : decode cX9_wordOf 136 = .ok (.iadd, 1) := by decide +kernel
theorem dX9_wordOf_137 : decode cX9_wordOf 137 = .ok (.goto 40, 3) := by decide +kernel
theorem dX9_wordOf_140 : decode cX9_wordOf 140 = .ok (.iload_n 3, 1) := by decide +kernel
theorem dX9_wordOf_141 : decode cX9_wordOf 141 = .ok (.iconst (-1), 1) := by decide +kernel
theorem dX9_wordOf_142 : decode cX9_wordOf 142 = .ok (.if_icmp .eq 10, 3) := by decide +kernel
theorem dX9_wordOf_145 : decode cX9_wordOf 145 = .ok (.bipush 10, 2) := by decide +kernel
theorem dX9_wordOf_147 : decode cX9_wordOf 147 = .ok (.iload_n 3, 1) := by decide +kernel
theorem dX9_wordOf_148 : decode cX9_wordOf 148 = .ok (.iadd, 1) := by decide +kernel
theorem dX9_wordOf_149 : decode cX9_wordOf 149 = .ok (.goto 28, 3) := by decide +kernel
theorem dX9_wordOf_152 : decode cX9_wordOf 152 = .ok (.lload_n 0, 1) := by decide +kernel
theorem dX9_wordOf_153 : decode cX9_wordOf 153 = .ok (.ldc2_w 112, 3) := by decide +kernel
theorem dX9_wordOf_156 : decode cX9_wordOf 156 = .ok (.lcmp, 1) := by decide +kernel
theorem dX9_wordOf_157 : decode cX9_wordOf 157 = .ok (.ifCond .ne 7, 3) := by decide +kernel
theorem dX9_wordOf_160 : decode cX9_wordOf 160 = .ok (.iconst 4, 1) := by decide +kernel
theorem dX9_wordOf_161 : decode cX9_wordOf 161 = .ok (.goto 16, 3) := by decide +kernel
theorem dX9_wordOf_164 : decode cX9_wordOf 164 = .ok (.lload_n 0, 1) := by decide +kernel
theorem dX9_wordOf_165 : decode cX9_wordOf 165 = .ok (.ldc2_w 114, 3) := by decide +kernel
theorem dX9_wordOf_168 : decode cX9_wordOf 168 = .ok (.lcmp, 1) := by decide +kernel
theorem dX9_wordOf_169 : decode cX9_wordOf 169 = .ok (.ifCond .ne 7, 3) := by decide +kernel
theorem dX9_wordOf_172 : decode cX9_wordOf 172 = .ok (.iconst 5, 1) := by decide +kernel
theorem dX9_wordOf_173 : decode cX9_wordOf 173 = .ok (.goto 4, 3) := by decide +kernel
theorem dX9_wordOf_176 : decode cX9_wordOf 176 = .ok (.iconst 1, 1) := by decide +kernel
theorem dX9_wordOf_177 : decode cX9_wordOf 177 = .ok (.ireturn, 1) := by decide +kernel
theorem dX9_scans_0 : decode cX9_scans 0 = .ok (.aload_n 0, 1) := by decide +kernel
theorem dX9_scans_1 : decode cX9_scans 1 = .ok (.bipush 32, 2) := by decide +kernel
theorem dX9_scans_3 : decode cX9_scans 3 = .ok (.bipush 32, 2) := by decide +kernel
theorem dX9_scans_5 : decode cX9_scans 5 = .ok (.invokevirtual 116, 3) := by decide +kernel
theorem dX9_scans_8 : decode cX9_scans 8 = .ok (.ifCond .eq 16, 3) := by decide +kernel
theorem dX9_scans_11 : decode cX9_scans 11 = .ok (.aload_n 0, 1) := by decide +kernel
theorem dX9_scans_12 : decode cX9_scans 12 = .ok (.dup, 1) := by decide +kernel
theorem dX9_scans_13 : decode cX9_scans 13 = .ok (.getfield 89, 3) := by decide +kernel
theorem dX9_scans_16 : decode cX9_scans 16 = .ok (.iconst 1, 1) := by decide +kernel
theorem dX9_scans_17 : decode cX9_scans 17 = .ok (.iadd, 1) := by decide +kernel
theorem dX9_scans_18 : decode cX9_scans 18 = .ok (.putfield 89, 3) := by decide +kernel
theorem dX9_scans_21 : decode cX9_scans 21 = .ok (.goto (-21), 3) := by decide +kernel
theorem dX9_scans_24 : decode cX9_scans 24 = .ok (.aload_n 0, 1) := by decide +kernel
theorem dX9_scans_25 : decode cX9_scans 25 = .ok (.aload_n 0, 1) := by decide +kernel
theorem dX9_scans_26 : decode cX9_scans 26 = .ok (.getfield 89, 3) := by decide +kernel
theorem dX9_scans_29 : decode cX9_scans 29 = .ok (.putfield 119, 3) := by decide +kernel
theorem dX9_scans_32 : decode cX9_scans 32 = .ok (.aload_n 0, 1) := by decide +kernel
theorem dX9_scans_33 : decode cX9_scans 33 = .ok (.getfield 89, 3) := by decide +kernel
theorem dX9_scans_36 : decode cX9_scans 36 = .ok (.aload_n 0, 1) := by decide +kernel
theorem dX9_scans_37 : decode cX9_scans 37 = .ok (.getfield 7, 3) := by decide +kernel
theorem dX9_scans_40 : decode cX9_scans 40 = .ok (.iconst 1, 1) := by decide +kernel
theorem dX9_scans_41 : decode cX9_scans 41 = .ok (.iaload, 1) := by decide +kernel
theorem dX9_scans_42 : decode cX9_scans 42 = .ok (.if_icmp .ne 9, 3) := by decide +kernel
theorem dX9_scans_45 : decode cX9_scans 45 = .ok (.aload_n 0, 1) := by decide +kernel
theorem dX9_scans_46 : decode cX9_scans 46 = .ok (.iconst 0, 1) := by decide +kernel
theorem dX9_scans_47 : decode cX9_scans 47 = .ok (.putfield 122, 3) := by decide +kernel
theorem dX9_scans_50 : decode cX9_scans 50 = .ok (.return_, 1) := by decide +kernel
theorem dX9_scans_51 : decode cX9_scans 51 = .ok (.aload_n 0, 1) := by decide +kernel
theorem dX9_scans_52 : decode cX9_scans 52 = .ok (.bipush 97, 2) := by decide +kernel
theorem dX9_scans_54 : decode cX9_scans 54 = .ok (.bipush 122, 2) := by decide +kernel
theorem dX9_scans_56 : decode cX9_scans 56 = .ok (.invokevirtual 116, 3) := by decide +kernel
theorem dX9_scans_59 : decode cX9_scans 59 = .ok (.ifCond .eq 101, 3) := by decide +kernel
theorem dX9_scans_62 : decode cX9_scans 62 = .ok (.lconst 0, 1) := by decide +kernel
theorem dX9_scans_63 : decode cX9_scans 63 = .ok (.lstore_n 1, 1) := by decide +kernel
theorem dX9_scans_64 : decode cX9_scans 64 = .ok (.aload_n 0, 1) := by decide +kernel
theorem dX9_scans_65 : decode cX9_scans 65 = .ok (.bipush 97, 2) := by decide +kernel
theorem dX9_scans_67 : decode cX9_scans 67 = .ok (.bipush 122, 2) := by decide +kernel
theorem dX9_scans_69 : decode cX9_scans 69 = .ok (.invokevirtual 116, 3) := by decide +kernel
theorem dX9_scans_72 : decode cX9_scans 72 = .ok (.ifCond .eq 61, 3) := by decide +kernel
theorem dX9_scans_75 : decode cX9_scans 75 = .ok (.aload_n 0, 1) := by decide +kernel
theorem dX9_scans_76 : decode cX9_scans 76 = .ok (.getfield 89, 3) := by decide +kernel
theorem dX9_scans_79 : decode cX9_scans 79 = .ok (.aload_n 0, 1) := by decide +kernel
theorem dX9_scans_80 : decode cX9_scans 80 = .ok (.getfield 119, 3) := by decide +kernel
theorem dX9_scans_83 : decode cX9_scans 83 = .ok (.isub, 1) := by decide +kernel
theorem dX9_scans_84 : decode cX9_scans 84 = .ok (.bipush 7, 2) := by decide +kernel
theorem dX9_scans_86 : decode cX9_scans 86 = .ok (.if_icmp .le 7, 3) := by decide +kernel
theorem dX9_scans_89 : decode cX9_scans 89 = .ok (.lconst 0, 1) := by decide +kernel
theorem dX9_scans_90 : decode cX9_scans 90 = .ok (.goto 29, 3) := by decide +kernel
theorem dX9_scans_93 : decode cX9_scans 93 = .ok (.ldc2_w 125, 3) := by decide +kernel
theorem dX9_scans_96 : decode cX9_scans 96 = .ok (.lload_n 1, 1) := by decide +kernel
theorem dX9_scans_97 : decode cX9_scans 97 = .ok (.lmul, 1) := by decide +kernel
theorem dX9_scans_98 : decode cX9_scans 98 = .ok (.aload_n 0, 1) := by decide +kernel
theorem dX9_scans_99 : decode cX9_scans 99 = .ok (.getfield 7, 3) := by decide +kernel
theorem dX9_scans_102 : decode cX9_scans 102 = .ok (.sipush 264, 3) := by decide +kernel
theorem dX9_scans_105 : decode cX9_scans 105 = .ok (.aload_n 0, 1) := by decide +kernel
theorem dX9_scans_106 : decode cX9_scans 106 = .ok (.getfield 89, 3) := by decide +kernel
theorem dX9_scans_109 : decode cX9_scans 109 = .ok (.iadd, 1) := by decide +kernel
theorem dX9_scans_110 : decode cX9_scans 110 = .ok (.iaload, 1) := by decide +kernel
theorem dX9_scans_111 : decode cX9_scans 111 = .ok (.i2l, 1) := by decide +kernel
theorem dX9_scans_112 : decode cX9_scans 112 = .ok (.ladd, 1) := by decide +kernel
theorem dX9_scans_113 : decode cX9_scans 113 = .ok (.ldc2_w 127, 3) := by decide +kernel
theorem dX9_scans_116 : decode cX9_scans 116 = .ok (.lsub, 1) := by decide +kernel
theorem dX9_scans_117 : decode cX9_scans 117 = .ok (.lconst 1, 1) := by decide +kernel
theorem dX9_scans_118 : decode cX9_scans 118 = .ok (.ladd, 1) := by decide +kernel
theorem dX9_scans_119 : decode cX9_scans 119 = .ok (.lstore_n 1, 1) := by decide +kernel
theorem dX9_scans_120 : decode cX9_scans 120 = .ok (.aload_n 0, 1) := by decide +kernel
theorem dX9_scans_121 : decode cX9_scans 121 = .ok (.dup, 1) := by decide +kernel
theorem dX9_scans_122 : decode cX9_scans 122 = .ok (.getfield 89, 3) := by decide +kernel
theorem dX9_scans_125 : decode cX9_scans 125 = .ok (.iconst 1, 1) := by decide +kernel
theorem dX9_scans_126 : decode cX9_scans 126 = .ok (.iadd, 1) := by decide +kernel
theorem dX9_scans_127 : decode cX9_scans 127 = .ok (.putfield 89, 3) := by decide +kernel
theorem dX9_scans_130 : decode cX9_scans 130 = .ok (.goto (-66), 3) := by decide +kernel
theorem dX9_scans_133 : decode cX9_scans 133 = .ok (.aload_n 0, 1) := by decide +kernel
theorem dX9_scans_134 : decode cX9_scans 134 = .ok (.aload_n 0, 1) := by decide +kernel
theorem dX9_scans_135 : decode cX9_scans 135 = .ok (.getfield 89, 3) := by decide +kernel
theorem dX9_scans_138 : decode cX9_scans 138 = .ok (.aload_n 0, 1) := by decide +kernel
theorem dX9_scans_139 : decode cX9_scans 139 = .ok (.getfield 119, 3) := by decide +kernel
theorem dX9_scans_142 : decode cX9_scans 142 = .ok (.isub, 1) := by decide +kernel
theorem dX9_scans_143 : decode cX9_scans 143 = .ok (.bipush 7, 2) := by decide +kernel
theorem dX9_scans_145 : decode cX9_scans 145 = .ok (.if_icmp .le 7, 3) := by decide +kernel
theorem dX9_scans_148 : decode cX9_scans 148 = .ok (.iconst 1, 1) := by decide +kernel
theorem dX9_scans_149 : decode cX9_scans 149 = .ok (.goto 7, 3) := by decide +kernel
theorem dX9_scans_152 : decode cX9_scans 152 = .ok (.lload_n 1, 1) := by decide +kernel
theorem dX9_scans_153 : decode cX9_scans 153 = .ok (.invokestatic 129, 3) := by decide +kernel
theorem dX9_scans_156 : decode cX9_scans 156 = .ok (.putfield 122, 3) := by decide +kernel
theorem dX9_scans_159 : decode cX9_scans 159 = .ok (.return_, 1) := by decide +kernel
theorem dX9_scans_160 : decode cX9_scans 160 = .ok (.aload_n 0, 1) := by decide +kernel
theorem dX9_scans_161 : decode cX9_scans 161 = .ok (.bipush 48, 2) := by decide +kernel
theorem dX9_scans_163 : decode cX9_scans 163 = .ok (.bipush 57, 2) := by decide +kernel
theorem dX9_scans_165 : decode cX9_scans 165 = .ok (.invokevirtual 116, 3) := by decide +kernel
theorem dX9_scans_168 : decode cX9_scans 168 = .ok (.ifCond .eq 103, 3) := by decide +kernel
theorem dX9_scans_171 : decode cX9_scans 171 = .ok (.aload_n 0, 1) := by decide +kernel
theorem dX9_scans_172 : decode cX9_scans 172 = .ok (.iconst 0, 1) := by decide +kernel
theorem dX9_scans_173 : decode cX9_scans 173 = .ok (.putfield 133, 3) := by decide +kernel
theorem dX9_scans_176 : decode cX9_scans 176 = .ok (.aload_n 0, 1) := by decide +kernel
theorem dX9_scans_177 : decode cX9_scans 177 = .ok (.bipush 48, 2) := by decide +kernel
theorem dX9_scans_179 : decode cX9_scans 179 = .ok (.bipush 57, 2) := by decide +kernel
theorem dX9_scans_181 : decode cX9_scans 181 = .ok (.invokevirtual 116, 3) := by decide +kernel
theorem dX9_scans_184 : decode cX9_scans 184 = .ok (.ifCond .eq 64, 3) := by decide +kernel
theorem dX9_scans_187 : decode cX9_scans 187 = .ok (.aload_n 0, 1) := by decide +kernel
theorem dX9_scans_188 : decode cX9_scans 188 = .ok (.aload_n 0, 1) := by decide +kernel
theorem dX9_scans_189 : decode cX9_scans 189 = .ok (.getfield 89, 3) := by decide +kernel
theorem dX9_scans_192 : decode cX9_scans 192 = .ok (.aload_n 0, 1) := by decide +kernel
theorem dX9_scans_193 : decode cX9_scans 193 = .ok (.getfield 119, 3) := by decide +kernel
theorem dX9_scans_196 : decode cX9_scans 196 = .ok (.isub, 1) := by decide +kernel
theorem dX9_scans_197 : decode cX9_scans 197 = .ok (.iconst 2, 1) := by decide +kernel
theorem dX9_scans_198 : decode cX9_scans 198 = .ok (.if_icmp .ge 30, 3) := by decide +kernel
theorem dX9_scans_201 : decode cX9_scans 201 = .ok (.bipush 10, 2) := by decide +kernel
theorem dX9_scans_203 : decode cX9_scans 203 = .ok (.aload_n 0, 1) := by decide +kernel
theorem dX9_scans_204 : decode cX9_scans 204 = .ok (.getfield 133, 3) := by decide +kernel
theorem dX9_scans_207 : decode cX9_scans 207 = .ok (.imul, 1) := by decide +kernel
theorem dX9_scans_208 : decode cX9_scans 208 = .ok (.aload_n 0, 1) := by decide +kernel
theorem dX9_scans_209 : decode cX9_scans 209 = .ok (.getfield 7, 3) := by decide +kernel
theorem dX9_scans_212 : decode cX9_scans 212 = .ok (.sipush 264, 3) := by decide +kernel
theorem dX9_scans_215 : decode cX9_scans 215 = .ok (.aload_n 0, 1) := by decide +kernel
theorem dX9_scans_216 : decode cX9_scans 216 = .ok (.getfield 89, 3) := by decide +kernel
theorem dX9_scans_219 : decode cX9_scans 219 = .ok (.iadd, 1) := by decide +kernel
theorem dX9_scans_220 : decode cX9_scans 220 = .ok (.iaload, 1) := by decide +kernel
theorem dX9_scans_221 : decode cX9_scans 221 = .ok (.iadd, 1) := by decide +kernel
theorem dX9_scans_222 : decode cX9_scans 222 = .ok (.bipush 48, 2) := by decide +kernel
theorem dX9_scans_224 : decode cX9_scans 224 = .ok (.isub, 1) := by decide +kernel
theorem dX9_scans_225 : decode cX9_scans 225 = .ok (.goto 7, 3) := by decide +kernel
theorem dX9_scans_228 : decode cX9_scans 228 = .ok (.aload_n 0, 1) := by decide +kernel
theorem dX9_scans_229 : decode cX9_scans 229 = .ok (.getfield 133, 3) := by decide +kernel
theorem dX9_scans_232 : decode cX9_scans 232 = .ok (.putfield 133, 3) := by decide +kernel
theorem dX9_scans_235 : decode cX9_scans 235 = .ok (.aload_n 0, 1) := by decide +kernel
theorem dX9_scans_236 : decode cX9_scans 236 = .ok (.dup, 1) := by decide +kernel
theorem dX9_scans_237 : decode cX9_scans 237 = .ok (.getfield 89, 3) := by decide +kernel
theorem dX9_scans_240 : decode cX9_scans 240 = .ok (.iconst 1, 1) := by decide +kernel
theorem dX9_scans_241 : decode cX9_scans 241 = .ok (.iadd, 1) := by decide +kernel
theorem dX9_scans_242 : decode cX9_scans 242 = .ok (.putfield 89, 3) := by decide +kernel
theorem dX9_scans_245 : decode cX9_scans 245 = .ok (.goto (-69), 3) := by decide +kernel
theorem dX9_scans_248 : decode cX9_scans 248 = .ok (.aload_n 0, 1) := by decide +kernel
theorem dX9_scans_249 : decode cX9_scans 249 = .ok (.aload_n 0, 1) := by decide +kernel
theorem dX9_scans_250 : decode cX9_scans 250 = .ok (.getfield 89, 3) := by decide +kernel
theorem dX9_scans_253 : decode cX9_scans 253 = .ok (.aload_n 0, 1) := by decide +kernel
theorem dX9_scans_254 : decode cX9_scans 254 = .ok (.getfield 119, 3) := by decide +kernel
theorem dX9_scans_257 : decode cX9_scans 257 = .ok (.isub, 1) := by decide +kernel
theorem dX9_scans_258 : decode cX9_scans 258 = .ok (.iconst 2, 1) := by decide +kernel
theorem dX9_scans_259 : decode cX9_scans 259 = .ok (.if_icmp .le 7, 3) := by decide +kernel
theorem dX9_scans_262 : decode cX9_scans 262 = .ok (.iconst 1, 1) := by decide +kernel
theorem dX9_scans_263 : decode cX9_scans 263 = .ok (.goto 4, 3) := by decide +kernel
theorem dX9_scans_266 : decode cX9_scans 266 = .ok (.iconst 2, 1) := by decide +kernel
theorem dX9_scans_267 : decode cX9_scans 267 = .ok (.putfield 122, 3) := by decide +kernel
theorem dX9_scans_270 : decode cX9_scans 270 = .ok (.return_, 1) := by decide +kernel
theorem dX9_scans_271 : decode cX9_scans 271 = .ok (.aload_n 0, 1) := by decide +kernel
theorem dX9_scans_272 : decode cX9_scans 272 = .ok (.aload_n 0, 1) := by decide +kernel
theorem dX9_scans_273 : decode cX9_scans 273 = .ok (.bipush 59, 2) := by decide +kernel
theorem dX9_scans_275 : decode cX9_scans 275 = .ok (.bipush 59, 2) := by decide +kernel
theorem dX9_scans_277 : decode cX9_scans 277 = .ok (.invokevirtual 116, 3) := by decide +kernel
theorem dX9_scans_280 : decode cX9_scans 280 = .ok (.ifCond .eq 7, 3) := by decide +kernel
theorem dX9_scans_283 : decode cX9_scans 283 = .ok (.iconst 3, 1) := by decide +kernel
theorem dX9_scans_284 : decode cX9_scans 284 = .ok (.goto 4, 3) := by decide +kernel
theorem dX9_scans_287 : decode cX9_scans 287 = .ok (.iconst 1, 1) := by decide +kernel
theorem dX9_scans_288 : decode cX9_scans 288 = .ok (.putfield 122, 3) := by decide +kernel
theorem dX9_scans_291 : decode cX9_scans 291 = .ok (.aload_n 0, 1) := by decide +kernel
theorem dX9_scans_292 : decode cX9_scans 292 = .ok (.dup, 1) := by decide +kernel
theorem dX9_scans_293 : decode cX9_scans 293 = .ok (.getfield 89, 3) := by decide +kernel
theorem dX9_scans_296 : decode cX9_scans 296 = .ok (.iconst 1, 1) := by decide +kernel
theorem dX9_scans_297 : decode cX9_scans 297 = .ok (.iadd, 1) := by decide +kernel
theorem dX9_scans_298 : decode cX9_scans 298 = .ok (.putfield 89, 3) := by decide +kernel
theorem dX9_scans_301 : decode cX9_scans 301 = .ok (.return_, 1) := by decide +kernel
theorem dX9_reads_0 : decode cX9_reads 0 = .ok (.aload_n 0, 1) := by decide +kernel
theorem dX9_reads_1 : decode cX9_reads 1 = .ok (.iconst 0, 1) := by decide +kernel
theorem dX9_reads_2 : decode cX9_reads 2 = .ok (.putfield 89, 3) := by decide +kernel
theorem dX9_reads_5 : decode cX9_reads 5 = .ok (.aload_n 0, 1) := by decide +kernel
theorem dX9_reads_6 : decode cX9_reads 6 = .ok (.iconst 0, 1) := by decide +kernel
theorem dX9_reads_7 : decode cX9_reads 7 = .ok (.putfield 136, 3) := by decide +kernel
theorem dX9_reads_10 : decode cX9_reads 10 = .ok (.aload_n 0, 1) := by decide +kernel
theorem dX9_reads_11 : decode cX9_reads 11 = .ok (.iconst 0, 1) := by decide +kernel
theorem dX9_reads_12 : decode cX9_reads 12 = .ok (.putfield 139, 3) := by decide +kernel
theorem dX9_reads_15 : decode cX9_reads 15 = .ok (.aload_n 0, 1) := by decide +kernel
theorem dX9_reads_16 : decode cX9_reads 16 = .ok (.invokevirtual 142, 3) := by decide +kernel
theorem dX9_reads_19 : decode cX9_reads 19 = .ok (.aload_n 0, 1) := by decide +kernel
theorem dX9_reads_20 : decode cX9_reads 20 = .ok (.getfield 122, 3) := by decide +kernel
theorem dX9_reads_23 : decode cX9_reads 23 = .ok (.ifCond .eq 224, 3) := by decide +kernel
theorem dX9_reads_26 : decode cX9_reads 26 = .ok (.aload_n 0, 1) := by decide +kernel
theorem dX9_reads_27 : decode cX9_reads 27 = .ok (.getfield 136, 3) := by decide +kernel
theorem dX9_reads_30 : decode cX9_reads 30 = .ok (.bipush 9, 2) := by decide +kernel
theorem dX9_reads_32 : decode cX9_reads 32 = .ok (.if_icmp .eq 11, 3) := by decide +kernel
theorem dX9_reads_35 : decode cX9_reads 35 = .ok (.aload_n 0, 1) := by decide +kernel
theorem dX9_reads_36 : decode cX9_reads 36 = .ok (.getfield 122, 3) := by decide +kernel
theorem dX9_reads_39 : decode cX9_reads 39 = .ok (.iconst 4, 1) := by decide +kernel
theorem dX9_reads_40 : decode cX9_reads 40 = .ok (.if_icmp .ge 5, 3) := by decide +kernel
theorem dX9_reads_43 : decode cX9_reads 43 = .ok (.iconst 0, 1) := by decide +kernel
theorem dX9_reads_44 : decode cX9_reads 44 = .ok (.ireturn, 1) := by decide +kernel
theorem dX9_reads_45 : decode cX9_reads 45 = .ok (.iconst 4, 1) := by decide +kernel
theorem dX9_reads_46 : decode cX9_reads 46 = .ok (.aload_n 0, 1) := by decide +kernel
theorem dX9_reads_47 : decode cX9_reads 47 = .ok (.getfield 136, 3) := by decide +kernel
theorem dX9_reads_50 : decode cX9_reads 50 = .ok (.imul, 1) := by decide +kernel
theorem dX9_reads_51 : decode cX9_reads 51 = .ok (.istore_n 1, 1) := by decide +kernel
theorem dX9_reads_52 : decode cX9_reads 52 = .ok (.aload_n 0, 1) := by decide +kernel
theorem dX9_reads_53 : decode cX9_reads 53 = .ok (.getfield 23, 3) := by decide +kernel
theorem dX9_reads_56 : decode cX9_reads 56 = .ok (.iload_n 1, 1) := by decide +kernel
theorem dX9_reads_57 : decode cX9_reads 57 = .ok (.iconst 1, 1) := by decide +kernel
theorem dX9_reads_58 : decode cX9_reads 58 = .ok (.iastore, 1) := by decide +kernel
theorem dX9_reads_59 : decode cX9_reads 59 = .ok (.aload_n 0, 1) := by decide +kernel
theorem dX9_reads_60 : decode cX9_reads 60 = .ok (.getfield 23, 3) := by decide +kernel
theorem dX9_reads_63 : decode cX9_reads 63 = .ok (.iload_n 1, 1) := by decide +kernel
theorem dX9_reads_64 : decode cX9_reads 64 = .ok (.iconst 1, 1) := by decide +kernel
theorem dX9_reads_65 : decode cX9_reads 65 = .ok (.iadd, 1) := by decide +kernel
theorem dX9_reads_66 : decode cX9_reads 66 = .ok (.iconst 0, 1) := by decide +kernel
theorem dX9_reads_67 : decode cX9_reads 67 = .ok (.iastore, 1) := by decide +kernel
theorem dX9_reads_68 : decode cX9_reads 68 = .ok (.aload_n 0, 1) := by decide +kernel
theorem dX9_reads_69 : decode cX9_reads 69 = .ok (.getfield 23, 3) := by decide +kernel
theorem dX9_reads_72 : decode cX9_reads 72 = .ok (.iload_n 1, 1) := by decide +kernel
theorem dX9_reads_73 : decode cX9_reads 73 = .ok (.iconst 3, 1) := by decide +kernel
theorem dX9_reads_74 : decode cX9_reads 74 = .ok (.iadd, 1) := by decide +kernel
theorem dX9_reads_75 : decode cX9_reads 75 = .ok (.iconst 1, 1) := by decide +kernel
theorem dX9_reads_76 : decode cX9_reads 76 = .ok (.iastore, 1) := by decide +kernel
theorem dX9_reads_77 : decode cX9_reads 77 = .ok (.aload_n 0, 1) := by decide +kernel
theorem dX9_reads_78 : decode cX9_reads 78 = .ok (.getfield 122, 3) := by decide +kernel
theorem dX9_reads_81 : decode cX9_reads 81 = .ok (.iconst 4, 1) := by decide +kernel
theorem dX9_reads_82 : decode cX9_reads 82 = .ok (.if_icmp .ne 46, 3) := by decide +kernel
theorem dX9_reads_85 : decode cX9_reads 85 = .ok (.aload_n 0, 1) := by decide +kernel
theorem dX9_reads_86 : decode cX9_reads 86 = .ok (.invokevirtual 142, 3) := by decide +kernel
theorem dX9_reads_89 : decode cX9_reads 89 = .ok (.aload_n 0, 1) := by decide +kernel
theorem dX9_reads_90 : decode cX9_reads 90 = .ok (.getfield 122, 3) := by decide +kernel
theorem dX9_reads_93 : decode cX9_reads 93 = .ok (.iconst 2, 1) := by decide +kernel
theorem dX9_reads_94 : decode cX9_reads 94 = .ok (.if_icmp .ne 18, 3) := by decide +kernel
theorem dX9_reads_97 : decode cX9_reads 97 = .ok (.aload_n 0, 1) := by decide +kernel
theorem dX9_reads_98 : decode cX9_reads 98 = .ok (.getfield 133, 3) := by decide +kernel
theorem dX9_reads_101 : decode cX9_reads 101 = .ok (.i2l, 1) := by decide +kernel
theorem dX9_reads_102 : decode cX9_reads 102 = .ok (.lconst 1, 1) := by decide +kernel
theorem dX9_reads_103 : decode cX9_reads 103 = .ok (.ldc2_w 67, 3) := by decide +kernel
theorem dX9_reads_106 : decode cX9_reads 106 = .ok (.invokestatic 55, 3) := by decide +kernel
theorem dX9_reads_109 : decode cX9_reads 109 = .ok (.ifCond .ne 5, 3) := by decide +kernel
theorem dX9_reads_112 : decode cX9_reads 112 = .ok (.iconst 0, 1) := by decide +kernel
theorem dX9_reads_113 : decode cX9_reads 113 = .ok (.ireturn, 1) := by decide +kernel
theorem dX9_reads_114 : decode cX9_reads 114 = .ok (.aload_n 0, 1) := by decide +kernel
theorem dX9_reads_115 : decode cX9_reads 115 = .ok (.getfield 23, 3) := by decide +kernel
theorem dX9_reads_118 : decode cX9_reads 118 = .ok (.iload_n 1, 1) := by decide +kernel
theorem dX9_reads_119 : decode cX9_reads 119 = .ok (.aload_n 0, 1) := by decide +kernel
theorem dX9_reads_120 : decode cX9_reads 120 = .ok (.getfield 133, 3) := by decide +kernel
theorem dX9_reads_123 : decode cX9_reads 123 = .ok (.iastore, 1) := by decide +kernel
theorem dX9_reads_124 : decode cX9_reads 124 = .ok (.aload_n 0, 1) := by decide +kernel
theorem dX9_reads_125 : decode cX9_reads 125 = .ok (.invokevirtual 142, 3) := by decide +kernel
theorem dX9_reads_128 : decode cX9_reads 128 = .ok (.aload_n 0, 1) := by decide +kernel
theorem dX9_reads_129 : decode cX9_reads 129 = .ok (.getfield 122, 3) := by decide +kernel
theorem dX9_reads_132 : decode cX9_reads 132 = .ok (.iconst 5, 1) := by decide +kernel
theorem dX9_reads_133 : decode cX9_reads 133 = .ok (.if_icmp .ne 16, 3) := by decide +kernel
theorem dX9_reads_136 : decode cX9_reads 136 = .ok (.aload_n 0, 1) := by decide +kernel
theorem dX9_reads_137 : decode cX9_reads 137 = .ok (.getfield 23, 3) := by decide +kernel
theorem dX9_reads_140 : decode cX9_reads 140 = .ok (.iload_n 1, 1) := by decide +kernel
theorem dX9_reads_141 : decode cX9_reads 141 = .ok (.iconst 1, 1) := by decide +kernel
theorem dX9_reads_142 : decode cX9_reads 142 = .ok (.iadd, 1) := by decide +kernel
theorem dX9_reads_143 : decode cX9_reads 143 = .ok (.iconst 1, 1) := by decide +kernel
theorem dX9_reads_144 : decode cX9_reads 144 = .ok (.iastore, 1) := by decide +kernel
theorem dX9_reads_145 : decode cX9_reads 145 = .ok (.aload_n 0, 1) := by decide +kernel
theorem dX9_reads_146 : decode cX9_reads 146 = .ok (.invokevirtual 142, 3) := by decide +kernel
theorem dX9_reads_149 : decode cX9_reads 149 = .ok (.aload_n 0, 1) := by decide +kernel
theorem dX9_reads_150 : decode cX9_reads 150 = .ok (.getfield 122, 3) := by decide +kernel
theorem dX9_reads_153 : decode cX9_reads 153 = .ok (.bipush 10, 2) := by decide +kernel
theorem dX9_reads_155 : decode cX9_reads 155 = .ok (.if_icmp .ge 5, 3) := by decide +kernel
theorem dX9_reads_158 : decode cX9_reads 158 = .ok (.iconst 0, 1) := by decide +kernel
theorem dX9_reads_159 : decode cX9_reads 159 = .ok (.ireturn, 1) := by decide +kernel
theorem dX9_reads_160 : decode cX9_reads 160 = .ok (.aload_n 0, 1) := by decide +kernel
theorem dX9_reads_161 : decode cX9_reads 161 = .ok (.getfield 23, 3) := by decide +kernel
theorem dX9_reads_164 : decode cX9_reads 164 = .ok (.iload_n 1, 1) := by decide +kernel
theorem dX9_reads_165 : decode cX9_reads 165 = .ok (.iconst 2, 1) := by decide +kernel
theorem dX9_reads_166 : decode cX9_reads 166 = .ok (.iadd, 1) := by decide +kernel
theorem dX9_reads_167 : decode cX9_reads 167 = .ok (.aload_n 0, 1) := by decide +kernel
theorem dX9_reads_168 : decode cX9_reads 168 = .ok (.getfield 122, 3) := by decide +kernel
theorem dX9_reads_171 : decode cX9_reads 171 = .ok (.bipush 10, 2) := by decide +kernel
theorem dX9_reads_173 : decode cX9_reads 173 = .ok (.isub, 1) := by decide +kernel
theorem dX9_reads_174 : decode cX9_reads 174 = .ok (.iastore, 1) := by decide +kernel
theorem dX9_reads_175 : decode cX9_reads 175 = .ok (.aload_n 0, 1) := by decide +kernel
theorem dX9_reads_176 : decode cX9_reads 176 = .ok (.invokevirtual 142, 3) := by decide +kernel
theorem dX9_reads_179 : decode cX9_reads 179 = .ok (.aload_n 0, 1) := by decide +kernel
theorem dX9_reads_180 : decode cX9_reads 180 = .ok (.getfield 122, 3) := by decide +kernel
theorem dX9_reads_183 : decode cX9_reads 183 = .ok (.iconst 2, 1) := by decide +kernel
theorem dX9_reads_184 : decode cX9_reads 184 = .ok (.if_icmp .ne 36, 3) := by decide +kernel
theorem dX9_reads_187 : decode cX9_reads 187 = .ok (.aload_n 0, 1) := by decide +kernel
theorem dX9_reads_188 : decode cX9_reads 188 = .ok (.getfield 133, 3) := by decide +kernel
theorem dX9_reads_191 : decode cX9_reads 191 = .ok (.i2l, 1) := by decide +kernel
theorem dX9_reads_192 : decode cX9_reads 192 = .ok (.lconst 1, 1) := by decide +kernel
theorem dX9_reads_193 : decode cX9_reads 193 = .ok (.ldc2_w 65, 3) := by decide +kernel
theorem dX9_reads_196 : decode cX9_reads 196 = .ok (.invokestatic 55, 3) := by decide +kernel
theorem dX9_reads_199 : decode cX9_reads 199 = .ok (.ifCond .ne 5, 3) := by decide +kernel
theorem dX9_reads_202 : decode cX9_reads 202 = .ok (.iconst 0, 1) := by decide +kernel
theorem dX9_reads_203 : decode cX9_reads 203 = .ok (.ireturn, 1) := by decide +kernel
theorem dX9_reads_204 : decode cX9_reads 204 = .ok (.aload_n 0, 1) := by decide +kernel
theorem dX9_reads_205 : decode cX9_reads 205 = .ok (.getfield 23, 3) := by decide +kernel
theorem dX9_reads_208 : decode cX9_reads 208 = .ok (.iload_n 1, 1) := by decide +kernel
theorem dX9_reads_209 : decode cX9_reads 209 = .ok (.iconst 3, 1) := by decide +kernel
theorem dX9_reads_210 : decode cX9_reads 210 = .ok (.iadd, 1) := by decide +kernel
theorem dX9_reads_211 : decode cX9_reads 211 = .ok (.aload_n 0, 1) := by decide +kernel
theorem dX9_reads_212 : decode cX9_reads 212 = .ok (.getfield 133, 3) := by decide +kernel
theorem dX9_reads_215 : decode cX9_reads 215 = .ok (.iastore, 1) := by decide +kernel
theorem dX9_reads_216 : decode cX9_reads 216 = .ok (.aload_n 0, 1) := by decide +kernel
theorem dX9_reads_217 : decode cX9_reads 217 = .ok (.invokevirtual 142, 3) := by decide +kernel
theorem dX9_reads_220 : decode cX9_reads 220 = .ok (.aload_n 0, 1) := by decide +kernel
theorem dX9_reads_221 : decode cX9_reads 221 = .ok (.getfield 122, 3) := by decide +kernel
theorem dX9_reads_224 : decode cX9_reads 224 = .ok (.iconst 3, 1) := by decide +kernel
theorem dX9_reads_225 : decode cX9_reads 225 = .ok (.if_icmp .eq 5, 3) := by decide +kernel
theorem dX9_reads_228 : decode cX9_reads 228 = .ok (.iconst 0, 1) := by decide +kernel
theorem dX9_reads_229 : decode cX9_reads 229 = .ok (.ireturn, 1) := by decide +kernel
theorem dX9_reads_230 : decode cX9_reads 230 = .ok (.aload_n 0, 1) := by decide +kernel
theorem dX9_reads_231 : decode cX9_reads 231 = .ok (.dup, 1) := by decide +kernel
theorem dX9_reads_232 : decode cX9_reads 232 = .ok (.getfield 136, 3) := by decide +kernel
theorem dX9_reads_235 : decode cX9_reads 235 = .ok (.iconst 1, 1) := by decide +kernel
theorem dX9_reads_236 : decode cX9_reads 236 = .ok (.iadd, 1) := by decide +kernel
theorem dX9_reads_237 : decode cX9_reads 237 = .ok (.putfield 136, 3) := by decide +kernel
theorem dX9_reads_240 : decode cX9_reads 240 = .ok (.aload_n 0, 1) := by decide +kernel
theorem dX9_reads_241 : decode cX9_reads 241 = .ok (.invokevirtual 142, 3) := by decide +kernel
theorem dX9_reads_244 : decode cX9_reads 244 = .ok (.goto (-225), 3) := by decide +kernel
theorem dX9_reads_247 : decode cX9_reads 247 = .ok (.iconst 1, 1) := by decide +kernel
theorem dX9_reads_248 : decode cX9_reads 248 = .ok (.ireturn, 1) := by decide +kernel
theorem dX9_fault_0 : decode cX9_fault 0 = .ok (.aload_n 0, 1) := by decide +kernel
theorem dX9_fault_1 : decode cX9_fault 1 = .ok (.invokevirtual 145, 3) := by decide +kernel
theorem dX9_fault_4 : decode cX9_fault 4 = .ok (.ifCond .eq 7, 3) := by decide +kernel
theorem dX9_fault_7 : decode cX9_fault 7 = .ok (.iconst (-1), 1) := by decide +kernel
theorem dX9_fault_8 : decode cX9_fault 8 = .ok (.goto 7, 3) := by decide +kernel
theorem dX9_fault_11 : decode cX9_fault 11 = .ok (.aload_n 0, 1) := by decide +kernel
theorem dX9_fault_12 : decode cX9_fault 12 = .ok (.getfield 119, 3) := by decide +kernel
theorem dX9_fault_15 : decode cX9_fault 15 = .ok (.ireturn, 1) := by decide +kernel
theorem dX9_item_0 : decode cX9_item 0 = .ok (.iload_n 1, 1) := by decide +kernel
theorem dX9_item_1 : decode cX9_item 1 = .ok (.i2l, 1) := by decide +kernel
theorem dX9_item_2 : decode cX9_item 2 = .ok (.lconst 0, 1) := by decide +kernel
theorem dX9_item_3 : decode cX9_item 3 = .ok (.ldc2_w 85, 3) := by decide +kernel
theorem dX9_item_6 : decode cX9_item 6 = .ok (.invokestatic 55, 3) := by decide +kernel
theorem dX9_item_9 : decode cX9_item 9 = .ok (.ifCond .eq 15, 3) := by decide +kernel
theorem dX9_item_12 : decode cX9_item 12 = .ok (.iload_n 2, 1) := by decide +kernel
theorem dX9_item_13 : decode cX9_item 13 = .ok (.i2l, 1) := by decide +kernel
theorem dX9_item_14 : decode cX9_item 14 = .ok (.lconst 0, 1) := by decide +kernel
theorem dX9_item_15 : decode cX9_item 15 = .ok (.ldc2_w 149, 3) := by decide +kernel
theorem dX9_item_18 : decode cX9_item 18 = .ok (.invokestatic 55, 3) := by decide +kernel
theorem dX9_item_21 : decode cX9_item 21 = .ok (.ifCond .ne 8, 3) := by decide +kernel
theorem dX9_item_24 : decode cX9_item 24 = .ok (.aload_n 0, 1) := by decide +kernel
theorem dX9_item_25 : decode cX9_item 25 = .ok (.invokevirtual 69, 3) := by decide +kernel
theorem dX9_item_28 : decode cX9_item 28 = .ok (.ireturn, 1) := by decide +kernel
theorem dX9_item_29 : decode cX9_item 29 = .ok (.aload_n 0, 1) := by decide +kernel
theorem dX9_item_30 : decode cX9_item 30 = .ok (.invokevirtual 145, 3) := by decide +kernel
theorem dX9_item_33 : decode cX9_item 33 = .ok (.ifCond .ne 8, 3) := by decide +kernel
theorem dX9_item_36 : decode cX9_item 36 = .ok (.aload_n 0, 1) := by decide +kernel
theorem dX9_item_37 : decode cX9_item 37 = .ok (.invokevirtual 151, 3) := by decide +kernel
theorem dX9_item_40 : decode cX9_item 40 = .ok (.ireturn, 1) := by decide +kernel
theorem dX9_item_41 : decode cX9_item 41 = .ok (.iload_n 1, 1) := by decide +kernel
theorem dX9_item_42 : decode cX9_item 42 = .ok (.aload_n 0, 1) := by decide +kernel
theorem dX9_item_43 : decode cX9_item 43 = .ok (.getfield 136, 3) := by decide +kernel
theorem dX9_item_46 : decode cX9_item 46 = .ok (.if_icmp .ge 16, 3) := by decide +kernel
theorem dX9_item_49 : decode cX9_item 49 = .ok (.aload_n 0, 1) := by decide +kernel
theorem dX9_item_50 : decode cX9_item 50 = .ok (.getfield 23, 3) := by decide +kernel
theorem dX9_item_53 : decode cX9_item 53 = .ok (.iconst 4, 1) := by decide +kernel
theorem dX9_item_54 : decode cX9_item 54 = .ok (.iload_n 1, 1) := by decide +kernel
theorem dX9_item_55 : decode cX9_item 55 = .ok (.imul, 1) := by decide +kernel
theorem dX9_item_56 : decode cX9_item 56 = .ok (.iload_n 2, 1) := by decide +kernel
theorem dX9_item_57 : decode cX9_item 57 = .ok (.iadd, 1) := by decide +kernel
theorem dX9_item_58 : decode cX9_item 58 = .ok (.iaload, 1) := by decide +kernel
theorem dX9_item_59 : decode cX9_item 59 = .ok (.goto 7, 3) := by decide +kernel
theorem dX9_item_62 : decode cX9_item 62 = .ok (.aload_n 0, 1) := by decide +kernel
theorem dX9_item_63 : decode cX9_item 63 = .ok (.invokevirtual 69, 3) := by decide +kernel
theorem dX9_item_66 : decode cX9_item 66 = .ok (.ireturn, 1) := by decide +kernel
theorem dX9_more_0 : decode cX9_more 0 = .ok (.iload_n 2, 1) := by decide +kernel
theorem dX9_more_1 : decode cX9_more 1 = .ok (.iload_n 3, 1) := by decide +kernel
theorem dX9_more_2 : decode cX9_more 2 = .ok (.isub, 1) := by decide +kernel
theorem dX9_more_3 : decode cX9_more 3 = .ok (.iload 4, 2) := by decide +kernel
theorem dX9_more_5 : decode cX9_more 5 = .ok (.if_icmp .lt 7, 3) := by decide +kernel
theorem dX9_more_8 : decode cX9_more 8 = .ok (.iload_n 0, 1) := by decide +kernel
theorem dX9_more_9 : decode cX9_more 9 = .ok (.goto 16, 3) := by decide +kernel
theorem dX9_more_12 : decode cX9_more 12 = .ok (.iload_n 3, 1) := by decide +kernel
theorem dX9_more_13 : decode cX9_more 13 = .ok (.iload_n 2, 1) := by decide +kernel
theorem dX9_more_14 : decode cX9_more 14 = .ok (.isub, 1) := by decide +kernel
theorem dX9_more_15 : decode cX9_more 15 = .ok (.iload 4, 2) := by decide +kernel
theorem dX9_more_17 : decode cX9_more 17 = .ok (.if_icmp .lt 7, 3) := by decide +kernel
theorem dX9_more_20 : decode cX9_more 20 = .ok (.iload_n 1, 1) := by decide +kernel
theorem dX9_more_21 : decode cX9_more 21 = .ok (.goto 4, 3) := by decide +kernel
theorem dX9_more_24 : decode cX9_more 24 = .ok (.iconst (-1), 1) := by decide +kernel
theorem dX9_more_25 : decode cX9_more 25 = .ok (.ireturn, 1) := by decide +kernel
theorem dX9_names_0 : decode cX9_names 0 = .ok (.iload_n 1, 1) := by decide +kernel
theorem dX9_names_1 : decode cX9_names 1 = .ok (.bipush 6, 2) := by decide +kernel
theorem dX9_names_3 : decode cX9_names 3 = .ok (.if_icmp .ge 54, 3) := by decide +kernel
theorem dX9_names_6 : decode cX9_names 6 = .ok (.iload_n 3, 1) := by decide +kernel
theorem dX9_names_7 : decode cX9_names 7 = .ok (.iload 4, 2) := by decide +kernel
theorem dX9_names_9 : decode cX9_names 9 = .ok (.aload_n 0, 1) := by decide +kernel
theorem dX9_names_10 : decode cX9_names 10 = .ok (.iload_n 3, 1) := by decide +kernel
theorem dX9_names_11 : decode cX9_names 11 = .ok (.iload_n 1, 1) := by decide +kernel
theorem dX9_names_12 : decode cX9_names 12 = .ok (.iconst 2, 1) := by decide +kernel
theorem dX9_names_13 : decode cX9_names 13 = .ok (.idiv, 1) := by decide +kernel
theorem dX9_names_14 : decode cX9_names 14 = .ok (.invokevirtual 78, 3) := by decide +kernel
theorem dX9_names_17 : decode cX9_names 17 = .ok (.aload_n 0, 1) := by decide +kernel
theorem dX9_names_18 : decode cX9_names 18 = .ok (.iload 4, 2) := by decide +kernel
theorem dX9_names_20 : decode cX9_names 20 = .ok (.iload_n 1, 1) := by decide +kernel
theorem dX9_names_21 : decode cX9_names 21 = .ok (.iconst 2, 1) := by decide +kernel
theorem dX9_names_22 : decode cX9_names 22 = .ok (.idiv, 1) := by decide +kernel
theorem dX9_names_23 : decode cX9_names 23 = .ok (.invokevirtual 78, 3) := by decide +kernel
theorem dX9_names_26 : decode cX9_names 26 = .ok (.iload_n 2, 1) := by decide +kernel
theorem dX9_names_27 : decode cX9_names 27 = .ok (.invokestatic 154, 3) := by decide +kernel
theorem dX9_names_30 : decode cX9_names 30 = .ok (.istore 5, 2) := by decide +kernel
theorem dX9_names_32 : decode cX9_names 32 = .ok (.iload_n 1, 1) := by decide +kernel
theorem dX9_names_33 : decode cX9_names 33 = .ok (.iconst 2, 1) := by decide +kernel
theorem dX9_names_34 : decode cX9_names 34 = .ok (.irem, 1) := by decide +kernel
theorem dX9_names_35 : decode cX9_names 35 = .ok (.ifCond .eq 9, 3) := by decide +kernel
theorem dX9_names_38 : decode cX9_names 38 = .ok (.iload 5, 2) := by decide +kernel
theorem dX9_names_40 : decode cX9_names 40 = .ok (.iconst (-1), 1) := by decide +kernel
theorem dX9_names_41 : decode cX9_names 41 = .ok (.if_icmp .ne 8, 3) := by decide +kernel
theorem dX9_names_44 : decode cX9_names 44 = .ok (.iload 5, 2) := by decide +kernel
theorem dX9_names_46 : decode cX9_names 46 = .ok (.goto 10, 3) := by decide +kernel
theorem dX9_names_49 : decode cX9_names 49 = .ok (.iload_n 3, 1) := by decide +kernel
theorem dX9_names_50 : decode cX9_names 50 = .ok (.iload 4, 2) := by decide +kernel
theorem dX9_names_52 : decode cX9_names 52 = .ok (.iadd, 1) := by decide +kernel
theorem dX9_names_53 : decode cX9_names 53 = .ok (.iload 5, 2) := by decide +kernel
theorem dX9_names_55 : decode cX9_names 55 = .ok (.isub, 1) := by decide +kernel
theorem dX9_names_56 : decode cX9_names 56 = .ok (.ireturn, 1) := by decide +kernel
theorem dX9_names_57 : decode cX9_names 57 = .ok (.iload_n 1, 1) := by decide +kernel
theorem dX9_names_58 : decode cX9_names 58 = .ok (.bipush 6, 2) := by decide +kernel
theorem dX9_names_60 : decode cX9_names 60 = .ok (.if_icmp .ne 41, 3) := by decide +kernel
theorem dX9_names_63 : decode cX9_names 63 = .ok (.iload_n 3, 1) := by decide +kernel
theorem dX9_names_64 : decode cX9_names 64 = .ok (.iload 4, 2) := by decide +kernel
theorem dX9_names_66 : decode cX9_names 66 = .ok (.aload_n 0, 1) := by decide +kernel
theorem dX9_names_67 : decode cX9_names 67 = .ok (.getfield 7, 3) := by decide +kernel
theorem dX9_names_70 : decode cX9_names 70 = .ok (.bipush 36, 2) := by decide +kernel
theorem dX9_names_72 : decode cX9_names 72 = .ok (.bipush 8, 2) := by decide +kernel
theorem dX9_names_74 : decode cX9_names 74 = .ok (.iload 4, 2) := by decide +kernel
theorem dX9_names_76 : decode cX9_names 76 = .ok (.imul, 1) := by decide +kernel
theorem dX9_names_77 : decode cX9_names 77 = .ok (.iadd, 1) := by decide +kernel
theorem dX9_names_78 : decode cX9_names 78 = .ok (.iload_n 3, 1) := by decide +kernel
theorem dX9_names_79 : decode cX9_names 79 = .ok (.iadd, 1) := by decide +kernel
theorem dX9_names_80 : decode cX9_names 80 = .ok (.iaload, 1) := by decide +kernel
theorem dX9_names_81 : decode cX9_names 81 = .ok (.aload_n 0, 1) := by decide +kernel
theorem dX9_names_82 : decode cX9_names 82 = .ok (.getfield 7, 3) := by decide +kernel
theorem dX9_names_85 : decode cX9_names 85 = .ok (.bipush 36, 2) := by decide +kernel
theorem dX9_names_87 : decode cX9_names 87 = .ok (.bipush 8, 2) := by decide +kernel
theorem dX9_names_89 : decode cX9_names 89 = .ok (.iload_n 3, 1) := by decide +kernel
theorem dX9_names_90 : decode cX9_names 90 = .ok (.imul, 1) := by decide +kernel
theorem dX9_names_91 : decode cX9_names 91 = .ok (.iadd, 1) := by decide +kernel
theorem dX9_names_92 : decode cX9_names 92 = .ok (.iload 4, 2) := by decide +kernel
theorem dX9_names_94 : decode cX9_names 94 = .ok (.iadd, 1) := by decide +kernel
theorem dX9_names_95 : decode cX9_names 95 = .ok (.iaload, 1) := by decide +kernel
theorem dX9_names_96 : decode cX9_names 96 = .ok (.iload_n 2, 1) := by decide +kernel
theorem dX9_names_97 : decode cX9_names 97 = .ok (.invokestatic 154, 3) := by decide +kernel
theorem dX9_names_100 : decode cX9_names 100 = .ok (.ireturn, 1) := by decide +kernel
theorem dX9_names_101 : decode cX9_names 101 = .ok (.aload_n 0, 1) := by decide +kernel
theorem dX9_names_102 : decode cX9_names 102 = .ok (.iload_n 3, 1) := by decide +kernel
theorem dX9_names_103 : decode cX9_names 103 = .ok (.iload 4, 2) := by decide +kernel
theorem dX9_names_105 : decode cX9_names 105 = .ok (.invokevirtual 158, 3) := by decide +kernel
theorem dX9_names_108 : decode cX9_names 108 = .ok (.istore 5, 2) := by decide +kernel
theorem dX9_names_110 : decode cX9_names 110 = .ok (.iload_n 1, 1) := by decide +kernel
theorem dX9_names_111 : decode cX9_names 111 = .ok (.bipush 7, 2) := by decide +kernel
theorem dX9_names_113 : decode cX9_names 113 = .ok (.if_icmp .ne 23, 3) := by decide +kernel
theorem dX9_names_116 : decode cX9_names 116 = .ok (.iload 5, 2) := by decide +kernel
theorem dX9_names_118 : decode cX9_names 118 = .ok (.iconst (-1), 1) := by decide +kernel
theorem dX9_names_119 : decode cX9_names 119 = .ok (.if_icmp .ne 7, 3) := by decide +kernel
theorem dX9_names_122 : decode cX9_names 122 = .ok (.iconst (-1), 1) := by decide +kernel
theorem dX9_names_123 : decode cX9_names 123 = .ok (.goto 25, 3) := by decide +kernel
theorem dX9_names_126 : decode cX9_names 126 = .ok (.iload_n 3, 1) := by decide +kernel
theorem dX9_names_127 : decode cX9_names 127 = .ok (.iload 4, 2) := by decide +kernel
theorem dX9_names_129 : decode cX9_names 129 = .ok (.iadd, 1) := by decide +kernel
theorem dX9_names_130 : decode cX9_names 130 = .ok (.iload 5, 2) := by decide +kernel
theorem dX9_names_132 : decode cX9_names 132 = .ok (.isub, 1) := by decide +kernel
theorem dX9_names_133 : decode cX9_names 133 = .ok (.goto 15, 3) := by decide +kernel
theorem dX9_names_136 : decode cX9_names 136 = .ok (.iload_n 1, 1) := by decide +kernel
theorem dX9_names_137 : decode cX9_names 137 = .ok (.bipush 8, 2) := by decide +kernel
theorem dX9_names_139 : decode cX9_names 139 = .ok (.if_icmp .ne 7, 3) := by decide +kernel
theorem dX9_names_142 : decode cX9_names 142 = .ok (.iload_n 3, 1) := by decide +kernel
theorem dX9_names_143 : decode cX9_names 143 = .ok (.goto 5, 3) := by decide +kernel
theorem dX9_names_146 : decode cX9_names 146 = .ok (.iload 4, 2) := by decide +kernel
theorem dX9_names_148 : decode cX9_names 148 = .ok (.ireturn, 1) := by decide +kernel
theorem dX9_talks_0 : decode cX9_talks 0 = .ok (.aload_n 0, 1) := by decide +kernel
theorem dX9_talks_1 : decode cX9_talks 1 = .ok (.iconst 1, 1) := by decide +kernel
theorem dX9_talks_2 : decode cX9_talks 2 = .ok (.putfield 161, 3) := by decide +kernel
theorem dX9_talks_5 : decode cX9_talks 5 = .ok (.aload_n 0, 1) := by decide +kernel
theorem dX9_talks_6 : decode cX9_talks 6 = .ok (.getfield 161, 3) := by decide +kernel
theorem dX9_talks_9 : decode cX9_talks 9 = .ok (.bipush 10, 2) := by decide +kernel
theorem dX9_talks_11 : decode cX9_talks 11 = .ok (.if_icmp .ge 183, 3) := by decide +kernel
theorem dX9_talks_14 : decode cX9_talks 14 = .ok (.aload_n 0, 1) := by decide +kernel
theorem dX9_talks_15 : decode cX9_talks 15 = .ok (.getfield 161, 3) := by decide +kernel
theorem dX9_talks_18 : decode cX9_talks 18 = .ok (.iconst 2, 1) := by decide +kernel
theorem dX9_talks_19 : decode cX9_talks 19 = .ok (.irem, 1) := by decide +kernel
theorem dX9_talks_20 : decode cX9_talks 20 = .ok (.iconst 1, 1) := by decide +kernel
theorem dX9_talks_21 : decode cX9_talks 21 = .ok (.if_icmp .ne 7, 3) := by decide +kernel
theorem dX9_talks_24 : decode cX9_talks 24 = .ok (.iload_n 1, 1) := by decide +kernel
theorem dX9_talks_25 : decode cX9_talks 25 = .ok (.goto 4, 3) := by decide +kernel
theorem dX9_talks_28 : decode cX9_talks 28 = .ok (.iload_n 2, 1) := by decide +kernel
theorem dX9_talks_29 : decode cX9_talks 29 = .ok (.istore_n 3, 1) := by decide +kernel
theorem dX9_talks_30 : decode cX9_talks 30 = .ok (.iconst 1, 1) := by decide +kernel
theorem dX9_talks_31 : decode cX9_talks 31 = .ok (.istore 4, 2) := by decide +kernel
theorem dX9_talks_33 : decode cX9_talks 33 = .ok (.aload_n 0, 1) := by decide +kernel
theorem dX9_talks_34 : decode cX9_talks 34 = .ok (.iconst 0, 1) := by decide +kernel
theorem dX9_talks_35 : decode cX9_talks 35 = .ok (.putfield 164, 3) := by decide +kernel
theorem dX9_talks_38 : decode cX9_talks 38 = .ok (.aload_n 0, 1) := by decide +kernel
theorem dX9_talks_39 : decode cX9_talks 39 = .ok (.getfield 164, 3) := by decide +kernel
theorem dX9_talks_42 : decode cX9_talks 42 = .ok (.aload_n 0, 1) := by decide +kernel
theorem dX9_talks_43 : decode cX9_talks 43 = .ok (.getfield 136, 3) := by decide +kernel
theorem dX9_talks_46 : decode cX9_talks 46 = .ok (.if_icmp .ge 135, 3) := by decide +kernel
theorem dX9_talks_49 : decode cX9_talks 49 = .ok (.iload 4, 2) := by decide +kernel
theorem dX9_talks_51 : decode cX9_talks 51 = .ok (.ifCond .eq 130, 3) := by decide +kernel
theorem dX9_talks_54 : decode cX9_talks 54 = .ok (.aload_n 0, 1) := by decide +kernel
theorem dX9_talks_55 : decode cX9_talks 55 = .ok (.getfield 23, 3) := by decide +kernel
theorem dX9_talks_58 : decode cX9_talks 58 = .ok (.iconst 4, 1) := by decide +kernel
theorem dX9_talks_59 : decode cX9_talks 59 = .ok (.aload_n 0, 1) := by decide +kernel
theorem dX9_talks_60 : decode cX9_talks 60 = .ok (.getfield 164, 3) := by decide +kernel
theorem dX9_talks_63 : decode cX9_talks 63 = .ok (.imul, 1) := by decide +kernel
theorem dX9_talks_64 : decode cX9_talks 64 = .ok (.iaload, 1) := by decide +kernel
theorem dX9_talks_65 : decode cX9_talks 65 = .ok (.aload_n 0, 1) := by decide +kernel
theorem dX9_talks_66 : decode cX9_talks 66 = .ok (.getfield 161, 3) := by decide +kernel
theorem dX9_talks_69 : decode cX9_talks 69 = .ok (.if_icmp .gt 21, 3) := by decide +kernel
theorem dX9_talks_72 : decode cX9_talks 72 = .ok (.aload_n 0, 1) := by decide +kernel
theorem dX9_talks_73 : decode cX9_talks 73 = .ok (.getfield 139, 3) := by decide +kernel
theorem dX9_talks_76 : decode cX9_talks 76 = .ok (.aload_n 0, 1) := by decide +kernel
theorem dX9_talks_77 : decode cX9_talks 77 = .ok (.getfield 164, 3) := by decide +kernel
theorem dX9_talks_80 : decode cX9_talks 80 = .ok (.ishr, 1) := by decide +kernel
theorem dX9_talks_81 : decode cX9_talks 81 = .ok (.iconst 1, 1) := by decide +kernel
theorem dX9_talks_82 : decode cX9_talks 82 = .ok (.iand, 1) := by decide +kernel
theorem dX9_talks_83 : decode cX9_talks 83 = .ok (.ifCond .ne 7, 3) := by decide +kernel
theorem dX9_talks_86 : decode cX9_talks 86 = .ok (.iconst 1, 1) := by decide +kernel
theorem dX9_talks_87 : decode cX9_talks 87 = .ok (.goto 4, 3) := by decide +kernel
theorem dX9_talks_90 : decode cX9_talks 90 = .ok (.iconst 0, 1) := by decide +kernel
theorem dX9_talks_91 : decode cX9_talks 91 = .ok (.istore 5, 2) := by decide +kernel
theorem dX9_talks_93 : decode cX9_talks 93 = .ok (.iload 5, 2) := by decide +kernel
theorem dX9_talks_95 : decode cX9_talks 95 = .ok (.ifCond .eq 42, 3) := by decide +kernel
theorem dX9_talks_98 : decode cX9_talks 98 = .ok (.aload_n 0, 1) := by decide +kernel
theorem dX9_talks_99 : decode cX9_talks 99 = .ok (.aload_n 0, 1) := by decide +kernel
theorem dX9_talks_100 : decode cX9_talks 100 = .ok (.getfield 23, 3) := by decide +kernel
theorem dX9_talks_103 : decode cX9_talks 103 = .ok (.iconst 4, 1) := by decide +kernel
theorem dX9_talks_104 : decode cX9_talks 104 = .ok (.aload_n 0, 1) := by decide +kernel
theorem dX9_talks_105 : decode cX9_talks 105 = .ok (.getfield 164, 3) := by decide +kernel
theorem dX9_talks_108 : decode cX9_talks 108 = .ok (.imul, 1) := by decide +kernel
theorem dX9_talks_109 : decode cX9_talks 109 = .ok (.iconst 2, 1) := by decide +kernel
theorem dX9_talks_110 : decode cX9_talks 110 = .ok (.iadd, 1) := by decide +kernel
theorem dX9_talks_111 : decode cX9_talks 111 = .ok (.iaload, 1) := by decide +kernel
theorem dX9_talks_112 : decode cX9_talks 112 = .ok (.aload_n 0, 1) := by decide +kernel
theorem dX9_talks_113 : decode cX9_talks 113 = .ok (.getfield 23, 3) := by decide +kernel
theorem dX9_talks_116 : decode cX9_talks 116 = .ok (.iconst 4, 1) := by decide +kernel
theorem dX9_talks_117 : decode cX9_talks 117 = .ok (.aload_n 0, 1) := by decide +kernel
theorem dX9_talks_118 : decode cX9_talks 118 = .ok (.getfield 164, 3) := by decide +kernel
theorem dX9_talks_121 : decode cX9_talks 121 = .ok (.imul, 1) := by decide +kernel
theorem dX9_talks_122 : decode cX9_talks 122 = .ok (.iconst 3, 1) := by decide +kernel
theorem dX9_talks_123 : decode cX9_talks 123 = .ok (.iadd, 1) := by decide +kernel
theorem dX9_talks_124 : decode cX9_talks 124 = .ok (.iaload, 1) := by decide +kernel
theorem dX9_talks_125 : decode cX9_talks 125 = .ok (.iload_n 3, 1) := by decide +kernel
theorem dX9_talks_126 : decode cX9_talks 126 = .ok (.iload_n 1, 1) := by decide +kernel
theorem dX9_talks_127 : decode cX9_talks 127 = .ok (.iload_n 2, 1) := by decide +kernel
theorem dX9_talks_128 : decode cX9_talks 128 = .ok (.iadd, 1) := by decide +kernel
theorem dX9_talks_129 : decode cX9_talks 129 = .ok (.iload_n 3, 1) := by decide +kernel
theorem dX9_talks_130 : decode cX9_talks 130 = .ok (.isub, 1) := by decide +kernel
theorem dX9_talks_131 : decode cX9_talks 131 = .ok (.invokevirtual 167, 3) := by decide +kernel
theorem dX9_talks_134 : decode cX9_talks 134 = .ok (.goto 4, 3) := by decide +kernel
theorem dX9_talks_137 : decode cX9_talks 137 = .ok (.iconst (-1), 1) := by decide +kernel
theorem dX9_talks_138 : decode cX9_talks 138 = .ok (.istore 6, 2) := by decide +kernel
theorem dX9_talks_140 : decode cX9_talks 140 = .ok (.iload 6, 2) := by decide +kernel
theorem dX9_talks_142 : decode cX9_talks 142 = .ok (.iconst (-1), 1) := by decide +kernel
theorem dX9_talks_143 : decode cX9_talks 143 = .ok (.if_icmp .eq 25, 3) := by decide +kernel
theorem dX9_talks_146 : decode cX9_talks 146 = .ok (.iconst 0, 1) := by decide +kernel
theorem dX9_talks_147 : decode cX9_talks 147 = .ok (.istore 4, 2) := by decide +kernel
theorem dX9_talks_149 : decode cX9_talks 149 = .ok (.aload_n 0, 1) := by decide +kernel
theorem dX9_talks_150 : decode cX9_talks 150 = .ok (.getfield 23, 3) := by decide +kernel
theorem dX9_talks_153 : decode cX9_talks 153 = .ok (.iconst 4, 1) := by decide +kernel
theorem dX9_talks_154 : decode cX9_talks 154 = .ok (.aload_n 0, 1) := by decide +kernel
theorem dX9_talks_155 : decode cX9_talks 155 = .ok (.getfield 164, 3) := by decide +kernel
theorem dX9_talks_158 : decode cX9_talks 158 = .ok (.imul, 1) := by decide +kernel
theorem dX9_talks_159 : decode cX9_talks 159 = .ok (.iconst 1, 1) := by decide +kernel
theorem dX9_talks_160 : decode cX9_talks 160 = .ok (.iadd, 1) := by decide +kernel
theorem dX9_talks_161 : decode cX9_talks 161 = .ok (.iaload, 1) := by decide +kernel
theorem dX9_talks_162 : decode cX9_talks 162 = .ok (.ifCond .ne 6, 3) := by decide +kernel
theorem dX9_talks_165 : decode cX9_talks 165 = .ok (.iload 6, 2) := by decide +kernel
theorem dX9_talks_167 : decode cX9_talks 167 = .ok (.ireturn, 1) := by decide +kernel
theorem dX9_talks_168 : decode cX9_talks 168 = .ok (.aload_n 0, 1) := by decide +kernel
theorem dX9_talks_169 : decode cX9_talks 169 = .ok (.dup, 1) := by decide +kernel
theorem dX9_talks_170 : decode cX9_talks 170 = .ok (.getfield 164, 3) := by decide +kernel
theorem dX9_talks_173 : decode cX9_talks 173 = .ok (.iconst 1, 1) := by decide +kernel
theorem dX9_talks_174 : decode cX9_talks 174 = .ok (.iadd, 1) := by decide +kernel
theorem dX9_talks_175 : decode cX9_talks 175 = .ok (.putfield 164, 3) := by decide +kernel
theorem dX9_talks_178 : decode cX9_talks 178 = .ok (.goto (-140), 3) := by decide +kernel
theorem dX9_talks_181 : decode cX9_talks 181 = .ok (.aload_n 0, 1) := by decide +kernel
theorem dX9_talks_182 : decode cX9_talks 182 = .ok (.dup, 1) := by decide +kernel
theorem dX9_talks_183 : decode cX9_talks 183 = .ok (.getfield 161, 3) := by decide +kernel
theorem dX9_talks_186 : decode cX9_talks 186 = .ok (.iconst 1, 1) := by decide +kernel
theorem dX9_talks_187 : decode cX9_talks 187 = .ok (.iadd, 1) := by decide +kernel
theorem dX9_talks_188 : decode cX9_talks 188 = .ok (.putfield 161, 3) := by decide +kernel
theorem dX9_talks_191 : decode cX9_talks 191 = .ok (.goto (-186), 3) := by decide +kernel
theorem dX9_talks_194 : decode cX9_talks 194 = .ok (.aload_n 0, 1) := by decide +kernel
theorem dX9_talks_195 : decode cX9_talks 195 = .ok (.bipush 9, 2) := by decide +kernel
theorem dX9_talks_197 : decode cX9_talks 197 = .ok (.putfield 161, 3) := by decide +kernel
theorem dX9_talks_200 : decode cX9_talks 200 = .ok (.aload_n 0, 1) := by decide +kernel
theorem dX9_talks_201 : decode cX9_talks 201 = .ok (.iconst (-1), 1) := by decide +kernel
theorem dX9_talks_202 : decode cX9_talks 202 = .ok (.putfield 164, 3) := by decide +kernel
theorem dX9_talks_205 : decode cX9_talks 205 = .ok (.iconst (-1), 1) := by decide +kernel
theorem dX9_talks_206 : decode cX9_talks 206 = .ok (.ireturn, 1) := by decide +kernel
theorem dX9_talk_0 : decode cX9_talk 0 = .ok (.aload_n 0, 1) := by decide +kernel
theorem dX9_talk_1 : decode cX9_talk 1 = .ok (.iload_n 1, 1) := by decide +kernel
theorem dX9_talk_2 : decode cX9_talk 2 = .ok (.iload_n 2, 1) := by decide +kernel
theorem dX9_talk_3 : decode cX9_talk 3 = .ok (.invokevirtual 81, 3) := by decide +kernel
theorem dX9_talk_6 : decode cX9_talk 6 = .ok (.ifCond .eq 15, 3) := by decide +kernel
theorem dX9_talk_9 : decode cX9_talk 9 = .ok (.iload_n 3, 1) := by decide +kernel
theorem dX9_talk_10 : decode cX9_talk 10 = .ok (.i2l, 1) := by decide +kernel
theorem dX9_talk_11 : decode cX9_talk 11 = .ok (.lconst 0, 1) := by decide +kernel
theorem dX9_talk_12 : decode cX9_talk 12 = .ok (.ldc2_w 76, 3) := by decide +kernel
theorem dX9_talk_15 : decode cX9_talk 15 = .ok (.invokestatic 55, 3) := by decide +kernel
theorem dX9_talk_18 : decode cX9_talk 18 = .ok (.ifCond .ne 8, 3) := by decide +kernel
theorem dX9_talk_21 : decode cX9_talk 21 = .ok (.aload_n 0, 1) := by decide +kernel
theorem dX9_talk_22 : decode cX9_talk 22 = .ok (.invokevirtual 69, 3) := by decide +kernel
theorem dX9_talk_25 : decode cX9_talk 25 = .ok (.ireturn, 1) := by decide +kernel
theorem dX9_talk_26 : decode cX9_talk 26 = .ok (.aload_n 0, 1) := by decide +kernel
theorem dX9_talk_27 : decode cX9_talk 27 = .ok (.invokevirtual 145, 3) := by decide +kernel
theorem dX9_talk_30 : decode cX9_talk 30 = .ok (.ifCond .ne 8, 3) := by decide +kernel
theorem dX9_talk_33 : decode cX9_talk 33 = .ok (.aload_n 0, 1) := by decide +kernel
theorem dX9_talk_34 : decode cX9_talk 34 = .ok (.invokevirtual 151, 3) := by decide +kernel
theorem dX9_talk_37 : decode cX9_talk 37 = .ok (.ireturn, 1) := by decide +kernel
theorem dX9_talk_38 : decode cX9_talk 38 = .ok (.aload_n 0, 1) := by decide +kernel
theorem dX9_talk_39 : decode cX9_talk 39 = .ok (.iload_n 1, 1) := by decide +kernel
theorem dX9_talk_40 : decode cX9_talk 40 = .ok (.iload_n 2, 1) := by decide +kernel
theorem dX9_talk_41 : decode cX9_talk 41 = .ok (.invokevirtual 171, 3) := by decide +kernel
theorem dX9_talk_44 : decode cX9_talk 44 = .ok (.istore 4, 2) := by decide +kernel
theorem dX9_talk_46 : decode cX9_talk 46 = .ok (.iload_n 3, 1) := by decide +kernel
theorem dX9_talk_47 : decode cX9_talk 47 = .ok (.ifCond .ne 8, 3) := by decide +kernel
theorem dX9_talk_50 : decode cX9_talk 50 = .ok (.iload 4, 2) := by decide +kernel
theorem dX9_talk_52 : decode cX9_talk 52 = .ok (.goto 19, 3) := by decide +kernel
theorem dX9_talk_55 : decode cX9_talk 55 = .ok (.iload_n 3, 1) := by decide +kernel
theorem dX9_talk_56 : decode cX9_talk 56 = .ok (.iconst 1, 1) := by decide +kernel
theorem dX9_talk_57 : decode cX9_talk 57 = .ok (.if_icmp .ne 10, 3) := by decide +kernel
theorem dX9_talk_60 : decode cX9_talk 60 = .ok (.aload_n 0, 1) := by decide +kernel
theorem dX9_talk_61 : decode cX9_talk 61 = .ok (.getfield 161, 3) := by decide +kernel
theorem dX9_talk_64 : decode cX9_talk 64 = .ok (.goto 7, 3) := by decide +kernel
theorem dX9_talk_67 : decode cX9_talk 67 = .ok (.aload_n 0, 1) := by decide +kernel
theorem dX9_talk_68 : decode cX9_talk 68 = .ok (.getfield 164, 3) := by decide +kernel
theorem dX9_talk_71 : decode cX9_talk 71 = .ok (.ireturn, 1) := by decide +kernel
theorem dX9_meet_0 : decode cX9_meet 0 = .ok (.aload_n 0, 1) := by decide +kernel
theorem dX9_meet_1 : decode cX9_meet 1 = .ok (.iload_n 1, 1) := by decide +kernel
theorem dX9_meet_2 : decode cX9_meet 2 = .ok (.iload_n 2, 1) := by decide +kernel
theorem dX9_meet_3 : decode cX9_meet 3 = .ok (.invokevirtual 81, 3) := by decide +kernel
theorem dX9_meet_6 : decode cX9_meet 6 = .ok (.ifCond .ne 8, 3) := by decide +kernel
theorem dX9_meet_9 : decode cX9_meet 9 = .ok (.aload_n 0, 1) := by decide +kernel
theorem dX9_meet_10 : decode cX9_meet 10 = .ok (.invokevirtual 69, 3) := by decide +kernel
theorem dX9_meet_13 : decode cX9_meet 13 = .ok (.ireturn, 1) := by decide +kernel
theorem dX9_meet_14 : decode cX9_meet 14 = .ok (.aload_n 0, 1) := by decide +kernel
theorem dX9_meet_15 : decode cX9_meet 15 = .ok (.invokevirtual 145, 3) := by decide +kernel
theorem dX9_meet_18 : decode cX9_meet 18 = .ok (.ifCond .ne 8, 3) := by decide +kernel
theorem dX9_meet_21 : decode cX9_meet 21 = .ok (.aload_n 0, 1) := by decide +kernel
theorem dX9_meet_22 : decode cX9_meet 22 = .ok (.invokevirtual 151, 3) := by decide +kernel
theorem dX9_meet_25 : decode cX9_meet 25 = .ok (.ireturn, 1) := by decide +kernel
theorem dX9_meet_26 : decode cX9_meet 26 = .ok (.aload_n 0, 1) := by decide +kernel
theorem dX9_meet_27 : decode cX9_meet 27 = .ok (.iload_n 1, 1) := by decide +kernel
theorem dX9_meet_28 : decode cX9_meet 28 = .ok (.iload_n 2, 1) := by decide +kernel
theorem dX9_meet_29 : decode cX9_meet 29 = .ok (.invokevirtual 171, 3) := by decide +kernel
theorem dX9_meet_32 : decode cX9_meet 32 = .ok (.istore_n 3, 1) := by decide +kernel
theorem dX9_meet_33 : decode cX9_meet 33 = .ok (.iload_n 3, 1) := by decide +kernel
theorem dX9_meet_34 : decode cX9_meet 34 = .ok (.iconst (-1), 1) := by decide +kernel
theorem dX9_meet_35 : decode cX9_meet 35 = .ok (.if_icmp .eq 13, 3) := by decide +kernel
theorem dX9_meet_38 : decode cX9_meet 38 = .ok (.aload_n 0, 1) := by decide +kernel
theorem dX9_meet_39 : decode cX9_meet 39 = .ok (.iload_n 3, 1) := by decide +kernel
theorem dX9_meet_40 : decode cX9_meet 40 = .ok (.iload_n 1, 1) := by decide +kernel
theorem dX9_meet_41 : decode cX9_meet 41 = .ok (.iload_n 2, 1) := by decide +kernel
theorem dX9_meet_42 : decode cX9_meet 42 = .ok (.iadd, 1) := by decide +kernel
theorem dX9_meet_43 : decode cX9_meet 43 = .ok (.iload_n 3, 1) := by decide +kernel
theorem dX9_meet_44 : decode cX9_meet 44 = .ok (.isub, 1) := by decide +kernel
theorem dX9_meet_45 : decode cX9_meet 45 = .ok (.invokevirtual 174, 3) := by decide +kernel
theorem dX9_meet_48 : decode cX9_meet 48 = .ok (.iload_n 3, 1) := by decide +kernel
theorem dX9_meet_49 : decode cX9_meet 49 = .ok (.ireturn, 1) := by decide +kernel
theorem dX9_come_0 : decode cX9_come 0 = .ok (.aload_n 0, 1) := by decide +kernel
theorem dX9_come_1 : decode cX9_come 1 = .ok (.iload_n 1, 1) := by decide +kernel
theorem dX9_come_2 : decode cX9_come 2 = .ok (.invokevirtual 59, 3) := by decide +kernel
theorem dX9_come_5 : decode cX9_come 5 = .ok (.istore_n 2, 1) := by decide +kernel
theorem dX9_come_6 : decode cX9_come 6 = .ok (.iconst 0, 1) := by decide +kernel
theorem dX9_come_7 : decode cX9_come 7 = .ok (.istore_n 3, 1) := by decide +kernel
theorem dX9_come_8 : decode cX9_come 8 = .ok (.iload_n 3, 1) := by decide +kernel
theorem dX9_come_9 : decode cX9_come 9 = .ok (.aload_n 0, 1) := by decide +kernel
theorem dX9_come_10 : decode cX9_come 10 = .ok (.getfield 7, 3) := by decide +kernel
theorem dX9_come_13 : decode cX9_come 13 = .ok (.iconst 2, 1) := by decide +kernel
theorem dX9_come_14 : decode cX9_come 14 = .ok (.iaload, 1) := by decide +kernel
theorem dX9_come_15 : decode cX9_come 15 = .ok (.if_icmp .ge 33, 3) := by decide +kernel
theorem dX9_come_18 : decode cX9_come 18 = .ok (.iload_n 2, 1) := by decide +kernel
theorem dX9_come_19 : decode cX9_come 19 = .ok (.ifCond .eq 21, 3) := by decide +kernel
theorem dX9_come_22 : decode cX9_come 22 = .ok (.aload_n 0, 1) := by decide +kernel
theorem dX9_come_23 : decode cX9_come 23 = .ok (.getfield 7, 3) := by decide +kernel
theorem dX9_come_26 : decode cX9_come 26 = .ok (.sipush 164, 3) := by decide +kernel
theorem dX9_come_29 : decode cX9_come 29 = .ok (.iload_n 3, 1) := by decide +kernel
theorem dX9_come_30 : decode cX9_come 30 = .ok (.iadd, 1) := by decide +kernel
theorem dX9_come_31 : decode cX9_come 31 = .ok (.iaload, 1) := by decide +kernel
theorem dX9_come_32 : decode cX9_come 32 = .ok (.iload_n 1, 1) := by decide +kernel
theorem dX9_come_33 : decode cX9_come 33 = .ok (.if_icmp .eq 7, 3) := by decide +kernel
theorem dX9_come_36 : decode cX9_come 36 = .ok (.iconst 1, 1) := by decide +kernel
theorem dX9_come_37 : decode cX9_come 37 = .ok (.goto 4, 3) := by decide +kernel
theorem dX9_come_40 : decode cX9_come 40 = .ok (.iconst 0, 1) := by decide +kernel
theorem dX9_come_41 : decode cX9_come 41 = .ok (.istore_n 2, 1) := by decide +kernel
theorem dX9_come_42 : decode cX9_come 42 = .ok (.iinc 3 1, 3) := by decide +kernel
theorem dX9_come_45 : decode cX9_come 45 = .ok (.goto (-37), 3) := by decide +kernel
theorem dX9_come_48 : decode cX9_come 48 = .ok (.iload_n 2, 1) := by decide +kernel
theorem dX9_come_49 : decode cX9_come 49 = .ok (.ifCond .ne 8, 3) := by decide +kernel
theorem dX9_come_52 : decode cX9_come 52 = .ok (.aload_n 0, 1) := by decide +kernel
theorem dX9_come_53 : decode cX9_come 53 = .ok (.invokevirtual 69, 3) := by decide +kernel
theorem dX9_come_56 : decode cX9_come 56 = .ok (.ireturn, 1) := by decide +kernel
theorem dX9_come_57 : decode cX9_come 57 = .ok (.aload_n 0, 1) := by decide +kernel
theorem dX9_come_58 : decode cX9_come 58 = .ok (.getfield 7, 3) := by decide +kernel
theorem dX9_come_61 : decode cX9_come 61 = .ok (.sipush 164, 3) := by decide +kernel
theorem dX9_come_64 : decode cX9_come 64 = .ok (.aload_n 0, 1) := by decide +kernel
theorem dX9_come_65 : decode cX9_come 65 = .ok (.getfield 7, 3) := by decide +kernel
theorem dX9_come_68 : decode cX9_come 68 = .ok (.iconst 2, 1) := by decide +kernel
theorem dX9_come_69 : decode cX9_come 69 = .ok (.iaload, 1) := by decide +kernel
theorem dX9_come_70 : decode cX9_come 70 = .ok (.iadd, 1) := by decide +kernel
theorem dX9_come_71 : decode cX9_come 71 = .ok (.iload_n 1, 1) := by decide +kernel
theorem dX9_come_72 : decode cX9_come 72 = .ok (.iastore, 1) := by decide +kernel
theorem dX9_come_73 : decode cX9_come 73 = .ok (.aload_n 0, 1) := by decide +kernel
theorem dX9_come_74 : decode cX9_come 74 = .ok (.getfield 7, 3) := by decide +kernel
theorem dX9_come_77 : decode cX9_come 77 = .ok (.iconst 2, 1) := by decide +kernel
theorem dX9_come_78 : decode cX9_come 78 = .ok (.dup2, 1) := by decide +kernel
theorem dX9_come_79 : decode cX9_come 79 = .ok (.iaload, 1) := by decide +kernel
theorem dX9_come_80 : decode cX9_come 80 = .ok (.iconst 1, 1) := by decide +kernel
theorem dX9_come_81 : decode cX9_come 81 = .ok (.iadd, 1) := by decide +kernel
theorem dX9_come_82 : decode cX9_come 82 = .ok (.iastore, 1) := by decide +kernel
theorem dX9_come_83 : decode cX9_come 83 = .ok (.aload_n 0, 1) := by decide +kernel
theorem dX9_come_84 : decode cX9_come 84 = .ok (.getfield 7, 3) := by decide +kernel
theorem dX9_come_87 : decode cX9_come 87 = .ok (.iconst 2, 1) := by decide +kernel
theorem dX9_come_88 : decode cX9_come 88 = .ok (.iaload, 1) := by decide +kernel
theorem dX9_come_89 : decode cX9_come 89 = .ok (.ireturn, 1) := by decide +kernel
theorem dX9_disperse_0 : decode cX9_disperse 0 = .ok (.aload_n 0, 1) := by decide +kernel
theorem dX9_disperse_1 : decode cX9_disperse 1 = .ok (.getfield 7, 3) := by decide +kernel
theorem dX9_disperse_4 : decode cX9_disperse 4 = .ok (.iconst 2, 1) := by decide +kernel
theorem dX9_disperse_5 : decode cX9_disperse 5 = .ok (.iaload, 1) := by decide +kernel
theorem dX9_disperse_6 : decode cX9_disperse 6 = .ok (.istore_n 1, 1) := by decide +kernel
theorem dX9_disperse_7 : decode cX9_disperse 7 = .ok (.aload_n 0, 1) := by decide +kernel
theorem dX9_disperse_8 : decode cX9_disperse 8 = .ok (.getfield 7, 3) := by decide +kernel
theorem dX9_disperse_11 : decode cX9_disperse 11 = .ok (.iconst 2, 1) := by decide +kernel
theorem dX9_disperse_12 : decode cX9_disperse 12 = .ok (.iconst 0, 1) := by decide +kernel
theorem dX9_disperse_13 : decode cX9_disperse 13 = .ok (.iastore, 1) := by decide +kernel
theorem dX9_disperse_14 : decode cX9_disperse 14 = .ok (.iload_n 1, 1) := by decide +kernel
theorem dX9_disperse_15 : decode cX9_disperse 15 = .ok (.ireturn, 1) := by decide +kernel
theorem dX9_holds_0 : decode cX9_holds 0 = .ok (.iconst 0, 1) := by decide +kernel
theorem dX9_holds_1 : decode cX9_holds 1 = .ok (.istore_n 1, 1) := by decide +kernel
theorem dX9_holds_2 : decode cX9_holds 2 = .ok (.iload_n 1, 1) := by decide +kernel
theorem dX9_holds_3 : decode cX9_holds 3 = .ok (.sipush 128, 3) := by decide +kernel
theorem dX9_holds_6 : decode cX9_holds 6 = .ok (.if_icmp .ge 24, 3) := by decide +kernel
theorem dX9_holds_9 : decode cX9_holds 9 = .ok (.aload_n 0, 1) := by decide +kernel
theorem dX9_holds_10 : decode cX9_holds 10 = .ok (.getfield 26, 3) := by decide +kernel
theorem dX9_holds_13 : decode cX9_holds 13 = .ok (.iload_n 1, 1) := by decide +kernel
theorem dX9_holds_14 : decode cX9_holds 14 = .ok (.aload_n 0, 1) := by decide +kernel
theorem dX9_holds_15 : decode cX9_holds 15 = .ok (.getfield 7, 3) := by decide +kernel
theorem dX9_holds_18 : decode cX9_holds 18 = .ok (.bipush 36, 2) := by decide +kernel
theorem dX9_holds_20 : decode cX9_holds 20 = .ok (.iload_n 1, 1) := by decide +kernel
theorem dX9_holds_21 : decode cX9_holds 21 = .ok (.iadd, 1) := by decide +kernel
theorem dX9_holds_22 : decode cX9_holds 22 = .ok (.iaload, 1) := by decide +kernel
theorem dX9_holds_23 : decode cX9_holds 23 = .ok (.iastore, 1) := by decide +kernel
theorem dX9_holds_24 : decode cX9_holds 24 = .ok (.iinc 1 1, 3) := by decide +kernel
theorem dX9_holds_27 : decode cX9_holds 27 = .ok (.goto (-25), 3) := by decide +kernel
theorem dX9_holds_30 : decode cX9_holds 30 = .ok (.return_, 1) := by decide +kernel
theorem dX9_undoes_0 : decode cX9_undoes 0 = .ok (.iconst 0, 1) := by decide +kernel
theorem dX9_undoes_1 : decode cX9_undoes 1 = .ok (.istore_n 1, 1) := by decide +kernel
theorem dX9_undoes_2 : decode cX9_undoes 2 = .ok (.iload_n 1, 1) := by decide +kernel
theorem dX9_undoes_3 : decode cX9_undoes 3 = .ok (.sipush 128, 3) := by decide +kernel
theorem dX9_undoes_6 : decode cX9_undoes 6 = .ok (.if_icmp .ge 24, 3) := by decide +kernel
theorem dX9_undoes_9 : decode cX9_undoes 9 = .ok (.aload_n 0, 1) := by decide +kernel
theorem dX9_undoes_10 : decode cX9_undoes 10 = .ok (.getfield 7, 3) := by decide +kernel
theorem dX9_undoes_13 : decode cX9_undoes 13 = .ok (.bipush 36, 2) := by decide +kernel
theorem dX9_undoes_15 : decode cX9_undoes 15 = .ok (.iload_n 1, 1) := by decide +kernel
theorem dX9_undoes_16 : decode cX9_undoes 16 = .ok (.iadd, 1) := by decide +kernel
theorem dX9_undoes_17 : decode cX9_undoes 17 = .ok (.aload_n 0, 1) := by decide +kernel
theorem dX9_undoes_18 : decode cX9_undoes 18 = .ok (.getfield 26, 3) := by decide +kernel
theorem dX9_undoes_21 : decode cX9_undoes 21 = .ok (.iload_n 1, 1) := by decide +kernel
theorem dX9_undoes_22 : decode cX9_undoes 22 = .ok (.iaload, 1) := by decide +kernel
theorem dX9_undoes_23 : decode cX9_undoes 23 = .ok (.iastore, 1) := by decide +kernel
theorem dX9_undoes_24 : decode cX9_undoes 24 = .ok (.iinc 1 1, 3) := by decide +kernel
theorem dX9_undoes_27 : decode cX9_undoes 27 = .ok (.goto (-25), 3) := by decide +kernel
theorem dX9_undoes_30 : decode cX9_undoes 30 = .ok (.return_, 1) := by decide +kernel
theorem dX9_lets_0 : decode cX9_lets 0 = .ok (.aload_n 0, 1) := by decide +kernel
theorem dX9_lets_1 : decode cX9_lets 1 = .ok (.getfield 178, 3) := by decide +kernel
theorem dX9_lets_4 : decode cX9_lets 4 = .ok (.ifCond .ne 5, 3) := by decide +kernel
theorem dX9_lets_7 : decode cX9_lets 7 = .ok (.iconst 0, 1) := by decide +kernel
theorem dX9_lets_8 : decode cX9_lets 8 = .ok (.ireturn, 1) := by decide +kernel
theorem dX9_lets_9 : decode cX9_lets 9 = .ok (.aload_n 0, 1) := by decide +kernel
theorem dX9_lets_10 : decode cX9_lets 10 = .ok (.invokevirtual 181, 3) := by decide +kernel
theorem dX9_lets_13 : decode cX9_lets 13 = .ok (.aload_n 0, 1) := by decide +kernel
theorem dX9_lets_14 : decode cX9_lets 14 = .ok (.getfield 178, 3) := by decide +kernel
theorem dX9_lets_17 : decode cX9_lets 17 = .ok (.istore_n 1, 1) := by decide +kernel
theorem dX9_lets_18 : decode cX9_lets 18 = .ok (.aload_n 0, 1) := by decide +kernel
theorem dX9_lets_19 : decode cX9_lets 19 = .ok (.getfield 29, 3) := by decide +kernel
theorem dX9_lets_22 : decode cX9_lets 22 = .ok (.iconst 0, 1) := by decide +kernel
theorem dX9_lets_23 : decode cX9_lets 23 = .ok (.iaload, 1) := by decide +kernel
theorem dX9_lets_24 : decode cX9_lets 24 = .ok (.istore_n 2, 1) := by decide +kernel
theorem dX9_lets_25 : decode cX9_lets 25 = .ok (.iconst 1, 1) := by decide +kernel
theorem dX9_lets_26 : decode cX9_lets 26 = .ok (.istore_n 3, 1) := by decide +kernel
theorem dX9_lets_27 : decode cX9_lets 27 = .ok (.iconst 1, 1) := by decide +kernel
theorem dX9_lets_28 : decode cX9_lets 28 = .ok (.istore 4, 2) := by decide +kernel
theorem dX9_lets_30 : decode cX9_lets 30 = .ok (.iload 4, 2) := by decide +kernel
theorem dX9_lets_32 : decode cX9_lets 32 = .ok (.aload_n 0, 1) := by decide +kernel
theorem dX9_lets_33 : decode cX9_lets 33 = .ok (.getfield 178, 3) := by decide +kernel
theorem dX9_lets_36 : decode cX9_lets 36 = .ok (.if_icmp .ge 86, 3) := by decide +kernel
theorem dX9_lets_39 : decode cX9_lets 39 = .ok (.iload_n 3, 1) := by decide +kernel
theorem dX9_lets_40 : decode cX9_lets 40 = .ok (.ifCond .eq 82, 3) := by decide +kernel
theorem dX9_lets_43 : decode cX9_lets 43 = .ok (.aload_n 0, 1) := by decide +kernel
theorem dX9_lets_44 : decode cX9_lets 44 = .ok (.iload_n 2, 1) := by decide +kernel
theorem dX9_lets_45 : decode cX9_lets 45 = .ok (.aload_n 0, 1) := by decide +kernel
theorem dX9_lets_46 : decode cX9_lets 46 = .ok (.getfield 29, 3) := by decide +kernel
theorem dX9_lets_49 : decode cX9_lets 49 = .ok (.iload 4, 2) := by decide +kernel
theorem dX9_lets_51 : decode cX9_lets 51 = .ok (.iaload, 1) := by decide +kernel
theorem dX9_lets_52 : decode cX9_lets 52 = .ok (.invokevirtual 171, 3) := by decide +kernel
theorem dX9_lets_55 : decode cX9_lets 55 = .ok (.istore 5, 2) := by decide +kernel
theorem dX9_lets_57 : decode cX9_lets 57 = .ok (.iload 5, 2) := by decide +kernel
theorem dX9_lets_59 : decode cX9_lets 59 = .ok (.iconst (-1), 1) := by decide +kernel
theorem dX9_lets_60 : decode cX9_lets 60 = .ok (.if_icmp .eq 7, 3) := by decide +kernel
theorem dX9_lets_63 : decode cX9_lets 63 = .ok (.iconst 1, 1) := by decide +kernel
theorem dX9_lets_64 : decode cX9_lets 64 = .ok (.goto 4, 3) := by decide +kernel
theorem dX9_lets_67 : decode cX9_lets 67 = .ok (.iconst 0, 1) := by decide +kernel
theorem dX9_lets_68 : decode cX9_lets 68 = .ok (.istore_n 3, 1) := by decide +kernel
theorem dX9_lets_69 : decode cX9_lets 69 = .ok (.iload_n 3, 1) := by decide +kernel
theorem dX9_lets_70 : decode cX9_lets 70 = .ok (.ifCond .eq 46, 3) := by decide +kernel
theorem dX9_lets_73 : decode cX9_lets 73 = .ok (.iload_n 1, 1) := by decide +kernel
theorem dX9_lets_74 : decode cX9_lets 74 = .ok (.aload_n 0, 1) := by decide +kernel
theorem dX9_lets_75 : decode cX9_lets 75 = .ok (.getfield 161, 3) := by decide +kernel
theorem dX9_lets_78 : decode cX9_lets 78 = .ok (.iadd, 1) := by decide +kernel
theorem dX9_lets_79 : decode cX9_lets 79 = .ok (.istore_n 1, 1) := by decide +kernel
theorem dX9_lets_80 : decode cX9_lets 80 = .ok (.iload_n 2, 1) := by decide +kernel
theorem dX9_lets_81 : decode cX9_lets 81 = .ok (.aload_n 0, 1) := by decide +kernel
theorem dX9_lets_82 : decode cX9_lets 82 = .ok (.getfield 29, 3) := by decide +kernel
theorem dX9_lets_85 : decode cX9_lets 85 = .ok (.iload 4, 2) := by decide +kernel
theorem dX9_lets_87 : decode cX9_lets 87 = .ok (.iaload, 1) := by decide +kernel
theorem dX9_lets_88 : decode cX9_lets 88 = .ok (.iadd, 1) := by decide +kernel
theorem dX9_lets_89 : decode cX9_lets 89 = .ok (.iload 5, 2) := by decide +kernel
theorem dX9_lets_91 : decode cX9_lets 91 = .ok (.isub, 1) := by decide +kernel
theorem dX9_lets_92 : decode cX9_lets 92 = .ok (.istore 6, 2) := by decide +kernel
theorem dX9_lets_94 : decode cX9_lets 94 = .ok (.aload_n 0, 1) := by decide +kernel
theorem dX9_lets_95 : decode cX9_lets 95 = .ok (.iload 5, 2) := by decide +kernel
theorem dX9_lets_97 : decode cX9_lets 97 = .ok (.iload 6, 2) := by decide +kernel
theorem dX9_lets_99 : decode cX9_lets 99 = .ok (.invokevirtual 174, 3) := by decide +kernel
theorem dX9_lets_102 : decode cX9_lets 102 = .ok (.aload_n 0, 1) := by decide +kernel
theorem dX9_lets_103 : decode cX9_lets 103 = .ok (.getfield 32, 3) := by decide +kernel
theorem dX9_lets_106 : decode cX9_lets 106 = .ok (.iload 4, 2) := by decide +kernel
theorem dX9_lets_108 : decode cX9_lets 108 = .ok (.iconst 1, 1) := by decide +kernel
theorem dX9_lets_109 : decode cX9_lets 109 = .ok (.isub, 1) := by decide +kernel
theorem dX9_lets_110 : decode cX9_lets 110 = .ok (.iload 5, 2) := by decide +kernel
theorem dX9_lets_112 : decode cX9_lets 112 = .ok (.iastore, 1) := by decide +kernel
theorem dX9_lets_113 : decode cX9_lets 113 = .ok (.iload 6, 2) := by decide +kernel
theorem dX9_lets_115 : decode cX9_lets 115 = .ok (.istore_n 2, 1) := by decide +kernel
theorem dX9_lets_116 : decode cX9_lets 116 = .ok (.iinc 4 1, 3) := by decide +kernel
theorem dX9_lets_119 : decode cX9_lets 119 = .ok (.goto (-89), 3) := by decide +kernel
theorem dX9_lets_122 : decode cX9_lets 122 = .ok (.aload_n 0, 1) := by decide +kernel
theorem dX9_lets_123 : decode cX9_lets 123 = .ok (.getfield 32, 3) := by decide +kernel
theorem dX9_lets_126 : decode cX9_lets 126 = .ok (.aload_n 0, 1) := by decide +kernel
theorem dX9_lets_127 : decode cX9_lets 127 = .ok (.getfield 178, 3) := by decide +kernel
theorem dX9_lets_130 : decode cX9_lets 130 = .ok (.iconst 1, 1) := by decide +kernel
theorem dX9_lets_131 : decode cX9_lets 131 = .ok (.isub, 1) := by decide +kernel
theorem dX9_lets_132 : decode cX9_lets 132 = .ok (.iload_n 2, 1) := by decide +kernel
theorem dX9_lets_133 : decode cX9_lets 133 = .ok (.iastore, 1) := by decide +kernel
theorem dX9_lets_134 : decode cX9_lets 134 = .ok (.aload_n 0, 1) := by decide +kernel
theorem dX9_lets_135 : decode cX9_lets 135 = .ok (.invokevirtual 184, 3) := by decide +kernel
theorem dX9_lets_138 : decode cX9_lets 138 = .ok (.iload_n 3, 1) := by decide +kernel
theorem dX9_lets_139 : decode cX9_lets 139 = .ok (.ifCond .eq 7, 3) := by decide +kernel
theorem dX9_lets_142 : decode cX9_lets 142 = .ok (.iload_n 1, 1) := by decide +kernel
theorem dX9_lets_143 : decode cX9_lets 143 = .ok (.goto 4, 3) := by decide +kernel
theorem dX9_lets_146 : decode cX9_lets 146 = .ok (.iconst (-1), 1) := by decide +kernel
theorem dX9_lets_147 : decode cX9_lets 147 = .ok (.ireturn, 1) := by decide +kernel
theorem dX9_lines_0 : decode cX9_lines 0 = .ok (.aload_n 0, 1) := by decide +kernel
theorem dX9_lines_1 : decode cX9_lines 1 = .ok (.iconst 0, 1) := by decide +kernel
theorem dX9_lines_2 : decode cX9_lines 2 = .ok (.putfield 178, 3) := by decide +kernel
theorem dX9_lines_5 : decode cX9_lines 5 = .ok (.iconst 0, 1) := by decide +kernel
theorem dX9_lines_6 : decode cX9_lines 6 = .ok (.istore_n 2, 1) := by decide +kernel
theorem dX9_lines_7 : decode cX9_lines 7 = .ok (.iload_n 2, 1) := by decide +kernel
theorem dX9_lines_8 : decode cX9_lines 8 = .ok (.aload_n 0, 1) := by decide +kernel
theorem dX9_lines_9 : decode cX9_lines 9 = .ok (.getfield 7, 3) := by decide +kernel
theorem dX9_lines_12 : decode cX9_lines 12 = .ok (.iconst 2, 1) := by decide +kernel
theorem dX9_lines_13 : decode cX9_lines 13 = .ok (.iaload, 1) := by decide +kernel
theorem dX9_lines_14 : decode cX9_lines 14 = .ok (.if_icmp .ge 52, 3) := by decide +kernel
theorem dX9_lines_17 : decode cX9_lines 17 = .ok (.aload_n 0, 1) := by decide +kernel
theorem dX9_lines_18 : decode cX9_lines 18 = .ok (.getfield 7, 3) := by decide +kernel
theorem dX9_lines_21 : decode cX9_lines 21 = .ok (.sipush 164, 3) := by decide +kernel
theorem dX9_lines_24 : decode cX9_lines 24 = .ok (.iload_n 2, 1) := by decide +kernel
theorem dX9_lines_25 : decode cX9_lines 25 = .ok (.iadd, 1) := by decide +kernel
theorem dX9_lines_26 : decode cX9_lines 26 = .ok (.iaload, 1) := by decide +kernel
theorem dX9_lines_27 : decode cX9_lines 27 = .ok (.iload_n 1, 1) := by decide +kernel
theorem dX9_lines_28 : decode cX9_lines 28 = .ok (.if_icmp .eq 32, 3) := by decide +kernel
theorem dX9_lines_31 : decode cX9_lines 31 = .ok (.aload_n 0, 1) := by decide +kernel
theorem dX9_lines_32 : decode cX9_lines 32 = .ok (.getfield 29, 3) := by decide +kernel
theorem dX9_lines_35 : decode cX9_lines 35 = .ok (.aload_n 0, 1) := by decide +kernel
theorem dX9_lines_36 : decode cX9_lines 36 = .ok (.getfield 178, 3) := by decide +kernel
theorem dX9_lines_39 : decode cX9_lines 39 = .ok (.aload_n 0, 1) := by decide +kernel
theorem dX9_lines_40 : decode cX9_lines 40 = .ok (.getfield 7, 3) := by decide +kernel
theorem dX9_lines_43 : decode cX9_lines 43 = .ok (.sipush 164, 3) := by decide +kernel
theorem dX9_lines_46 : decode cX9_lines 46 = .ok (.iload_n 2, 1) := by decide +kernel
theorem dX9_lines_47 : decode cX9_lines 47 = .ok (.iadd, 1) := by decide +kernel
theorem dX9_lines_48 : decode cX9_lines 48 = .ok (.iaload, 1) := by decide +kernel
theorem dX9_lines_49 : decode cX9_lines 49 = .ok (.iastore, 1) := by decide +kernel
theorem dX9_lines_50 : decode cX9_lines 50 = .ok (.aload_n 0, 1) := by decide +kernel
theorem dX9_lines_51 : decode cX9_lines 51 = .ok (.dup, 1) := by decide +kernel
theorem dX9_lines_52 : decode cX9_lines 52 = .ok (.getfield 178, 3) := by decide +kernel
theorem dX9_lines_55 : decode cX9_lines 55 = .ok (.iconst 1, 1) := by decide +kernel
theorem dX9_lines_56 : decode cX9_lines 56 = .ok (.iadd, 1) := by decide +kernel
theorem dX9_lines_57 : decode cX9_lines 57 = .ok (.putfield 178, 3) := by decide +kernel
theorem dX9_lines_60 : decode cX9_lines 60 = .ok (.iinc 2 1, 3) := by decide +kernel
theorem dX9_lines_63 : decode cX9_lines 63 = .ok (.goto (-56), 3) := by decide +kernel
theorem dX9_lines_66 : decode cX9_lines 66 = .ok (.return_, 1) := by decide +kernel
theorem dX9_through_0 : decode cX9_through 0 = .ok (.iload_n 1, 1) := by decide +kernel
theorem dX9_through_1 : decode cX9_through 1 = .ok (.iconst (-1), 1) := by decide +kernel
theorem dX9_through_2 : decode cX9_through 2 = .ok (.if_icmp .ge 11, 3) := by decide +kernel
theorem dX9_through_5 : decode cX9_through 5 = .ok (.aload_n 0, 1) := by decide +kernel
theorem dX9_through_6 : decode cX9_through 6 = .ok (.iconst 0, 1) := by decide +kernel
theorem dX9_through_7 : decode cX9_through 7 = .ok (.bipush (-10), 2) := by decide +kernel
theorem dX9_through_9 : decode cX9_through 9 = .ok (.invokevirtual 51, 3) := by decide +kernel
theorem dX9_through_12 : decode cX9_through 12 = .ok (.ireturn, 1) := by decide +kernel
theorem dX9_through_13 : decode cX9_through 13 = .ok (.aload_n 0, 1) := by decide +kernel
theorem dX9_through_14 : decode cX9_through 14 = .ok (.invokevirtual 145, 3) := by decide +kernel
theorem dX9_through_17 : decode cX9_through 17 = .ok (.ifCond .ne 11, 3) := by decide +kernel
theorem dX9_through_20 : decode cX9_through 20 = .ok (.aload_n 0, 1) := by decide +kernel
theorem dX9_through_21 : decode cX9_through 21 = .ok (.iconst 1, 1) := by decide +kernel
theorem dX9_through_22 : decode cX9_through 22 = .ok (.bipush (-20), 2) := by decide +kernel
theorem dX9_through_24 : decode cX9_through 24 = .ok (.invokevirtual 51, 3) := by decide +kernel
theorem dX9_through_27 : decode cX9_through 27 = .ok (.ireturn, 1) := by decide +kernel
theorem dX9_through_28 : decode cX9_through 28 = .ok (.aload_n 0, 1) := by decide +kernel
theorem dX9_through_29 : decode cX9_through 29 = .ok (.iconst (-1), 1) := by decide +kernel
theorem dX9_through_30 : decode cX9_through 30 = .ok (.invokevirtual 187, 3) := by decide +kernel
theorem dX9_through_33 : decode cX9_through 33 = .ok (.aload_n 0, 1) := by decide +kernel
theorem dX9_through_34 : decode cX9_through 34 = .ok (.invokevirtual 191, 3) := by decide +kernel
theorem dX9_through_37 : decode cX9_through 37 = .ok (.istore_n 2, 1) := by decide +kernel
theorem dX9_through_38 : decode cX9_through 38 = .ok (.iload_n 2, 1) := by decide +kernel
theorem dX9_through_39 : decode cX9_through 39 = .ok (.iconst (-1), 1) := by decide +kernel
theorem dX9_through_40 : decode cX9_through 40 = .ok (.if_icmp .eq 8, 3) := by decide +kernel
theorem dX9_through_43 : decode cX9_through 43 = .ok (.iload_n 1, 1) := by decide +kernel
theorem dX9_through_44 : decode cX9_through 44 = .ok (.iconst (-1), 1) := by decide +kernel
theorem dX9_through_45 : decode cX9_through 45 = .ok (.if_icmp .ne 7, 3) := by decide +kernel
theorem dX9_through_48 : decode cX9_through 48 = .ok (.iload_n 2, 1) := by decide +kernel
theorem dX9_through_49 : decode cX9_through 49 = .ok (.goto 22, 3) := by decide +kernel
theorem dX9_through_52 : decode cX9_through 52 = .ok (.iload_n 1, 1) := by decide +kernel
theorem dX9_through_53 : decode cX9_through 53 = .ok (.aload_n 0, 1) := by decide +kernel
theorem dX9_through_54 : decode cX9_through 54 = .ok (.getfield 178, 3) := by decide +kernel
theorem dX9_through_57 : decode cX9_through 57 = .ok (.if_icmp .ge 12, 3) := by decide +kernel
theorem dX9_through_60 : decode cX9_through 60 = .ok (.aload_n 0, 1) := by decide +kernel
theorem dX9_through_61 : decode cX9_through 61 = .ok (.getfield 32, 3) := by decide +kernel
theorem dX9_through_64 : decode cX9_through 64 = .ok (.iload_n 1, 1) := by decide +kernel
theorem dX9_through_65 : decode cX9_through 65 = .ok (.iaload, 1) := by decide +kernel
theorem dX9_through_66 : decode cX9_through 66 = .ok (.goto 5, 3) := by decide +kernel
theorem dX9_through_69 : decode cX9_through 69 = .ok (.bipush (-5), 2) := by decide +kernel
theorem dX9_through_71 : decode cX9_through 71 = .ok (.ireturn, 1) := by decide +kernel
theorem dX9_nextOrder_0 : decode cX9_nextOrder 0 = .ok (.aload_n 0, 1) := by decide +kernel
theorem dX9_nextOrder_1 : decode cX9_nextOrder 1 = .ok (.getfield 178, 3) := by decide +kernel
theorem dX9_nextOrder_4 : decode cX9_nextOrder 4 = .ok (.iconst 2, 1) := by decide +kernel
theorem dX9_nextOrder_5 : decode cX9_nextOrder 5 = .ok (.isub, 1) := by decide +kernel
theorem dX9_nextOrder_6 : decode cX9_nextOrder 6 = .ok (.istore_n 1, 1) := by decide +kernel
theorem dX9_nextOrder_7 : decode cX9_nextOrder 7 = .ok (.iload_n 1, 1) := by decide +kernel
theorem dX9_nextOrder_8 : decode cX9_nextOrder 8 = .ok (.ifCond .lt 26, 3) := by decide +kernel
theorem dX9_nextOrder_11 : decode cX9_nextOrder 11 = .ok (.aload_n 0, 1) := by decide +kernel
theorem dX9_nextOrder_12 : decode cX9_nextOrder 12 = .ok (.getfield 29, 3) := by decide +kernel
theorem dX9_nextOrder_15 : decode cX9_nextOrder 15 = .ok (.iload_n 1, 1) := by decide +kernel
theorem dX9_nextOrder_16 : decode cX9_nextOrder 16 = .ok (.iaload, 1) := by decide +kernel
theorem dX9_nextOrder_17 : decode cX9_nextOrder 17 = .ok (.aload_n 0, 1) := by decide +kernel
theorem dX9_nextOrder_18 : decode cX9_nextOrder 18 = .ok (.getfield 29, 3) := by decide +kernel
theorem dX9_nextOrder_21 : decode cX9_nextOrder 21 = .ok (.iload_n 1, 1) := by decide +kernel
theorem dX9_nextOrder_22 : decode cX9_nextOrder 22 = .ok (.iconst 1, 1) := by decide +kernel
theorem dX9_nextOrder_23 : decode cX9_nextOrder 23 = .ok (.iadd, 1) := by decide +kernel
theorem dX9_nextOrder_24 : decode cX9_nextOrder 24 = .ok (.iaload, 1) := by decide +kernel
theorem dX9_nextOrder_25 : decode cX9_nextOrder 25 = .ok (.if_icmp .le 9, 3) := by decide +kernel
theorem dX9_nextOrder_28 : decode cX9_nextOrder 28 = .ok (.iinc 1 (-1), 3) := by decide +kernel
theorem dX9_nextOrder_31 : decode cX9_nextOrder 31 = .ok (.goto (-24), 3) := by decide +kernel
theorem dX9_nextOrder_34 : decode cX9_nextOrder 34 = .ok (.iload_n 1, 1) := by decide +kernel
theorem dX9_nextOrder_35 : decode cX9_nextOrder 35 = .ok (.ifCond .ge 5, 3) := by decide +kernel
theorem dX9_nextOrder_38 : decode cX9_nextOrder 38 = .ok (.iconst 0, 1) := by decide +kernel
theorem dX9_nextOrder_39 : decode cX9_nextOrder 39 = .ok (.ireturn, 1) := by decide +kernel
theorem dX9_nextOrder_40 : decode cX9_nextOrder 40 = .ok (.aload_n 0, 1) := by decide +kernel
theorem dX9_nextOrder_41 : decode cX9_nextOrder 41 = .ok (.getfield 178, 3) := by decide +kernel
theorem dX9_nextOrder_44 : decode cX9_nextOrder 44 = .ok (.iconst 1, 1) := by decide +kernel
theorem dX9_nextOrder_45 : decode cX9_nextOrder 45 = .ok (.isub, 1) := by decide +kernel
theorem dX9_nextOrder_46 : decode cX9_nextOrder 46 = .ok (.istore_n 2, 1) := by decide +kernel
theorem dX9_nextOrder_47 : decode cX9_nextOrder 47 = .ok (.aload_n 0, 1) := by decide +kernel
theorem dX9_nextOrder_48 : decode cX9_nextOrder 48 = .ok (.getfield 29, 3) := by decide +kernel
theorem dX9_nextOrder_51 : decode cX9_nextOrder 51 = .ok (.iload_n 2, 1) := by decide +kernel
theorem dX9_nextOrder_52 : decode cX9_nextOrder 52 = .ok (.iaload, 1) := by decide +kernel
theorem dX9_nextOrder_53 : decode cX9_nextOrder 53 = .ok (.aload_n 0, 1) := by decide +kernel
theorem dX9_nextOrder_54 : decode cX9_nextOrder 54 = .ok (.getfield 29, 3) := by decide +kernel
theorem dX9_nextOrder_57 : decode cX9_nextOrder 57 = .ok (.iload_n 1, 1) := by decide +kernel
theorem dX9_nextOrder_58 : decode cX9_nextOrder 58 = .ok (.iaload, 1) := by decide +kernel
theorem dX9_nextOrder_59 : decode cX9_nextOrder 59 = .ok (.if_icmp .ge 9, 3) := by decide +kernel
theorem dX9_nextOrder_62 : decode cX9_nextOrder 62 = .ok (.iinc 2 (-1), 3) := by decide +kernel
theorem dX9_nextOrder_65 : decode cX9_nextOrder 65 = .ok (.goto (-18), 3) := by decide +kernel
theorem dX9_nextOrder_68 : decode cX9_nextOrder 68 = .ok (.aload_n 0, 1) := by decide +kernel
theorem dX9_nextOrder_69 : decode cX9_nextOrder 69 = .ok (.getfield 29, 3) := by decide +kernel
theorem dX9_nextOrder_72 : decode cX9_nextOrder 72 = .ok (.iload_n 1, 1) := by decide +kernel
theorem dX9_nextOrder_73 : decode cX9_nextOrder 73 = .ok (.iaload, 1) := by decide +kernel
theorem dX9_nextOrder_74 : decode cX9_nextOrder 74 = .ok (.istore_n 3, 1) := by decide +kernel
theorem dX9_nextOrder_75 : decode cX9_nextOrder 75 = .ok (.aload_n 0, 1) := by decide +kernel
theorem dX9_nextOrder_76 : decode cX9_nextOrder 76 = .ok (.getfield 29, 3) := by decide +kernel
theorem dX9_nextOrder_79 : decode cX9_nextOrder 79 = .ok (.iload_n 1, 1) := by decide +kernel
theorem dX9_nextOrder_80 : decode cX9_nextOrder 80 = .ok (.aload_n 0, 1) := by decide +kernel
theorem dX9_nextOrder_81 : decode cX9_nextOrder 81 = .ok (.getfield 29, 3) := by decide +kernel
theorem dX9_nextOrder_84 : decode cX9_nextOrder 84 = .ok (.iload_n 2, 1) := by decide +kernel
theorem dX9_nextOrder_85 : decode cX9_nextOrder 85 = .ok (.iaload, 1) := by decide +kernel
theorem dX9_nextOrder_86 : decode cX9_nextOrder 86 = .ok (.iastore, 1) := by decide +kernel
theorem dX9_nextOrder_87 : decode cX9_nextOrder 87 = .ok (.aload_n 0, 1) := by decide +kernel
theorem dX9_nextOrder_88 : decode cX9_nextOrder 88 = .ok (.getfield 29, 3) := by decide +kernel
theorem dX9_nextOrder_91 : decode cX9_nextOrder 91 = .ok (.iload_n 2, 1) := by decide +kernel
theorem dX9_nextOrder_92 : decode cX9_nextOrder 92 = .ok (.iload_n 3, 1) := by decide +kernel
theorem dX9_nextOrder_93 : decode cX9_nextOrder 93 = .ok (.iastore, 1) := by decide +kernel
theorem dX9_nextOrder_94 : decode cX9_nextOrder 94 = .ok (.iload_n 1, 1) := by decide +kernel
theorem dX9_nextOrder_95 : decode cX9_nextOrder 95 = .ok (.iconst 1, 1) := by decide +kernel
theorem dX9_nextOrder_96 : decode cX9_nextOrder 96 = .ok (.iadd, 1) := by decide +kernel
theorem dX9_nextOrder_97 : decode cX9_nextOrder 97 = .ok (.istore 4, 2) := by decide +kernel
theorem dX9_nextOrder_99 : decode cX9_nextOrder 99 = .ok (.aload_n 0, 1) := by decide +kernel
theorem dX9_nextOrder_100 : decode cX9_nextOrder 100 = .ok (.getfield 178, 3) := by decide +kernel
theorem dX9_nextOrder_103 : decode cX9_nextOrder 103 = .ok (.iconst 1, 1) := by decide +kernel
theorem dX9_nextOrder_104 : decode cX9_nextOrder 104 = .ok (.isub, 1) := by decide +kernel
theorem dX9_nextOrder_105 : decode cX9_nextOrder 105 = .ok (.istore 5, 2) := by decide +kernel
theorem dX9_nextOrder_107 : decode cX9_nextOrder 107 = .ok (.iload 4, 2) := by decide +kernel
theorem dX9_nextOrder_109 : decode cX9_nextOrder 109 = .ok (.iload 5, 2) := by decide +kernel
theorem dX9_nextOrder_111 : decode cX9_nextOrder 111 = .ok (.if_icmp .ge 42, 3) := by decide +kernel
theorem dX9_nextOrder_114 : decode cX9_nextOrder 114 = .ok (.aload_n 0, 1) := by decide +kernel
theorem dX9_nextOrder_115 : decode cX9_nextOrder 115 = .ok (.getfield 29, 3) := by decide +kernel
theorem dX9_nextOrder_118 : decode cX9_nextOrder 118 = .ok (.iload 4, 2) := by decide +kernel
theorem dX9_nextOrder_120 : decode cX9_nextOrder 120 = .ok (.iaload, 1) := by decide +kernel
theorem dX9_nextOrder_121 : decode cX9_nextOrder 121 = .ok (.istore_n 3, 1) := by decide +kernel
theorem dX9_nextOrder_122 : decode cX9_nextOrder 122 = .ok (.aload_n 0, 1) := by decide +kernel
theorem dX9_nextOrder_123 : decode cX9_nextOrder 123 = .ok (.getfield 29, 3) := by decide +kernel
theorem dX9_nextOrder_126 : decode cX9_nextOrder 126 = .ok (.iload 4, 2) := by decide +kernel
theorem dX9_nextOrder_128 : decode cX9_nextOrder 128 = .ok (.aload_n 0, 1) := by decide +kernel
theorem dX9_nextOrder_129 : decode cX9_nextOrder 129 = .ok (.getfield 29, 3) := by decide +kernel
theorem dX9_nextOrder_132 : decode cX9_nextOrder 132 = .ok (.iload 5, 2) := by decide +kernel
theorem dX9_nextOrder_134 : decode cX9_nextOrder 134 = .ok (.iaload, 1) := by decide +kernel
theorem dX9_nextOrder_135 : decode cX9_nextOrder 135 = .ok (.iastore, 1) := by decide +kernel
theorem dX9_nextOrder_136 : decode cX9_nextOrder 136 = .ok (.aload_n 0, 1) := by decide +kernel
theorem dX9_nextOrder_137 : decode cX9_nextOrder 137 = .ok (.getfield 29, 3) := by decide +kernel
theorem dX9_nextOrder_140 : decode cX9_nextOrder 140 = .ok (.iload 5, 2) := by decide +kernel
theorem dX9_nextOrder_142 : decode cX9_nextOrder 142 = .ok (.iload_n 3, 1) := by decide +kernel
theorem dX9_nextOrder_143 : decode cX9_nextOrder 143 = .ok (.iastore, 1) := by decide +kernel
theorem dX9_nextOrder_144 : decode cX9_nextOrder 144 = .ok (.iinc 4 1, 3) := by decide +kernel
theorem dX9_nextOrder_147 : decode cX9_nextOrder 147 = .ok (.iinc 5 (-1), 3) := by decide +kernel
theorem dX9_nextOrder_150 : decode cX9_nextOrder 150 = .ok (.goto (-43), 3) := by decide +kernel
theorem dX9_nextOrder_153 : decode cX9_nextOrder 153 = .ok (.iconst 1, 1) := by decide +kernel
theorem dX9_nextOrder_154 : decode cX9_nextOrder 154 = .ok (.ireturn, 1) := by decide +kernel
theorem dX9_soonest_0 : decode cX9_soonest 0 = .ok (.iload_n 1, 1) := by decide +kernel
theorem dX9_soonest_1 : decode cX9_soonest 1 = .ok (.iconst (-1), 1) := by decide +kernel
theorem dX9_soonest_2 : decode cX9_soonest 2 = .ok (.if_icmp .ge 11, 3) := by decide +kernel
theorem dX9_soonest_5 : decode cX9_soonest 5 = .ok (.aload_n 0, 1) := by decide +kernel
theorem dX9_soonest_6 : decode cX9_soonest 6 = .ok (.iconst 0, 1) := by decide +kernel
theorem dX9_soonest_7 : decode cX9_soonest 7 = .ok (.bipush (-10), 2) := by decide +kernel
theorem dX9_soonest_9 : decode cX9_soonest 9 = .ok (.invokevirtual 51, 3) := by decide +kernel
theorem dX9_soonest_12 : decode cX9_soonest 12 = .ok (.ireturn, 1) := by decide +kernel
theorem dX9_soonest_13 : decode cX9_soonest 13 = .ok (.aload_n 0, 1) := by decide +kernel
theorem dX9_soonest_14 : decode cX9_soonest 14 = .ok (.invokevirtual 145, 3) := by decide +kernel
theorem dX9_soonest_17 : decode cX9_soonest 17 = .ok (.ifCond .eq 14, 3) := by decide +kernel
theorem dX9_soonest_20 : decode cX9_soonest 20 = .ok (.aload_n 0, 1) := by decide +kernel
theorem dX9_soonest_21 : decode cX9_soonest 21 = .ok (.getfield 7, 3) := by decide +kernel
theorem dX9_soonest_24 : decode cX9_soonest 24 = .ok (.iconst 2, 1) := by decide +kernel
theorem dX9_soonest_25 : decode cX9_soonest 25 = .ok (.iaload, 1) := by decide +kernel
theorem dX9_soonest_26 : decode cX9_soonest 26 = .ok (.bipush 6, 2) := by decide +kernel
theorem dX9_soonest_28 : decode cX9_soonest 28 = .ok (.if_icmp .le 11, 3) := by decide +kernel
theorem dX9_soonest_31 : decode cX9_soonest 31 = .ok (.aload_n 0, 1) := by decide +kernel
theorem dX9_soonest_32 : decode cX9_soonest 32 = .ok (.iconst 1, 1) := by decide +kernel
theorem dX9_soonest_33 : decode cX9_soonest 33 = .ok (.bipush (-20), 2) := by decide +kernel
theorem dX9_soonest_35 : decode cX9_soonest 35 = .ok (.invokevirtual 51, 3) := by decide +kernel
theorem dX9_soonest_38 : decode cX9_soonest 38 = .ok (.ireturn, 1) := by decide +kernel
theorem dX9_soonest_39 : decode cX9_soonest 39 = .ok (.aload_n 0, 1) := by decide +kernel
theorem dX9_soonest_40 : decode cX9_soonest 40 = .ok (.iconst 0, 1) := by decide +kernel
theorem dX9_soonest_41 : decode cX9_soonest 41 = .ok (.putfield 178, 3) := by decide +kernel
theorem dX9_soonest_44 : decode cX9_soonest 44 = .ok (.iconst 0, 1) := by decide +kernel
theorem dX9_soonest_45 : decode cX9_soonest 45 = .ok (.istore_n 2, 1) := by decide +kernel
theorem dX9_soonest_46 : decode cX9_soonest 46 = .ok (.iload_n 2, 1) := by decide +kernel
theorem dX9_soonest_47 : decode cX9_soonest 47 = .ok (.aload_n 0, 1) := by decide +kernel
theorem dX9_soonest_48 : decode cX9_soonest 48 = .ok (.getfield 7, 3) := by decide +kernel
theorem dX9_soonest_51 : decode cX9_soonest 51 = .ok (.iconst 0, 1) := by decide +kernel
theorem dX9_soonest_52 : decode cX9_soonest 52 = .ok (.iaload, 1) := by decide +kernel
theorem dX9_soonest_53 : decode cX9_soonest 53 = .ok (.if_icmp .ge 61, 3) := by decide +kernel
theorem dX9_soonest_56 : decode cX9_soonest 56 = .ok (.iconst 0, 1) := by decide +kernel
theorem dX9_soonest_57 : decode cX9_soonest 57 = .ok (.istore_n 3, 1) := by decide +kernel
theorem dX9_soonest_58 : decode cX9_soonest 58 = .ok (.iload_n 3, 1) := by decide +kernel
theorem dX9_soonest_59 : decode cX9_soonest 59 = .ok (.aload_n 0, 1) := by decide +kernel
theorem dX9_soonest_60 : decode cX9_soonest 60 = .ok (.getfield 7, 3) := by decide +kernel
theorem dX9_soonest_63 : decode cX9_soonest 63 = .ok (.iconst 2, 1) := by decide +kernel
theorem dX9_soonest_64 : decode cX9_soonest 64 = .ok (.iaload, 1) := by decide +kernel
theorem dX9_soonest_65 : decode cX9_soonest 65 = .ok (.if_icmp .ge 43, 3) := by decide +kernel
theorem dX9_soonest_68 : decode cX9_soonest 68 = .ok (.aload_n 0, 1) := by decide +kernel
theorem dX9_soonest_69 : decode cX9_soonest 69 = .ok (.getfield 7, 3) := by decide +kernel
theorem dX9_soonest_72 : decode cX9_soonest 72 = .ok (.sipush 164, 3) := by decide +kernel
theorem dX9_soonest_75 : decode cX9_soonest 75 = .ok (.iload_n 3, 1) := by decide +kernel
theorem dX9_soonest_76 : decode cX9_soonest 76 = .ok (.iadd, 1) := by decide +kernel
theorem dX9_soonest_77 : decode cX9_soonest 77 = .ok (.iaload, 1) := by decide +kernel
theorem dX9_soonest_78 : decode cX9_soonest 78 = .ok (.iload_n 2, 1) := by decide +kernel
theorem dX9_soonest_79 : decode cX9_soonest 79 = .ok (.if_icmp .ne 23, 3) := by decide +kernel
theorem dX9_soonest_82 : decode cX9_soonest 82 = .ok (.aload_n 0, 1) := by decide +kernel
theorem dX9_soonest_83 : decode cX9_soonest 83 = .ok (.getfield 29, 3) := by decide +kernel
theorem dX9_soonest_86 : decode cX9_soonest 86 = .ok (.aload_n 0, 1) := by decide +kernel
theorem dX9_soonest_87 : decode cX9_soonest 87 = .ok (.getfield 178, 3) := by decide +kernel
theorem dX9_soonest_90 : decode cX9_soonest 90 = .ok (.iload_n 2, 1) := by decide +kernel
theorem dX9_soonest_91 : decode cX9_soonest 91 = .ok (.iastore, 1) := by decide +kernel
theorem dX9_soonest_92 : decode cX9_soonest 92 = .ok (.aload_n 0, 1) := by decide +kernel
theorem dX9_soonest_93 : decode cX9_soonest 93 = .ok (.dup, 1) := by decide +kernel
theorem dX9_soonest_94 : decode cX9_soonest 94 = .ok (.getfield 178, 3) := by decide +kernel
theorem dX9_soonest_97 : decode cX9_soonest 97 = .ok (.iconst 1, 1) := by decide +kernel
theorem dX9_soonest_98 : decode cX9_soonest 98 = .ok (.iadd, 1) := by decide +kernel
theorem dX9_soonest_99 : decode cX9_soonest 99 = .ok (.putfield 178, 3) := by decide +kernel
theorem dX9_soonest_102 : decode cX9_soonest 102 = .ok (.iinc 3 1, 3) := by decide +kernel
theorem dX9_soonest_105 : decode cX9_soonest 105 = .ok (.goto (-47), 3) := by decide +kernel
theorem dX9_soonest_108 : decode cX9_soonest 108 = .ok (.iinc 2 1, 3) := by decide +kernel
theorem dX9_soonest_111 : decode cX9_soonest 111 = .ok (.goto (-65), 3) := by decide +kernel
theorem dX9_soonest_114 : decode cX9_soonest 114 = .ok (.iconst (-1), 1) := by decide +kernel
theorem dX9_soonest_115 : decode cX9_soonest 115 = .ok (.istore_n 2, 1) := by decide +kernel
theorem dX9_soonest_116 : decode cX9_soonest 116 = .ok (.iconst 1, 1) := by decide +kernel
theorem dX9_soonest_117 : decode cX9_soonest 117 = .ok (.istore_n 3, 1) := by decide +kernel
theorem dX9_soonest_118 : decode cX9_soonest 118 = .ok (.iload_n 3, 1) := by decide +kernel
theorem dX9_soonest_119 : decode cX9_soonest 119 = .ok (.ifCond .eq 69, 3) := by decide +kernel
theorem dX9_soonest_122 : decode cX9_soonest 122 = .ok (.aload_n 0, 1) := by decide +kernel
theorem dX9_soonest_123 : decode cX9_soonest 123 = .ok (.invokevirtual 191, 3) := by decide +kernel
theorem dX9_soonest_126 : decode cX9_soonest 126 = .ok (.istore 4, 2) := by decide +kernel
theorem dX9_soonest_128 : decode cX9_soonest 128 = .ok (.iload 4, 2) := by decide +kernel
theorem dX9_soonest_130 : decode cX9_soonest 130 = .ok (.iconst (-1), 1) := by decide +kernel
theorem dX9_soonest_131 : decode cX9_soonest 131 = .ok (.if_icmp .eq 49, 3) := by decide +kernel
theorem dX9_soonest_134 : decode cX9_soonest 134 = .ok (.iload_n 2, 1) := by decide +kernel
theorem dX9_soonest_135 : decode cX9_soonest 135 = .ok (.iconst (-1), 1) := by decide +kernel
theorem dX9_soonest_136 : decode cX9_soonest 136 = .ok (.if_icmp .eq 9, 3) := by decide +kernel
theorem dX9_soonest_139 : decode cX9_soonest 139 = .ok (.iload 4, 2) := by decide +kernel
theorem dX9_soonest_141 : decode cX9_soonest 141 = .ok (.iload_n 2, 1) := by decide +kernel
theorem dX9_soonest_142 : decode cX9_soonest 142 = .ok (.if_icmp .ge 38, 3) := by decide +kernel
theorem dX9_soonest_145 : decode cX9_soonest 145 = .ok (.iload 4, 2) := by decide +kernel
theorem dX9_soonest_147 : decode cX9_soonest 147 = .ok (.istore_n 2, 1) := by decide +kernel
theorem dX9_soonest_148 : decode cX9_soonest 148 = .ok (.iconst 0, 1) := by decide +kernel
theorem dX9_soonest_149 : decode cX9_soonest 149 = .ok (.istore 5, 2) := by decide +kernel
theorem dX9_soonest_151 : decode cX9_soonest 151 = .ok (.iload 5, 2) := by decide +kernel
theorem dX9_soonest_153 : decode cX9_soonest 153 = .ok (.aload_n 0, 1) := by decide +kernel
theorem dX9_soonest_154 : decode cX9_soonest 154 = .ok (.getfield 178, 3) := by decide +kernel
theorem dX9_soonest_157 : decode cX9_soonest 157 = .ok (.if_icmp .ge 23, 3) := by decide +kernel
theorem dX9_soonest_160 : decode cX9_soonest 160 = .ok (.aload_n 0, 1) := by decide +kernel
theorem dX9_soonest_161 : decode cX9_soonest 161 = .ok (.getfield 35, 3) := by decide +kernel
theorem dX9_soonest_164 : decode cX9_soonest 164 = .ok (.iload 5, 2) := by decide +kernel
theorem dX9_soonest_166 : decode cX9_soonest 166 = .ok (.aload_n 0, 1) := by decide +kernel
theorem dX9_soonest_167 : decode cX9_soonest 167 = .ok (.getfield 29, 3) := by decide +kernel
theorem dX9_soonest_170 : decode cX9_soonest 170 = .ok (.iload 5, 2) := by decide +kernel
theorem dX9_soonest_172 : decode cX9_soonest 172 = .ok (.iaload, 1) := by decide +kernel
theorem dX9_soonest_173 : decode cX9_soonest 173 = .ok (.iastore, 1) := by decide +kernel
theorem dX9_soonest_174 : decode cX9_soonest 174 = .ok (.iinc 5 1, 3) := by decide +kernel
theorem dX9_soonest_177 : decode cX9_soonest 177 = .ok (.goto (-26), 3) := by decide +kernel
theorem dX9_soonest_180 : decode cX9_soonest 180 = .ok (.aload_n 0, 1) := by decide +kernel
theorem dX9_soonest_181 : decode cX9_soonest 181 = .ok (.invokevirtual 194, 3) := by decide +kernel
theorem dX9_soonest_184 : decode cX9_soonest 184 = .ok (.istore_n 3, 1) := by decide +kernel
theorem dX9_soonest_185 : decode cX9_soonest 185 = .ok (.goto (-67), 3) := by decide +kernel
theorem dX9_soonest_188 : decode cX9_soonest 188 = .ok (.iload_n 2, 1) := by decide +kernel
theorem dX9_soonest_189 : decode cX9_soonest 189 = .ok (.iconst (-1), 1) := by decide +kernel
theorem dX9_soonest_190 : decode cX9_soonest 190 = .ok (.if_icmp .ne 13, 3) := by decide +kernel
theorem dX9_soonest_193 : decode cX9_soonest 193 = .ok (.aload_n 0, 1) := by decide +kernel
theorem dX9_soonest_194 : decode cX9_soonest 194 = .ok (.iconst 1, 1) := by decide +kernel
theorem dX9_soonest_195 : decode cX9_soonest 195 = .ok (.bipush (-20), 2) := by decide +kernel
theorem dX9_soonest_197 : decode cX9_soonest 197 = .ok (.invokevirtual 51, 3) := by decide +kernel
theorem dX9_soonest_200 : decode cX9_soonest 200 = .ok (.goto 31, 3) := by decide +kernel
theorem dX9_soonest_203 : decode cX9_soonest 203 = .ok (.iload_n 1, 1) := by decide +kernel
theorem dX9_soonest_204 : decode cX9_soonest 204 = .ok (.iconst (-1), 1) := by decide +kernel
theorem dX9_soonest_205 : decode cX9_soonest 205 = .ok (.if_icmp .ne 7, 3) := by decide +kernel
theorem dX9_soonest_208 : decode cX9_soonest 208 = .ok (.iload_n 2, 1) := by decide +kernel
theorem dX9_soonest_209 : decode cX9_soonest 209 = .ok (.goto 22, 3) := by decide +kernel
theorem dX9_soonest_212 : decode cX9_soonest 212 = .ok (.iload_n 1, 1) := by decide +kernel
theorem dX9_soonest_213 : decode cX9_soonest 213 = .ok (.aload_n 0, 1) := by decide +kernel
theorem dX9_soonest_214 : decode cX9_soonest 214 = .ok (.getfield 178, 3) := by decide +kernel
theorem dX9_soonest_217 : decode cX9_soonest 217 = .ok (.if_icmp .ge 12, 3) := by decide +kernel
theorem dX9_soonest_220 : decode cX9_soonest 220 = .ok (.aload_n 0, 1) := by decide +kernel
theorem dX9_soonest_221 : decode cX9_soonest 221 = .ok (.getfield 35, 3) := by decide +kernel
theorem dX9_soonest_224 : decode cX9_soonest 224 = .ok (.iload_n 1, 1) := by decide +kernel
theorem dX9_soonest_225 : decode cX9_soonest 225 = .ok (.iaload, 1) := by decide +kernel
theorem dX9_soonest_226 : decode cX9_soonest 226 = .ok (.goto 5, 3) := by decide +kernel
theorem dX9_soonest_229 : decode cX9_soonest 229 = .ok (.bipush (-5), 2) := by decide +kernel
theorem dX9_soonest_231 : decode cX9_soonest 231 = .ok (.ireturn, 1) := by decide +kernel
theorem dX9_avoid_0 : decode cX9_avoid 0 = .ok (.aload_n 0, 1) := by decide +kernel
theorem dX9_avoid_1 : decode cX9_avoid 1 = .ok (.invokevirtual 145, 3) := by decide +kernel
theorem dX9_avoid_4 : decode cX9_avoid 4 = .ok (.ifCond .ne 8, 3) := by decide +kernel
theorem dX9_avoid_7 : decode cX9_avoid 7 = .ok (.aload_n 0, 1) := by decide +kernel
theorem dX9_avoid_8 : decode cX9_avoid 8 = .ok (.invokevirtual 151, 3) := by decide +kernel
theorem dX9_avoid_11 : decode cX9_avoid 11 = .ok (.ireturn, 1) := by decide +kernel
theorem dX9_avoid_12 : decode cX9_avoid 12 = .ok (.iconst (-1), 1) := by decide +kernel
theorem dX9_avoid_13 : decode cX9_avoid 13 = .ok (.istore_n 1, 1) := by decide +kernel
theorem dX9_avoid_14 : decode cX9_avoid 14 = .ok (.iconst 0, 1) := by decide +kernel
theorem dX9_avoid_15 : decode cX9_avoid 15 = .ok (.istore_n 2, 1) := by decide +kernel
theorem dX9_avoid_16 : decode cX9_avoid 16 = .ok (.iconst 0, 1) := by decide +kernel
theorem dX9_avoid_17 : decode cX9_avoid 17 = .ok (.istore_n 3, 1) := by decide +kernel
theorem dX9_avoid_18 : decode cX9_avoid 18 = .ok (.iload_n 3, 1) := by decide +kernel
theorem dX9_avoid_19 : decode cX9_avoid 19 = .ok (.aload_n 0, 1) := by decide +kernel
theorem dX9_avoid_20 : decode cX9_avoid 20 = .ok (.getfield 7, 3) := by decide +kernel
theorem dX9_avoid_23 : decode cX9_avoid 23 = .ok (.iconst 2, 1) := by decide +kernel
theorem dX9_avoid_24 : decode cX9_avoid 24 = .ok (.iaload, 1) := by decide +kernel
theorem dX9_avoid_25 : decode cX9_avoid 25 = .ok (.if_icmp .ge 70, 3) := by decide +kernel
theorem dX9_avoid_28 : decode cX9_avoid 28 = .ok (.aload_n 0, 1) := by decide +kernel
theorem dX9_avoid_29 : decode cX9_avoid 29 = .ok (.aload_n 0, 1) := by decide +kernel
theorem dX9_avoid_30 : decode cX9_avoid 30 = .ok (.getfield 7, 3) := by decide +kernel
theorem dX9_avoid_33 : decode cX9_avoid 33 = .ok (.sipush 164, 3) := by decide +kernel
theorem dX9_avoid_36 : decode cX9_avoid 36 = .ok (.iload_n 3, 1) := by decide +kernel
theorem dX9_avoid_37 : decode cX9_avoid 37 = .ok (.iadd, 1) := by decide +kernel
theorem dX9_avoid_38 : decode cX9_avoid 38 = .ok (.iaload, 1) := by decide +kernel
theorem dX9_avoid_39 : decode cX9_avoid 39 = .ok (.invokevirtual 187, 3) := by decide +kernel
theorem dX9_avoid_42 : decode cX9_avoid 42 = .ok (.aload_n 0, 1) := by decide +kernel
theorem dX9_avoid_43 : decode cX9_avoid 43 = .ok (.invokevirtual 191, 3) := by decide +kernel
theorem dX9_avoid_46 : decode cX9_avoid 46 = .ok (.istore 4, 2) := by decide +kernel
theorem dX9_avoid_48 : decode cX9_avoid 48 = .ok (.iload 4, 2) := by decide +kernel
theorem dX9_avoid_50 : decode cX9_avoid 50 = .ok (.iconst (-1), 1) := by decide +kernel
theorem dX9_avoid_51 : decode cX9_avoid 51 = .ok (.if_icmp .ne 9, 3) := by decide +kernel
theorem dX9_avoid_54 : decode cX9_avoid 54 = .ok (.sipush 999, 3) := by decide +kernel
theorem dX9_avoid_57 : decode cX9_avoid 57 = .ok (.goto 5, 3) := by decide +kernel
theorem dX9_avoid_60 : decode cX9_avoid 60 = .ok (.iload 4, 2) := by decide +kernel
theorem dX9_avoid_62 : decode cX9_avoid 62 = .ok (.istore 4, 2) := by decide +kernel
theorem dX9_avoid_64 : decode cX9_avoid 64 = .ok (.iload_n 1, 1) := by decide +kernel
theorem dX9_avoid_65 : decode cX9_avoid 65 = .ok (.iconst (-1), 1) := by decide +kernel
theorem dX9_avoid_66 : decode cX9_avoid 66 = .ok (.if_icmp .eq 9, 3) := by decide +kernel
theorem dX9_avoid_69 : decode cX9_avoid 69 = .ok (.iload 4, 2) := by decide +kernel
theorem dX9_avoid_71 : decode cX9_avoid 71 = .ok (.iload_n 2, 1) := by decide +kernel
theorem dX9_avoid_72 : decode cX9_avoid 72 = .ok (.if_icmp .ge 17, 3) := by decide +kernel
theorem dX9_avoid_75 : decode cX9_avoid 75 = .ok (.aload_n 0, 1) := by decide +kernel
theorem dX9_avoid_76 : decode cX9_avoid 76 = .ok (.getfield 7, 3) := by decide +kernel
theorem dX9_avoid_79 : decode cX9_avoid 79 = .ok (.sipush 164, 3) := by decide +kernel
theorem dX9_avoid_82 : decode cX9_avoid 82 = .ok (.iload_n 3, 1) := by decide +kernel
theorem dX9_avoid_83 : decode cX9_avoid 83 = .ok (.iadd, 1) := by decide +kernel
theorem dX9_avoid_84 : decode cX9_avoid 84 = .ok (.iaload, 1) := by decide +kernel
theorem dX9_avoid_85 : decode cX9_avoid 85 = .ok (.istore_n 1, 1) := by decide +kernel
theorem dX9_avoid_86 : decode cX9_avoid 86 = .ok (.iload 4, 2) := by decide +kernel
theorem dX9_avoid_88 : decode cX9_avoid 88 = .ok (.istore_n 2, 1) := by decide +kernel
theorem dX9_avoid_89 : decode cX9_avoid 89 = .ok (.iinc 3 1, 3) := by decide +kernel
theorem dX9_avoid_92 : decode cX9_avoid 92 = .ok (.goto (-74), 3) := by decide +kernel
theorem dX9_avoid_95 : decode cX9_avoid 95 = .ok (.iload_n 1, 1) := by decide +kernel
theorem dX9_avoid_96 : decode cX9_avoid 96 = .ok (.ireturn, 1) := by decide +kernel
theorem dX9_isDoor_0 : decode cX9_isDoor 0 = .ok (.iload_n 0, 1) := by decide +kernel
theorem dX9_isDoor_1 : decode cX9_isDoor 1 = .ok (.i2l, 1) := by decide +kernel
theorem dX9_isDoor_2 : decode cX9_isDoor 2 = .ok (.lconst 0, 1) := by decide +kernel
theorem dX9_isDoor_3 : decode cX9_isDoor 3 = .ok (.ldc2_w 63, 3) := by decide +kernel
theorem dX9_isDoor_6 : decode cX9_isDoor 6 = .ok (.invokestatic 55, 3) := by decide +kernel
theorem dX9_isDoor_9 : decode cX9_isDoor 9 = .ok (.ireturn, 1) := by decide +kernel
theorem dX9_waits_0 : decode cX9_waits 0 = .ok (.iload_n 1, 1) := by decide +kernel
theorem dX9_waits_1 : decode cX9_waits 1 = .ok (.invokestatic 197, 3) := by decide +kernel
theorem dX9_waits_4 : decode cX9_waits 4 = .ok (.ifCond .eq 16, 3) := by decide +kernel
theorem dX9_waits_7 : decode cX9_waits 7 = .ok (.iload_n 2, 1) := by decide +kernel
theorem dX9_waits_8 : decode cX9_waits 8 = .ok (.iconst (-1), 1) := by decide +kernel
theorem dX9_waits_9 : decode cX9_waits 9 = .ok (.if_icmp .eq 19, 3) := by decide +kernel
theorem dX9_waits_12 : decode cX9_waits 12 = .ok (.aload_n 0, 1) := by decide +kernel
theorem dX9_waits_13 : decode cX9_waits 13 = .ok (.iload_n 2, 1) := by decide +kernel
theorem dX9_waits_14 : decode cX9_waits 14 = .ok (.invokevirtual 59, 3) := by decide +kernel
theorem dX9_waits_17 : decode cX9_waits 17 = .ok (.ifCond .ne 11, 3) := by decide +kernel
theorem dX9_waits_20 : decode cX9_waits 20 = .ok (.aload_n 0, 1) := by decide +kernel
theorem dX9_waits_21 : decode cX9_waits 21 = .ok (.iconst 0, 1) := by decide +kernel
theorem dX9_waits_22 : decode cX9_waits 22 = .ok (.bipush (-10), 2) := by decide +kernel
theorem dX9_waits_24 : decode cX9_waits 24 = .ok (.invokevirtual 51, 3) := by decide +kernel
theorem dX9_waits_27 : decode cX9_waits 27 = .ok (.ireturn, 1) := by decide +kernel
theorem dX9_waits_28 : decode cX9_waits 28 = .ok (.aload_n 0, 1) := by decide +kernel
theorem dX9_waits_29 : decode cX9_waits 29 = .ok (.getfield 7, 3) := by decide +kernel
theorem dX9_waits_32 : decode cX9_waits 32 = .ok (.sipush 172, 3) := by decide +kernel
theorem dX9_waits_35 : decode cX9_waits 35 = .ok (.iload_n 1, 1) := by decide +kernel
theorem dX9_waits_36 : decode cX9_waits 36 = .ok (.iadd, 1) := by decide +kernel
theorem dX9_waits_37 : decode cX9_waits 37 = .ok (.iaload, 1) := by decide +kernel
theorem dX9_waits_38 : decode cX9_waits 38 = .ok (.istore_n 3, 1) := by decide +kernel
theorem dX9_waits_39 : decode cX9_waits 39 = .ok (.aload_n 0, 1) := by decide +kernel
theorem dX9_waits_40 : decode cX9_waits 40 = .ok (.getfield 7, 3) := by decide +kernel
theorem dX9_waits_43 : decode cX9_waits 43 = .ok (.sipush 172, 3) := by decide +kernel
theorem dX9_waits_46 : decode cX9_waits 46 = .ok (.iload_n 1, 1) := by decide +kernel
theorem dX9_waits_47 : decode cX9_waits 47 = .ok (.iadd, 1) := by decide +kernel
theorem dX9_waits_48 : decode cX9_waits 48 = .ok (.iload_n 2, 1) := by decide +kernel
theorem dX9_waits_49 : decode cX9_waits 49 = .ok (.iastore, 1) := by decide +kernel
theorem dX9_waits_50 : decode cX9_waits 50 = .ok (.iload_n 3, 1) := by decide +kernel
theorem dX9_waits_51 : decode cX9_waits 51 = .ok (.ireturn, 1) := by decide +kernel
theorem dX9_leg_0 : decode cX9_leg 0 = .ok (.iload_n 1, 1) := by decide +kernel
theorem dX9_leg_1 : decode cX9_leg 1 = .ok (.invokestatic 197, 3) := by decide +kernel
theorem dX9_leg_4 : decode cX9_leg 4 = .ok (.ifCond .eq 27, 3) := by decide +kernel
theorem dX9_leg_7 : decode cX9_leg 7 = .ok (.iload_n 2, 1) := by decide +kernel
theorem dX9_leg_8 : decode cX9_leg 8 = .ok (.invokestatic 197, 3) := by decide +kernel
theorem dX9_leg_11 : decode cX9_leg 11 = .ok (.ifCond .eq 20, 3) := by decide +kernel
theorem dX9_leg_14 : decode cX9_leg 14 = .ok (.iload_n 1, 1) := by decide +kernel
theorem dX9_leg_15 : decode cX9_leg 15 = .ok (.iload_n 2, 1) := by decide +kernel
theorem dX9_leg_16 : decode cX9_leg 16 = .ok (.if_icmp .eq 15, 3) := by decide +kernel
theorem dX9_leg_19 : decode cX9_leg 19 = .ok (.iload_n 3, 1) := by decide +kernel
theorem dX9_leg_20 : decode cX9_leg 20 = .ok (.i2l, 1) := by decide +kernel
theorem dX9_leg_21 : decode cX9_leg 21 = .ok (.lconst 0, 1) := by decide +kernel
theorem dX9_leg_22 : decode cX9_leg 22 = .ok (.ldc2_w 65, 3) := by decide +kernel
theorem dX9_leg_25 : decode cX9_leg 25 = .ok (.invokestatic 55, 3) := by decide +kernel
theorem dX9_leg_28 : decode cX9_leg 28 = .ok (.ifCond .ne 8, 3) := by decide +kernel
theorem dX9_leg_31 : decode cX9_leg 31 = .ok (.aload_n 0, 1) := by decide +kernel
theorem dX9_leg_32 : decode cX9_leg 32 = .ok (.invokevirtual 69, 3) := by decide +kernel
theorem dX9_leg_35 : decode cX9_leg 35 = .ok (.ireturn, 1) := by decide +kernel
theorem dX9_leg_36 : decode cX9_leg 36 = .ok (.aload_n 0, 1) := by decide +kernel
theorem dX9_leg_37 : decode cX9_leg 37 = .ok (.getfield 7, 3) := by decide +kernel
theorem dX9_leg_40 : decode cX9_leg 40 = .ok (.sipush 180, 3) := by decide +kernel
theorem dX9_leg_43 : decode cX9_leg 43 = .ok (.bipush 6, 2) := by decide +kernel
theorem dX9_leg_45 : decode cX9_leg 45 = .ok (.iload_n 1, 1) := by decide +kernel
theorem dX9_leg_46 : decode cX9_leg 46 = .ok (.imul, 1) := by decide +kernel
theorem dX9_leg_47 : decode cX9_leg 47 = .ok (.iadd, 1) := by decide +kernel
theorem dX9_leg_48 : decode cX9_leg 48 = .ok (.iload_n 2, 1) := by decide +kernel
theorem dX9_leg_49 : decode cX9_leg 49 = .ok (.iadd, 1) := by decide +kernel
theorem dX9_leg_50 : decode cX9_leg 50 = .ok (.iaload, 1) := by decide +kernel
theorem dX9_leg_51 : decode cX9_leg 51 = .ok (.istore 4, 2) := by decide +kernel
theorem dX9_leg_53 : decode cX9_leg 53 = .ok (.aload_n 0, 1) := by decide +kernel
theorem dX9_leg_54 : decode cX9_leg 54 = .ok (.getfield 7, 3) := by decide +kernel
theorem dX9_leg_57 : decode cX9_leg 57 = .ok (.sipush 180, 3) := by decide +kernel
theorem dX9_leg_60 : decode cX9_leg 60 = .ok (.bipush 6, 2) := by decide +kernel
theorem dX9_leg_62 : decode cX9_leg 62 = .ok (.iload_n 1, 1) := by decide +kernel
theorem dX9_leg_63 : decode cX9_leg 63 = .ok (.imul, 1) := by decide +kernel
theorem dX9_leg_64 : decode cX9_leg 64 = .ok (.iadd, 1) := by decide +kernel
theorem dX9_leg_65 : decode cX9_leg 65 = .ok (.iload_n 2, 1) := by decide +kernel
theorem dX9_leg_66 : decode cX9_leg 66 = .ok (.iadd, 1) := by decide +kernel
theorem dX9_leg_67 : decode cX9_leg 67 = .ok (.iload_n 3, 1) := by decide +kernel
theorem dX9_leg_68 : decode cX9_leg 68 = .ok (.iastore, 1) := by decide +kernel
theorem dX9_leg_69 : decode cX9_leg 69 = .ok (.aload_n 0, 1) := by decide +kernel
theorem dX9_leg_70 : decode cX9_leg 70 = .ok (.getfield 7, 3) := by decide +kernel
theorem dX9_leg_73 : decode cX9_leg 73 = .ok (.sipush 180, 3) := by decide +kernel
theorem dX9_leg_76 : decode cX9_leg 76 = .ok (.bipush 6, 2) := by decide +kernel
theorem dX9_leg_78 : decode cX9_leg 78 = .ok (.iload_n 2, 1) := by decide +kernel
theorem dX9_leg_79 : decode cX9_leg 79 = .ok (.imul, 1) := by decide +kernel
theorem dX9_leg_80 : decode cX9_leg 80 = .ok (.iadd, 1) := by decide +kernel
theorem dX9_leg_81 : decode cX9_leg 81 = .ok (.iload_n 1, 1) := by decide +kernel
theorem dX9_leg_82 : decode cX9_leg 82 = .ok (.iadd, 1) := by decide +kernel
theorem dX9_leg_83 : decode cX9_leg 83 = .ok (.iload_n 3, 1) := by decide +kernel
theorem dX9_leg_84 : decode cX9_leg 84 = .ok (.iastore, 1) := by decide +kernel
theorem dX9_leg_85 : decode cX9_leg 85 = .ok (.iload 4, 2) := by decide +kernel
theorem dX9_leg_87 : decode cX9_leg 87 = .ok (.ireturn, 1) := by decide +kernel
theorem dX9_costOf_0 : decode cX9_costOf 0 = .ok (.aload_n 0, 1) := by decide +kernel
theorem dX9_costOf_1 : decode cX9_costOf 1 = .ok (.getfield 7, 3) := by decide +kernel
theorem dX9_costOf_4 : decode cX9_costOf 4 = .ok (.sipush 172, 3) := by decide +kernel
theorem dX9_costOf_7 : decode cX9_costOf 7 = .ok (.iload_n 2, 1) := by decide +kernel
theorem dX9_costOf_8 : decode cX9_costOf 8 = .ok (.iadd, 1) := by decide +kernel
theorem dX9_costOf_9 : decode cX9_costOf 9 = .ok (.iaload, 1) := by decide +kernel
theorem dX9_costOf_10 : decode cX9_costOf 10 = .ok (.istore_n 3, 1) := by decide +kernel
theorem dX9_costOf_11 : decode cX9_costOf 11 = .ok (.iload_n 3, 1) := by decide +kernel
theorem dX9_costOf_12 : decode cX9_costOf 12 = .ok (.iconst (-1), 1) := by decide +kernel
theorem dX9_costOf_13 : decode cX9_costOf 13 = .ok (.if_icmp .eq 8, 3) := by decide +kernel
theorem dX9_costOf_16 : decode cX9_costOf 16 = .ok (.iload_n 3, 1) := by decide +kernel
theorem dX9_costOf_17 : decode cX9_costOf 17 = .ok (.iload_n 1, 1) := by decide +kernel
theorem dX9_costOf_18 : decode cX9_costOf 18 = .ok (.if_icmp .ne 5, 3) := by decide +kernel
theorem dX9_costOf_21 : decode cX9_costOf 21 = .ok (.iconst 0, 1) := by decide +kernel
theorem dX9_costOf_22 : decode cX9_costOf 22 = .ok (.ireturn, 1) := by decide +kernel
theorem dX9_costOf_23 : decode cX9_costOf 23 = .ok (.aload_n 0, 1) := by decide +kernel
theorem dX9_costOf_24 : decode cX9_costOf 24 = .ok (.iload_n 3, 1) := by decide +kernel
theorem dX9_costOf_25 : decode cX9_costOf 25 = .ok (.iload_n 1, 1) := by decide +kernel
theorem dX9_costOf_26 : decode cX9_costOf 26 = .ok (.invokevirtual 171, 3) := by decide +kernel
theorem dX9_costOf_29 : decode cX9_costOf 29 = .ok (.istore 4, 2) := by decide +kernel
theorem dX9_costOf_31 : decode cX9_costOf 31 = .ok (.iload 4, 2) := by decide +kernel
theorem dX9_costOf_33 : decode cX9_costOf 33 = .ok (.iconst (-1), 1) := by decide +kernel
theorem dX9_costOf_34 : decode cX9_costOf 34 = .ok (.if_icmp .ne 7, 3) := by decide +kernel
theorem dX9_costOf_37 : decode cX9_costOf 37 = .ok (.iconst (-1), 1) := by decide +kernel
theorem dX9_costOf_38 : decode cX9_costOf 38 = .ok (.goto 19, 3) := by decide +kernel
theorem dX9_costOf_41 : decode cX9_costOf 41 = .ok (.aload_n 0, 1) := by decide +kernel
theorem dX9_costOf_42 : decode cX9_costOf 42 = .ok (.getfield 161, 3) := by decide +kernel
theorem dX9_costOf_45 : decode cX9_costOf 45 = .ok (.iload 4, 2) := by decide +kernel
theorem dX9_costOf_47 : decode cX9_costOf 47 = .ok (.iload_n 3, 1) := by decide +kernel
theorem dX9_costOf_48 : decode cX9_costOf 48 = .ok (.if_icmp .ne 7, 3) := by decide +kernel
theorem dX9_costOf_51 : decode cX9_costOf 51 = .ok (.iconst 1, 1) := by decide +kernel
theorem dX9_costOf_52 : decode cX9_costOf 52 = .ok (.goto 4, 3) := by decide +kernel
theorem dX9_costOf_55 : decode cX9_costOf 55 = .ok (.iconst 0, 1) := by decide +kernel
theorem dX9_costOf_56 : decode cX9_costOf 56 = .ok (.iadd, 1) := by decide +kernel
theorem dX9_costOf_57 : decode cX9_costOf 57 = .ok (.ireturn, 1) := by decide +kernel
theorem dX9_leads_0 : decode cX9_leads 0 = .ok (.iload_n 1, 1) := by decide +kernel
theorem dX9_leads_1 : decode cX9_leads 1 = .ok (.iload_n 2, 1) := by decide +kernel
theorem dX9_leads_2 : decode cX9_leads 2 = .ok (.if_icmp .eq 84, 3) := by decide +kernel
theorem dX9_leads_5 : decode cX9_leads 5 = .ok (.aload_n 0, 1) := by decide +kernel
theorem dX9_leads_6 : decode cX9_leads 6 = .ok (.getfield 7, 3) := by decide +kernel
theorem dX9_leads_9 : decode cX9_leads 9 = .ok (.sipush 180, 3) := by decide +kernel
theorem dX9_leads_12 : decode cX9_leads 12 = .ok (.bipush 6, 2) := by decide +kernel
theorem dX9_leads_14 : decode cX9_leads 14 = .ok (.iload_n 1, 1) := by decide +kernel
theorem dX9_leads_15 : decode cX9_leads 15 = .ok (.imul, 1) := by decide +kernel
theorem dX9_leads_16 : decode cX9_leads 16 = .ok (.iadd, 1) := by decide +kernel
theorem dX9_leads_17 : decode cX9_leads 17 = .ok (.iload_n 2, 1) := by decide +kernel
theorem dX9_leads_18 : decode cX9_leads 18 = .ok (.iadd, 1) := by decide +kernel
theorem dX9_leads_19 : decode cX9_leads 19 = .ok (.iaload, 1) := by decide +kernel
theorem dX9_leads_20 : decode cX9_leads 20 = .ok (.ifCond .le 66, 3) := by decide +kernel
theorem dX9_leads_23 : decode cX9_leads 23 = .ok (.aload_n 0, 1) := by decide +kernel
theorem dX9_leads_24 : decode cX9_leads 24 = .ok (.getfield 38, 3) := by decide +kernel
theorem dX9_leads_27 : decode cX9_leads 27 = .ok (.iload_n 2, 1) := by decide +kernel
theorem dX9_leads_28 : decode cX9_leads 28 = .ok (.iaload, 1) := by decide +kernel
theorem dX9_leads_29 : decode cX9_leads 29 = .ok (.iconst (-1), 1) := by decide +kernel
theorem dX9_leads_30 : decode cX9_leads 30 = .ok (.if_icmp .eq 56, 3) := by decide +kernel
theorem dX9_leads_33 : decode cX9_leads 33 = .ok (.aload_n 0, 1) := by decide +kernel
theorem dX9_leads_34 : decode cX9_leads 34 = .ok (.getfield 41, 3) := by decide +kernel
theorem dX9_leads_37 : decode cX9_leads 37 = .ok (.iload_n 2, 1) := by decide +kernel
theorem dX9_leads_38 : decode cX9_leads 38 = .ok (.iaload, 1) := by decide +kernel
theorem dX9_leads_39 : decode cX9_leads 39 = .ok (.ldc 200, 2) := by decide +kernel
theorem dX9_leads_41 : decode cX9_leads 41 = .ok (.if_icmp .ge 45, 3) := by decide +kernel
theorem dX9_leads_44 : decode cX9_leads 44 = .ok (.aload_n 0, 1) := by decide +kernel
theorem dX9_leads_45 : decode cX9_leads 45 = .ok (.getfield 41, 3) := by decide +kernel
theorem dX9_leads_48 : decode cX9_leads 48 = .ok (.iload_n 1, 1) := by decide +kernel
theorem dX9_leads_49 : decode cX9_leads 49 = .ok (.iaload, 1) := by decide +kernel
theorem dX9_leads_50 : decode cX9_leads 50 = .ok (.aload_n 0, 1) := by decide +kernel
theorem dX9_leads_51 : decode cX9_leads 51 = .ok (.getfield 7, 3) := by decide +kernel
theorem dX9_leads_54 : decode cX9_leads 54 = .ok (.sipush 180, 3) := by decide +kernel
theorem dX9_leads_57 : decode cX9_leads 57 = .ok (.bipush 6, 2) := by decide +kernel
theorem dX9_leads_59 : decode cX9_leads 59 = .ok (.iload_n 1, 1) := by decide +kernel
theorem dX9_leads_60 : decode cX9_leads 60 = .ok (.imul, 1) := by decide +kernel
theorem dX9_leads_61 : decode cX9_leads 61 = .ok (.iadd, 1) := by decide +kernel
theorem dX9_leads_62 : decode cX9_leads 62 = .ok (.iload_n 2, 1) := by decide +kernel
theorem dX9_leads_63 : decode cX9_leads 63 = .ok (.iadd, 1) := by decide +kernel
theorem dX9_leads_64 : decode cX9_leads 64 = .ok (.iaload, 1) := by decide +kernel
theorem dX9_leads_65 : decode cX9_leads 65 = .ok (.aload_n 0, 1) := by decide +kernel
theorem dX9_leads_66 : decode cX9_leads 66 = .ok (.getfield 38, 3) := by decide +kernel
theorem dX9_leads_69 : decode cX9_leads 69 = .ok (.iload_n 2, 1) := by decide +kernel
theorem dX9_leads_70 : decode cX9_leads 70 = .ok (.iaload, 1) := by decide +kernel
theorem dX9_leads_71 : decode cX9_leads 71 = .ok (.iadd, 1) := by decide +kernel
theorem dX9_leads_72 : decode cX9_leads 72 = .ok (.aload_n 0, 1) := by decide +kernel
theorem dX9_leads_73 : decode cX9_leads 73 = .ok (.getfield 41, 3) := by decide +kernel
theorem dX9_leads_76 : decode cX9_leads 76 = .ok (.iload_n 2, 1) := by decide +kernel
theorem dX9_leads_77 : decode cX9_leads 77 = .ok (.iaload, 1) := by decide +kernel
theorem dX9_leads_78 : decode cX9_leads 78 = .ok (.iadd, 1) := by decide +kernel
theorem dX9_leads_79 : decode cX9_leads 79 = .ok (.if_icmp .ne 7, 3) := by decide +kernel
theorem dX9_leads_82 : decode cX9_leads 82 = .ok (.iconst 1, 1) := by decide +kernel
theorem dX9_leads_83 : decode cX9_leads 83 = .ok (.goto 4, 3) := by decide +kernel
theorem dX9_leads_86 : decode cX9_leads 86 = .ok (.iconst 0, 1) := by decide +kernel
theorem dX9_leads_87 : decode cX9_leads 87 = .ok (.ireturn, 1) := by decide +kernel
theorem dX9_way_0 : decode cX9_way 0 = .ok (.aload_n 0, 1) := by decide +kernel
theorem dX9_way_1 : decode cX9_way 1 = .ok (.iload_n 1, 1) := by decide +kernel
theorem dX9_way_2 : decode cX9_way 2 = .ok (.invokevirtual 59, 3) := by decide +kernel
theorem dX9_way_5 : decode cX9_way 5 = .ok (.ifCond .eq 23, 3) := by decide +kernel
theorem dX9_way_8 : decode cX9_way 8 = .ok (.iload_n 2, 1) := by decide +kernel
theorem dX9_way_9 : decode cX9_way 9 = .ok (.invokestatic 197, 3) := by decide +kernel
theorem dX9_way_12 : decode cX9_way 12 = .ok (.ifCond .eq 16, 3) := by decide +kernel
theorem dX9_way_15 : decode cX9_way 15 = .ok (.iload_n 3, 1) := by decide +kernel
theorem dX9_way_16 : decode cX9_way 16 = .ok (.invokestatic 197, 3) := by decide +kernel
theorem dX9_way_19 : decode cX9_way 19 = .ok (.ifCond .eq 9, 3) := by decide +kernel
theorem dX9_way_22 : decode cX9_way 22 = .ok (.iload 4, 2) := by decide +kernel
theorem dX9_way_24 : decode cX9_way 24 = .ok (.iconst (-1), 1) := by decide +kernel
theorem dX9_way_25 : decode cX9_way 25 = .ok (.if_icmp .ge 11, 3) := by decide +kernel
theorem dX9_way_28 : decode cX9_way 28 = .ok (.aload_n 0, 1) := by decide +kernel
theorem dX9_way_29 : decode cX9_way 29 = .ok (.iconst 0, 1) := by decide +kernel
theorem dX9_way_30 : decode cX9_way 30 = .ok (.bipush (-10), 2) := by decide +kernel
theorem dX9_way_32 : decode cX9_way 32 = .ok (.invokevirtual 51, 3) := by decide +kernel
theorem dX9_way_35 : decode cX9_way 35 = .ok (.ireturn, 1) := by decide +kernel
theorem dX9_way_36 : decode cX9_way 36 = .ok (.aload_n 0, 1) := by decide +kernel
theorem dX9_way_37 : decode cX9_way 37 = .ok (.invokevirtual 145, 3) := by decide +kernel
theorem dX9_way_40 : decode cX9_way 40 = .ok (.ifCond .ne 11, 3) := by decide +kernel
theorem dX9_way_43 : decode cX9_way 43 = .ok (.aload_n 0, 1) := by decide +kernel
theorem dX9_way_44 : decode cX9_way 44 = .ok (.iconst 1, 1) := by decide +kernel
theorem dX9_way_45 : decode cX9_way 45 = .ok (.bipush (-20), 2) := by decide +kernel
theorem dX9_way_47 : decode cX9_way 47 = .ok (.invokevirtual 51, 3) := by decide +kernel
theorem dX9_way_50 : decode cX9_way 50 = .ok (.ireturn, 1) := by decide +kernel
theorem dX9_way_51 : decode cX9_way 51 = .ok (.iconst 0, 1) := by decide +kernel
theorem dX9_way_52 : decode cX9_way 52 = .ok (.istore 5, 2) := by decide +kernel
theorem dX9_way_54 : decode cX9_way 54 = .ok (.iload 5, 2) := by decide +kernel
theorem dX9_way_56 : decode cX9_way 56 = .ok (.bipush 6, 2) := by decide +kernel
theorem dX9_way_58 : decode cX9_way 58 = .ok (.if_icmp .ge 42, 3) := by decide +kernel
theorem dX9_way_61 : decode cX9_way 61 = .ok (.aload_n 0, 1) := by decide +kernel
theorem dX9_way_62 : decode cX9_way 62 = .ok (.getfield 38, 3) := by decide +kernel
theorem dX9_way_65 : decode cX9_way 65 = .ok (.iload 5, 2) := by decide +kernel
theorem dX9_way_67 : decode cX9_way 67 = .ok (.aload_n 0, 1) := by decide +kernel
theorem dX9_way_68 : decode cX9_way 68 = .ok (.iload_n 1, 1) := by decide +kernel
theorem dX9_way_69 : decode cX9_way 69 = .ok (.iload 5, 2) := by decide +kernel
theorem dX9_way_71 : decode cX9_way 71 = .ok (.invokevirtual 201, 3) := by decide +kernel
theorem dX9_way_74 : decode cX9_way 74 = .ok (.iastore, 1) := by decide +kernel
theorem dX9_way_75 : decode cX9_way 75 = .ok (.aload_n 0, 1) := by decide +kernel
theorem dX9_way_76 : decode cX9_way 76 = .ok (.getfield 41, 3) := by decide +kernel
theorem dX9_way_79 : decode cX9_way 79 = .ok (.iload 5, 2) := by decide +kernel
theorem dX9_way_81 : decode cX9_way 81 = .ok (.iload 5, 2) := by decide +kernel
theorem dX9_way_83 : decode cX9_way 83 = .ok (.iload_n 3, 1) := by decide +kernel
theorem dX9_way_84 : decode cX9_way 84 = .ok (.if_icmp .ne 7, 3) := by decide +kernel
theorem dX9_way_87 : decode cX9_way 87 = .ok (.iconst 0, 1) := by decide +kernel
theorem dX9_way_88 : decode cX9_way 88 = .ok (.goto 5, 3) := by decide +kernel
theorem dX9_way_91 : decode cX9_way 91 = .ok (.ldc 200, 2) := by decide +kernel
theorem dX9_way_93 : decode cX9_way 93 = .ok (.iastore, 1) := by decide +kernel
theorem dX9_way_94 : decode cX9_way 94 = .ok (.iinc 5 1, 3) := by decide +kernel
theorem dX9_way_97 : decode cX9_way 97 = .ok (.goto (-43), 3) := by decide +kernel
theorem dX9_way_100 : decode cX9_way 100 = .ok (.iconst 0, 1) := by decide +kernel
theorem dX9_way_101 : decode cX9_way 101 = .ok (.istore 5, 2) := by decide +kernel
theorem dX9_way_103 : decode cX9_way 103 = .ok (.iload 5, 2) := by decide +kernel
theorem dX9_way_105 : decode cX9_way 105 = .ok (.bipush 6, 2) := by decide +kernel
theorem dX9_way_107 : decode cX9_way 107 = .ok (.if_icmp .ge 142, 3) := by decide +kernel
theorem dX9_way_110 : decode cX9_way 110 = .ok (.iconst 0, 1) := by decide +kernel
theorem dX9_way_111 : decode cX9_way 111 = .ok (.istore 6, 2) := by decide +kernel
theorem dX9_way_113 : decode cX9_way 113 = .ok (.iload 6, 2) := by decide +kernel
theorem dX9_way_115 : decode cX9_way 115 = .ok (.bipush 6, 2) := by decide +kernel
theorem dX9_way_117 : decode cX9_way 117 = .ok (.if_icmp .ge 126, 3) := by decide +kernel
theorem dX9_way_120 : decode cX9_way 120 = .ok (.iconst 0, 1) := by decide +kernel
theorem dX9_way_121 : decode cX9_way 121 = .ok (.istore 7, 2) := by decide +kernel
theorem dX9_way_123 : decode cX9_way 123 = .ok (.iload 7, 2) := by decide +kernel
theorem dX9_way_125 : decode cX9_way 125 = .ok (.bipush 6, 2) := by decide +kernel
theorem dX9_way_127 : decode cX9_way 127 = .ok (.if_icmp .ge 110, 3) := by decide +kernel
theorem dX9_way_130 : decode cX9_way 130 = .ok (.aload_n 0, 1) := by decide +kernel
theorem dX9_way_131 : decode cX9_way 131 = .ok (.getfield 7, 3) := by decide +kernel
theorem dX9_way_134 : decode cX9_way 134 = .ok (.sipush 180, 3) := by decide +kernel
theorem dX9_way_137 : decode cX9_way 137 = .ok (.bipush 6, 2) := by decide +kernel
theorem dX9_way_139 : decode cX9_way 139 = .ok (.iload 6, 2) := by decide +kernel
theorem dX9_way_141 : decode cX9_way 141 = .ok (.imul, 1) := by decide +kernel
theorem dX9_way_142 : decode cX9_way 142 = .ok (.iadd, 1) := by decide +kernel
theorem dX9_way_143 : decode cX9_way 143 = .ok (.iload 7, 2) := by decide +kernel
theorem dX9_way_145 : decode cX9_way 145 = .ok (.iadd, 1) := by decide +kernel
theorem dX9_way_146 : decode cX9_way 146 = .ok (.iaload, 1) := by decide +kernel
theorem dX9_way_147 : decode cX9_way 147 = .ok (.istore 8, 2) := by decide +kernel
theorem dX9_way_149 : decode cX9_way 149 = .ok (.iload 6, 2) := by decide +kernel
theorem dX9_way_151 : decode cX9_way 151 = .ok (.iload_n 3, 1) := by decide +kernel
theorem dX9_way_152 : decode cX9_way 152 = .ok (.if_icmp .eq 79, 3) := by decide +kernel
theorem dX9_way_155 : decode cX9_way 155 = .ok (.iload 6, 2) := by decide +kernel
theorem dX9_way_157 : decode cX9_way 157 = .ok (.iload 7, 2) := by decide +kernel
theorem dX9_way_159 : decode cX9_way 159 = .ok (.if_icmp .eq 72, 3) := by decide +kernel
theorem dX9_way_162 : decode cX9_way 162 = .ok (.iload 8, 2) := by decide +kernel
theorem dX9_way_164 : decode cX9_way 164 = .ok (.ifCond .le 67, 3) := by decide +kernel
theorem dX9_way_167 : decode cX9_way 167 = .ok (.aload_n 0, 1) := by decide +kernel
theorem dX9_way_168 : decode cX9_way 168 = .ok (.getfield 38, 3) := by decide +kernel
theorem dX9_way_171 : decode cX9_way 171 = .ok (.iload 7, 2) := by decide +kernel
theorem dX9_way_173 : decode cX9_way 173 = .ok (.iaload, 1) := by decide +kernel
theorem dX9_way_174 : decode cX9_way 174 = .ok (.iconst (-1), 1) := by decide +kernel
theorem dX9_way_175 : decode cX9_way 175 = .ok (.if_icmp .eq 56, 3) := by decide +kernel
theorem dX9_way_178 : decode cX9_way 178 = .ok (.iload 8, 2) := by decide +kernel
theorem dX9_way_180 : decode cX9_way 180 = .ok (.aload_n 0, 1) := by decide +kernel
theorem dX9_way_181 : decode cX9_way 181 = .ok (.getfield 38, 3) := by decide +kernel
theorem dX9_way_184 : decode cX9_way 184 = .ok (.iload 7, 2) := by decide +kernel
theorem dX9_way_186 : decode cX9_way 186 = .ok (.iaload, 1) := by decide +kernel
theorem dX9_way_187 : decode cX9_way 187 = .ok (.iadd, 1) := by decide +kernel
theorem dX9_way_188 : decode cX9_way 188 = .ok (.aload_n 0, 1) := by decide +kernel
theorem dX9_way_189 : decode cX9_way 189 = .ok (.getfield 41, 3) := by decide +kernel
theorem dX9_way_192 : decode cX9_way 192 = .ok (.iload 7, 2) := by decide +kernel
theorem dX9_way_194 : decode cX9_way 194 = .ok (.iaload, 1) := by decide +kernel
theorem dX9_way_195 : decode cX9_way 195 = .ok (.iadd, 1) := by decide +kernel
theorem dX9_way_196 : decode cX9_way 196 = .ok (.aload_n 0, 1) := by decide +kernel
theorem dX9_way_197 : decode cX9_way 197 = .ok (.getfield 41, 3) := by decide +kernel
theorem dX9_way_200 : decode cX9_way 200 = .ok (.iload 6, 2) := by decide +kernel
theorem dX9_way_202 : decode cX9_way 202 = .ok (.iaload, 1) := by decide +kernel
theorem dX9_way_203 : decode cX9_way 203 = .ok (.if_icmp .ge 28, 3) := by decide +kernel
theorem dX9_way_206 : decode cX9_way 206 = .ok (.aload_n 0, 1) := by decide +kernel
theorem dX9_way_207 : decode cX9_way 207 = .ok (.getfield 41, 3) := by decide +kernel
theorem dX9_way_210 : decode cX9_way 210 = .ok (.iload 6, 2) := by decide +kernel
theorem dX9_way_212 : decode cX9_way 212 = .ok (.iload 8, 2) := by decide +kernel
theorem dX9_way_214 : decode cX9_way 214 = .ok (.aload_n 0, 1) := by decide +kernel
theorem dX9_way_215 : decode cX9_way 215 = .ok (.getfield 38, 3) := by decide +kernel
theorem dX9_way_218 : decode cX9_way 218 = .ok (.iload 7, 2) := by decide +kernel
theorem dX9_way_220 : decode cX9_way 220 = .ok (.iaload, 1) := by decide +kernel
theorem dX9_way_221 : decode cX9_way 221 = .ok (.iadd, 1) := by decide +kernel
theorem dX9_way_222 : decode cX9_way 222 = .ok (.aload_n 0, 1) := by decide +kernel
theorem dX9_way_223 : decode cX9_way 223 = .ok (.getfield 41, 3) := by decide +kernel
theorem dX9_way_226 : decode cX9_way 226 = .ok (.iload 7, 2) := by decide +kernel
theorem dX9_way_228 : decode cX9_way 228 = .ok (.iaload, 1) := by decide +kernel
theorem dX9_way_229 : decode cX9_way 229 = .ok (.iadd, 1) := by decide +kernel
theorem dX9_way_230 : decode cX9_way 230 = .ok (.iastore, 1) := by decide +kernel
theorem dX9_way_231 : decode cX9_way 231 = .ok (.iinc 7 1, 3) := by decide +kernel
theorem dX9_way_234 : decode cX9_way 234 = .ok (.goto (-111), 3) := by decide +kernel
theorem dX9_way_237 : decode cX9_way 237 = .ok (.iinc 6 1, 3) := by decide +kernel
theorem dX9_way_240 : decode cX9_way 240 = .ok (.goto (-127), 3) := by decide +kernel
theorem dX9_way_243 : decode cX9_way 243 = .ok (.iinc 5 1, 3) := by decide +kernel
theorem dX9_way_246 : decode cX9_way 246 = .ok (.goto (-143), 3) := by decide +kernel
theorem dX9_way_249 : decode cX9_way 249 = .ok (.aload_n 0, 1) := by decide +kernel
theorem dX9_way_250 : decode cX9_way 250 = .ok (.getfield 41, 3) := by decide +kernel
theorem dX9_way_253 : decode cX9_way 253 = .ok (.iload_n 2, 1) := by decide +kernel
theorem dX9_way_254 : decode cX9_way 254 = .ok (.iaload, 1) := by decide +kernel
theorem dX9_way_255 : decode cX9_way 255 = .ok (.ldc 200, 2) := by decide +kernel
theorem dX9_way_257 : decode cX9_way 257 = .ok (.if_icmp .lt 5, 3) := by decide +kernel
theorem dX9_way_260 : decode cX9_way 260 = .ok (.iconst (-1), 1) := by decide +kernel
theorem dX9_way_261 : decode cX9_way 261 = .ok (.ireturn, 1) := by decide +kernel
theorem dX9_way_262 : decode cX9_way 262 = .ok (.iload 4, 2) := by decide +kernel
theorem dX9_way_264 : decode cX9_way 264 = .ok (.iconst (-1), 1) := by decide +kernel
theorem dX9_way_265 : decode cX9_way 265 = .ok (.if_icmp .ne 10, 3) := by decide +kernel
theorem dX9_way_268 : decode cX9_way 268 = .ok (.aload_n 0, 1) := by decide +kernel
theorem dX9_way_269 : decode cX9_way 269 = .ok (.getfield 41, 3) := by decide +kernel
theorem dX9_way_272 : decode cX9_way 272 = .ok (.iload_n 2, 1) := by decide +kernel
theorem dX9_way_273 : decode cX9_way 273 = .ok (.iaload, 1) := by decide +kernel
theorem dX9_way_274 : decode cX9_way 274 = .ok (.ireturn, 1) := by decide +kernel
theorem dX9_way_275 : decode cX9_way 275 = .ok (.iload_n 2, 1) := by decide +kernel
theorem dX9_way_276 : decode cX9_way 276 = .ok (.istore 5, 2) := by decide +kernel
theorem dX9_way_278 : decode cX9_way 278 = .ok (.iconst 0, 1) := by decide +kernel
theorem dX9_way_279 : decode cX9_way 279 = .ok (.istore 6, 2) := by decide +kernel
theorem dX9_way_281 : decode cX9_way 281 = .ok (.iload 6, 2) := by decide +kernel
theorem dX9_way_283 : decode cX9_way 283 = .ok (.iload 4, 2) := by decide +kernel
theorem dX9_way_285 : decode cX9_way 285 = .ok (.if_icmp .ge 39, 3) := by decide +kernel
theorem dX9_way_288 : decode cX9_way 288 = .ok (.iload 5, 2) := by decide +kernel
theorem dX9_way_290 : decode cX9_way 290 = .ok (.iload_n 3, 1) := by decide +kernel
theorem dX9_way_291 : decode cX9_way 291 = .ok (.if_icmp .eq 33, 3) := by decide +kernel
theorem dX9_way_294 : decode cX9_way 294 = .ok (.iconst 0, 1) := by decide +kernel
theorem dX9_way_295 : decode cX9_way 295 = .ok (.istore 7, 2) := by decide +kernel
theorem dX9_way_297 : decode cX9_way 297 = .ok (.aload_n 0, 1) := by decide +kernel
theorem dX9_way_298 : decode cX9_way 298 = .ok (.iload 5, 2) := by decide +kernel
theorem dX9_way_300 : decode cX9_way 300 = .ok (.iload 7, 2) := by decide +kernel
theorem dX9_way_302 : decode cX9_way 302 = .ok (.invokevirtual 204, 3) := by decide +kernel
theorem dX9_way_305 : decode cX9_way 305 = .ok (.ifCond .ne 9, 3) := by decide +kernel
theorem dX9_way_308 : decode cX9_way 308 = .ok (.iinc 7 1, 3) := by decide +kernel
theorem dX9_way_311 : decode cX9_way 311 = .ok (.goto (-14), 3) := by decide +kernel
theorem dX9_way_314 : decode cX9_way 314 = .ok (.iload 7, 2) := by decide +kernel
theorem dX9_way_316 : decode cX9_way 316 = .ok (.istore 5, 2) := by decide +kernel
theorem dX9_way_318 : decode cX9_way 318 = .ok (.iinc 6 1, 3) := by decide +kernel
theorem dX9_way_321 : decode cX9_way 321 = .ok (.goto (-40), 3) := by decide +kernel
theorem dX9_way_324 : decode cX9_way 324 = .ok (.iload 6, 2) := by decide +kernel
theorem dX9_way_326 : decode cX9_way 326 = .ok (.iload 4, 2) := by decide +kernel
theorem dX9_way_328 : decode cX9_way 328 = .ok (.if_icmp .ge 8, 3) := by decide +kernel
theorem dX9_way_331 : decode cX9_way 331 = .ok (.bipush (-5), 2) := by decide +kernel
theorem dX9_way_333 : decode cX9_way 333 = .ok (.goto 5, 3) := by decide +kernel
theorem dX9_way_336 : decode cX9_way 336 = .ok (.iload 5, 2) := by decide +kernel
theorem dX9_way_338 : decode cX9_way 338 = .ok (.ireturn, 1) := by decide +kernel
theorem dX9_tell_0 : decode cX9_tell 0 = .ok (.aload_n 0, 1) := by decide +kernel
theorem dX9_tell_1 : decode cX9_tell 1 = .ok (.iload_n 1, 1) := by decide +kernel
theorem dX9_tell_2 : decode cX9_tell 2 = .ok (.iload_n 2, 1) := by decide +kernel
theorem dX9_tell_3 : decode cX9_tell 3 = .ok (.invokevirtual 81, 3) := by decide +kernel
theorem dX9_tell_6 : decode cX9_tell 6 = .ok (.ifCond .eq 13, 3) := by decide +kernel
theorem dX9_tell_9 : decode cX9_tell 9 = .ok (.iload_n 3, 1) := by decide +kernel
theorem dX9_tell_10 : decode cX9_tell 10 = .ok (.iload_n 1, 1) := by decide +kernel
theorem dX9_tell_11 : decode cX9_tell 11 = .ok (.if_icmp .eq 13, 3) := by decide +kernel
theorem dX9_tell_14 : decode cX9_tell 14 = .ok (.iload_n 3, 1) := by decide +kernel
theorem dX9_tell_15 : decode cX9_tell 15 = .ok (.iload_n 2, 1) := by decide +kernel
theorem dX9_tell_16 : decode cX9_tell 16 = .ok (.if_icmp .eq 8, 3) := by decide +kernel
theorem dX9_tell_19 : decode cX9_tell 19 = .ok (.aload_n 0, 1) := by decide +kernel
theorem dX9_tell_20 : decode cX9_tell 20 = .ok (.invokevirtual 69, 3) := by decide +kernel
theorem dX9_tell_23 : decode cX9_tell 23 = .ok (.ireturn, 1) := by decide +kernel
theorem dX9_tell_24 : decode cX9_tell 24 = .ok (.aload_n 0, 1) := by decide +kernel
theorem dX9_tell_25 : decode cX9_tell 25 = .ok (.getfield 7, 3) := by decide +kernel
theorem dX9_tell_28 : decode cX9_tell 28 = .ok (.iconst 3, 1) := by decide +kernel
theorem dX9_tell_29 : decode cX9_tell 29 = .ok (.iaload, 1) := by decide +kernel
theorem dX9_tell_30 : decode cX9_tell 30 = .ok (.bipush 16, 2) := by decide +kernel
theorem dX9_tell_32 : decode cX9_tell 32 = .ok (.if_icmp .ne 8, 3) := by decide +kernel
theorem dX9_tell_35 : decode cX9_tell 35 = .ok (.aload_n 0, 1) := by decide +kernel
theorem dX9_tell_36 : decode cX9_tell 36 = .ok (.invokevirtual 73, 3) := by decide +kernel
theorem dX9_tell_39 : decode cX9_tell 39 = .ok (.ireturn, 1) := by decide +kernel
theorem dX9_tell_40 : decode cX9_tell 40 = .ok (.sipush 216, 3) := by decide +kernel
theorem dX9_tell_43 : decode cX9_tell 43 = .ok (.iconst 3, 1) := by decide +kernel
theorem dX9_tell_44 : decode cX9_tell 44 = .ok (.aload_n 0, 1) := by decide +kernel
theorem dX9_tell_45 : decode cX9_tell 45 = .ok (.getfield 7, 3) := by decide +kernel
theorem dX9_tell_48 : decode cX9_tell 48 = .ok (.iconst 3, 1) := by decide +kernel
theorem dX9_tell_49 : decode cX9_tell 49 = .ok (.iaload, 1) := by decide +kernel
theorem dX9_tell_50 : decode cX9_tell 50 = .ok (.imul, 1) := by decide +kernel
theorem dX9_tell_51 : decode cX9_tell 51 = .ok (.iadd, 1) := by decide +kernel
theorem dX9_tell_52 : decode cX9_tell 52 = .ok (.istore 4, 2) := by decide +kernel
theorem dX9_tell_54 : decode cX9_tell 54 = .ok (.aload_n 0, 1) := by decide +kernel
theorem dX9_tell_55 : decode cX9_tell 55 = .ok (.getfield 7, 3) := by decide +kernel
theorem dX9_tell_58 : decode cX9_tell 58 = .ok (.iload 4, 2) := by decide +kernel
theorem dX9_tell_60 : decode cX9_tell 60 = .ok (.iload_n 1, 1) := by decide +kernel
theorem dX9_tell_61 : decode cX9_tell 61 = .ok (.iastore, 1) := by decide +kernel
theorem dX9_tell_62 : decode cX9_tell 62 = .ok (.aload_n 0, 1) := by decide +kernel
theorem dX9_tell_63 : decode cX9_tell 63 = .ok (.getfield 7, 3) := by decide +kernel
theorem dX9_tell_66 : decode cX9_tell 66 = .ok (.iload 4, 2) := by decide +kernel
theorem dX9_tell_68 : decode cX9_tell 68 = .ok (.iconst 1, 1) := by decide +kernel
theorem dX9_tell_69 : decode cX9_tell 69 = .ok (.iadd, 1) := by decide +kernel
theorem dX9_tell_70 : decode cX9_tell 70 = .ok (.iload_n 2, 1) := by decide +kernel
theorem dX9_tell_71 : decode cX9_tell 71 = .ok (.iastore, 1) := by decide +kernel
theorem dX9_tell_72 : decode cX9_tell 72 = .ok (.aload_n 0, 1) := by decide +kernel
theorem dX9_tell_73 : decode cX9_tell 73 = .ok (.getfield 7, 3) := by decide +kernel
theorem dX9_tell_76 : decode cX9_tell 76 = .ok (.iload 4, 2) := by decide +kernel
theorem dX9_tell_78 : decode cX9_tell 78 = .ok (.iconst 2, 1) := by decide +kernel
theorem dX9_tell_79 : decode cX9_tell 79 = .ok (.iadd, 1) := by decide +kernel
theorem dX9_tell_80 : decode cX9_tell 80 = .ok (.iload_n 3, 1) := by decide +kernel
theorem dX9_tell_81 : decode cX9_tell 81 = .ok (.iastore, 1) := by decide +kernel
theorem dX9_tell_82 : decode cX9_tell 82 = .ok (.aload_n 0, 1) := by decide +kernel
theorem dX9_tell_83 : decode cX9_tell 83 = .ok (.getfield 7, 3) := by decide +kernel
theorem dX9_tell_86 : decode cX9_tell 86 = .ok (.iconst 3, 1) := by decide +kernel
theorem dX9_tell_87 : decode cX9_tell 87 = .ok (.dup2, 1) := by decide +kernel
theorem dX9_tell_88 : decode cX9_tell 88 = .ok (.iaload, 1) := by decide +kernel
theorem dX9_tell_89 : decode cX9_tell 89 = .ok (.iconst 1, 1) := by decide +kernel
theorem dX9_tell_90 : decode cX9_tell 90 = .ok (.iadd, 1) := by decide +kernel
theorem dX9_tell_91 : decode cX9_tell 91 = .ok (.iastore, 1) := by decide +kernel
theorem dX9_tell_92 : decode cX9_tell 92 = .ok (.aload_n 0, 1) := by decide +kernel
theorem dX9_tell_93 : decode cX9_tell 93 = .ok (.getfield 7, 3) := by decide +kernel
theorem dX9_tell_96 : decode cX9_tell 96 = .ok (.iconst 3, 1) := by decide +kernel
theorem dX9_tell_97 : decode cX9_tell 97 = .ok (.iaload, 1) := by decide +kernel
theorem dX9_tell_98 : decode cX9_tell 98 = .ok (.iconst 1, 1) := by decide +kernel
theorem dX9_tell_99 : decode cX9_tell 99 = .ok (.isub, 1) := by decide +kernel
theorem dX9_tell_100 : decode cX9_tell 100 = .ok (.ireturn, 1) := by decide +kernel
theorem dX9_forget_0 : decode cX9_forget 0 = .ok (.aload_n 0, 1) := by decide +kernel
theorem dX9_forget_1 : decode cX9_forget 1 = .ok (.getfield 7, 3) := by decide +kernel
theorem dX9_forget_4 : decode cX9_forget 4 = .ok (.iconst 3, 1) := by decide +kernel
theorem dX9_forget_5 : decode cX9_forget 5 = .ok (.iaload, 1) := by decide +kernel
theorem dX9_forget_6 : decode cX9_forget 6 = .ok (.istore_n 1, 1) := by decide +kernel
theorem dX9_forget_7 : decode cX9_forget 7 = .ok (.aload_n 0, 1) := by decide +kernel
theorem dX9_forget_8 : decode cX9_forget 8 = .ok (.getfield 7, 3) := by decide +kernel
theorem dX9_forget_11 : decode cX9_forget 11 = .ok (.iconst 3, 1) := by decide +kernel
theorem dX9_forget_12 : decode cX9_forget 12 = .ok (.iconst 0, 1) := by decide +kernel
theorem dX9_forget_13 : decode cX9_forget 13 = .ok (.iastore, 1) := by decide +kernel
theorem dX9_forget_14 : decode cX9_forget 14 = .ok (.iload_n 1, 1) := by decide +kernel
theorem dX9_forget_15 : decode cX9_forget 15 = .ok (.ireturn, 1) := by decide +kernel
theorem dX9_judges_0 : decode cX9_judges 0 = .ok (.aload_n 0, 1) := by decide +kernel
theorem dX9_judges_1 : decode cX9_judges 1 = .ok (.invokevirtual 181, 3) := by decide +kernel
theorem dX9_judges_4 : decode cX9_judges 4 = .ok (.iconst (-1), 1) := by decide +kernel
theorem dX9_judges_5 : decode cX9_judges 5 = .ok (.istore_n 1, 1) := by decide +kernel
theorem dX9_judges_6 : decode cX9_judges 6 = .ok (.iconst 0, 1) := by decide +kernel
theorem dX9_judges_7 : decode cX9_judges 7 = .ok (.istore_n 2, 1) := by decide +kernel
theorem dX9_judges_8 : decode cX9_judges 8 = .ok (.iload_n 2, 1) := by decide +kernel
theorem dX9_judges_9 : decode cX9_judges 9 = .ok (.aload_n 0, 1) := by decide +kernel
theorem dX9_judges_10 : decode cX9_judges 10 = .ok (.getfield 7, 3) := by decide +kernel
theorem dX9_judges_13 : decode cX9_judges 13 = .ok (.iconst 3, 1) := by decide +kernel
theorem dX9_judges_14 : decode cX9_judges 14 = .ok (.iaload, 1) := by decide +kernel
theorem dX9_judges_15 : decode cX9_judges 15 = .ok (.if_icmp .ge 90, 3) := by decide +kernel
theorem dX9_judges_18 : decode cX9_judges 18 = .ok (.iload_n 1, 1) := by decide +kernel
theorem dX9_judges_19 : decode cX9_judges 19 = .ok (.iconst (-1), 1) := by decide +kernel
theorem dX9_judges_20 : decode cX9_judges 20 = .ok (.if_icmp .ne 85, 3) := by decide +kernel
theorem dX9_judges_23 : decode cX9_judges 23 = .ok (.aload_n 0, 1) := by decide +kernel
theorem dX9_judges_24 : decode cX9_judges 24 = .ok (.getfield 7, 3) := by decide +kernel
theorem dX9_judges_27 : decode cX9_judges 27 = .ok (.sipush 216, 3) := by decide +kernel
theorem dX9_judges_30 : decode cX9_judges 30 = .ok (.iconst 3, 1) := by decide +kernel
theorem dX9_judges_31 : decode cX9_judges 31 = .ok (.iload_n 2, 1) := by decide +kernel
theorem dX9_judges_32 : decode cX9_judges 32 = .ok (.imul, 1) := by decide +kernel
theorem dX9_judges_33 : decode cX9_judges 33 = .ok (.iadd, 1) := by decide +kernel
theorem dX9_judges_34 : decode cX9_judges 34 = .ok (.iaload, 1) := by decide +kernel
theorem dX9_judges_35 : decode cX9_judges 35 = .ok (.istore_n 3, 1) := by decide +kernel
theorem dX9_judges_36 : decode cX9_judges 36 = .ok (.aload_n 0, 1) := by decide +kernel
theorem dX9_judges_37 : decode cX9_judges 37 = .ok (.getfield 7, 3) := by decide +kernel
theorem dX9_judges_40 : decode cX9_judges 40 = .ok (.sipush 216, 3) := by decide +kernel
theorem dX9_judges_43 : decode cX9_judges 43 = .ok (.iconst 3, 1) := by decide +kernel
theorem dX9_judges_44 : decode cX9_judges 44 = .ok (.iload_n 2, 1) := by decide +kernel
theorem dX9_judges_45 : decode cX9_judges 45 = .ok (.imul, 1) := by decide +kernel
theorem dX9_judges_46 : decode cX9_judges 46 = .ok (.iadd, 1) := by decide +kernel
theorem dX9_judges_47 : decode cX9_judges 47 = .ok (.iconst 1, 1) := by decide +kernel
theorem dX9_judges_48 : decode cX9_judges 48 = .ok (.iadd, 1) := by decide +kernel
theorem dX9_judges_49 : decode cX9_judges 49 = .ok (.iaload, 1) := by decide +kernel
theorem dX9_judges_50 : decode cX9_judges 50 = .ok (.istore 4, 2) := by decide +kernel
theorem dX9_judges_52 : decode cX9_judges 52 = .ok (.aload_n 0, 1) := by decide +kernel
theorem dX9_judges_53 : decode cX9_judges 53 = .ok (.getfield 7, 3) := by decide +kernel
theorem dX9_judges_56 : decode cX9_judges 56 = .ok (.sipush 216, 3) := by decide +kernel
theorem dX9_judges_59 : decode cX9_judges 59 = .ok (.iconst 3, 1) := by decide +kernel
theorem dX9_judges_60 : decode cX9_judges 60 = .ok (.iload_n 2, 1) := by decide +kernel
theorem dX9_judges_61 : decode cX9_judges 61 = .ok (.imul, 1) := by decide +kernel
theorem dX9_judges_62 : decode cX9_judges 62 = .ok (.iadd, 1) := by decide +kernel
theorem dX9_judges_63 : decode cX9_judges 63 = .ok (.iconst 2, 1) := by decide +kernel
theorem dX9_judges_64 : decode cX9_judges 64 = .ok (.iadd, 1) := by decide +kernel
theorem dX9_judges_65 : decode cX9_judges 65 = .ok (.iaload, 1) := by decide +kernel
theorem dX9_judges_66 : decode cX9_judges 66 = .ok (.istore 5, 2) := by decide +kernel
theorem dX9_judges_68 : decode cX9_judges 68 = .ok (.aload_n 0, 1) := by decide +kernel
theorem dX9_judges_69 : decode cX9_judges 69 = .ok (.iload_n 3, 1) := by decide +kernel
theorem dX9_judges_70 : decode cX9_judges 70 = .ok (.iload 4, 2) := by decide +kernel
theorem dX9_judges_72 : decode cX9_judges 72 = .ok (.invokevirtual 171, 3) := by decide +kernel
theorem dX9_judges_75 : decode cX9_judges 75 = .ok (.iload 5, 2) := by decide +kernel
theorem dX9_judges_77 : decode cX9_judges 77 = .ok (.if_icmp .ne 7, 3) := by decide +kernel
theorem dX9_judges_80 : decode cX9_judges 80 = .ok (.iconst (-1), 1) := by decide +kernel
theorem dX9_judges_81 : decode cX9_judges 81 = .ok (.goto 4, 3) := by decide +kernel
theorem dX9_judges_84 : decode cX9_judges 84 = .ok (.iload_n 2, 1) := by decide +kernel
theorem dX9_judges_85 : decode cX9_judges 85 = .ok (.istore_n 1, 1) := by decide +kernel
theorem dX9_judges_86 : decode cX9_judges 86 = .ok (.aload_n 0, 1) := by decide +kernel
theorem dX9_judges_87 : decode cX9_judges 87 = .ok (.iload 5, 2) := by decide +kernel
theorem dX9_judges_89 : decode cX9_judges 89 = .ok (.iload_n 3, 1) := by decide +kernel
theorem dX9_judges_90 : decode cX9_judges 90 = .ok (.iload 4, 2) := by decide +kernel
theorem dX9_judges_92 : decode cX9_judges 92 = .ok (.iadd, 1) := by decide +kernel
theorem dX9_judges_93 : decode cX9_judges 93 = .ok (.iload 5, 2) := by decide +kernel
theorem dX9_judges_95 : decode cX9_judges 95 = .ok (.isub, 1) := by decide +kernel
theorem dX9_judges_96 : decode cX9_judges 96 = .ok (.invokevirtual 174, 3) := by decide +kernel
theorem dX9_judges_99 : decode cX9_judges 99 = .ok (.iinc 2 1, 3) := by decide +kernel
theorem dX9_judges_102 : decode cX9_judges 102 = .ok (.goto (-94), 3) := by decide +kernel
theorem dX9_judges_105 : decode cX9_judges 105 = .ok (.aload_n 0, 1) := by decide +kernel
theorem dX9_judges_106 : decode cX9_judges 106 = .ok (.invokevirtual 184, 3) := by decide +kernel
theorem dX9_judges_109 : decode cX9_judges 109 = .ok (.iload_n 1, 1) := by decide +kernel
theorem dX9_judges_110 : decode cX9_judges 110 = .ok (.ireturn, 1) := by decide +kernel
theorem dX9_judge_0 : decode cX9_judge 0 = .ok (.aload_n 0, 1) := by decide +kernel
theorem dX9_judge_1 : decode cX9_judge 1 = .ok (.invokevirtual 145, 3) := by decide +kernel
theorem dX9_judge_4 : decode cX9_judge 4 = .ok (.ifCond .eq 10, 3) := by decide +kernel
theorem dX9_judge_7 : decode cX9_judge 7 = .ok (.aload_n 0, 1) := by decide +kernel
theorem dX9_judge_8 : decode cX9_judge 8 = .ok (.invokevirtual 207, 3) := by decide +kernel
theorem dX9_judge_11 : decode cX9_judge 11 = .ok (.goto 7, 3) := by decide +kernel
theorem dX9_judge_14 : decode cX9_judge 14 = .ok (.aload_n 0, 1) := by decide +kernel
theorem dX9_judge_15 : decode cX9_judge 15 = .ok (.invokevirtual 151, 3) := by decide +kernel
theorem dX9_judge_18 : decode cX9_judge 18 = .ok (.ireturn, 1) := by decide +kernel
theorem dX9_learns_0 : decode cX9_learns 0 = .ok (.iconst 0, 1) := by decide +kernel
theorem dX9_learns_1 : decode cX9_learns 1 = .ok (.istore_n 1, 1) := by decide +kernel
theorem dX9_learns_2 : decode cX9_learns 2 = .ok (.iconst 0, 1) := by decide +kernel
theorem dX9_learns_3 : decode cX9_learns 3 = .ok (.istore_n 2, 1) := by decide +kernel
theorem dX9_learns_4 : decode cX9_learns 4 = .ok (.iload_n 2, 1) := by decide +kernel
theorem dX9_learns_5 : decode cX9_learns 5 = .ok (.bipush 10, 2) := by decide +kernel
theorem dX9_learns_7 : decode cX9_learns 7 = .ok (.if_icmp .ge 65, 3) := by decide +kernel
theorem dX9_learns_10 : decode cX9_learns 10 = .ok (.aload_n 0, 1) := by decide +kernel
theorem dX9_learns_11 : decode cX9_learns 11 = .ok (.iconst 1, 1) := by decide +kernel
theorem dX9_learns_12 : decode cX9_learns 12 = .ok (.putfield 136, 3) := by decide +kernel
theorem dX9_learns_15 : decode cX9_learns 15 = .ok (.aload_n 0, 1) := by decide +kernel
theorem dX9_learns_16 : decode cX9_learns 16 = .ok (.iconst 0, 1) := by decide +kernel
theorem dX9_learns_17 : decode cX9_learns 17 = .ok (.putfield 139, 3) := by decide +kernel
theorem dX9_learns_20 : decode cX9_learns 20 = .ok (.aload_n 0, 1) := by decide +kernel
theorem dX9_learns_21 : decode cX9_learns 21 = .ok (.getfield 23, 3) := by decide +kernel
theorem dX9_learns_24 : decode cX9_learns 24 = .ok (.iconst 0, 1) := by decide +kernel
theorem dX9_learns_25 : decode cX9_learns 25 = .ok (.iconst 1, 1) := by decide +kernel
theorem dX9_learns_26 : decode cX9_learns 26 = .ok (.iastore, 1) := by decide +kernel
theorem dX9_learns_27 : decode cX9_learns 27 = .ok (.aload_n 0, 1) := by decide +kernel
theorem dX9_learns_28 : decode cX9_learns 28 = .ok (.getfield 23, 3) := by decide +kernel
theorem dX9_learns_31 : decode cX9_learns 31 = .ok (.iconst 1, 1) := by decide +kernel
theorem dX9_learns_32 : decode cX9_learns 32 = .ok (.iconst 0, 1) := by decide +kernel
theorem dX9_learns_33 : decode cX9_learns 33 = .ok (.iastore, 1) := by decide +kernel
theorem dX9_learns_34 : decode cX9_learns 34 = .ok (.aload_n 0, 1) := by decide +kernel
theorem dX9_learns_35 : decode cX9_learns 35 = .ok (.getfield 23, 3) := by decide +kernel
theorem dX9_learns_38 : decode cX9_learns 38 = .ok (.iconst 2, 1) := by decide +kernel
theorem dX9_learns_39 : decode cX9_learns 39 = .ok (.iload_n 2, 1) := by decide +kernel
theorem dX9_learns_40 : decode cX9_learns 40 = .ok (.iastore, 1) := by decide +kernel
theorem dX9_learns_41 : decode cX9_learns 41 = .ok (.aload_n 0, 1) := by decide +kernel
theorem dX9_learns_42 : decode cX9_learns 42 = .ok (.getfield 23, 3) := by decide +kernel
theorem dX9_learns_45 : decode cX9_learns 45 = .ok (.iconst 3, 1) := by decide +kernel
theorem dX9_learns_46 : decode cX9_learns 46 = .ok (.iconst 1, 1) := by decide +kernel
theorem dX9_learns_47 : decode cX9_learns 47 = .ok (.iastore, 1) := by decide +kernel
theorem dX9_learns_48 : decode cX9_learns 48 = .ok (.iload_n 1, 1) := by decide +kernel
theorem dX9_learns_49 : decode cX9_learns 49 = .ok (.aload_n 0, 1) := by decide +kernel
theorem dX9_learns_50 : decode cX9_learns 50 = .ok (.invokevirtual 207, 3) := by decide +kernel
theorem dX9_learns_53 : decode cX9_learns 53 = .ok (.iconst (-1), 1) := by decide +kernel
theorem dX9_learns_54 : decode cX9_learns 54 = .ok (.if_icmp .ne 9, 3) := by decide +kernel
theorem dX9_learns_57 : decode cX9_learns 57 = .ok (.iconst 1, 1) := by decide +kernel
theorem dX9_learns_58 : decode cX9_learns 58 = .ok (.iload_n 2, 1) := by decide +kernel
theorem dX9_learns_59 : decode cX9_learns 59 = .ok (.ishl, 1) := by decide +kernel
theorem dX9_learns_60 : decode cX9_learns 60 = .ok (.goto 4, 3) := by decide +kernel
theorem dX9_learns_63 : decode cX9_learns 63 = .ok (.iconst 0, 1) := by decide +kernel
theorem dX9_learns_64 : decode cX9_learns 64 = .ok (.ior, 1) := by decide +kernel
theorem dX9_learns_65 : decode cX9_learns 65 = .ok (.istore_n 1, 1) := by decide +kernel
theorem dX9_learns_66 : decode cX9_learns 66 = .ok (.iinc 2 1, 3) := by decide +kernel
theorem dX9_learns_69 : decode cX9_learns 69 = .ok (.goto (-65), 3) := by decide +kernel
theorem dX9_learns_72 : decode cX9_learns 72 = .ok (.iload_n 1, 1) := by decide +kernel
theorem dX9_learns_73 : decode cX9_learns 73 = .ok (.ireturn, 1) := by decide +kernel
theorem dX9_strikesOut_0 : decode cX9_strikesOut 0 = .ok (.aload_n 0, 1) := by decide +kernel
theorem dX9_strikesOut_1 : decode cX9_strikesOut 1 = .ok (.getfield 44, 3) := by decide +kernel
theorem dX9_strikesOut_4 : decode cX9_strikesOut 4 = .ok (.bipush 8, 2) := by decide +kernel
theorem dX9_strikesOut_6 : decode cX9_strikesOut 6 = .ok (.iload_n 1, 1) := by decide +kernel
theorem dX9_strikesOut_7 : decode cX9_strikesOut 7 = .ok (.imul, 1) := by decide +kernel
theorem dX9_strikesOut_8 : decode cX9_strikesOut 8 = .ok (.iload_n 2, 1) := by decide +kernel
theorem dX9_strikesOut_9 : decode cX9_strikesOut 9 = .ok (.iadd, 1) := by decide +kernel
theorem dX9_strikesOut_10 : decode cX9_strikesOut 10 = .ok (.iaload, 1) := by decide +kernel
theorem dX9_strikesOut_11 : decode cX9_strikesOut 11 = .ok (.istore 4, 2) := by decide +kernel
theorem dX9_strikesOut_13 : decode cX9_strikesOut 13 = .ok (.aload_n 0, 1) := by decide +kernel
theorem dX9_strikesOut_14 : decode cX9_strikesOut 14 = .ok (.getfield 44, 3) := by decide +kernel
theorem dX9_strikesOut_17 : decode cX9_strikesOut 17 = .ok (.bipush 8, 2) := by decide +kernel
theorem dX9_strikesOut_19 : decode cX9_strikesOut 19 = .ok (.iload_n 2, 1) := by decide +kernel
theorem dX9_strikesOut_20 : decode cX9_strikesOut 20 = .ok (.imul, 1) := by decide +kernel
theorem dX9_strikesOut_21 : decode cX9_strikesOut 21 = .ok (.iload_n 3, 1) := by decide +kernel
theorem dX9_strikesOut_22 : decode cX9_strikesOut 22 = .ok (.iadd, 1) := by decide +kernel
theorem dX9_strikesOut_23 : decode cX9_strikesOut 23 = .ok (.iaload, 1) := by decide +kernel
theorem dX9_strikesOut_24 : decode cX9_strikesOut 24 = .ok (.iload 4, 2) := by decide +kernel
theorem dX9_strikesOut_26 : decode cX9_strikesOut 26 = .ok (.if_icmp .ge 17, 3) := by decide +kernel
theorem dX9_strikesOut_29 : decode cX9_strikesOut 29 = .ok (.aload_n 0, 1) := by decide +kernel
theorem dX9_strikesOut_30 : decode cX9_strikesOut 30 = .ok (.getfield 44, 3) := by decide +kernel
theorem dX9_strikesOut_33 : decode cX9_strikesOut 33 = .ok (.bipush 8, 2) := by decide +kernel
theorem dX9_strikesOut_35 : decode cX9_strikesOut 35 = .ok (.iload_n 2, 1) := by decide +kernel
theorem dX9_strikesOut_36 : decode cX9_strikesOut 36 = .ok (.imul, 1) := by decide +kernel
theorem dX9_strikesOut_37 : decode cX9_strikesOut 37 = .ok (.iload_n 3, 1) := by decide +kernel
theorem dX9_strikesOut_38 : decode cX9_strikesOut 38 = .ok (.iadd, 1) := by decide +kernel
theorem dX9_strikesOut_39 : decode cX9_strikesOut 39 = .ok (.iaload, 1) := by decide +kernel
theorem dX9_strikesOut_40 : decode cX9_strikesOut 40 = .ok (.goto 5, 3) := by decide +kernel
theorem dX9_strikesOut_43 : decode cX9_strikesOut 43 = .ok (.iload 4, 2) := by decide +kernel
theorem dX9_strikesOut_45 : decode cX9_strikesOut 45 = .ok (.istore 4, 2) := by decide +kernel
theorem dX9_strikesOut_47 : decode cX9_strikesOut 47 = .ok (.aload_n 0, 1) := by decide +kernel
theorem dX9_strikesOut_48 : decode cX9_strikesOut 48 = .ok (.getfield 44, 3) := by decide +kernel
theorem dX9_strikesOut_51 : decode cX9_strikesOut 51 = .ok (.bipush 8, 2) := by decide +kernel
theorem dX9_strikesOut_53 : decode cX9_strikesOut 53 = .ok (.iload_n 3, 1) := by decide +kernel
theorem dX9_strikesOut_54 : decode cX9_strikesOut 54 = .ok (.imul, 1) := by decide +kernel
theorem dX9_strikesOut_55 : decode cX9_strikesOut 55 = .ok (.iload_n 1, 1) := by decide +kernel
theorem dX9_strikesOut_56 : decode cX9_strikesOut 56 = .ok (.iadd, 1) := by decide +kernel
theorem dX9_strikesOut_57 : decode cX9_strikesOut 57 = .ok (.iaload, 1) := by decide +kernel
theorem dX9_strikesOut_58 : decode cX9_strikesOut 58 = .ok (.iload 4, 2) := by decide +kernel
theorem dX9_strikesOut_60 : decode cX9_strikesOut 60 = .ok (.if_icmp .ge 17, 3) := by decide +kernel
theorem dX9_strikesOut_63 : decode cX9_strikesOut 63 = .ok (.aload_n 0, 1) := by decide +kernel
theorem dX9_strikesOut_64 : decode cX9_strikesOut 64 = .ok (.getfield 44, 3) := by decide +kernel
theorem dX9_strikesOut_67 : decode cX9_strikesOut 67 = .ok (.bipush 8, 2) := by decide +kernel
theorem dX9_strikesOut_69 : decode cX9_strikesOut 69 = .ok (.iload_n 3, 1) := by decide +kernel
theorem dX9_strikesOut_70 : decode cX9_strikesOut 70 = .ok (.imul, 1) := by decide +kernel
theorem dX9_strikesOut_71 : decode cX9_strikesOut 71 = .ok (.iload_n 1, 1) := by decide +kernel
theorem dX9_strikesOut_72 : decode cX9_strikesOut 72 = .ok (.iadd, 1) := by decide +kernel
theorem dX9_strikesOut_73 : decode cX9_strikesOut 73 = .ok (.iaload, 1) := by decide +kernel
theorem dX9_strikesOut_74 : decode cX9_strikesOut 74 = .ok (.goto 5, 3) := by decide +kernel
theorem dX9_strikesOut_77 : decode cX9_strikesOut 77 = .ok (.iload 4, 2) := by decide +kernel
theorem dX9_strikesOut_79 : decode cX9_strikesOut 79 = .ok (.istore 4, 2) := by decide +kernel
theorem dX9_strikesOut_81 : decode cX9_strikesOut 81 = .ok (.aload_n 0, 1) := by decide +kernel
theorem dX9_strikesOut_82 : decode cX9_strikesOut 82 = .ok (.getfield 44, 3) := by decide +kernel
theorem dX9_strikesOut_85 : decode cX9_strikesOut 85 = .ok (.bipush 8, 2) := by decide +kernel
theorem dX9_strikesOut_87 : decode cX9_strikesOut 87 = .ok (.iload_n 1, 1) := by decide +kernel
theorem dX9_strikesOut_88 : decode cX9_strikesOut 88 = .ok (.imul, 1) := by decide +kernel
theorem dX9_strikesOut_89 : decode cX9_strikesOut 89 = .ok (.iload_n 2, 1) := by decide +kernel
theorem dX9_strikesOut_90 : decode cX9_strikesOut 90 = .ok (.iadd, 1) := by decide +kernel
theorem dX9_strikesOut_91 : decode cX9_strikesOut 91 = .ok (.dup2, 1) := by decide +kernel
theorem dX9_strikesOut_92 : decode cX9_strikesOut 92 = .ok (.iaload, 1) := by decide +kernel
theorem dX9_strikesOut_93 : decode cX9_strikesOut 93 = .ok (.iload 4, 2) := by decide +kernel
theorem dX9_strikesOut_95 : decode cX9_strikesOut 95 = .ok (.isub, 1) := by decide +kernel
theorem dX9_strikesOut_96 : decode cX9_strikesOut 96 = .ok (.iastore, 1) := by decide +kernel
theorem dX9_strikesOut_97 : decode cX9_strikesOut 97 = .ok (.aload_n 0, 1) := by decide +kernel
theorem dX9_strikesOut_98 : decode cX9_strikesOut 98 = .ok (.getfield 44, 3) := by decide +kernel
theorem dX9_strikesOut_101 : decode cX9_strikesOut 101 = .ok (.bipush 8, 2) := by decide +kernel
theorem dX9_strikesOut_103 : decode cX9_strikesOut 103 = .ok (.iload_n 2, 1) := by decide +kernel
theorem dX9_strikesOut_104 : decode cX9_strikesOut 104 = .ok (.imul, 1) := by decide +kernel
theorem dX9_strikesOut_105 : decode cX9_strikesOut 105 = .ok (.iload_n 3, 1) := by decide +kernel
theorem dX9_strikesOut_106 : decode cX9_strikesOut 106 = .ok (.iadd, 1) := by decide +kernel
theorem dX9_strikesOut_107 : decode cX9_strikesOut 107 = .ok (.dup2, 1) := by decide +kernel
theorem dX9_strikesOut_108 : decode cX9_strikesOut 108 = .ok (.iaload, 1) := by decide +kernel
theorem dX9_strikesOut_109 : decode cX9_strikesOut 109 = .ok (.iload 4, 2) := by decide +kernel
theorem dX9_strikesOut_111 : decode cX9_strikesOut 111 = .ok (.isub, 1) := by decide +kernel
theorem dX9_strikesOut_112 : decode cX9_strikesOut 112 = .ok (.iastore, 1) := by decide +kernel
theorem dX9_strikesOut_113 : decode cX9_strikesOut 113 = .ok (.aload_n 0, 1) := by decide +kernel
theorem dX9_strikesOut_114 : decode cX9_strikesOut 114 = .ok (.getfield 44, 3) := by decide +kernel
theorem dX9_strikesOut_117 : decode cX9_strikesOut 117 = .ok (.bipush 8, 2) := by decide +kernel
theorem dX9_strikesOut_119 : decode cX9_strikesOut 119 = .ok (.iload_n 3, 1) := by decide +kernel
theorem dX9_strikesOut_120 : decode cX9_strikesOut 120 = .ok (.imul, 1) := by decide +kernel
theorem dX9_strikesOut_121 : decode cX9_strikesOut 121 = .ok (.iload_n 1, 1) := by decide +kernel
theorem dX9_strikesOut_122 : decode cX9_strikesOut 122 = .ok (.iadd, 1) := by decide +kernel
theorem dX9_strikesOut_123 : decode cX9_strikesOut 123 = .ok (.dup2, 1) := by decide +kernel
theorem dX9_strikesOut_124 : decode cX9_strikesOut 124 = .ok (.iaload, 1) := by decide +kernel
theorem dX9_strikesOut_125 : decode cX9_strikesOut 125 = .ok (.iload 4, 2) := by decide +kernel
theorem dX9_strikesOut_127 : decode cX9_strikesOut 127 = .ok (.isub, 1) := by decide +kernel
theorem dX9_strikesOut_128 : decode cX9_strikesOut 128 = .ok (.iastore, 1) := by decide +kernel
theorem dX9_strikesOut_129 : decode cX9_strikesOut 129 = .ok (.return_, 1) := by decide +kernel
theorem dX9_struck_0 : decode cX9_struck 0 = .ok (.iload_n 1, 1) := by decide +kernel
theorem dX9_struck_1 : decode cX9_struck 1 = .ok (.iconst (-1), 1) := by decide +kernel
theorem dX9_struck_2 : decode cX9_struck 2 = .ok (.if_icmp .ne 12, 3) := by decide +kernel
theorem dX9_struck_5 : decode cX9_struck 5 = .ok (.iload_n 2, 1) := by decide +kernel
theorem dX9_struck_6 : decode cX9_struck 6 = .ok (.iconst (-1), 1) := by decide +kernel
theorem dX9_struck_7 : decode cX9_struck 7 = .ok (.if_icmp .ne 7, 3) := by decide +kernel
theorem dX9_struck_10 : decode cX9_struck 10 = .ok (.iconst 1, 1) := by decide +kernel
theorem dX9_struck_11 : decode cX9_struck 11 = .ok (.goto 4, 3) := by decide +kernel
theorem dX9_struck_14 : decode cX9_struck 14 = .ok (.iconst 0, 1) := by decide +kernel
theorem dX9_struck_15 : decode cX9_struck 15 = .ok (.istore_n 3, 1) := by decide +kernel
theorem dX9_struck_16 : decode cX9_struck 16 = .ok (.iload_n 3, 1) := by decide +kernel
theorem dX9_struck_17 : decode cX9_struck 17 = .ok (.ifCond .ne 20, 3) := by decide +kernel
theorem dX9_struck_20 : decode cX9_struck 20 = .ok (.aload_n 0, 1) := by decide +kernel
theorem dX9_struck_21 : decode cX9_struck 21 = .ok (.iload_n 1, 1) := by decide +kernel
theorem dX9_struck_22 : decode cX9_struck 22 = .ok (.iload_n 2, 1) := by decide +kernel
theorem dX9_struck_23 : decode cX9_struck 23 = .ok (.invokevirtual 81, 3) := by decide +kernel
theorem dX9_struck_26 : decode cX9_struck 26 = .ok (.ifCond .ne 11, 3) := by decide +kernel
theorem dX9_struck_29 : decode cX9_struck 29 = .ok (.aload_n 0, 1) := by decide +kernel
theorem dX9_struck_30 : decode cX9_struck 30 = .ok (.iconst 0, 1) := by decide +kernel
theorem dX9_struck_31 : decode cX9_struck 31 = .ok (.bipush (-10), 2) := by decide +kernel
theorem dX9_struck_33 : decode cX9_struck 33 = .ok (.invokevirtual 51, 3) := by decide +kernel
theorem dX9_struck_36 : decode cX9_struck 36 = .ok (.ireturn, 1) := by decide +kernel
theorem dX9_struck_37 : decode cX9_struck 37 = .ok (.iconst 0, 1) := by decide +kernel
theorem dX9_struck_38 : decode cX9_struck 38 = .ok (.istore 4, 2) := by decide +kernel
theorem dX9_struck_40 : decode cX9_struck 40 = .ok (.iload 4, 2) := by decide +kernel
theorem dX9_struck_42 : decode cX9_struck 42 = .ok (.bipush 64, 2) := by decide +kernel
theorem dX9_struck_44 : decode cX9_struck 44 = .ok (.if_icmp .ge 26, 3) := by decide +kernel
theorem dX9_struck_47 : decode cX9_struck 47 = .ok (.aload_n 0, 1) := by decide +kernel
theorem dX9_struck_48 : decode cX9_struck 48 = .ok (.getfield 44, 3) := by decide +kernel
theorem dX9_struck_51 : decode cX9_struck 51 = .ok (.iload 4, 2) := by decide +kernel
theorem dX9_struck_53 : decode cX9_struck 53 = .ok (.aload_n 0, 1) := by decide +kernel
theorem dX9_struck_54 : decode cX9_struck 54 = .ok (.getfield 7, 3) := by decide +kernel
theorem dX9_struck_57 : decode cX9_struck 57 = .ok (.bipush 36, 2) := by decide +kernel
theorem dX9_struck_59 : decode cX9_struck 59 = .ok (.iload 4, 2) := by decide +kernel
theorem dX9_struck_61 : decode cX9_struck 61 = .ok (.iadd, 1) := by decide +kernel
theorem dX9_struck_62 : decode cX9_struck 62 = .ok (.iaload, 1) := by decide +kernel
theorem dX9_struck_63 : decode cX9_struck 63 = .ok (.iastore, 1) := by decide +kernel
theorem dX9_struck_64 : decode cX9_struck 64 = .ok (.iinc 4 1, 3) := by decide +kernel
theorem dX9_struck_67 : decode cX9_struck 67 = .ok (.goto (-27), 3) := by decide +kernel
theorem dX9_struck_70 : decode cX9_struck 70 = .ok (.iconst 0, 1) := by decide +kernel
theorem dX9_struck_71 : decode cX9_struck 71 = .ok (.istore 4, 2) := by decide +kernel
theorem dX9_struck_73 : decode cX9_struck 73 = .ok (.iload 4, 2) := by decide +kernel
theorem dX9_struck_75 : decode cX9_struck 75 = .ok (.bipush 8, 2) := by decide +kernel
theorem dX9_struck_77 : decode cX9_struck 77 = .ok (.if_icmp .ge 124, 3) := by decide +kernel
theorem dX9_struck_80 : decode cX9_struck 80 = .ok (.iload 4, 2) := by decide +kernel
theorem dX9_struck_82 : decode cX9_struck 82 = .ok (.iconst 1, 1) := by decide +kernel
theorem dX9_struck_83 : decode cX9_struck 83 = .ok (.iadd, 1) := by decide +kernel
theorem dX9_struck_84 : decode cX9_struck 84 = .ok (.istore 5, 2) := by decide +kernel
theorem dX9_struck_86 : decode cX9_struck 86 = .ok (.iload 5, 2) := by decide +kernel
theorem dX9_struck_88 : decode cX9_struck 88 = .ok (.bipush 8, 2) := by decide +kernel
theorem dX9_struck_90 : decode cX9_struck 90 = .ok (.if_icmp .ge 105, 3) := by decide +kernel
theorem dX9_struck_93 : decode cX9_struck 93 = .ok (.aload_n 0, 1) := by decide +kernel
theorem dX9_struck_94 : decode cX9_struck 94 = .ok (.getfield 44, 3) := by decide +kernel
theorem dX9_struck_97 : decode cX9_struck 97 = .ok (.bipush 8, 2) := by decide +kernel
theorem dX9_struck_99 : decode cX9_struck 99 = .ok (.iload 4, 2) := by decide +kernel
theorem dX9_struck_101 : decode cX9_struck 101 = .ok (.imul, 1) := by decide +kernel
theorem dX9_struck_102 : decode cX9_struck 102 = .ok (.iload 5, 2) := by decide +kernel
theorem dX9_struck_104 : decode cX9_struck 104 = .ok (.iadd, 1) := by decide +kernel
theorem dX9_struck_105 : decode cX9_struck 105 = .ok (.iaload, 1) := by decide +kernel
theorem dX9_struck_106 : decode cX9_struck 106 = .ok (.aload_n 0, 1) := by decide +kernel
theorem dX9_struck_107 : decode cX9_struck 107 = .ok (.getfield 44, 3) := by decide +kernel
theorem dX9_struck_110 : decode cX9_struck 110 = .ok (.bipush 8, 2) := by decide +kernel
theorem dX9_struck_112 : decode cX9_struck 112 = .ok (.iload 5, 2) := by decide +kernel
theorem dX9_struck_114 : decode cX9_struck 114 = .ok (.imul, 1) := by decide +kernel
theorem dX9_struck_115 : decode cX9_struck 115 = .ok (.iload 4, 2) := by decide +kernel
theorem dX9_struck_117 : decode cX9_struck 117 = .ok (.iadd, 1) := by decide +kernel
theorem dX9_struck_118 : decode cX9_struck 118 = .ok (.iaload, 1) := by decide +kernel
theorem dX9_struck_119 : decode cX9_struck 119 = .ok (.if_icmp .ge 19, 3) := by decide +kernel
theorem dX9_struck_122 : decode cX9_struck 122 = .ok (.aload_n 0, 1) := by decide +kernel
theorem dX9_struck_123 : decode cX9_struck 123 = .ok (.getfield 44, 3) := by decide +kernel
theorem dX9_struck_126 : decode cX9_struck 126 = .ok (.bipush 8, 2) := by decide +kernel
theorem dX9_struck_128 : decode cX9_struck 128 = .ok (.iload 4, 2) := by decide +kernel
theorem dX9_struck_130 : decode cX9_struck 130 = .ok (.imul, 1) := by decide +kernel
theorem dX9_struck_131 : decode cX9_struck 131 = .ok (.iload 5, 2) := by decide +kernel
theorem dX9_struck_133 : decode cX9_struck 133 = .ok (.iadd, 1) := by decide +kernel
theorem dX9_struck_134 : decode cX9_struck 134 = .ok (.iaload, 1) := by decide +kernel
theorem dX9_struck_135 : decode cX9_struck 135 = .ok (.goto 16, 3) := by decide +kernel
theorem dX9_struck_138 : decode cX9_struck 138 = .ok (.aload_n 0, 1) := by decide +kernel
theorem dX9_struck_139 : decode cX9_struck 139 = .ok (.getfield 44, 3) := by decide +kernel
theorem dX9_struck_142 : decode cX9_struck 142 = .ok (.bipush 8, 2) := by decide +kernel
theorem dX9_struck_144 : decode cX9_struck 144 = .ok (.iload 5, 2) := by decide +kernel
theorem dX9_struck_146 : decode cX9_struck 146 = .ok (.imul, 1) := by decide +kernel
theorem dX9_struck_147 : decode cX9_struck 147 = .ok (.iload 4, 2) := by decide +kernel
theorem dX9_struck_149 : decode cX9_struck 149 = .ok (.iadd, 1) := by decide +kernel
theorem dX9_struck_150 : decode cX9_struck 150 = .ok (.iaload, 1) := by decide +kernel
theorem dX9_struck_151 : decode cX9_struck 151 = .ok (.istore 6, 2) := by decide +kernel
theorem dX9_struck_153 : decode cX9_struck 153 = .ok (.aload_n 0, 1) := by decide +kernel
theorem dX9_struck_154 : decode cX9_struck 154 = .ok (.getfield 44, 3) := by decide +kernel
theorem dX9_struck_157 : decode cX9_struck 157 = .ok (.bipush 8, 2) := by decide +kernel
theorem dX9_struck_159 : decode cX9_struck 159 = .ok (.iload 4, 2) := by decide +kernel
theorem dX9_struck_161 : decode cX9_struck 161 = .ok (.imul, 1) := by decide +kernel
theorem dX9_struck_162 : decode cX9_struck 162 = .ok (.iload 5, 2) := by decide +kernel
theorem dX9_struck_164 : decode cX9_struck 164 = .ok (.iadd, 1) := by decide +kernel
theorem dX9_struck_165 : decode cX9_struck 165 = .ok (.dup2, 1) := by decide +kernel
theorem dX9_struck_166 : decode cX9_struck 166 = .ok (.iaload, 1) := by decide +kernel
theorem dX9_struck_167 : decode cX9_struck 167 = .ok (.iload 6, 2) := by decide +kernel
theorem dX9_struck_169 : decode cX9_struck 169 = .ok (.isub, 1) := by decide +kernel
theorem dX9_struck_170 : decode cX9_struck 170 = .ok (.iastore, 1) := by decide +kernel
theorem dX9_struck_171 : decode cX9_struck 171 = .ok (.aload_n 0, 1) := by decide +kernel
theorem dX9_struck_172 : decode cX9_struck 172 = .ok (.getfield 44, 3) := by decide +kernel
theorem dX9_struck_175 : decode cX9_struck 175 = .ok (.bipush 8, 2) := by decide +kernel
theorem dX9_struck_177 : decode cX9_struck 177 = .ok (.iload 5, 2) := by decide +kernel
theorem dX9_struck_179 : decode cX9_struck 179 = .ok (.imul, 1) := by decide +kernel
theorem dX9_struck_180 : decode cX9_struck 180 = .ok (.iload 4, 2) := by decide +kernel
theorem dX9_struck_182 : decode cX9_struck 182 = .ok (.iadd, 1) := by decide +kernel
theorem dX9_struck_183 : decode cX9_struck 183 = .ok (.dup2, 1) := by decide +kernel
theorem dX9_struck_184 : decode cX9_struck 184 = .ok (.iaload, 1) := by decide +kernel
theorem dX9_struck_185 : decode cX9_struck 185 = .ok (.iload 6, 2) := by decide +kernel
theorem dX9_struck_187 : decode cX9_struck 187 = .ok (.isub, 1) := by decide +kernel
theorem dX9_struck_188 : decode cX9_struck 188 = .ok (.iastore, 1) := by decide +kernel
theorem dX9_struck_189 : decode cX9_struck 189 = .ok (.iinc 5 1, 3) := by decide +kernel
theorem dX9_struck_192 : decode cX9_struck 192 = .ok (.goto (-106), 3) := by decide +kernel
theorem dX9_struck_195 : decode cX9_struck 195 = .ok (.iinc 4 1, 3) := by decide +kernel
theorem dX9_struck_198 : decode cX9_struck 198 = .ok (.goto (-125), 3) := by decide +kernel
theorem dX9_struck_201 : decode cX9_struck 201 = .ok (.iconst 0, 1) := by decide +kernel
theorem dX9_struck_202 : decode cX9_struck 202 = .ok (.istore 4, 2) := by decide +kernel
theorem dX9_struck_204 : decode cX9_struck 204 = .ok (.iload 4, 2) := by decide +kernel
theorem dX9_struck_206 : decode cX9_struck 206 = .ok (.bipush 8, 2) := by decide +kernel
theorem dX9_struck_208 : decode cX9_struck 208 = .ok (.if_icmp .ge 67, 3) := by decide +kernel
theorem dX9_struck_211 : decode cX9_struck 211 = .ok (.iload 4, 2) := by decide +kernel
theorem dX9_struck_213 : decode cX9_struck 213 = .ok (.iconst 1, 1) := by decide +kernel
theorem dX9_struck_214 : decode cX9_struck 214 = .ok (.iadd, 1) := by decide +kernel
theorem dX9_struck_215 : decode cX9_struck 215 = .ok (.istore 5, 2) := by decide +kernel
theorem dX9_struck_217 : decode cX9_struck 217 = .ok (.iload 5, 2) := by decide +kernel
theorem dX9_struck_219 : decode cX9_struck 219 = .ok (.bipush 8, 2) := by decide +kernel
theorem dX9_struck_221 : decode cX9_struck 221 = .ok (.if_icmp .ge 48, 3) := by decide +kernel
theorem dX9_struck_224 : decode cX9_struck 224 = .ok (.iload 5, 2) := by decide +kernel
theorem dX9_struck_226 : decode cX9_struck 226 = .ok (.iconst 1, 1) := by decide +kernel
theorem dX9_struck_227 : decode cX9_struck 227 = .ok (.iadd, 1) := by decide +kernel
theorem dX9_struck_228 : decode cX9_struck 228 = .ok (.istore 6, 2) := by decide +kernel
theorem dX9_struck_230 : decode cX9_struck 230 = .ok (.iload 6, 2) := by decide +kernel
theorem dX9_struck_232 : decode cX9_struck 232 = .ok (.bipush 8, 2) := by decide +kernel
theorem dX9_struck_234 : decode cX9_struck 234 = .ok (.if_icmp .ge 29, 3) := by decide +kernel
theorem dX9_struck_237 : decode cX9_struck 237 = .ok (.aload_n 0, 1) := by decide +kernel
theorem dX9_struck_238 : decode cX9_struck 238 = .ok (.iload 4, 2) := by decide +kernel
theorem dX9_struck_240 : decode cX9_struck 240 = .ok (.iload 5, 2) := by decide +kernel
theorem dX9_struck_242 : decode cX9_struck 242 = .ok (.iload 6, 2) := by decide +kernel
theorem dX9_struck_244 : decode cX9_struck 244 = .ok (.invokevirtual 210, 3) := by decide +kernel
theorem dX9_struck_247 : decode cX9_struck 247 = .ok (.aload_n 0, 1) := by decide +kernel
theorem dX9_struck_248 : decode cX9_struck 248 = .ok (.iload 4, 2) := by decide +kernel
theorem dX9_struck_250 : decode cX9_struck 250 = .ok (.iload 6, 2) := by decide +kernel
theorem dX9_struck_252 : decode cX9_struck 252 = .ok (.iload 5, 2) := by decide +kernel
theorem dX9_struck_254 : decode cX9_struck 254 = .ok (.invokevirtual 210, 3) := by decide +kernel
theorem dX9_struck_257 : decode cX9_struck 257 = .ok (.iinc 6 1, 3) := by decide +kernel
theorem dX9_struck_260 : decode cX9_struck 260 = .ok (.goto (-30), 3) := by decide +kernel
theorem dX9_struck_263 : decode cX9_struck 263 = .ok (.iinc 5 1, 3) := by decide +kernel
theorem dX9_struck_266 : decode cX9_struck 266 = .ok (.goto (-49), 3) := by decide +kernel
theorem dX9_struck_269 : decode cX9_struck 269 = .ok (.iinc 4 1, 3) := by decide +kernel
theorem dX9_struck_272 : decode cX9_struck 272 = .ok (.goto (-68), 3) := by decide +kernel
theorem dX9_struck_275 : decode cX9_struck 275 = .ok (.iconst 0, 1) := by decide +kernel
theorem dX9_struck_276 : decode cX9_struck 276 = .ok (.istore 4, 2) := by decide +kernel
theorem dX9_struck_278 : decode cX9_struck 278 = .ok (.iconst 0, 1) := by decide +kernel
theorem dX9_struck_279 : decode cX9_struck 279 = .ok (.istore 5, 2) := by decide +kernel
theorem dX9_struck_281 : decode cX9_struck 281 = .ok (.iload 5, 2) := by decide +kernel
theorem dX9_struck_283 : decode cX9_struck 283 = .ok (.bipush 64, 2) := by decide +kernel
theorem dX9_struck_285 : decode cX9_struck 285 = .ok (.if_icmp .ge 21, 3) := by decide +kernel
theorem dX9_struck_288 : decode cX9_struck 288 = .ok (.iload 4, 2) := by decide +kernel
theorem dX9_struck_290 : decode cX9_struck 290 = .ok (.aload_n 0, 1) := by decide +kernel
theorem dX9_struck_291 : decode cX9_struck 291 = .ok (.getfield 44, 3) := by decide +kernel
theorem dX9_struck_294 : decode cX9_struck 294 = .ok (.iload 5, 2) := by decide +kernel
theorem dX9_struck_296 : decode cX9_struck 296 = .ok (.iaload, 1) := by decide +kernel
theorem dX9_struck_297 : decode cX9_struck 297 = .ok (.iadd, 1) := by decide +kernel
theorem dX9_struck_298 : decode cX9_struck 298 = .ok (.istore 4, 2) := by decide +kernel
theorem dX9_struck_300 : decode cX9_struck 300 = .ok (.iinc 5 1, 3) := by decide +kernel
theorem dX9_struck_303 : decode cX9_struck 303 = .ok (.goto (-22), 3) := by decide +kernel
theorem dX9_struck_306 : decode cX9_struck 306 = .ok (.iload_n 3, 1) := by decide +kernel
theorem dX9_struck_307 : decode cX9_struck 307 = .ok (.ifCond .eq 8, 3) := by decide +kernel
theorem dX9_struck_310 : decode cX9_struck 310 = .ok (.iload 4, 2) := by decide +kernel
theorem dX9_struck_312 : decode cX9_struck 312 = .ok (.goto 14, 3) := by decide +kernel
theorem dX9_struck_315 : decode cX9_struck 315 = .ok (.aload_n 0, 1) := by decide +kernel
theorem dX9_struck_316 : decode cX9_struck 316 = .ok (.getfield 44, 3) := by decide +kernel
theorem dX9_struck_319 : decode cX9_struck 319 = .ok (.bipush 8, 2) := by decide +kernel
theorem dX9_struck_321 : decode cX9_struck 321 = .ok (.iload_n 1, 1) := by decide +kernel
theorem dX9_struck_322 : decode cX9_struck 322 = .ok (.imul, 1) := by decide +kernel
theorem dX9_struck_323 : decode cX9_struck 323 = .ok (.iload_n 2, 1) := by decide +kernel
theorem dX9_struck_324 : decode cX9_struck 324 = .ok (.iadd, 1) := by decide +kernel
theorem dX9_struck_325 : decode cX9_struck 325 = .ok (.iaload, 1) := by decide +kernel
theorem dX9_struck_326 : decode cX9_struck 326 = .ok (.ireturn, 1) := by decide +kernel
theorem dX9_have_0 : decode cX9_have 0 = .ok (.aload_n 0, 1) := by decide +kernel
theorem dX9_have_1 : decode cX9_have 1 = .ok (.iload_n 1, 1) := by decide +kernel
theorem dX9_have_2 : decode cX9_have 2 = .ok (.iload_n 2, 1) := by decide +kernel
theorem dX9_have_3 : decode cX9_have 3 = .ok (.invokevirtual 81, 3) := by decide +kernel
theorem dX9_have_6 : decode cX9_have 6 = .ok (.ifCond .ne 8, 3) := by decide +kernel
theorem dX9_have_9 : decode cX9_have 9 = .ok (.aload_n 0, 1) := by decide +kernel
theorem dX9_have_10 : decode cX9_have 10 = .ok (.invokevirtual 69, 3) := by decide +kernel
theorem dX9_have_13 : decode cX9_have 13 = .ok (.ireturn, 1) := by decide +kernel
theorem dX9_have_14 : decode cX9_have 14 = .ok (.aload_n 0, 1) := by decide +kernel
theorem dX9_have_15 : decode cX9_have 15 = .ok (.invokevirtual 145, 3) := by decide +kernel
theorem dX9_have_18 : decode cX9_have 18 = .ok (.ifCond .ne 8, 3) := by decide +kernel
theorem dX9_have_21 : decode cX9_have 21 = .ok (.aload_n 0, 1) := by decide +kernel
theorem dX9_have_22 : decode cX9_have 22 = .ok (.invokevirtual 151, 3) := by decide +kernel
theorem dX9_have_25 : decode cX9_have 25 = .ok (.ireturn, 1) := by decide +kernel
theorem dX9_have_26 : decode cX9_have 26 = .ok (.aload_n 0, 1) := by decide +kernel
theorem dX9_have_27 : decode cX9_have 27 = .ok (.getfield 7, 3) := by decide +kernel
theorem dX9_have_30 : decode cX9_have 30 = .ok (.iconst 4, 1) := by decide +kernel
theorem dX9_have_31 : decode cX9_have 31 = .ok (.iconst 4, 1) := by decide +kernel
theorem dX9_have_32 : decode cX9_have 32 = .ok (.iload_n 1, 1) := by decide +kernel
theorem dX9_have_33 : decode cX9_have 33 = .ok (.imul, 1) := by decide +kernel
theorem dX9_have_34 : decode cX9_have 34 = .ok (.iadd, 1) := by decide +kernel
theorem dX9_have_35 : decode cX9_have 35 = .ok (.iconst 2, 1) := by decide +kernel
theorem dX9_have_36 : decode cX9_have 36 = .ok (.iadd, 1) := by decide +kernel
theorem dX9_have_37 : decode cX9_have 37 = .ok (.iaload, 1) := by decide +kernel
theorem dX9_have_38 : decode cX9_have 38 = .ok (.istore 4, 2) := by decide +kernel
theorem dX9_have_40 : decode cX9_have 40 = .ok (.iconst (-1), 1) := by decide +kernel
theorem dX9_have_41 : decode cX9_have 41 = .ok (.istore 5, 2) := by decide +kernel
theorem dX9_have_43 : decode cX9_have 43 = .ok (.iconst 0, 1) := by decide +kernel
theorem dX9_have_44 : decode cX9_have 44 = .ok (.istore 6, 2) := by decide +kernel
theorem dX9_have_46 : decode cX9_have 46 = .ok (.iload 6, 2) := by decide +kernel
theorem dX9_have_48 : decode cX9_have 48 = .ok (.bipush 10, 2) := by decide +kernel
theorem dX9_have_50 : decode cX9_have 50 = .ok (.if_icmp .ge 60, 3) := by decide +kernel
theorem dX9_have_53 : decode cX9_have 53 = .ok (.iload 5, 2) := by decide +kernel
theorem dX9_have_55 : decode cX9_have 55 = .ok (.iconst (-1), 1) := by decide +kernel
theorem dX9_have_56 : decode cX9_have 56 = .ok (.if_icmp .ne 54, 3) := by decide +kernel
theorem dX9_have_59 : decode cX9_have 59 = .ok (.aload_n 0, 1) := by decide +kernel
theorem dX9_have_60 : decode cX9_have 60 = .ok (.getfield 7, 3) := by decide +kernel
theorem dX9_have_63 : decode cX9_have 63 = .ok (.iconst 4, 1) := by decide +kernel
theorem dX9_have_64 : decode cX9_have 64 = .ok (.iconst 4, 1) := by decide +kernel
theorem dX9_have_65 : decode cX9_have 65 = .ok (.iload_n 1, 1) := by decide +kernel
theorem dX9_have_66 : decode cX9_have 66 = .ok (.imul, 1) := by decide +kernel
theorem dX9_have_67 : decode cX9_have 67 = .ok (.iadd, 1) := by decide +kernel
theorem dX9_have_68 : decode cX9_have 68 = .ok (.iconst 2, 1) := by decide +kernel
theorem dX9_have_69 : decode cX9_have 69 = .ok (.iadd, 1) := by decide +kernel
theorem dX9_have_70 : decode cX9_have 70 = .ok (.iload 6, 2) := by decide +kernel
theorem dX9_have_72 : decode cX9_have 72 = .ok (.iastore, 1) := by decide +kernel
theorem dX9_have_73 : decode cX9_have 73 = .ok (.iload_n 3, 1) := by decide +kernel
theorem dX9_have_74 : decode cX9_have 74 = .ok (.ifCond .eq 12, 3) := by decide +kernel
theorem dX9_have_77 : decode cX9_have 77 = .ok (.aload_n 0, 1) := by decide +kernel
theorem dX9_have_78 : decode cX9_have 78 = .ok (.iload_n 1, 1) := by decide +kernel
theorem dX9_have_79 : decode cX9_have 79 = .ok (.iload_n 2, 1) := by decide +kernel
theorem dX9_have_80 : decode cX9_have 80 = .ok (.invokevirtual 171, 3) := by decide +kernel
theorem dX9_have_83 : decode cX9_have 83 = .ok (.goto 9, 3) := by decide +kernel
theorem dX9_have_86 : decode cX9_have 86 = .ok (.aload_n 0, 1) := by decide +kernel
theorem dX9_have_87 : decode cX9_have 87 = .ok (.iload_n 2, 1) := by decide +kernel
theorem dX9_have_88 : decode cX9_have 88 = .ok (.iload_n 1, 1) := by decide +kernel
theorem dX9_have_89 : decode cX9_have 89 = .ok (.invokevirtual 171, 3) := by decide +kernel
theorem dX9_have_92 : decode cX9_have 92 = .ok (.iload_n 1, 1) := by decide +kernel
theorem dX9_have_93 : decode cX9_have 93 = .ok (.if_icmp .ne 8, 3) := by decide +kernel
theorem dX9_have_96 : decode cX9_have 96 = .ok (.iload 6, 2) := by decide +kernel
theorem dX9_have_98 : decode cX9_have 98 = .ok (.goto 4, 3) := by decide +kernel
theorem dX9_have_101 : decode cX9_have 101 = .ok (.iconst (-1), 1) := by decide +kernel
theorem dX9_have_102 : decode cX9_have 102 = .ok (.istore 5, 2) := by decide +kernel
theorem dX9_have_104 : decode cX9_have 104 = .ok (.iinc 6 1, 3) := by decide +kernel
theorem dX9_have_107 : decode cX9_have 107 = .ok (.goto (-61), 3) := by decide +kernel
theorem dX9_have_110 : decode cX9_have 110 = .ok (.aload_n 0, 1) := by decide +kernel
theorem dX9_have_111 : decode cX9_have 111 = .ok (.getfield 7, 3) := by decide +kernel
theorem dX9_have_114 : decode cX9_have 114 = .ok (.iconst 4, 1) := by decide +kernel
theorem dX9_have_115 : decode cX9_have 115 = .ok (.iconst 4, 1) := by decide +kernel
theorem dX9_have_116 : decode cX9_have 116 = .ok (.iload_n 1, 1) := by decide +kernel
theorem dX9_have_117 : decode cX9_have 117 = .ok (.imul, 1) := by decide +kernel
theorem dX9_have_118 : decode cX9_have 118 = .ok (.iadd, 1) := by decide +kernel
theorem dX9_have_119 : decode cX9_have 119 = .ok (.iconst 2, 1) := by decide +kernel
theorem dX9_have_120 : decode cX9_have 120 = .ok (.iadd, 1) := by decide +kernel
theorem dX9_have_121 : decode cX9_have 121 = .ok (.iload 4, 2) := by decide +kernel
theorem dX9_have_123 : decode cX9_have 123 = .ok (.iastore, 1) := by decide +kernel
theorem dX9_have_124 : decode cX9_have 124 = .ok (.iload 5, 2) := by decide +kernel
theorem dX9_have_126 : decode cX9_have 126 = .ok (.ireturn, 1) := by decide +kernel
theorem dX9_divisor_0 : decode cX9_divisor 0 = .ok (.iload_n 0, 1) := by decide +kernel
theorem dX9_divisor_1 : decode cX9_divisor 1 = .ok (.istore_n 2, 1) := by decide +kernel
theorem dX9_divisor_2 : decode cX9_divisor 2 = .ok (.iload_n 1, 1) := by decide +kernel
theorem dX9_divisor_3 : decode cX9_divisor 3 = .ok (.istore_n 3, 1) := by decide +kernel
theorem dX9_divisor_4 : decode cX9_divisor 4 = .ok (.iload_n 3, 1) := by decide +kernel
theorem dX9_divisor_5 : decode cX9_divisor 5 = .ok (.ifCond .eq 16, 3) := by decide +kernel
theorem dX9_divisor_8 : decode cX9_divisor 8 = .ok (.iload_n 2, 1) := by decide +kernel
theorem dX9_divisor_9 : decode cX9_divisor 9 = .ok (.iload_n 3, 1) := by decide +kernel
theorem dX9_divisor_10 : decode cX9_divisor 10 = .ok (.irem, 1) := by decide +kernel
theorem dX9_divisor_11 : decode cX9_divisor 11 = .ok (.istore 4, 2) := by decide +kernel
theorem dX9_divisor_13 : decode cX9_divisor 13 = .ok (.iload_n 3, 1) := by decide +kernel
theorem dX9_divisor_14 : decode cX9_divisor 14 = .ok (.istore_n 2, 1) := by decide +kernel
theorem dX9_divisor_15 : decode cX9_divisor 15 = .ok (.iload 4, 2) := by decide +kernel
theorem dX9_divisor_17 : decode cX9_divisor 17 = .ok (.istore_n 3, 1) := by decide +kernel
theorem dX9_divisor_18 : decode cX9_divisor 18 = .ok (.goto (-14), 3) := by decide +kernel
theorem dX9_divisor_21 : decode cX9_divisor 21 = .ok (.iload_n 2, 1) := by decide +kernel
theorem dX9_divisor_22 : decode cX9_divisor 22 = .ok (.ireturn, 1) := by decide +kernel
theorem dX9_firsts_0 : decode cX9_firsts 0 = .ok (.aload_n 0, 1) := by decide +kernel
theorem dX9_firsts_1 : decode cX9_firsts 1 = .ok (.iload_n 1, 1) := by decide +kernel
theorem dX9_firsts_2 : decode cX9_firsts 2 = .ok (.invokevirtual 59, 3) := by decide +kernel
theorem dX9_firsts_5 : decode cX9_firsts 5 = .ok (.ifCond .ne 8, 3) := by decide +kernel
theorem dX9_firsts_8 : decode cX9_firsts 8 = .ok (.aload_n 0, 1) := by decide +kernel
theorem dX9_firsts_9 : decode cX9_firsts 9 = .ok (.invokevirtual 69, 3) := by decide +kernel
theorem dX9_firsts_12 : decode cX9_firsts 12 = .ok (.ireturn, 1) := by decide +kernel
theorem dX9_firsts_13 : decode cX9_firsts 13 = .ok (.aload_n 0, 1) := by decide +kernel
theorem dX9_firsts_14 : decode cX9_firsts 14 = .ok (.invokevirtual 145, 3) := by decide +kernel
theorem dX9_firsts_17 : decode cX9_firsts 17 = .ok (.ifCond .eq 13, 3) := by decide +kernel
theorem dX9_firsts_20 : decode cX9_firsts 20 = .ok (.aload_n 0, 1) := by decide +kernel
theorem dX9_firsts_21 : decode cX9_firsts 21 = .ok (.getfield 7, 3) := by decide +kernel
theorem dX9_firsts_24 : decode cX9_firsts 24 = .ok (.iconst 0, 1) := by decide +kernel
theorem dX9_firsts_25 : decode cX9_firsts 25 = .ok (.iaload, 1) := by decide +kernel
theorem dX9_firsts_26 : decode cX9_firsts 26 = .ok (.iconst 2, 1) := by decide +kernel
theorem dX9_firsts_27 : decode cX9_firsts 27 = .ok (.if_icmp .ge 8, 3) := by decide +kernel
theorem dX9_firsts_30 : decode cX9_firsts 30 = .ok (.aload_n 0, 1) := by decide +kernel
theorem dX9_firsts_31 : decode cX9_firsts 31 = .ok (.invokevirtual 151, 3) := by decide +kernel
theorem dX9_firsts_34 : decode cX9_firsts 34 = .ok (.ireturn, 1) := by decide +kernel
theorem dX9_firsts_35 : decode cX9_firsts 35 = .ok (.iconst 0, 1) := by decide +kernel
theorem dX9_firsts_36 : decode cX9_firsts 36 = .ok (.istore_n 2, 1) := by decide +kernel
theorem dX9_firsts_37 : decode cX9_firsts 37 = .ok (.iconst 0, 1) := by decide +kernel
theorem dX9_firsts_38 : decode cX9_firsts 38 = .ok (.istore_n 3, 1) := by decide +kernel
theorem dX9_firsts_39 : decode cX9_firsts 39 = .ok (.iload_n 3, 1) := by decide +kernel
theorem dX9_firsts_40 : decode cX9_firsts 40 = .ok (.aload_n 0, 1) := by decide +kernel
theorem dX9_firsts_41 : decode cX9_firsts 41 = .ok (.getfield 7, 3) := by decide +kernel
theorem dX9_firsts_44 : decode cX9_firsts 44 = .ok (.iconst 0, 1) := by decide +kernel
theorem dX9_firsts_45 : decode cX9_firsts 45 = .ok (.iaload, 1) := by decide +kernel
theorem dX9_firsts_46 : decode cX9_firsts 46 = .ok (.if_icmp .ge 48, 3) := by decide +kernel
theorem dX9_firsts_49 : decode cX9_firsts 49 = .ok (.iload_n 3, 1) := by decide +kernel
theorem dX9_firsts_50 : decode cX9_firsts 50 = .ok (.iload_n 1, 1) := by decide +kernel
theorem dX9_firsts_51 : decode cX9_firsts 51 = .ok (.if_icmp .eq 37, 3) := by decide +kernel
theorem dX9_firsts_54 : decode cX9_firsts 54 = .ok (.iload_n 2, 1) := by decide +kernel
theorem dX9_firsts_55 : decode cX9_firsts 55 = .ok (.aload_n 0, 1) := by decide +kernel
theorem dX9_firsts_56 : decode cX9_firsts 56 = .ok (.iload_n 1, 1) := by decide +kernel
theorem dX9_firsts_57 : decode cX9_firsts 57 = .ok (.iload_n 3, 1) := by decide +kernel
theorem dX9_firsts_58 : decode cX9_firsts 58 = .ok (.invokevirtual 171, 3) := by decide +kernel
theorem dX9_firsts_61 : decode cX9_firsts 61 = .ok (.iload_n 1, 1) := by decide +kernel
theorem dX9_firsts_62 : decode cX9_firsts 62 = .ok (.if_icmp .ne 7, 3) := by decide +kernel
theorem dX9_firsts_65 : decode cX9_firsts 65 = .ok (.iconst 1, 1) := by decide +kernel
theorem dX9_firsts_66 : decode cX9_firsts 66 = .ok (.goto 4, 3) := by decide +kernel
theorem dX9_firsts_69 : decode cX9_firsts 69 = .ok (.iconst 0, 1) := by decide +kernel
theorem dX9_firsts_70 : decode cX9_firsts 70 = .ok (.aload_n 0, 1) := by decide +kernel
theorem dX9_firsts_71 : decode cX9_firsts 71 = .ok (.iload_n 3, 1) := by decide +kernel
theorem dX9_firsts_72 : decode cX9_firsts 72 = .ok (.iload_n 1, 1) := by decide +kernel
theorem dX9_firsts_73 : decode cX9_firsts 73 = .ok (.invokevirtual 171, 3) := by decide +kernel
theorem dX9_firsts_76 : decode cX9_firsts 76 = .ok (.iload_n 1, 1) := by decide +kernel
theorem dX9_firsts_77 : decode cX9_firsts 77 = .ok (.if_icmp .ne 7, 3) := by decide +kernel
theorem dX9_firsts_80 : decode cX9_firsts 80 = .ok (.iconst 1, 1) := by decide +kernel
theorem dX9_firsts_81 : decode cX9_firsts 81 = .ok (.goto 4, 3) := by decide +kernel
theorem dX9_firsts_84 : decode cX9_firsts 84 = .ok (.iconst 0, 1) := by decide +kernel
theorem dX9_firsts_85 : decode cX9_firsts 85 = .ok (.iadd, 1) := by decide +kernel
theorem dX9_firsts_86 : decode cX9_firsts 86 = .ok (.iadd, 1) := by decide +kernel
theorem dX9_firsts_87 : decode cX9_firsts 87 = .ok (.istore_n 2, 1) := by decide +kernel
theorem dX9_firsts_88 : decode cX9_firsts 88 = .ok (.iinc 3 1, 3) := by decide +kernel
theorem dX9_firsts_91 : decode cX9_firsts 91 = .ok (.goto (-52), 3) := by decide +kernel
theorem dX9_firsts_94 : decode cX9_firsts 94 = .ok (.iconst 2, 1) := by decide +kernel
theorem dX9_firsts_95 : decode cX9_firsts 95 = .ok (.aload_n 0, 1) := by decide +kernel
theorem dX9_firsts_96 : decode cX9_firsts 96 = .ok (.getfield 7, 3) := by decide +kernel
theorem dX9_firsts_99 : decode cX9_firsts 99 = .ok (.iconst 0, 1) := by decide +kernel
theorem dX9_firsts_100 : decode cX9_firsts 100 = .ok (.iaload, 1) := by decide +kernel
theorem dX9_firsts_101 : decode cX9_firsts 101 = .ok (.iconst 1, 1) := by decide +kernel
theorem dX9_firsts_102 : decode cX9_firsts 102 = .ok (.isub, 1) := by decide +kernel
theorem dX9_firsts_103 : decode cX9_firsts 103 = .ok (.imul, 1) := by decide +kernel
theorem dX9_firsts_104 : decode cX9_firsts 104 = .ok (.istore_n 3, 1) := by decide +kernel
theorem dX9_firsts_105 : decode cX9_firsts 105 = .ok (.iload_n 2, 1) := by decide +kernel
theorem dX9_firsts_106 : decode cX9_firsts 106 = .ok (.iload_n 3, 1) := by decide +kernel
theorem dX9_firsts_107 : decode cX9_firsts 107 = .ok (.invokestatic 214, 3) := by decide +kernel
theorem dX9_firsts_110 : decode cX9_firsts 110 = .ok (.istore 4, 2) := by decide +kernel
theorem dX9_firsts_112 : decode cX9_firsts 112 = .ok (.aload_n 0, 1) := by decide +kernel
theorem dX9_firsts_113 : decode cX9_firsts 113 = .ok (.iload_n 2, 1) := by decide +kernel
theorem dX9_firsts_114 : decode cX9_firsts 114 = .ok (.iload 4, 2) := by decide +kernel
theorem dX9_firsts_116 : decode cX9_firsts 116 = .ok (.idiv, 1) := by decide +kernel
theorem dX9_firsts_117 : decode cX9_firsts 117 = .ok (.putfield 217, 3) := by decide +kernel
theorem dX9_firsts_120 : decode cX9_firsts 120 = .ok (.aload_n 0, 1) := by decide +kernel
theorem dX9_firsts_121 : decode cX9_firsts 121 = .ok (.iload_n 3, 1) := by decide +kernel
theorem dX9_firsts_122 : decode cX9_firsts 122 = .ok (.iload 4, 2) := by decide +kernel
theorem dX9_firsts_124 : decode cX9_firsts 124 = .ok (.idiv, 1) := by decide +kernel
theorem dX9_firsts_125 : decode cX9_firsts 125 = .ok (.putfield 47, 3) := by decide +kernel
theorem dX9_firsts_128 : decode cX9_firsts 128 = .ok (.iconst 1, 1) := by decide +kernel
theorem dX9_firsts_129 : decode cX9_firsts 129 = .ok (.ireturn, 1) := by decide +kernel
theorem dX9_bits_0 : decode cX9_bits 0 = .ok (.iconst 0, 1) := by decide +kernel
theorem dX9_bits_1 : decode cX9_bits 1 = .ok (.istore_n 1, 1) := by decide +kernel
theorem dX9_bits_2 : decode cX9_bits 2 = .ok (.iconst 0, 1) := by decide +kernel
theorem dX9_bits_3 : decode cX9_bits 3 = .ok (.istore_n 2, 1) := by decide +kernel
theorem dX9_bits_4 : decode cX9_bits 4 = .ok (.iload_n 2, 1) := by decide +kernel
theorem dX9_bits_5 : decode cX9_bits 5 = .ok (.bipush 9, 2) := by decide +kernel
theorem dX9_bits_7 : decode cX9_bits 7 = .ok (.if_icmp .ge 17, 3) := by decide +kernel
theorem dX9_bits_10 : decode cX9_bits 10 = .ok (.iload_n 1, 1) := by decide +kernel
theorem dX9_bits_11 : decode cX9_bits 11 = .ok (.iload_n 0, 1) := by decide +kernel
theorem dX9_bits_12 : decode cX9_bits 12 = .ok (.iload_n 2, 1) := by decide +kernel
theorem dX9_bits_13 : decode cX9_bits 13 = .ok (.ishr, 1) := by decide +kernel
theorem dX9_bits_14 : decode cX9_bits 14 = .ok (.iconst 1, 1) := by decide +kernel
theorem dX9_bits_15 : decode cX9_bits 15 = .ok (.iand, 1) := by decide +kernel
theorem dX9_bits_16 : decode cX9_bits 16 = .ok (.iadd, 1) := by decide +kernel
theorem dX9_bits_17 : decode cX9_bits 17 = .ok (.istore_n 1, 1) := by decide +kernel
theorem dX9_bits_18 : decode cX9_bits 18 = .ok (.iinc 2 1, 3) := by decide +kernel
theorem dX9_bits_21 : decode cX9_bits 21 = .ok (.goto (-17), 3) := by decide +kernel
theorem dX9_bits_24 : decode cX9_bits 24 = .ok (.iload_n 1, 1) := by decide +kernel
theorem dX9_bits_25 : decode cX9_bits 25 = .ok (.ireturn, 1) := by decide +kernel
theorem dX9_goesAlways_0 : decode cX9_goesAlways 0 = .ok (.iconst 1, 1) := by decide +kernel
theorem dX9_goesAlways_1 : decode cX9_goesAlways 1 = .ok (.istore_n 1, 1) := by decide +kernel
theorem dX9_goesAlways_2 : decode cX9_goesAlways 2 = .ok (.iconst 0, 1) := by decide +kernel
theorem dX9_goesAlways_3 : decode cX9_goesAlways 3 = .ok (.istore_n 2, 1) := by decide +kernel
theorem dX9_goesAlways_4 : decode cX9_goesAlways 4 = .ok (.iload_n 2, 1) := by decide +kernel
theorem dX9_goesAlways_5 : decode cX9_goesAlways 5 = .ok (.aload_n 0, 1) := by decide +kernel
theorem dX9_goesAlways_6 : decode cX9_goesAlways 6 = .ok (.getfield 7, 3) := by decide +kernel
theorem dX9_goesAlways_9 : decode cX9_goesAlways 9 = .ok (.iconst 0, 1) := by decide +kernel
theorem dX9_goesAlways_10 : decode cX9_goesAlways 10 = .ok (.iaload, 1) := by decide +kernel
theorem dX9_goesAlways_11 : decode cX9_goesAlways 11 = .ok (.if_icmp .ge 56, 3) := by decide +kernel
theorem dX9_goesAlways_14 : decode cX9_goesAlways 14 = .ok (.iload_n 1, 1) := by decide +kernel
theorem dX9_goesAlways_15 : decode cX9_goesAlways 15 = .ok (.ifCond .eq 52, 3) := by decide +kernel
theorem dX9_goesAlways_18 : decode cX9_goesAlways 18 = .ok (.iconst 0, 1) := by decide +kernel
theorem dX9_goesAlways_19 : decode cX9_goesAlways 19 = .ok (.istore_n 3, 1) := by decide +kernel
theorem dX9_goesAlways_20 : decode cX9_goesAlways 20 = .ok (.iload_n 3, 1) := by decide +kernel
theorem dX9_goesAlways_21 : decode cX9_goesAlways 21 = .ok (.aload_n 0, 1) := by decide +kernel
theorem dX9_goesAlways_22 : decode cX9_goesAlways 22 = .ok (.getfield 7, 3) := by decide +kernel
theorem dX9_goesAlways_25 : decode cX9_goesAlways 25 = .ok (.iconst 0, 1) := by decide +kernel
theorem dX9_goesAlways_26 : decode cX9_goesAlways 26 = .ok (.iaload, 1) := by decide +kernel
theorem dX9_goesAlways_27 : decode cX9_goesAlways 27 = .ok (.if_icmp .ge 34, 3) := by decide +kernel
theorem dX9_goesAlways_30 : decode cX9_goesAlways 30 = .ok (.iload_n 1, 1) := by decide +kernel
theorem dX9_goesAlways_31 : decode cX9_goesAlways 31 = .ok (.ifCond .eq 30, 3) := by decide +kernel
theorem dX9_goesAlways_34 : decode cX9_goesAlways 34 = .ok (.iload_n 2, 1) := by decide +kernel
theorem dX9_goesAlways_35 : decode cX9_goesAlways 35 = .ok (.iload_n 3, 1) := by decide +kernel
theorem dX9_goesAlways_36 : decode cX9_goesAlways 36 = .ok (.if_icmp .eq 13, 3) := by decide +kernel
theorem dX9_goesAlways_39 : decode cX9_goesAlways 39 = .ok (.aload_n 0, 1) := by decide +kernel
theorem dX9_goesAlways_40 : decode cX9_goesAlways 40 = .ok (.iload_n 2, 1) := by decide +kernel
theorem dX9_goesAlways_41 : decode cX9_goesAlways 41 = .ok (.iload_n 3, 1) := by decide +kernel
theorem dX9_goesAlways_42 : decode cX9_goesAlways 42 = .ok (.invokevirtual 171, 3) := by decide +kernel
theorem dX9_goesAlways_45 : decode cX9_goesAlways 45 = .ok (.iconst (-1), 1) := by decide +kernel
theorem dX9_goesAlways_46 : decode cX9_goesAlways 46 = .ok (.if_icmp .eq 7, 3) := by decide +kernel
theorem dX9_goesAlways_49 : decode cX9_goesAlways 49 = .ok (.iconst 1, 1) := by decide +kernel
theorem dX9_goesAlways_50 : decode cX9_goesAlways 50 = .ok (.goto 4, 3) := by decide +kernel
theorem dX9_goesAlways_53 : decode cX9_goesAlways 53 = .ok (.iconst 0, 1) := by decide +kernel
theorem dX9_goesAlways_54 : decode cX9_goesAlways 54 = .ok (.istore_n 1, 1) := by decide +kernel
theorem dX9_goesAlways_55 : decode cX9_goesAlways 55 = .ok (.iinc 3 1, 3) := by decide +kernel
theorem dX9_goesAlways_58 : decode cX9_goesAlways 58 = .ok (.goto (-38), 3) := by decide +kernel
theorem dX9_goesAlways_61 : decode cX9_goesAlways 61 = .ok (.iinc 2 1, 3) := by decide +kernel
theorem dX9_goesAlways_64 : decode cX9_goesAlways 64 = .ok (.goto (-60), 3) := by decide +kernel
theorem dX9_goesAlways_67 : decode cX9_goesAlways 67 = .ok (.iload_n 1, 1) := by decide +kernel
theorem dX9_goesAlways_68 : decode cX9_goesAlways 68 = .ok (.ireturn, 1) := by decide +kernel
theorem dX9_strikes_0 : decode cX9_strikes 0 = .ok (.aload_n 0, 1) := by decide +kernel
theorem dX9_strikes_1 : decode cX9_strikes 1 = .ok (.invokevirtual 145, 3) := by decide +kernel
theorem dX9_strikes_4 : decode cX9_strikes 4 = .ok (.ifCond .ne 8, 3) := by decide +kernel
theorem dX9_strikes_7 : decode cX9_strikes 7 = .ok (.aload_n 0, 1) := by decide +kernel
theorem dX9_strikes_8 : decode cX9_strikes 8 = .ok (.invokevirtual 151, 3) := by decide +kernel
theorem dX9_strikes_11 : decode cX9_strikes 11 = .ok (.ireturn, 1) := by decide +kernel
theorem dX9_strikes_12 : decode cX9_strikes 12 = .ok (.iconst (-1), 1) := by decide +kernel
theorem dX9_strikes_13 : decode cX9_strikes 13 = .ok (.istore_n 1, 1) := by decide +kernel
theorem dX9_strikes_14 : decode cX9_strikes 14 = .ok (.iconst 0, 1) := by decide +kernel
theorem dX9_strikes_15 : decode cX9_strikes 15 = .ok (.istore_n 2, 1) := by decide +kernel
theorem dX9_strikes_16 : decode cX9_strikes 16 = .ok (.iload_n 2, 1) := by decide +kernel
theorem dX9_strikes_17 : decode cX9_strikes 17 = .ok (.iconst 1, 1) := by decide +kernel
theorem dX9_strikes_18 : decode cX9_strikes 18 = .ok (.aload_n 0, 1) := by decide +kernel
theorem dX9_strikes_19 : decode cX9_strikes 19 = .ok (.getfield 136, 3) := by decide +kernel
theorem dX9_strikes_22 : decode cX9_strikes 22 = .ok (.ishl, 1) := by decide +kernel
theorem dX9_strikes_23 : decode cX9_strikes 23 = .ok (.if_icmp .ge 43, 3) := by decide +kernel
theorem dX9_strikes_26 : decode cX9_strikes 26 = .ok (.iload_n 1, 1) := by decide +kernel
theorem dX9_strikes_27 : decode cX9_strikes 27 = .ok (.iconst (-1), 1) := by decide +kernel
theorem dX9_strikes_28 : decode cX9_strikes 28 = .ok (.if_icmp .eq 14, 3) := by decide +kernel
theorem dX9_strikes_31 : decode cX9_strikes 31 = .ok (.iload_n 2, 1) := by decide +kernel
theorem dX9_strikes_32 : decode cX9_strikes 32 = .ok (.invokestatic 220, 3) := by decide +kernel
theorem dX9_strikes_35 : decode cX9_strikes 35 = .ok (.iload_n 1, 1) := by decide +kernel
theorem dX9_strikes_36 : decode cX9_strikes 36 = .ok (.invokestatic 220, 3) := by decide +kernel
theorem dX9_strikes_39 : decode cX9_strikes 39 = .ok (.if_icmp .ge 21, 3) := by decide +kernel
theorem dX9_strikes_42 : decode cX9_strikes 42 = .ok (.aload_n 0, 1) := by decide +kernel
theorem dX9_strikes_43 : decode cX9_strikes 43 = .ok (.iload_n 2, 1) := by decide +kernel
theorem dX9_strikes_44 : decode cX9_strikes 44 = .ok (.putfield 139, 3) := by decide +kernel
theorem dX9_strikes_47 : decode cX9_strikes 47 = .ok (.aload_n 0, 1) := by decide +kernel
theorem dX9_strikes_48 : decode cX9_strikes 48 = .ok (.invokevirtual 224, 3) := by decide +kernel
theorem dX9_strikes_51 : decode cX9_strikes 51 = .ok (.ifCond .eq 7, 3) := by decide +kernel
theorem dX9_strikes_54 : decode cX9_strikes 54 = .ok (.iload_n 2, 1) := by decide +kernel
theorem dX9_strikes_55 : decode cX9_strikes 55 = .ok (.goto 4, 3) := by decide +kernel
theorem dX9_strikes_58 : decode cX9_strikes 58 = .ok (.iload_n 1, 1) := by decide +kernel
theorem dX9_strikes_59 : decode cX9_strikes 59 = .ok (.istore_n 1, 1) := by decide +kernel
theorem dX9_strikes_60 : decode cX9_strikes 60 = .ok (.iinc 2 1, 3) := by decide +kernel
theorem dX9_strikes_63 : decode cX9_strikes 63 = .ok (.goto (-47), 3) := by decide +kernel
theorem dX9_strikes_66 : decode cX9_strikes 66 = .ok (.iload_n 1, 1) := by decide +kernel
theorem dX9_strikes_67 : decode cX9_strikes 67 = .ok (.ireturn, 1) := by decide +kernel
theorem dX9_part_0 : decode cX9_part 0 = .ok (.iload_n 1, 1) := by decide +kernel
theorem dX9_part_1 : decode cX9_part 1 = .ok (.ifCond .ne 10, 3) := by decide +kernel
theorem dX9_part_4 : decode cX9_part 4 = .ok (.aload_n 0, 1) := by decide +kernel
theorem dX9_part_5 : decode cX9_part 5 = .ok (.getfield 217, 3) := by decide +kernel
theorem dX9_part_8 : decode cX9_part 8 = .ok (.goto 19, 3) := by decide +kernel
theorem dX9_part_11 : decode cX9_part 11 = .ok (.iload_n 1, 1) := by decide +kernel
theorem dX9_part_12 : decode cX9_part 12 = .ok (.iconst 1, 1) := by decide +kernel
theorem dX9_part_13 : decode cX9_part 13 = .ok (.if_icmp .ne 10, 3) := by decide +kernel
theorem dX9_part_16 : decode cX9_part 16 = .ok (.aload_n 0, 1) := by decide +kernel
theorem dX9_part_17 : decode cX9_part 17 = .ok (.getfield 47, 3) := by decide +kernel
theorem dX9_part_20 : decode cX9_part 20 = .ok (.goto 7, 3) := by decide +kernel
theorem dX9_part_23 : decode cX9_part 23 = .ok (.aload_n 0, 1) := by decide +kernel
theorem dX9_part_24 : decode cX9_part 24 = .ok (.invokevirtual 69, 3) := by decide +kernel
theorem dX9_part_27 : decode cX9_part 27 = .ok (.ireturn, 1) := by decide +kernel
theorem dX9_image_0 : decode cX9_image 0 = .ok (.iload_n 1, 1) := by decide +kernel
theorem dX9_image_1 : decode cX9_image 1 = .ok (.i2l, 1) := by decide +kernel
theorem dX9_image_2 : decode cX9_image 2 = .ok (.lconst 0, 1) := by decide +kernel
theorem dX9_image_3 : decode cX9_image 3 = .ok (.lconst 1, 1) := by decide +kernel
theorem dX9_image_4 : decode cX9_image 4 = .ok (.invokestatic 55, 3) := by decide +kernel
theorem dX9_image_7 : decode cX9_image 7 = .ok (.ifCond .ne 8, 3) := by decide +kernel
theorem dX9_image_10 : decode cX9_image 10 = .ok (.aload_n 0, 1) := by decide +kernel
theorem dX9_image_11 : decode cX9_image 11 = .ok (.invokevirtual 69, 3) := by decide +kernel
theorem dX9_image_14 : decode cX9_image 14 = .ok (.ireturn, 1) := by decide +kernel
theorem dX9_image_15 : decode cX9_image 15 = .ok (.iconst 0, 1) := by decide +kernel
theorem dX9_image_16 : decode cX9_image 16 = .ok (.istore_n 2, 1) := by decide +kernel
theorem dX9_image_17 : decode cX9_image 17 = .ok (.iload_n 2, 1) := by decide +kernel
theorem dX9_image_18 : decode cX9_image 18 = .ok (.sipush 480, 3) := by decide +kernel
theorem dX9_image_21 : decode cX9_image 21 = .ok (.if_icmp .ge 27, 3) := by decide +kernel
theorem dX9_image_24 : decode cX9_image 24 = .ok (.aload_n 0, 1) := by decide +kernel
theorem dX9_image_25 : decode cX9_image 25 = .ok (.getfield 13, 3) := by decide +kernel
theorem dX9_image_28 : decode cX9_image 28 = .ok (.sipush 480, 3) := by decide +kernel
theorem dX9_image_31 : decode cX9_image 31 = .ok (.iload_n 1, 1) := by decide +kernel
theorem dX9_image_32 : decode cX9_image 32 = .ok (.imul, 1) := by decide +kernel
theorem dX9_image_33 : decode cX9_image 33 = .ok (.iload_n 2, 1) := by decide +kernel
theorem dX9_image_34 : decode cX9_image 34 = .ok (.iadd, 1) := by decide +kernel
theorem dX9_image_35 : decode cX9_image 35 = .ok (.aload_n 0, 1) := by decide +kernel
theorem dX9_image_36 : decode cX9_image 36 = .ok (.getfield 7, 3) := by decide +kernel
theorem dX9_image_39 : decode cX9_image 39 = .ok (.iload_n 2, 1) := by decide +kernel
theorem dX9_image_40 : decode cX9_image 40 = .ok (.iaload, 1) := by decide +kernel
theorem dX9_image_41 : decode cX9_image 41 = .ok (.iastore, 1) := by decide +kernel
theorem dX9_image_42 : decode cX9_image 42 = .ok (.iinc 2 1, 3) := by decide +kernel
theorem dX9_image_45 : decode cX9_image 45 = .ok (.goto (-28), 3) := by decide +kernel
theorem dX9_image_48 : decode cX9_image 48 = .ok (.aload_n 0, 1) := by decide +kernel
theorem dX9_image_49 : decode cX9_image 49 = .ok (.getfield 16, 3) := by decide +kernel
theorem dX9_image_52 : decode cX9_image 52 = .ok (.iload_n 1, 1) := by decide +kernel
theorem dX9_image_53 : decode cX9_image 53 = .ok (.iconst 1, 1) := by decide +kernel
theorem dX9_image_54 : decode cX9_image 54 = .ok (.bastore, 1) := by decide +kernel
theorem dX9_image_55 : decode cX9_image 55 = .ok (.iconst 1, 1) := by decide +kernel
theorem dX9_image_56 : decode cX9_image 56 = .ok (.ireturn, 1) := by decide +kernel
theorem dX9_from_0 : decode cX9_from 0 = .ok (.iload_n 1, 1) := by decide +kernel
theorem dX9_from_1 : decode cX9_from 1 = .ok (.i2l, 1) := by decide +kernel
theorem dX9_from_2 : decode cX9_from 2 = .ok (.lconst 0, 1) := by decide +kernel
theorem dX9_from_3 : decode cX9_from 3 = .ok (.lconst 1, 1) := by decide +kernel
theorem dX9_from_4 : decode cX9_from 4 = .ok (.invokestatic 55, 3) := by decide +kernel
theorem dX9_from_7 : decode cX9_from 7 = .ok (.ifCond .ne 8, 3) := by decide +kernel
theorem dX9_from_10 : decode cX9_from 10 = .ok (.aload_n 0, 1) := by decide +kernel
theorem dX9_from_11 : decode cX9_from 11 = .ok (.invokevirtual 69, 3) := by decide +kernel
theorem dX9_from_14 : decode cX9_from 14 = .ok (.ireturn, 1) := by decide +kernel
theorem dX9_from_15 : decode cX9_from 15 = .ok (.aload_n 0, 1) := by decide +kernel
theorem dX9_from_16 : decode cX9_from 16 = .ok (.getfield 16, 3) := by decide +kernel
theorem dX9_from_19 : decode cX9_from 19 = .ok (.iload_n 1, 1) := by decide +kernel
theorem dX9_from_20 : decode cX9_from 20 = .ok (.baload, 1) := by decide +kernel
theorem dX9_from_21 : decode cX9_from 21 = .ok (.ifCond .ne 8, 3) := by decide +kernel
theorem dX9_from_24 : decode cX9_from 24 = .ok (.aload_n 0, 1) := by decide +kernel
theorem dX9_from_25 : decode cX9_from 25 = .ok (.invokevirtual 151, 3) := by decide +kernel
theorem dX9_from_28 : decode cX9_from 28 = .ok (.ireturn, 1) := by decide +kernel
theorem dX9_from_29 : decode cX9_from 29 = .ok (.iconst 0, 1) := by decide +kernel
theorem dX9_from_30 : decode cX9_from 30 = .ok (.istore_n 2, 1) := by decide +kernel
theorem dX9_from_31 : decode cX9_from 31 = .ok (.iload_n 2, 1) := by decide +kernel
theorem dX9_from_32 : decode cX9_from 32 = .ok (.sipush 480, 3) := by decide +kernel
theorem dX9_from_35 : decode cX9_from 35 = .ok (.if_icmp .ge 27, 3) := by decide +kernel
theorem dX9_from_38 : decode cX9_from 38 = .ok (.aload_n 0, 1) := by decide +kernel
theorem dX9_from_39 : decode cX9_from 39 = .ok (.getfield 7, 3) := by decide +kernel
theorem dX9_from_42 : decode cX9_from 42 = .ok (.iload_n 2, 1) := by decide +kernel
theorem dX9_from_43 : decode cX9_from 43 = .ok (.aload_n 0, 1) := by decide +kernel
theorem dX9_from_44 : decode cX9_from 44 = .ok (.getfield 13, 3) := by decide +kernel
theorem dX9_from_47 : decode cX9_from 47 = .ok (.sipush 480, 3) := by decide +kernel
theorem dX9_from_50 : decode cX9_from 50 = .ok (.iload_n 1, 1) := by decide +kernel
theorem dX9_from_51 : decode cX9_from 51 = .ok (.imul, 1) := by decide +kernel
theorem dX9_from_52 : decode cX9_from 52 = .ok (.iload_n 2, 1) := by decide +kernel
theorem dX9_from_53 : decode cX9_from 53 = .ok (.iadd, 1) := by decide +kernel
theorem dX9_from_54 : decode cX9_from 54 = .ok (.iaload, 1) := by decide +kernel
theorem dX9_from_55 : decode cX9_from 55 = .ok (.iastore, 1) := by decide +kernel
theorem dX9_from_56 : decode cX9_from 56 = .ok (.iinc 2 1, 3) := by decide +kernel
theorem dX9_from_59 : decode cX9_from 59 = .ok (.goto (-28), 3) := by decide +kernel
theorem dX9_from_62 : decode cX9_from 62 = .ok (.iconst 1, 1) := by decide +kernel
theorem dX9_from_63 : decode cX9_from 63 = .ok (.ireturn, 1) := by decide +kernel
theorem dX9_status_0 : decode cX9_status 0 = .ok (.iload_n 1, 1) := by decide +kernel
theorem dX9_status_1 : decode cX9_status 1 = .ok (.i2l, 1) := by decide +kernel
theorem dX9_status_2 : decode cX9_status 2 = .ok (.lconst 0, 1) := by decide +kernel
theorem dX9_status_3 : decode cX9_status 3 = .ok (.ldc2_w 76, 3) := by decide +kernel
theorem dX9_status_6 : decode cX9_status 6 = .ok (.invokestatic 55, 3) := by decide +kernel
theorem dX9_status_9 : decode cX9_status 9 = .ok (.ifCond .eq 12, 3) := by decide +kernel
theorem dX9_status_12 : decode cX9_status 12 = .ok (.aload_n 0, 1) := by decide +kernel
theorem dX9_status_13 : decode cX9_status 13 = .ok (.getfield 20, 3) := by decide +kernel
theorem dX9_status_16 : decode cX9_status 16 = .ok (.iload_n 1, 1) := by decide +kernel
theorem dX9_status_17 : decode cX9_status 17 = .ok (.iaload, 1) := by decide +kernel
theorem dX9_status_18 : decode cX9_status 18 = .ok (.goto 9, 3) := by decide +kernel
theorem dX9_status_21 : decode cX9_status 21 = .ok (.aload_n 0, 1) := by decide +kernel
theorem dX9_status_22 : decode cX9_status 22 = .ok (.iconst 0, 1) := by decide +kernel
theorem dX9_status_23 : decode cX9_status 23 = .ok (.iconst (-1), 1) := by decide +kernel
theorem dX9_status_24 : decode cX9_status 24 = .ok (.invokevirtual 51, 3) := by decide +kernel
theorem dX9_status_27 : decode cX9_status 27 = .ok (.ireturn, 1) := by decide +kernel
theorem dX9_count_0 : decode cX9_count 0 = .ok (.iload_n 1, 1) := by decide +kernel
theorem dX9_count_1 : decode cX9_count 1 = .ok (.i2l, 1) := by decide +kernel
theorem dX9_count_2 : decode cX9_count 2 = .ok (.lconst 0, 1) := by decide +kernel
theorem dX9_count_3 : decode cX9_count 3 = .ok (.ldc2_w 149, 3) := by decide +kernel
theorem dX9_count_6 : decode cX9_count 6 = .ok (.invokestatic 55, 3) := by decide +kernel
theorem dX9_count_9 : decode cX9_count 9 = .ok (.ifCond .eq 12, 3) := by decide +kernel
theorem dX9_count_12 : decode cX9_count 12 = .ok (.aload_n 0, 1) := by decide +kernel
theorem dX9_count_13 : decode cX9_count 13 = .ok (.getfield 7, 3) := by decide +kernel
theorem dX9_count_16 : decode cX9_count 16 = .ok (.iload_n 1, 1) := by decide +kernel
theorem dX9_count_17 : decode cX9_count 17 = .ok (.iaload, 1) := by decide +kernel
theorem dX9_count_18 : decode cX9_count 18 = .ok (.goto 7, 3) := by decide +kernel
theorem dX9_count_21 : decode cX9_count 21 = .ok (.aload_n 0, 1) := by decide +kernel
theorem dX9_count_22 : decode cX9_count 22 = .ok (.invokevirtual 69, 3) := by decide +kernel
theorem dX9_count_25 : decode cX9_count 25 = .ok (.ireturn, 1) := by decide +kernel
theorem dX9_mixed_0 : decode cX9_mixed 0 = .ok (.lload_n 1, 1) := by decide +kernel
theorem dX9_mixed_1 : decode cX9_mixed 1 = .ok (.lstore 5, 2) := by decide +kernel
theorem dX9_mixed_3 : decode cX9_mixed 3 = .ok (.iconst 0, 1) := by decide +kernel
theorem dX9_mixed_4 : decode cX9_mixed 4 = .ok (.istore 7, 2) := by decide +kernel
theorem dX9_mixed_6 : decode cX9_mixed 6 = .ok (.iload 7, 2) := by decide +kernel
theorem dX9_mixed_8 : decode cX9_mixed 8 = .ok (.iload 4, 2) := by decide +kernel
theorem dX9_mixed_10 : decode cX9_mixed 10 = .ok (.if_icmp .ge 28, 3) := by decide +kernel
theorem dX9_mixed_13 : decode cX9_mixed 13 = .ok (.ldc2_w 227, 3) := by decide +kernel
theorem dX9_mixed_16 : decode cX9_mixed 16 = .ok (.lload 5, 2) := by decide +kernel
theorem dX9_mixed_18 : decode cX9_mixed 18 = .ok (.lmul, 1) := by decide +kernel
theorem dX9_mixed_19 : decode cX9_mixed 19 = .ok (.aload_n 0, 1) := by decide +kernel
theorem dX9_mixed_20 : decode cX9_mixed 20 = .ok (.getfield 7, 3) := by decide +kernel
theorem dX9_mixed_23 : decode cX9_mixed 23 = .ok (.iload_n 3, 1) := by decide +kernel
theorem dX9_mixed_24 : decode cX9_mixed 24 = .ok (.iload 7, 2) := by decide +kernel
theorem dX9_mixed_26 : decode cX9_mixed 26 = .ok (.iadd, 1) := by decide +kernel
theorem dX9_mixed_27 : decode cX9_mixed 27 = .ok (.iaload, 1) := by decide +kernel
theorem dX9_mixed_28 : decode cX9_mixed 28 = .ok (.i2l, 1) := by decide +kernel
theorem dX9_mixed_29 : decode cX9_mixed 29 = .ok (.ladd, 1) := by decide +kernel
theorem dX9_mixed_30 : decode cX9_mixed 30 = .ok (.lstore 5, 2) := by decide +kernel
theorem dX9_mixed_32 : decode cX9_mixed 32 = .ok (.iinc 7 1, 3) := by decide +kernel
theorem dX9_mixed_35 : decode cX9_mixed 35 = .ok (.goto (-29), 3) := by decide +kernel
theorem dX9_mixed_38 : decode cX9_mixed 38 = .ok (.lload 5, 2) := by decide +kernel
theorem dX9_mixed_40 : decode cX9_mixed 40 = .ok (.lreturn, 1) := by decide +kernel
theorem dX9_digest_0 : decode cX9_digest 0 = .ok (.aload_n 0, 1) := by decide +kernel
theorem dX9_digest_1 : decode cX9_digest 1 = .ok (.ldc2_w 229, 3) := by decide +kernel
theorem dX9_digest_4 : decode cX9_digest 4 = .ok (.iconst 0, 1) := by decide +kernel
theorem dX9_digest_5 : decode cX9_digest 5 = .ok (.iconst 4, 1) := by decide +kernel
theorem dX9_digest_6 : decode cX9_digest 6 = .ok (.invokevirtual 231, 3) := by decide +kernel
theorem dX9_digest_9 : decode cX9_digest 9 = .ok (.lstore_n 1, 1) := by decide +kernel
theorem dX9_digest_10 : decode cX9_digest 10 = .ok (.aload_n 0, 1) := by decide +kernel
theorem dX9_digest_11 : decode cX9_digest 11 = .ok (.lload_n 1, 1) := by decide +kernel
theorem dX9_digest_12 : decode cX9_digest 12 = .ok (.iconst 4, 1) := by decide +kernel
theorem dX9_digest_13 : decode cX9_digest 13 = .ok (.iconst 4, 1) := by decide +kernel
theorem dX9_digest_14 : decode cX9_digest 14 = .ok (.aload_n 0, 1) := by decide +kernel
theorem dX9_digest_15 : decode cX9_digest 15 = .ok (.getfield 7, 3) := by decide +kernel
theorem dX9_digest_18 : decode cX9_digest 18 = .ok (.iconst 0, 1) := by decide +kernel
theorem dX9_digest_19 : decode cX9_digest 19 = .ok (.iaload, 1) := by decide +kernel
theorem dX9_digest_20 : decode cX9_digest 20 = .ok (.imul, 1) := by decide +kernel
theorem dX9_digest_21 : decode cX9_digest 21 = .ok (.invokevirtual 231, 3) := by decide +kernel
theorem dX9_digest_24 : decode cX9_digest 24 = .ok (.lstore_n 1, 1) := by decide +kernel
theorem dX9_digest_25 : decode cX9_digest 25 = .ok (.iconst 0, 1) := by decide +kernel
theorem dX9_digest_26 : decode cX9_digest 26 = .ok (.istore_n 3, 1) := by decide +kernel
theorem dX9_digest_27 : decode cX9_digest 27 = .ok (.iload_n 3, 1) := by decide +kernel
theorem dX9_digest_28 : decode cX9_digest 28 = .ok (.bipush 8, 2) := by decide +kernel
theorem dX9_digest_30 : decode cX9_digest 30 = .ok (.if_icmp .ge 81, 3) := by decide +kernel
theorem dX9_digest_33 : decode cX9_digest 33 = .ok (.iconst 0, 1) := by decide +kernel
theorem dX9_digest_34 : decode cX9_digest 34 = .ok (.istore 4, 2) := by decide +kernel
theorem dX9_digest_36 : decode cX9_digest 36 = .ok (.iload 4, 2) := by decide +kernel
theorem dX9_digest_38 : decode cX9_digest 38 = .ok (.bipush 8, 2) := by decide +kernel
theorem dX9_digest_40 : decode cX9_digest 40 = .ok (.if_icmp .ge 65, 3) := by decide +kernel
theorem dX9_digest_43 : decode cX9_digest 43 = .ok (.ldc2_w 227, 3) := by decide +kernel
theorem dX9_digest_46 : decode cX9_digest 46 = .ok (.lload_n 1, 1) := by decide +kernel
theorem dX9_digest_47 : decode cX9_digest 47 = .ok (.lmul, 1) := by decide +kernel
theorem dX9_digest_48 : decode cX9_digest 48 = .ok (.aload_n 0, 1) := by decide +kernel
theorem dX9_digest_49 : decode cX9_digest 49 = .ok (.getfield 7, 3) := by decide +kernel
theorem dX9_digest_52 : decode cX9_digest 52 = .ok (.bipush 36, 2) := by decide +kernel
theorem dX9_digest_54 : decode cX9_digest 54 = .ok (.bipush 8, 2) := by decide +kernel
theorem dX9_digest_56 : decode cX9_digest 56 = .ok (.iload_n 3, 1) := by decide +kernel
theorem dX9_digest_57 : decode cX9_digest 57 = .ok (.imul, 1) := by decide +kernel
theorem dX9_digest_58 : decode cX9_digest 58 = .ok (.iadd, 1) := by decide +kernel
theorem dX9_digest_59 : decode cX9_digest 59 = .ok (.iload 4, 2) := by decide +kernel
theorem dX9_digest_61 : decode cX9_digest 61 = .ok (.iadd, 1) := by decide +kernel
theorem dX9_digest_62 : decode cX9_digest 62 = .ok (.iaload, 1) := by decide +kernel
theorem dX9_digest_63 : decode cX9_digest 63 = .ok (.i2l, 1) := by decide +kernel
theorem dX9_digest_64 : decode cX9_digest 64 = .ok (.ladd, 1) := by decide +kernel
theorem dX9_digest_65 : decode cX9_digest 65 = .ok (.lstore_n 1, 1) := by decide +kernel
theorem dX9_digest_66 : decode cX9_digest 66 = .ok (.iload_n 3, 1) := by decide +kernel
theorem dX9_digest_67 : decode cX9_digest 67 = .ok (.iload 4, 2) := by decide +kernel
theorem dX9_digest_69 : decode cX9_digest 69 = .ok (.if_icmp .ge 28, 3) := by decide +kernel
theorem dX9_digest_72 : decode cX9_digest 72 = .ok (.ldc2_w 227, 3) := by decide +kernel
theorem dX9_digest_75 : decode cX9_digest 75 = .ok (.lload_n 1, 1) := by decide +kernel
theorem dX9_digest_76 : decode cX9_digest 76 = .ok (.lmul, 1) := by decide +kernel
theorem dX9_digest_77 : decode cX9_digest 77 = .ok (.aload_n 0, 1) := by decide +kernel
theorem dX9_digest_78 : decode cX9_digest 78 = .ok (.getfield 7, 3) := by decide +kernel
theorem dX9_digest_81 : decode cX9_digest 81 = .ok (.bipush 100, 2) := by decide +kernel
theorem dX9_digest_83 : decode cX9_digest 83 = .ok (.bipush 8, 2) := by decide +kernel
theorem dX9_digest_85 : decode cX9_digest 85 = .ok (.iload_n 3, 1) := by decide +kernel
theorem dX9_digest_86 : decode cX9_digest 86 = .ok (.imul, 1) := by decide +kernel
theorem dX9_digest_87 : decode cX9_digest 87 = .ok (.iadd, 1) := by decide +kernel
theorem dX9_digest_88 : decode cX9_digest 88 = .ok (.iload 4, 2) := by decide +kernel
theorem dX9_digest_90 : decode cX9_digest 90 = .ok (.iadd, 1) := by decide +kernel
theorem dX9_digest_91 : decode cX9_digest 91 = .ok (.iaload, 1) := by decide +kernel
theorem dX9_digest_92 : decode cX9_digest 92 = .ok (.i2l, 1) := by decide +kernel
theorem dX9_digest_93 : decode cX9_digest 93 = .ok (.ladd, 1) := by decide +kernel
theorem dX9_digest_94 : decode cX9_digest 94 = .ok (.goto 4, 3) := by decide +kernel
theorem dX9_digest_97 : decode cX9_digest 97 = .ok (.lload_n 1, 1) := by decide +kernel
theorem dX9_digest_98 : decode cX9_digest 98 = .ok (.lstore_n 1, 1) := by decide +kernel
theorem dX9_digest_99 : decode cX9_digest 99 = .ok (.iinc 4 1, 3) := by decide +kernel
theorem dX9_digest_102 : decode cX9_digest 102 = .ok (.goto (-66), 3) := by decide +kernel
theorem dX9_digest_105 : decode cX9_digest 105 = .ok (.iinc 3 1, 3) := by decide +kernel
theorem dX9_digest_108 : decode cX9_digest 108 = .ok (.goto (-81), 3) := by decide +kernel
theorem dX9_digest_111 : decode cX9_digest 111 = .ok (.aload_n 0, 1) := by decide +kernel
theorem dX9_digest_112 : decode cX9_digest 112 = .ok (.aload_n 0, 1) := by decide +kernel
theorem dX9_digest_113 : decode cX9_digest 113 = .ok (.lload_n 1, 1) := by decide +kernel
theorem dX9_digest_114 : decode cX9_digest 114 = .ok (.sipush 264, 3) := by decide +kernel
theorem dX9_digest_117 : decode cX9_digest 117 = .ok (.aload_n 0, 1) := by decide +kernel
theorem dX9_digest_118 : decode cX9_digest 118 = .ok (.getfield 7, 3) := by decide +kernel
theorem dX9_digest_121 : decode cX9_digest 121 = .ok (.iconst 1, 1) := by decide +kernel
theorem dX9_digest_122 : decode cX9_digest 122 = .ok (.iaload, 1) := by decide +kernel
theorem dX9_digest_123 : decode cX9_digest 123 = .ok (.invokevirtual 231, 3) := by decide +kernel
theorem dX9_digest_126 : decode cX9_digest 126 = .ok (.sipush 164, 3) := by decide +kernel
theorem dX9_digest_129 : decode cX9_digest 129 = .ok (.aload_n 0, 1) := by decide +kernel
theorem dX9_digest_130 : decode cX9_digest 130 = .ok (.getfield 7, 3) := by decide +kernel
theorem dX9_digest_133 : decode cX9_digest 133 = .ok (.iconst 2, 1) := by decide +kernel
theorem dX9_digest_134 : decode cX9_digest 134 = .ok (.iaload, 1) := by decide +kernel
theorem dX9_digest_135 : decode cX9_digest 135 = .ok (.invokevirtual 231, 3) := by decide +kernel
theorem dX9_digest_138 : decode cX9_digest 138 = .ok (.lstore_n 1, 1) := by decide +kernel
theorem dX9_digest_139 : decode cX9_digest 139 = .ok (.aload_n 0, 1) := by decide +kernel
theorem dX9_digest_140 : decode cX9_digest 140 = .ok (.lload_n 1, 1) := by decide +kernel
theorem dX9_digest_141 : decode cX9_digest 141 = .ok (.sipush 172, 3) := by decide +kernel
theorem dX9_digest_144 : decode cX9_digest 144 = .ok (.bipush 6, 2) := by decide +kernel
theorem dX9_digest_146 : decode cX9_digest 146 = .ok (.invokevirtual 231, 3) := by decide +kernel
theorem dX9_digest_149 : decode cX9_digest 149 = .ok (.lstore_n 1, 1) := by decide +kernel
theorem dX9_digest_150 : decode cX9_digest 150 = .ok (.iconst 0, 1) := by decide +kernel
theorem dX9_digest_151 : decode cX9_digest 151 = .ok (.istore_n 3, 1) := by decide +kernel
theorem dX9_digest_152 : decode cX9_digest 152 = .ok (.iload_n 3, 1) := by decide +kernel
theorem dX9_digest_153 : decode cX9_digest 153 = .ok (.bipush 6, 2) := by decide +kernel
theorem dX9_digest_155 : decode cX9_digest 155 = .ok (.if_icmp .ge 51, 3) := by decide +kernel
theorem dX9_digest_158 : decode cX9_digest 158 = .ok (.iload_n 3, 1) := by decide +kernel
theorem dX9_digest_159 : decode cX9_digest 159 = .ok (.iconst 1, 1) := by decide +kernel
theorem dX9_digest_160 : decode cX9_digest 160 = .ok (.iadd, 1) := by decide +kernel
theorem dX9_digest_161 : decode cX9_digest 161 = .ok (.istore 4, 2) := by decide +kernel
theorem dX9_digest_163 : decode cX9_digest 163 = .ok (.iload 4, 2) := by decide +kernel
theorem dX9_digest_165 : decode cX9_digest 165 = .ok (.bipush 6, 2) := by decide +kernel
theorem dX9_digest_167 : decode cX9_digest 167 = .ok (.if_icmp .ge 33, 3) := by decide +kernel
theorem dX9_digest_170 : decode cX9_digest 170 = .ok (.ldc2_w 227, 3) := by decide +kernel
theorem dX9_digest_173 : decode cX9_digest 173 = .ok (.lload_n 1, 1) := by decide +kernel
theorem dX9_digest_174 : decode cX9_digest 174 = .ok (.lmul, 1) := by decide +kernel
theorem dX9_digest_175 : decode cX9_digest 175 = .ok (.aload_n 0, 1) := by decide +kernel
theorem dX9_digest_176 : decode cX9_digest 176 = .ok (.getfield 7, 3) := by decide +kernel
theorem dX9_digest_179 : decode cX9_digest 179 = .ok (.sipush 180, 3) := by decide +kernel
theorem dX9_digest_182 : decode cX9_digest 182 = .ok (.bipush 6, 2) := by decide +kernel
theorem dX9_digest_184 : decode cX9_digest 184 = .ok (.iload_n 3, 1) := by decide +kernel
theorem dX9_digest_185 : decode cX9_digest 185 = .ok (.imul, 1) := by decide +kernel
theorem dX9_digest_186 : decode cX9_digest 186 = .ok (.iadd, 1) := by decide +kernel
theorem dX9_digest_187 : decode cX9_digest 187 = .ok (.iload 4, 2) := by decide +kernel
theorem dX9_digest_189 : decode cX9_digest 189 = .ok (.iadd, 1) := by decide +kernel
theorem dX9_digest_190 : decode cX9_digest 190 = .ok (.iaload, 1) := by decide +kernel
theorem dX9_digest_191 : decode cX9_digest 191 = .ok (.i2l, 1) := by decide +kernel
theorem dX9_digest_192 : decode cX9_digest 192 = .ok (.ladd, 1) := by decide +kernel
theorem dX9_digest_193 : decode cX9_digest 193 = .ok (.lstore_n 1, 1) := by decide +kernel
theorem dX9_digest_194 : decode cX9_digest 194 = .ok (.iinc 4 1, 3) := by decide +kernel
theorem dX9_digest_197 : decode cX9_digest 197 = .ok (.goto (-34), 3) := by decide +kernel
theorem dX9_digest_200 : decode cX9_digest 200 = .ok (.iinc 3 1, 3) := by decide +kernel
theorem dX9_digest_203 : decode cX9_digest 203 = .ok (.goto (-51), 3) := by decide +kernel
theorem dX9_digest_206 : decode cX9_digest 206 = .ok (.aload_n 0, 1) := by decide +kernel
theorem dX9_digest_207 : decode cX9_digest 207 = .ok (.lload_n 1, 1) := by decide +kernel
theorem dX9_digest_208 : decode cX9_digest 208 = .ok (.sipush 216, 3) := by decide +kernel
theorem dX9_digest_211 : decode cX9_digest 211 = .ok (.iconst 3, 1) := by decide +kernel
theorem dX9_digest_212 : decode cX9_digest 212 = .ok (.aload_n 0, 1) := by decide +kernel
theorem dX9_digest_213 : decode cX9_digest 213 = .ok (.getfield 7, 3) := by decide +kernel
theorem dX9_digest_216 : decode cX9_digest 216 = .ok (.iconst 3, 1) := by decide +kernel
theorem dX9_digest_217 : decode cX9_digest 217 = .ok (.iaload, 1) := by decide +kernel
theorem dX9_digest_218 : decode cX9_digest 218 = .ok (.imul, 1) := by decide +kernel
theorem dX9_digest_219 : decode cX9_digest 219 = .ok (.invokevirtual 231, 3) := by decide +kernel
theorem dX9_digest_222 : decode cX9_digest 222 = .ok (.lstore_n 1, 1) := by decide +kernel
theorem dX9_digest_223 : decode cX9_digest 223 = .ok (.ldc2_w 227, 3) := by decide +kernel
theorem dX9_digest_226 : decode cX9_digest 226 = .ok (.ldc2_w 227, 3) := by decide +kernel
theorem dX9_digest_229 : decode cX9_digest 229 = .ok (.lload_n 1, 1) := by decide +kernel
theorem dX9_digest_230 : decode cX9_digest 230 = .ok (.lmul, 1) := by decide +kernel
theorem dX9_digest_231 : decode cX9_digest 231 = .ok (.aload_n 0, 1) := by decide +kernel
theorem dX9_digest_232 : decode cX9_digest 232 = .ok (.getfield 217, 3) := by decide +kernel
theorem dX9_digest_235 : decode cX9_digest 235 = .ok (.i2l, 1) := by decide +kernel
theorem dX9_digest_236 : decode cX9_digest 236 = .ok (.ladd, 1) := by decide +kernel
theorem dX9_digest_237 : decode cX9_digest 237 = .ok (.lmul, 1) := by decide +kernel
theorem dX9_digest_238 : decode cX9_digest 238 = .ok (.aload_n 0, 1) := by decide +kernel
theorem dX9_digest_239 : decode cX9_digest 239 = .ok (.getfield 47, 3) := by decide +kernel
theorem dX9_digest_242 : decode cX9_digest 242 = .ok (.i2l, 1) := by decide +kernel
theorem dX9_digest_243 : decode cX9_digest 243 = .ok (.ladd, 1) := by decide +kernel
theorem dX9_digest_244 : decode cX9_digest 244 = .ok (.lreturn, 1) := by decide +kernel
theorem dJ6_bitCount_0f7a4_0 : decode cJ6_bitCount_0f7a4 0 = .ok (.iload_n 0, 1) := by decide +kernel
theorem dJ6_bitCount_0f7a4_1 : decode cJ6_bitCount_0f7a4 1 = .ok (.iload_n 0, 1) := by decide +kernel
theorem dJ6_bitCount_0f7a4_2 : decode cJ6_bitCount_0f7a4 2 = .ok (.iconst 1, 1) := by decide +kernel
theorem dJ6_bitCount_0f7a4_3 : decode cJ6_bitCount_0f7a4 3 = .ok (.iushr, 1) := by decide +kernel
theorem dJ6_bitCount_0f7a4_4 : decode cJ6_bitCount_0f7a4 4 = .ok (.ldc_w 265, 3) := by decide +kernel
theorem dJ6_bitCount_0f7a4_7 : decode cJ6_bitCount_0f7a4 7 = .ok (.iand, 1) := by decide +kernel
theorem dJ6_bitCount_0f7a4_8 : decode cJ6_bitCount_0f7a4 8 = .ok (.isub, 1) := by decide +kernel
theorem dJ6_bitCount_0f7a4_9 : decode cJ6_bitCount_0f7a4 9 = .ok (.istore_n 0, 1) := by decide +kernel
theorem dJ6_bitCount_0f7a4_10 : decode cJ6_bitCount_0f7a4 10 = .ok (.iload_n 0, 1) := by decide +kernel
theorem dJ6_bitCount_0f7a4_11 : decode cJ6_bitCount_0f7a4 11 = .ok (.ldc_w 266, 3) := by decide +kernel
theorem dJ6_bitCount_0f7a4_14 : decode cJ6_bitCount_0f7a4 14 = .ok (.iand, 1) := by decide +kernel
theorem dJ6_bitCount_0f7a4_15 : decode cJ6_bitCount_0f7a4 15 = .ok (.iload_n 0, 1) := by decide +kernel
theorem dJ6_bitCount_0f7a4_16 : decode cJ6_bitCount_0f7a4 16 = .ok (.iconst 2, 1) := by decide +kernel
theorem dJ6_bitCount_0f7a4_17 : decode cJ6_bitCount_0f7a4 17 = .ok (.iushr, 1) := by decide +kernel
theorem dJ6_bitCount_0f7a4_18 : decode cJ6_bitCount_0f7a4 18 = .ok (.ldc_w 266, 3) := by decide +kernel
theorem dJ6_bitCount_0f7a4_21 : decode cJ6_bitCount_0f7a4 21 = .ok (.iand, 1) := by decide +kernel
theorem dJ6_bitCount_0f7a4_22 : decode cJ6_bitCount_0f7a4 22 = .ok (.iadd, 1) := by decide +kernel
theorem dJ6_bitCount_0f7a4_23 : decode cJ6_bitCount_0f7a4 23 = .ok (.istore_n 0, 1) := by decide +kernel
theorem dJ6_bitCount_0f7a4_24 : decode cJ6_bitCount_0f7a4 24 = .ok (.iload_n 0, 1) := by decide +kernel
theorem dJ6_bitCount_0f7a4_25 : decode cJ6_bitCount_0f7a4 25 = .ok (.iload_n 0, 1) := by decide +kernel
theorem dJ6_bitCount_0f7a4_26 : decode cJ6_bitCount_0f7a4 26 = .ok (.iconst 4, 1) := by decide +kernel
theorem dJ6_bitCount_0f7a4_27 : decode cJ6_bitCount_0f7a4 27 = .ok (.iushr, 1) := by decide +kernel
theorem dJ6_bitCount_0f7a4_28 : decode cJ6_bitCount_0f7a4 28 = .ok (.iadd, 1) := by decide +kernel
theorem dJ6_bitCount_0f7a4_29 : decode cJ6_bitCount_0f7a4 29 = .ok (.ldc_w 267, 3) := by decide +kernel
theorem dJ6_bitCount_0f7a4_32 : decode cJ6_bitCount_0f7a4 32 = .ok (.iand, 1) := by decide +kernel
theorem dJ6_bitCount_0f7a4_33 : decode cJ6_bitCount_0f7a4 33 = .ok (.istore_n 0, 1) := by decide +kernel
theorem dJ6_bitCount_0f7a4_34 : decode cJ6_bitCount_0f7a4 34 = .ok (.iload_n 0, 1) := by decide +kernel
theorem dJ6_bitCount_0f7a4_35 : decode cJ6_bitCount_0f7a4 35 = .ok (.iload_n 0, 1) := by decide +kernel
theorem dJ6_bitCount_0f7a4_36 : decode cJ6_bitCount_0f7a4 36 = .ok (.bipush 8, 2) := by decide +kernel
theorem dJ6_bitCount_0f7a4_38 : decode cJ6_bitCount_0f7a4 38 = .ok (.iushr, 1) := by decide +kernel
theorem dJ6_bitCount_0f7a4_39 : decode cJ6_bitCount_0f7a4 39 = .ok (.iadd, 1) := by decide +kernel
theorem dJ6_bitCount_0f7a4_40 : decode cJ6_bitCount_0f7a4 40 = .ok (.istore_n 0, 1) := by decide +kernel
theorem dJ6_bitCount_0f7a4_41 : decode cJ6_bitCount_0f7a4 41 = .ok (.iload_n 0, 1) := by decide +kernel
theorem dJ6_bitCount_0f7a4_42 : decode cJ6_bitCount_0f7a4 42 = .ok (.iload_n 0, 1) := by decide +kernel
theorem dJ6_bitCount_0f7a4_43 : decode cJ6_bitCount_0f7a4 43 = .ok (.bipush 16, 2) := by decide +kernel
theorem dJ6_bitCount_0f7a4_45 : decode cJ6_bitCount_0f7a4 45 = .ok (.iushr, 1) := by decide +kernel
theorem dJ6_bitCount_0f7a4_46 : decode cJ6_bitCount_0f7a4 46 = .ok (.iadd, 1) := by decide +kernel
theorem dJ6_bitCount_0f7a4_47 : decode cJ6_bitCount_0f7a4 47 = .ok (.istore_n 0, 1) := by decide +kernel
theorem dJ6_bitCount_0f7a4_48 : decode cJ6_bitCount_0f7a4 48 = .ok (.iload_n 0, 1) := by decide +kernel
theorem dJ6_bitCount_0f7a4_49 : decode cJ6_bitCount_0f7a4 49 = .ok (.bipush 63, 2) := by decide +kernel
theorem dJ6_bitCount_0f7a4_51 : decode cJ6_bitCount_0f7a4 51 = .ok (.iand, 1) := by decide +kernel
theorem dJ6_bitCount_0f7a4_52 : decode cJ6_bitCount_0f7a4 52 = .ok (.ireturn, 1) := by decide +kernel
theorem dJ9_min_7cf53_0 : decode cJ9_min_7cf53 0 = .ok (.iload_n 0, 1) := by decide +kernel
theorem dJ9_min_7cf53_1 : decode cJ9_min_7cf53 1 = .ok (.iload_n 1, 1) := by decide +kernel
theorem dJ9_min_7cf53_2 : decode cJ9_min_7cf53 2 = .ok (.if_icmp .gt 7, 3) := by decide +kernel
theorem dJ9_min_7cf53_5 : decode cJ9_min_7cf53 5 = .ok (.iload_n 0, 1) := by decide +kernel
theorem dJ9_min_7cf53_6 : decode cJ9_min_7cf53 6 = .ok (.goto 4, 3) := by decide +kernel
theorem dJ9_min_7cf53_9 : decode cJ9_min_7cf53 9 = .ok (.iload_n 1, 1) := by decide +kernel
theorem dJ9_min_7cf53_10 : decode cJ9_min_7cf53 10 = .ok (.ireturn, 1) := by decide +kernel
theorem dJ7_fill_53178_0 : decode cJ7_fill_53178 0 = .ok (.iconst 0, 1) := by decide +kernel
theorem dJ7_fill_53178_1 : decode cJ7_fill_53178 1 = .ok (.istore_n 2, 1) := by decide +kernel
theorem dJ7_fill_53178_2 : decode cJ7_fill_53178 2 = .ok (.aload_n 0, 1) := by decide +kernel
theorem dJ7_fill_53178_3 : decode cJ7_fill_53178 3 = .ok (.arraylength, 1) := by decide +kernel
theorem dJ7_fill_53178_4 : decode cJ7_fill_53178 4 = .ok (.istore_n 3, 1) := by decide +kernel
theorem dJ7_fill_53178_5 : decode cJ7_fill_53178 5 = .ok (.iload_n 2, 1) := by decide +kernel
theorem dJ7_fill_53178_6 : decode cJ7_fill_53178 6 = .ok (.iload_n 3, 1) := by decide +kernel
theorem dJ7_fill_53178_7 : decode cJ7_fill_53178 7 = .ok (.if_icmp .ge 13, 3) := by decide +kernel
theorem dJ7_fill_53178_10 : decode cJ7_fill_53178 10 = .ok (.aload_n 0, 1) := by decide +kernel
theorem dJ7_fill_53178_11 : decode cJ7_fill_53178 11 = .ok (.iload_n 2, 1) := by decide +kernel
theorem dJ7_fill_53178_12 : decode cJ7_fill_53178 12 = .ok (.iload_n 1, 1) := by decide +kernel
theorem dJ7_fill_53178_13 : decode cJ7_fill_53178 13 = .ok (.iastore, 1) := by decide +kernel
theorem dJ7_fill_53178_14 : decode cJ7_fill_53178 14 = .ok (.iinc 2 1, 3) := by decide +kernel
theorem dJ7_fill_53178_17 : decode cJ7_fill_53178 17 = .ok (.goto (-12), 3) := by decide +kernel
theorem dJ7_fill_53178_20 : decode cJ7_fill_53178 20 = .ok (.return_, 1) := by decide +kernel
theorem dL_law_0 : decode cL_law 0 = .ok (.new 7, 3) := by decide +kernel
theorem dL_law_3 : decode cL_law 3 = .ok (.dup, 1) := by decide +kernel
theorem dL_law_4 : decode cL_law 4 = .ok (.invokespecial 9, 3) := by decide +kernel
theorem dL_law_7 : decode cL_law 7 = .ok (.astore_n 1, 1) := by decide +kernel
theorem dL_law_8 : decode cL_law 8 = .ok (.new 10, 3) := by decide +kernel
theorem dL_law_11 : decode cL_law 11 = .ok (.dup, 1) := by decide +kernel
theorem dL_law_12 : decode cL_law 12 = .ok (.invokespecial 12, 3) := by decide +kernel
theorem dL_law_15 : decode cL_law 15 = .ok (.astore_n 2, 1) := by decide +kernel
theorem dL_law_16 : decode cL_law 16 = .ok (.iconst 0, 1) := by decide +kernel
theorem dL_law_17 : decode cL_law 17 = .ok (.istore_n 3, 1) := by decide +kernel
theorem dL_law_18 : decode cL_law 18 = .ok (.iload_n 3, 1) := by decide +kernel
theorem dL_law_19 : decode cL_law 19 = .ok (.aload_n 0, 1) := by decide +kernel
theorem dL_law_20 : decode cL_law 20 = .ok (.arraylength, 1) := by decide +kernel
theorem dL_law_21 : decode cL_law 21 = .ok (.iconst 5, 1) := by decide +kernel
theorem dL_law_22 : decode cL_law 22 = .ok (.isub, 1) := by decide +kernel
theorem dL_law_23 : decode cL_law 23 = .ok (.if_icmp .gt 1082, 3) := by decide +kernel
theorem dL_law_26 : decode cL_law 26 = .ok (.aload_n 0, 1) := by decide +kernel
theorem dL_law_27 : decode cL_law 27 = .ok (.iload_n 3, 1) := by decide +kernel
theorem dL_law_28 : decode cL_law 28 = .ok (.iaload, 1) := by decide +kernel
theorem dL_law_29 : decode cL_law 29 = .ok (.bipush 31, 2) := by decide +kernel
theorem dL_law_31 : decode cL_law 31 = .ok (.iand, 1) := by decide +kernel
theorem dL_law_32 : decode cL_law 32 = .ok (.tableswitch 1067 0 31 #[144, 197, 230, 273, 306, 369, 382, 395, 428, 471, 504, 527, 540, 563, 586, 599, 632, 675, 728, 771, 784, 797, 810, 843, 902, 925, 938, 961, 984, 1007, 1030, 1053], 144) := by decide +kernel
theorem dL_law_176 : decode cL_law 176 = .ok (.aload_n 1, 1) := by decide +kernel
theorem dL_law_177 : decode cL_law 177 = .ok (.aload_n 0, 1) := by decide +kernel
theorem dL_law_178 : decode cL_law 178 = .ok (.iload_n 3, 1) := by decide +kernel
theorem dL_law_179 : decode cL_law 179 = .ok (.iconst 1, 1) := by decide +kernel
theorem dL_law_180 : decode cL_law 180 = .ok (.iadd, 1) := by decide +kernel
theorem dL_law_181 : decode cL_law 181 = .ok (.iaload, 1) := by decide +kernel
theorem dL_law_182 : decode cL_law 182 = .ok (.aload_n 0, 1) := by decide +kernel
theorem dL_law_183 : decode cL_law 183 = .ok (.iload_n 3, 1) := by decide +kernel
theorem dL_law_184 : decode cL_law 184 = .ok (.iconst 2, 1) := by decide +kernel
theorem dL_law_185 : decode cL_law 185 = .ok (.iadd, 1) := by decide +kernel
theorem dL_law_186 : decode cL_law 186 = .ok (.iaload, 1) := by decide +kernel
theorem dL_law_187 : decode cL_law 187 = .ok (.aload_n 0, 1) := by decide +kernel
theorem dL_law_188 : decode cL_law 188 = .ok (.iload_n 3, 1) := by decide +kernel
theorem dL_law_189 : decode cL_law 189 = .ok (.iconst 3, 1) := by decide +kernel
theorem dL_law_190 : decode cL_law 190 = .ok (.iadd, 1) := by decide +kernel
theorem dL_law_191 : decode cL_law 191 = .ok (.iaload, 1) := by decide +kernel
theorem dL_law_192 : decode cL_law 192 = .ok (.aload_n 0, 1) := by decide +kernel
theorem dL_law_193 : decode cL_law 193 = .ok (.iload_n 3, 1) := by decide +kernel
theorem dL_law_194 : decode cL_law 194 = .ok (.iconst 4, 1) := by decide +kernel
theorem dL_law_195 : decode cL_law 195 = .ok (.iadd, 1) := by decide +kernel
theorem dL_law_196 : decode cL_law 196 = .ok (.iaload, 1) := by decide +kernel
theorem dL_law_197 : decode cL_law 197 = .ok (.invokevirtual 13, 3) := by decide +kernel
theorem dL_law_200 : decode cL_law 200 = .ok (.aload_n 2, 1) := by decide +kernel
theorem dL_law_201 : decode cL_law 201 = .ok (.aload_n 0, 1) := by decide +kernel
theorem dL_law_202 : decode cL_law 202 = .ok (.iload_n 3, 1) := by decide +kernel
theorem dL_law_203 : decode cL_law 203 = .ok (.iconst 1, 1) := by decide +kernel
theorem dL_law_204 : decode cL_law 204 = .ok (.iadd, 1) := by decide +kernel
theorem dL_law_205 : decode cL_law 205 = .ok (.iaload, 1) := by decide +kernel
theorem dL_law_206 : decode cL_law 206 = .ok (.aload_n 0, 1) := by decide +kernel
theorem dL_law_207 : decode cL_law 207 = .ok (.iload_n 3, 1) := by decide +kernel
theorem dL_law_208 : decode cL_law 208 = .ok (.iconst 2, 1) := by decide +kernel
theorem dL_law_209 : decode cL_law 209 = .ok (.iadd, 1) := by decide +kernel
theorem dL_law_210 : decode cL_law 210 = .ok (.iaload, 1) := by decide +kernel
theorem dL_law_211 : decode cL_law 211 = .ok (.aload_n 0, 1) := by decide +kernel
theorem dL_law_212 : decode cL_law 212 = .ok (.iload_n 3, 1) := by decide +kernel
theorem dL_law_213 : decode cL_law 213 = .ok (.iconst 3, 1) := by decide +kernel
theorem dL_law_214 : decode cL_law 214 = .ok (.iadd, 1) := by decide +kernel
theorem dL_law_215 : decode cL_law 215 = .ok (.iaload, 1) := by decide +kernel
theorem dL_law_216 : decode cL_law 216 = .ok (.aload_n 0, 1) := by decide +kernel
theorem dL_law_217 : decode cL_law 217 = .ok (.iload_n 3, 1) := by decide +kernel
theorem dL_law_218 : decode cL_law 218 = .ok (.iconst 4, 1) := by decide +kernel
theorem dL_law_219 : decode cL_law 219 = .ok (.iadd, 1) := by decide +kernel
theorem dL_law_220 : decode cL_law 220 = .ok (.iaload, 1) := by decide +kernel
theorem dL_law_221 : decode cL_law 221 = .ok (.invokevirtual 17, 3) := by decide +kernel
theorem dL_law_224 : decode cL_law 224 = .ok (.if_icmp .eq 875, 3) := by decide +kernel
theorem dL_law_227 : decode cL_law 227 = .ok (.iconst 0, 1) := by decide +kernel
theorem dL_law_228 : decode cL_law 228 = .ok (.ireturn, 1) := by decide +kernel
theorem dL_law_229 : decode cL_law 229 = .ok (.aload_n 1, 1) := by decide +kernel
theorem dL_law_230 : decode cL_law 230 = .ok (.aload_n 0, 1) := by decide +kernel
theorem dL_law_231 : decode cL_law 231 = .ok (.iload_n 3, 1) := by decide +kernel
theorem dL_law_232 : decode cL_law 232 = .ok (.iconst 1, 1) := by decide +kernel
theorem dL_law_233 : decode cL_law 233 = .ok (.iadd, 1) := by decide +kernel
theorem dL_law_234 : decode cL_law 234 = .ok (.iaload, 1) := by decide +kernel
theorem dL_law_235 : decode cL_law 235 = .ok (.aload_n 0, 1) := by decide +kernel
theorem dL_law_236 : decode cL_law 236 = .ok (.iload_n 3, 1) := by decide +kernel
theorem dL_law_237 : decode cL_law 237 = .ok (.iconst 2, 1) := by decide +kernel
theorem dL_law_238 : decode cL_law 238 = .ok (.iadd, 1) := by decide +kernel
theorem dL_law_239 : decode cL_law 239 = .ok (.iaload, 1) := by decide +kernel
theorem dL_law_240 : decode cL_law 240 = .ok (.invokevirtual 18, 3) := by decide +kernel
theorem dL_law_243 : decode cL_law 243 = .ok (.aload_n 2, 1) := by decide +kernel
theorem dL_law_244 : decode cL_law 244 = .ok (.aload_n 0, 1) := by decide +kernel
theorem dL_law_245 : decode cL_law 245 = .ok (.iload_n 3, 1) := by decide +kernel
theorem dL_law_246 : decode cL_law 246 = .ok (.iconst 1, 1) := by decide +kernel
theorem dL_law_247 : decode cL_law 247 = .ok (.iadd, 1) := by decide +kernel
theorem dL_law_248 : decode cL_law 248 = .ok (.iaload, 1) := by decide +kernel
theorem dL_law_249 : decode cL_law 249 = .ok (.aload_n 0, 1) := by decide +kernel
theorem dL_law_250 : decode cL_law 250 = .ok (.iload_n 3, 1) := by decide +kernel
theorem dL_law_251 : decode cL_law 251 = .ok (.iconst 2, 1) := by decide +kernel
theorem dL_law_252 : decode cL_law 252 = .ok (.iadd, 1) := by decide +kernel
theorem dL_law_253 : decode cL_law 253 = .ok (.iaload, 1) := by decide +kernel
theorem dL_law_254 : decode cL_law 254 = .ok (.invokevirtual 22, 3) := by decide +kernel
theorem dL_law_257 : decode cL_law 257 = .ok (.if_icmp .eq 842, 3) := by decide +kernel
theorem dL_law_260 : decode cL_law 260 = .ok (.iconst 0, 1) := by decide +kernel
theorem dL_law_261 : decode cL_law 261 = .ok (.ireturn, 1) := by decide +kernel
theorem dL_law_262 : decode cL_law 262 = .ok (.aload_n 1, 1) := by decide +kernel
theorem dL_law_263 : decode cL_law 263 = .ok (.aload_n 0, 1) := by decide +kernel
theorem dL_law_264 : decode cL_law 264 = .ok (.iload_n 3, 1) := by decide +kernel
theorem dL_law_265 : decode cL_law 265 = .ok (.iconst 1, 1) := by decide +kernel
theorem dL_law_266 : decode cL_law 266 = .ok (.iadd, 1) := by decide +kernel
theorem dL_law_267 : decode cL_law 267 = .ok (.iaload, 1) := by decide +kernel
theorem dL_law_268 : decode cL_law 268 = .ok (.aload_n 0, 1) := by decide +kernel
theorem dL_law_269 : decode cL_law 269 = .ok (.iload_n 3, 1) := by decide +kernel
theorem dL_law_270 : decode cL_law 270 = .ok (.iconst 2, 1) := by decide +kernel
theorem dL_law_271 : decode cL_law 271 = .ok (.iadd, 1) := by decide +kernel
theorem dL_law_272 : decode cL_law 272 = .ok (.iaload, 1) := by decide +kernel
theorem dL_law_273 : decode cL_law 273 = .ok (.aload_n 0, 1) := by decide +kernel
theorem dL_law_274 : decode cL_law 274 = .ok (.iload_n 3, 1) := by decide +kernel
theorem dL_law_275 : decode cL_law 275 = .ok (.iconst 3, 1) := by decide +kernel
theorem dL_law_276 : decode cL_law 276 = .ok (.iadd, 1) := by decide +kernel
theorem dL_law_277 : decode cL_law 277 = .ok (.iaload, 1) := by decide +kernel
theorem dL_law_278 : decode cL_law 278 = .ok (.invokevirtual 23, 3) := by decide +kernel
theorem dL_law_281 : decode cL_law 281 = .ok (.aload_n 2, 1) := by decide +kernel
theorem dL_law_282 : decode cL_law 282 = .ok (.aload_n 0, 1) := by decide +kernel
theorem dL_law_283 : decode cL_law 283 = .ok (.iload_n 3, 1) := by decide +kernel
theorem dL_law_284 : decode cL_law 284 = .ok (.iconst 1, 1) := by decide +kernel
theorem dL_law_285 : decode cL_law 285 = .ok (.iadd, 1) := by decide +kernel
theorem dL_law_286 : decode cL_law 286 = .ok (.iaload, 1) := by decide +kernel
theorem dL_law_287 : decode cL_law 287 = .ok (.aload_n 0, 1) := by decide +kernel
theorem dL_law_288 : decode cL_law 288 = .ok (.iload_n 3, 1) := by decide +kernel
theorem dL_law_289 : decode cL_law 289 = .ok (.iconst 2, 1) := by decide +kernel
theorem dL_law_290 : decode cL_law 290 = .ok (.iadd, 1) := by decide +kernel
theorem dL_law_291 : decode cL_law 291 = .ok (.iaload, 1) := by decide +kernel
theorem dL_law_292 : decode cL_law 292 = .ok (.aload_n 0, 1) := by decide +kernel
theorem dL_law_293 : decode cL_law 293 = .ok (.iload_n 3, 1) := by decide +kernel
theorem dL_law_294 : decode cL_law 294 = .ok (.iconst 3, 1) := by decide +kernel
theorem dL_law_295 : decode cL_law 295 = .ok (.iadd, 1) := by decide +kernel
theorem dL_law_296 : decode cL_law 296 = .ok (.iaload, 1) := by decide +kernel
theorem dL_law_297 : decode cL_law 297 = .ok (.invokevirtual 27, 3) := by decide +kernel
theorem dL_law_300 : decode cL_law 300 = .ok (.if_icmp .eq 799, 3) := by decide +kernel
theorem dL_law_303 : decode cL_law 303 = .ok (.iconst 0, 1) := by decide +kernel
theorem dL_law_304 : decode cL_law 304 = .ok (.ireturn, 1) := by decide +kernel
theorem dL_law_305 : decode cL_law 305 = .ok (.aload_n 1, 1) := by decide +kernel
theorem dL_law_306 : decode cL_law 306 = .ok (.aload_n 0, 1) := by decide +kernel
theorem dL_law_307 : decode cL_law 307 = .ok (.iload_n 3, 1) := by decide +kernel
theorem dL_law_308 : decode cL_law 308 = .ok (.iconst 1, 1) := by decide +kernel
theorem dL_law_309 : decode cL_law 309 = .ok (.iadd, 1) := by decide +kernel
theorem dL_law_310 : decode cL_law 310 = .ok (.iaload, 1) := by decide +kernel
theorem dL_law_311 : decode cL_law 311 = .ok (.aload_n 0, 1) := by decide +kernel
theorem dL_law_312 : decode cL_law 312 = .ok (.iload_n 3, 1) := by decide +kernel
theorem dL_law_313 : decode cL_law 313 = .ok (.iconst 2, 1) := by decide +kernel
theorem dL_law_314 : decode cL_law 314 = .ok (.iadd, 1) := by decide +kernel
theorem dL_law_315 : decode cL_law 315 = .ok (.iaload, 1) := by decide +kernel
theorem dL_law_316 : decode cL_law 316 = .ok (.invokevirtual 28, 3) := by decide +kernel
theorem dL_law_319 : decode cL_law 319 = .ok (.aload_n 2, 1) := by decide +kernel
theorem dL_law_320 : decode cL_law 320 = .ok (.aload_n 0, 1) := by decide +kernel
theorem dL_law_321 : decode cL_law 321 = .ok (.iload_n 3, 1) := by decide +kernel
theorem dL_law_322 : decode cL_law 322 = .ok (.iconst 1, 1) := by decide +kernel
theorem dL_law_323 : decode cL_law 323 = .ok (.iadd, 1) := by decide +kernel
theorem dL_law_324 : decode cL_law 324 = .ok (.iaload, 1) := by decide +kernel
theorem dL_law_325 : decode cL_law 325 = .ok (.aload_n 0, 1) := by decide +kernel
theorem dL_law_326 : decode cL_law 326 = .ok (.iload_n 3, 1) := by decide +kernel
theorem dL_law_327 : decode cL_law 327 = .ok (.iconst 2, 1) := by decide +kernel
theorem dL_law_328 : decode cL_law 328 = .ok (.iadd, 1) := by decide +kernel
theorem dL_law_329 : decode cL_law 329 = .ok (.iaload, 1) := by decide +kernel
theorem dL_law_330 : decode cL_law 330 = .ok (.invokevirtual 31, 3) := by decide +kernel
theorem dL_law_333 : decode cL_law 333 = .ok (.if_icmp .eq 766, 3) := by decide +kernel
theorem dL_law_336 : decode cL_law 336 = .ok (.iconst 0, 1) := by decide +kernel
theorem dL_law_337 : decode cL_law 337 = .ok (.ireturn, 1) := by decide +kernel
theorem dL_law_338 : decode cL_law 338 = .ok (.aload_n 1, 1) := by decide +kernel
theorem dL_law_339 : decode cL_law 339 = .ok (.aload_n 0, 1) := by decide +kernel
theorem dL_law_340 : decode cL_law 340 = .ok (.iload_n 3, 1) := by decide +kernel
theorem dL_law_341 : decode cL_law 341 = .ok (.iconst 1, 1) := by decide +kernel
theorem dL_law_342 : decode cL_law 342 = .ok (.iadd, 1) := by decide +kernel
theorem dL_law_343 : decode cL_law 343 = .ok (.iaload, 1) := by decide +kernel
theorem dL_law_344 : decode cL_law 344 = .ok (.i2l, 1) := by decide +kernel
theorem dL_law_345 : decode cL_law 345 = .ok (.bipush 32, 2) := by decide +kernel
theorem dL_law_347 : decode cL_law 347 = .ok (.lshl, 1) := by decide +kernel
theorem dL_law_348 : decode cL_law 348 = .ok (.aload_n 0, 1) := by decide +kernel
theorem dL_law_349 : decode cL_law 349 = .ok (.iload_n 3, 1) := by decide +kernel
theorem dL_law_350 : decode cL_law 350 = .ok (.iconst 2, 1) := by decide +kernel
theorem dL_law_351 : decode cL_law 351 = .ok (.iadd, 1) := by decide +kernel
theorem dL_law_352 : decode cL_law 352 = .ok (.iaload, 1) := by decide +kernel
theorem dL_law_353 : decode cL_law 353 = .ok (.i2l, 1) := by decide +kernel
theorem dL_law_354 : decode cL_law 354 = .ok (.ldc2_w 32, 3) := by decide +kernel
theorem dL_law_357 : decode cL_law 357 = .ok (.land, 1) := by decide +kernel
theorem dL_law_358 : decode cL_law 358 = .ok (.lor, 1) := by decide +kernel
theorem dL_law_359 : decode cL_law 359 = .ok (.aload_n 0, 1) := by decide +kernel
theorem dL_law_360 : decode cL_law 360 = .ok (.iload_n 3, 1) := by decide +kernel
theorem dL_law_361 : decode cL_law 361 = .ok (.iconst 3, 1) := by decide +kernel
theorem dL_law_362 : decode cL_law 362 = .ok (.iadd, 1) := by decide +kernel
theorem dL_law_363 : decode cL_law 363 = .ok (.iaload, 1) := by decide +kernel
theorem dL_law_364 : decode cL_law 364 = .ok (.invokevirtual 34, 3) := by decide +kernel
theorem dL_law_367 : decode cL_law 367 = .ok (.aload_n 2, 1) := by decide +kernel
theorem dL_law_368 : decode cL_law 368 = .ok (.aload_n 0, 1) := by decide +kernel
theorem dL_law_369 : decode cL_law 369 = .ok (.iload_n 3, 1) := by decide +kernel
theorem dL_law_370 : decode cL_law 370 = .ok (.iconst 1, 1) := by decide +kernel
theorem dL_law_371 : decode cL_law 371 = .ok (.iadd, 1) := by decide +kernel
theorem dL_law_372 : decode cL_law 372 = .ok (.iaload, 1) := by decide +kernel
theorem dL_law_373 : decode cL_law 373 = .ok (.i2l, 1) := by decide +kernel
theorem dL_law_374 : decode cL_law 374 = .ok (.bipush 32, 2) := by decide +kernel
theorem dL_law_376 : decode cL_law 376 = .ok (.lshl, 1) := by decide +kernel
theorem dL_law_377 : decode cL_law 377 = .ok (.aload_n 0, 1) := by decide +kernel
theorem dL_law_378 : decode cL_law 378 = .ok (.iload_n 3, 1) := by decide +kernel
theorem dL_law_379 : decode cL_law 379 = .ok (.iconst 2, 1) := by decide +kernel
theorem dL_law_380 : decode cL_law 380 = .ok (.iadd, 1) := by decide +kernel
theorem dL_law_381 : decode cL_law 381 = .ok (.iaload, 1) := by decide +kernel
theorem dL_law_382 : decode cL_law 382 = .ok (.i2l, 1) := by decide +kernel
theorem dL_law_383 : decode cL_law 383 = .ok (.ldc2_w 32, 3) := by decide +kernel
theorem dL_law_386 : decode cL_law 386 = .ok (.land, 1) := by decide +kernel
theorem dL_law_387 : decode cL_law 387 = .ok (.lor, 1) := by decide +kernel
theorem dL_law_388 : decode cL_law 388 = .ok (.aload_n 0, 1) := by decide +kernel
theorem dL_law_389 : decode cL_law 389 = .ok (.iload_n 3, 1) := by decide +kernel
theorem dL_law_390 : decode cL_law 390 = .ok (.iconst 3, 1) := by decide +kernel
theorem dL_law_391 : decode cL_law 391 = .ok (.iadd, 1) := by decide +kernel
theorem dL_law_392 : decode cL_law 392 = .ok (.iaload, 1) := by decide +kernel
theorem dL_law_393 : decode cL_law 393 = .ok (.invokevirtual 38, 3) := by decide +kernel
theorem dL_law_396 : decode cL_law 396 = .ok (.if_icmp .eq 703, 3) := by decide +kernel
theorem dL_law_399 : decode cL_law 399 = .ok (.iconst 0, 1) := by decide +kernel
theorem dL_law_400 : decode cL_law 400 = .ok (.ireturn, 1) := by decide +kernel
theorem dL_law_401 : decode cL_law 401 = .ok (.aload_n 1, 1) := by decide +kernel
theorem dL_law_402 : decode cL_law 402 = .ok (.invokevirtual 39, 3) := by decide +kernel
theorem dL_law_405 : decode cL_law 405 = .ok (.aload_n 2, 1) := by decide +kernel
theorem dL_law_406 : decode cL_law 406 = .ok (.invokevirtual 43, 3) := by decide +kernel
theorem dL_law_409 : decode cL_law 409 = .ok (.if_icmp .eq 690, 3) := by decide +kernel
theorem dL_law_412 : decode cL_law 412 = .ok (.iconst 0, 1) := by decide +kernel
theorem dL_law_413 : decode cL_law 413 = .ok (.ireturn, 1) := by decide +kernel
theorem dL_law_414 : decode cL_law 414 = .ok (.aload_n 1, 1) := by decide +kernel
theorem dL_law_415 : decode cL_law 415 = .ok (.invokevirtual 44, 3) := by decide +kernel
theorem dL_law_418 : decode cL_law 418 = .ok (.aload_n 2, 1) := by decide +kernel
theorem dL_law_419 : decode cL_law 419 = .ok (.invokevirtual 47, 3) := by decide +kernel
theorem dL_law_422 : decode cL_law 422 = .ok (.if_icmp .eq 677, 3) := by decide +kernel
theorem dL_law_425 : decode cL_law 425 = .ok (.iconst 0, 1) := by decide +kernel
theorem dL_law_426 : decode cL_law 426 = .ok (.ireturn, 1) := by decide +kernel
theorem dL_law_427 : decode cL_law 427 = .ok (.aload_n 1, 1) := by decide +kernel
theorem dL_law_428 : decode cL_law 428 = .ok (.aload_n 0, 1) := by decide +kernel
theorem dL_law_429 : decode cL_law 429 = .ok (.iload_n 3, 1) := by decide +kernel
theorem dL_law_430 : decode cL_law 430 = .ok (.iconst 1, 1) := by decide +kernel
theorem dL_law_431 : decode cL_law 431 = .ok (.iadd, 1) := by decide +kernel
theorem dL_law_432 : decode cL_law 432 = .ok (.iaload, 1) := by decide +kernel
theorem dL_law_433 : decode cL_law 433 = .ok (.aload_n 0, 1) := by decide +kernel
theorem dL_law_434 : decode cL_law 434 = .ok (.iload_n 3, 1) := by decide +kernel
theorem dL_law_435 : decode cL_law 435 = .ok (.iconst 2, 1) := by decide +kernel
theorem dL_law_436 : decode cL_law 436 = .ok (.iadd, 1) := by decide +kernel
theorem dL_law_437 : decode cL_law 437 = .ok (.iaload, 1) := by decide +kernel
theorem dL_law_438 : decode cL_law 438 = .ok (.invokevirtual 48, 3) := by decide +kernel
theorem dL_law_441 : decode cL_law 441 = .ok (.aload_n 2, 1) := by decide +kernel
theorem dL_law_442 : decode cL_law 442 = .ok (.aload_n 0, 1) := by decide +kernel
theorem dL_law_443 : decode cL_law 443 = .ok (.iload_n 3, 1) := by decide +kernel
theorem dL_law_444 : decode cL_law 444 = .ok (.iconst 1, 1) := by decide +kernel
theorem dL_law_445 : decode cL_law 445 = .ok (.iadd, 1) := by decide +kernel
theorem dL_law_446 : decode cL_law 446 = .ok (.iaload, 1) := by decide +kernel
theorem dL_law_447 : decode cL_law 447 = .ok (.aload_n 0, 1) := by decide +kernel
theorem dL_law_448 : decode cL_law 448 = .ok (.iload_n 3, 1) := by decide +kernel
theorem dL_law_449 : decode cL_law 449 = .ok (.iconst 2, 1) := by decide +kernel
theorem dL_law_450 : decode cL_law 450 = .ok (.iadd, 1) := by decide +kernel
theorem dL_law_451 : decode cL_law 451 = .ok (.iaload, 1) := by decide +kernel
theorem dL_law_452 : decode cL_law 452 = .ok (.invokevirtual 51, 3) := by decide +kernel
theorem dL_law_455 : decode cL_law 455 = .ok (.if_icmp .eq 644, 3) := by decide +kernel
theorem dL_law_458 : decode cL_law 458 = .ok (.iconst 0, 1) := by decide +kernel
theorem dL_law_459 : decode cL_law 459 = .ok (.ireturn, 1) := by decide +kernel
theorem dL_law_460 : decode cL_law 460 = .ok (.aload_n 1, 1) := by decide +kernel
theorem dL_law_461 : decode cL_law 461 = .ok (.aload_n 0, 1) := by decide +kernel
theorem dL_law_462 : decode cL_law 462 = .ok (.iload_n 3, 1) := by decide +kernel
theorem dL_law_463 : decode cL_law 463 = .ok (.iconst 1, 1) := by decide +kernel
theorem dL_law_464 : decode cL_law 464 = .ok (.iadd, 1) := by decide +kernel
theorem dL_law_465 : decode cL_law 465 = .ok (.iaload, 1) := by decide +kernel
theorem dL_law_466 : decode cL_law 466 = .ok (.aload_n 0, 1) := by decide +kernel
theorem dL_law_467 : decode cL_law 467 = .ok (.iload_n 3, 1) := by decide +kernel
theorem dL_law_468 : decode cL_law 468 = .ok (.iconst 2, 1) := by decide +kernel
theorem dL_law_469 : decode cL_law 469 = .ok (.iadd, 1) := by decide +kernel
theorem dL_law_470 : decode cL_law 470 = .ok (.iaload, 1) := by decide +kernel
theorem dL_law_471 : decode cL_law 471 = .ok (.aload_n 0, 1) := by decide +kernel
theorem dL_law_472 : decode cL_law 472 = .ok (.iload_n 3, 1) := by decide +kernel
theorem dL_law_473 : decode cL_law 473 = .ok (.iconst 3, 1) := by decide +kernel
theorem dL_law_474 : decode cL_law 474 = .ok (.iadd, 1) := by decide +kernel
theorem dL_law_475 : decode cL_law 475 = .ok (.iaload, 1) := by decide +kernel
theorem dL_law_476 : decode cL_law 476 = .ok (.invokevirtual 52, 3) := by decide +kernel
theorem dL_law_479 : decode cL_law 479 = .ok (.aload_n 2, 1) := by decide +kernel
theorem dL_law_480 : decode cL_law 480 = .ok (.aload_n 0, 1) := by decide +kernel
theorem dL_law_481 : decode cL_law 481 = .ok (.iload_n 3, 1) := by decide +kernel
theorem dL_law_482 : decode cL_law 482 = .ok (.iconst 1, 1) := by decide +kernel
theorem dL_law_483 : decode cL_law 483 = .ok (.iadd, 1) := by decide +kernel
theorem dL_law_484 : decode cL_law 484 = .ok (.iaload, 1) := by decide +kernel
theorem dL_law_485 : decode cL_law 485 = .ok (.aload_n 0, 1) := by decide +kernel
theorem dL_law_486 : decode cL_law 486 = .ok (.iload_n 3, 1) := by decide +kernel
theorem dL_law_487 : decode cL_law 487 = .ok (.iconst 2, 1) := by decide +kernel
theorem dL_law_488 : decode cL_law 488 = .ok (.iadd, 1) := by decide +kernel
theorem dL_law_489 : decode cL_law 489 = .ok (.iaload, 1) := by decide +kernel
theorem dL_law_490 : decode cL_law 490 = .ok (.aload_n 0, 1) := by decide +kernel
theorem dL_law_491 : decode cL_law 491 = .ok (.iload_n 3, 1) := by decide +kernel
theorem dL_law_492 : decode cL_law 492 = .ok (.iconst 3, 1) := by decide +kernel
theorem dL_law_493 : decode cL_law 493 = .ok (.iadd, 1) := by decide +kernel
theorem dL_law_494 : decode cL_law 494 = .ok (.iaload, 1) := by decide +kernel
theorem dL_law_495 : decode cL_law 495 = .ok (.invokevirtual 55, 3) := by decide +kernel
theorem dL_law_498 : decode cL_law 498 = .ok (.if_icmp .eq 601, 3) := by decide +kernel
theorem dL_law_501 : decode cL_law 501 = .ok (.iconst 0, 1) := by decide +kernel
theorem dL_law_502 : decode cL_law 502 = .ok (.ireturn, 1) := by decide +kernel
theorem dL_law_503 : decode cL_law 503 = .ok (.aload_n 1, 1) := by decide +kernel
theorem dL_law_504 : decode cL_law 504 = .ok (.aload_n 0, 1) := by decide +kernel
theorem dL_law_505 : decode cL_law 505 = .ok (.iload_n 3, 1) := by decide +kernel
theorem dL_law_506 : decode cL_law 506 = .ok (.iconst 1, 1) := by decide +kernel
theorem dL_law_507 : decode cL_law 507 = .ok (.iadd, 1) := by decide +kernel
theorem dL_law_508 : decode cL_law 508 = .ok (.iaload, 1) := by decide +kernel
theorem dL_law_509 : decode cL_law 509 = .ok (.aload_n 0, 1) := by decide +kernel
theorem dL_law_510 : decode cL_law 510 = .ok (.iload_n 3, 1) := by decide +kernel
theorem dL_law_511 : decode cL_law 511 = .ok (.iconst 2, 1) := by decide +kernel
theorem dL_law_512 : decode cL_law 512 = .ok (.iadd, 1) := by decide +kernel
theorem dL_law_513 : decode cL_law 513 = .ok (.iaload, 1) := by decide +kernel
theorem dL_law_514 : decode cL_law 514 = .ok (.invokevirtual 56, 3) := by decide +kernel
theorem dL_law_517 : decode cL_law 517 = .ok (.aload_n 2, 1) := by decide +kernel
theorem dL_law_518 : decode cL_law 518 = .ok (.aload_n 0, 1) := by decide +kernel
theorem dL_law_519 : decode cL_law 519 = .ok (.iload_n 3, 1) := by decide +kernel
theorem dL_law_520 : decode cL_law 520 = .ok (.iconst 1, 1) := by decide +kernel
theorem dL_law_521 : decode cL_law 521 = .ok (.iadd, 1) := by decide +kernel
theorem dL_law_522 : decode cL_law 522 = .ok (.iaload, 1) := by decide +kernel
theorem dL_law_523 : decode cL_law 523 = .ok (.aload_n 0, 1) := by decide +kernel
theorem dL_law_524 : decode cL_law 524 = .ok (.iload_n 3, 1) := by decide +kernel
theorem dL_law_525 : decode cL_law 525 = .ok (.iconst 2, 1) := by decide +kernel
theorem dL_law_526 : decode cL_law 526 = .ok (.iadd, 1) := by decide +kernel
theorem dL_law_527 : decode cL_law 527 = .ok (.iaload, 1) := by decide +kernel
theorem dL_law_528 : decode cL_law 528 = .ok (.invokevirtual 59, 3) := by decide +kernel
theorem dL_law_531 : decode cL_law 531 = .ok (.if_icmp .eq 568, 3) := by decide +kernel
theorem dL_law_534 : decode cL_law 534 = .ok (.iconst 0, 1) := by decide +kernel
theorem dL_law_535 : decode cL_law 535 = .ok (.ireturn, 1) := by decide +kernel
theorem dL_law_536 : decode cL_law 536 = .ok (.aload_n 1, 1) := by decide +kernel
theorem dL_law_537 : decode cL_law 537 = .ok (.aload_n 0, 1) := by decide +kernel
theorem dL_law_538 : decode cL_law 538 = .ok (.iload_n 3, 1) := by decide +kernel
theorem dL_law_539 : decode cL_law 539 = .ok (.iconst 1, 1) := by decide +kernel
theorem dL_law_540 : decode cL_law 540 = .ok (.iadd, 1) := by decide +kernel
theorem dL_law_541 : decode cL_law 541 = .ok (.iaload, 1) := by decide +kernel
theorem dL_law_542 : decode cL_law 542 = .ok (.invokevirtual 60, 3) := by decide +kernel
theorem dL_law_545 : decode cL_law 545 = .ok (.aload_n 2, 1) := by decide +kernel
theorem dL_law_546 : decode cL_law 546 = .ok (.aload_n 0, 1) := by decide +kernel
theorem dL_law_547 : decode cL_law 547 = .ok (.iload_n 3, 1) := by decide +kernel
theorem dL_law_548 : decode cL_law 548 = .ok (.iconst 1, 1) := by decide +kernel
theorem dL_law_549 : decode cL_law 549 = .ok (.iadd, 1) := by decide +kernel
theorem dL_law_550 : decode cL_law 550 = .ok (.iaload, 1) := by decide +kernel
theorem dL_law_551 : decode cL_law 551 = .ok (.invokevirtual 64, 3) := by decide +kernel
theorem dL_law_554 : decode cL_law 554 = .ok (.if_icmp .eq 545, 3) := by decide +kernel
theorem dL_law_557 : decode cL_law 557 = .ok (.iconst 0, 1) := by decide +kernel
theorem dL_law_558 : decode cL_law 558 = .ok (.ireturn, 1) := by decide +kernel
theorem dL_law_559 : decode cL_law 559 = .ok (.aload_n 1, 1) := by decide +kernel
theorem dL_law_560 : decode cL_law 560 = .ok (.invokevirtual 65, 3) := by decide +kernel
theorem dL_law_563 : decode cL_law 563 = .ok (.aload_n 2, 1) := by decide +kernel
theorem dL_law_564 : decode cL_law 564 = .ok (.invokevirtual 68, 3) := by decide +kernel
theorem dL_law_567 : decode cL_law 567 = .ok (.if_icmp .eq 532, 3) := by decide +kernel
theorem dL_law_570 : decode cL_law 570 = .ok (.iconst 0, 1) := by decide +kernel
theorem dL_law_571 : decode cL_law 571 = .ok (.ireturn, 1) := by decide +kernel
theorem dL_law_572 : decode cL_law 572 = .ok (.aload_n 1, 1) := by decide +kernel
theorem dL_law_573 : decode cL_law 573 = .ok (.aload_n 0, 1) := by decide +kernel
theorem dL_law_574 : decode cL_law 574 = .ok (.iload_n 3, 1) := by decide +kernel
theorem dL_law_575 : decode cL_law 575 = .ok (.iconst 1, 1) := by decide +kernel
theorem dL_law_576 : decode cL_law 576 = .ok (.iadd, 1) := by decide +kernel
theorem dL_law_577 : decode cL_law 577 = .ok (.iaload, 1) := by decide +kernel
theorem dL_law_578 : decode cL_law 578 = .ok (.invokevirtual 69, 3) := by decide +kernel
theorem dL_law_581 : decode cL_law 581 = .ok (.aload_n 2, 1) := by decide +kernel
theorem dL_law_582 : decode cL_law 582 = .ok (.aload_n 0, 1) := by decide +kernel
theorem dL_law_583 : decode cL_law 583 = .ok (.iload_n 3, 1) := by decide +kernel
theorem dL_law_584 : decode cL_law 584 = .ok (.iconst 1, 1) := by decide +kernel
theorem dL_law_585 : decode cL_law 585 = .ok (.iadd, 1) := by decide +kernel
theorem dL_law_586 : decode cL_law 586 = .ok (.iaload, 1) := by decide +kernel
theorem dL_law_587 : decode cL_law 587 = .ok (.invokevirtual 72, 3) := by decide +kernel
theorem dL_law_590 : decode cL_law 590 = .ok (.if_icmp .eq 509, 3) := by decide +kernel
theorem dL_law_593 : decode cL_law 593 = .ok (.iconst 0, 1) := by decide +kernel
theorem dL_law_594 : decode cL_law 594 = .ok (.ireturn, 1) := by decide +kernel
theorem dL_law_595 : decode cL_law 595 = .ok (.aload_n 1, 1) := by decide +kernel
theorem dL_law_596 : decode cL_law 596 = .ok (.aload_n 0, 1) := by decide +kernel
theorem dL_law_597 : decode cL_law 597 = .ok (.iload_n 3, 1) := by decide +kernel
theorem dL_law_598 : decode cL_law 598 = .ok (.iconst 1, 1) := by decide +kernel
theorem dL_law_599 : decode cL_law 599 = .ok (.iadd, 1) := by decide +kernel
theorem dL_law_600 : decode cL_law 600 = .ok (.iaload, 1) := by decide +kernel
theorem dL_law_601 : decode cL_law 601 = .ok (.invokevirtual 73, 3) := by decide +kernel
theorem dL_law_604 : decode cL_law 604 = .ok (.aload_n 2, 1) := by decide +kernel
theorem dL_law_605 : decode cL_law 605 = .ok (.aload_n 0, 1) := by decide +kernel
theorem dL_law_606 : decode cL_law 606 = .ok (.iload_n 3, 1) := by decide +kernel
theorem dL_law_607 : decode cL_law 607 = .ok (.iconst 1, 1) := by decide +kernel
theorem dL_law_608 : decode cL_law 608 = .ok (.iadd, 1) := by decide +kernel
theorem dL_law_609 : decode cL_law 609 = .ok (.iaload, 1) := by decide +kernel
theorem dL_law_610 : decode cL_law 610 = .ok (.invokevirtual 76, 3) := by decide +kernel
theorem dL_law_613 : decode cL_law 613 = .ok (.if_icmp .eq 486, 3) := by decide +kernel
theorem dL_law_616 : decode cL_law 616 = .ok (.iconst 0, 1) := by decide +kernel
theorem dL_law_617 : decode cL_law 617 = .ok (.ireturn, 1) := by decide +kernel
theorem dL_law_618 : decode cL_law 618 = .ok (.aload_n 1, 1) := by decide +kernel
theorem dL_law_619 : decode cL_law 619 = .ok (.invokevirtual 77, 3) := by decide +kernel
theorem dL_law_622 : decode cL_law 622 = .ok (.aload_n 2, 1) := by decide +kernel
theorem dL_law_623 : decode cL_law 623 = .ok (.invokevirtual 80, 3) := by decide +kernel
theorem dL_law_626 : decode cL_law 626 = .ok (.if_icmp .eq 473, 3) := by decide +kernel
theorem dL_law_629 : decode cL_law 629 = .ok (.iconst 0, 1) := by decide +kernel
theorem dL_law_630 : decode cL_law 630 = .ok (.ireturn, 1) := by decide +kernel
theorem dL_law_631 : decode cL_law 631 = .ok (.aload_n 1, 1) := by decide +kernel
theorem dL_law_632 : decode cL_law 632 = .ok (.aload_n 0, 1) := by decide +kernel
theorem dL_law_633 : decode cL_law 633 = .ok (.iload_n 3, 1) := by decide +kernel
theorem dL_law_634 : decode cL_law 634 = .ok (.iconst 1, 1) := by decide +kernel
theorem dL_law_635 : decode cL_law 635 = .ok (.iadd, 1) := by decide +kernel
theorem dL_law_636 : decode cL_law 636 = .ok (.iaload, 1) := by decide +kernel
theorem dL_law_637 : decode cL_law 637 = .ok (.aload_n 0, 1) := by decide +kernel
theorem dL_law_638 : decode cL_law 638 = .ok (.iload_n 3, 1) := by decide +kernel
theorem dL_law_639 : decode cL_law 639 = .ok (.iconst 2, 1) := by decide +kernel
theorem dL_law_640 : decode cL_law 640 = .ok (.iadd, 1) := by decide +kernel
theorem dL_law_641 : decode cL_law 641 = .ok (.iaload, 1) := by decide +kernel
theorem dL_law_642 : decode cL_law 642 = .ok (.invokevirtual 81, 3) := by decide +kernel
theorem dL_law_645 : decode cL_law 645 = .ok (.aload_n 2, 1) := by decide +kernel
theorem dL_law_646 : decode cL_law 646 = .ok (.aload_n 0, 1) := by decide +kernel
theorem dL_law_647 : decode cL_law 647 = .ok (.iload_n 3, 1) := by decide +kernel
theorem dL_law_648 : decode cL_law 648 = .ok (.iconst 1, 1) := by decide +kernel
theorem dL_law_649 : decode cL_law 649 = .ok (.iadd, 1) := by decide +kernel
theorem dL_law_650 : decode cL_law 650 = .ok (.iaload, 1) := by decide +kernel
theorem dL_law_651 : decode cL_law 651 = .ok (.aload_n 0, 1) := by decide +kernel
theorem dL_law_652 : decode cL_law 652 = .ok (.iload_n 3, 1) := by decide +kernel
theorem dL_law_653 : decode cL_law 653 = .ok (.iconst 2, 1) := by decide +kernel
theorem dL_law_654 : decode cL_law 654 = .ok (.iadd, 1) := by decide +kernel
theorem dL_law_655 : decode cL_law 655 = .ok (.iaload, 1) := by decide +kernel
theorem dL_law_656 : decode cL_law 656 = .ok (.invokevirtual 84, 3) := by decide +kernel
theorem dL_law_659 : decode cL_law 659 = .ok (.if_icmp .eq 440, 3) := by decide +kernel
theorem dL_law_662 : decode cL_law 662 = .ok (.iconst 0, 1) := by decide +kernel
theorem dL_law_663 : decode cL_law 663 = .ok (.ireturn, 1) := by decide +kernel
theorem dL_law_664 : decode cL_law 664 = .ok (.aload_n 1, 1) := by decide +kernel
theorem dL_law_665 : decode cL_law 665 = .ok (.aload_n 0, 1) := by decide +kernel
theorem dL_law_666 : decode cL_law 666 = .ok (.iload_n 3, 1) := by decide +kernel
theorem dL_law_667 : decode cL_law 667 = .ok (.iconst 1, 1) := by decide +kernel
theorem dL_law_668 : decode cL_law 668 = .ok (.iadd, 1) := by decide +kernel
theorem dL_law_669 : decode cL_law 669 = .ok (.iaload, 1) := by decide +kernel
theorem dL_law_670 : decode cL_law 670 = .ok (.aload_n 0, 1) := by decide +kernel
theorem dL_law_671 : decode cL_law 671 = .ok (.iload_n 3, 1) := by decide +kernel
theorem dL_law_672 : decode cL_law 672 = .ok (.iconst 2, 1) := by decide +kernel
theorem dL_law_673 : decode cL_law 673 = .ok (.iadd, 1) := by decide +kernel
theorem dL_law_674 : decode cL_law 674 = .ok (.iaload, 1) := by decide +kernel
theorem dL_law_675 : decode cL_law 675 = .ok (.aload_n 0, 1) := by decide +kernel
theorem dL_law_676 : decode cL_law 676 = .ok (.iload_n 3, 1) := by decide +kernel
theorem dL_law_677 : decode cL_law 677 = .ok (.iconst 3, 1) := by decide +kernel
theorem dL_law_678 : decode cL_law 678 = .ok (.iadd, 1) := by decide +kernel
theorem dL_law_679 : decode cL_law 679 = .ok (.iaload, 1) := by decide +kernel
theorem dL_law_680 : decode cL_law 680 = .ok (.invokevirtual 85, 3) := by decide +kernel
theorem dL_law_683 : decode cL_law 683 = .ok (.aload_n 2, 1) := by decide +kernel
theorem dL_law_684 : decode cL_law 684 = .ok (.aload_n 0, 1) := by decide +kernel
theorem dL_law_685 : decode cL_law 685 = .ok (.iload_n 3, 1) := by decide +kernel
theorem dL_law_686 : decode cL_law 686 = .ok (.iconst 1, 1) := by decide +kernel
theorem dL_law_687 : decode cL_law 687 = .ok (.iadd, 1) := by decide +kernel
theorem dL_law_688 : decode cL_law 688 = .ok (.iaload, 1) := by decide +kernel
theorem dL_law_689 : decode cL_law 689 = .ok (.aload_n 0, 1) := by decide +kernel
theorem dL_law_690 : decode cL_law 690 = .ok (.iload_n 3, 1) := by decide +kernel
theorem dL_law_691 : decode cL_law 691 = .ok (.iconst 2, 1) := by decide +kernel
theorem dL_law_692 : decode cL_law 692 = .ok (.iadd, 1) := by decide +kernel
theorem dL_law_693 : decode cL_law 693 = .ok (.iaload, 1) := by decide +kernel
theorem dL_law_694 : decode cL_law 694 = .ok (.aload_n 0, 1) := by decide +kernel
theorem dL_law_695 : decode cL_law 695 = .ok (.iload_n 3, 1) := by decide +kernel
theorem dL_law_696 : decode cL_law 696 = .ok (.iconst 3, 1) := by decide +kernel
theorem dL_law_697 : decode cL_law 697 = .ok (.iadd, 1) := by decide +kernel
theorem dL_law_698 : decode cL_law 698 = .ok (.iaload, 1) := by decide +kernel
theorem dL_law_699 : decode cL_law 699 = .ok (.invokevirtual 88, 3) := by decide +kernel
theorem dL_law_702 : decode cL_law 702 = .ok (.if_icmp .eq 397, 3) := by decide +kernel
theorem dL_law_705 : decode cL_law 705 = .ok (.iconst 0, 1) := by decide +kernel
theorem dL_law_706 : decode cL_law 706 = .ok (.ireturn, 1) := by decide +kernel
theorem dL_law_707 : decode cL_law 707 = .ok (.aload_n 1, 1) := by decide +kernel
theorem dL_law_708 : decode cL_law 708 = .ok (.aload_n 0, 1) := by decide +kernel
theorem dL_law_709 : decode cL_law 709 = .ok (.iload_n 3, 1) := by decide +kernel
theorem dL_law_710 : decode cL_law 710 = .ok (.iconst 1, 1) := by decide +kernel
theorem dL_law_711 : decode cL_law 711 = .ok (.iadd, 1) := by decide +kernel
theorem dL_law_712 : decode cL_law 712 = .ok (.iaload, 1) := by decide +kernel
theorem dL_law_713 : decode cL_law 713 = .ok (.aload_n 0, 1) := by decide +kernel
theorem dL_law_714 : decode cL_law 714 = .ok (.iload_n 3, 1) := by decide +kernel
theorem dL_law_715 : decode cL_law 715 = .ok (.iconst 2, 1) := by decide +kernel
theorem dL_law_716 : decode cL_law 716 = .ok (.iadd, 1) := by decide +kernel
theorem dL_law_717 : decode cL_law 717 = .ok (.iaload, 1) := by decide +kernel
theorem dL_law_718 : decode cL_law 718 = .ok (.aload_n 0, 1) := by decide +kernel
theorem dL_law_719 : decode cL_law 719 = .ok (.iload_n 3, 1) := by decide +kernel
theorem dL_law_720 : decode cL_law 720 = .ok (.iconst 3, 1) := by decide +kernel
theorem dL_law_721 : decode cL_law 721 = .ok (.iadd, 1) := by decide +kernel
theorem dL_law_722 : decode cL_law 722 = .ok (.iaload, 1) := by decide +kernel
theorem dL_law_723 : decode cL_law 723 = .ok (.aload_n 0, 1) := by decide +kernel
theorem dL_law_724 : decode cL_law 724 = .ok (.iload_n 3, 1) := by decide +kernel
theorem dL_law_725 : decode cL_law 725 = .ok (.iconst 4, 1) := by decide +kernel
theorem dL_law_726 : decode cL_law 726 = .ok (.iadd, 1) := by decide +kernel
theorem dL_law_727 : decode cL_law 727 = .ok (.iaload, 1) := by decide +kernel
theorem dL_law_728 : decode cL_law 728 = .ok (.invokevirtual 89, 3) := by decide +kernel
theorem dL_law_731 : decode cL_law 731 = .ok (.aload_n 2, 1) := by decide +kernel
theorem dL_law_732 : decode cL_law 732 = .ok (.aload_n 0, 1) := by decide +kernel
theorem dL_law_733 : decode cL_law 733 = .ok (.iload_n 3, 1) := by decide +kernel
theorem dL_law_734 : decode cL_law 734 = .ok (.iconst 1, 1) := by decide +kernel
theorem dL_law_735 : decode cL_law 735 = .ok (.iadd, 1) := by decide +kernel
theorem dL_law_736 : decode cL_law 736 = .ok (.iaload, 1) := by decide +kernel
theorem dL_law_737 : decode cL_law 737 = .ok (.aload_n 0, 1) := by decide +kernel
theorem dL_law_738 : decode cL_law 738 = .ok (.iload_n 3, 1) := by decide +kernel
theorem dL_law_739 : decode cL_law 739 = .ok (.iconst 2, 1) := by decide +kernel
theorem dL_law_740 : decode cL_law 740 = .ok (.iadd, 1) := by decide +kernel
theorem dL_law_741 : decode cL_law 741 = .ok (.iaload, 1) := by decide +kernel
theorem dL_law_742 : decode cL_law 742 = .ok (.aload_n 0, 1) := by decide +kernel
theorem dL_law_743 : decode cL_law 743 = .ok (.iload_n 3, 1) := by decide +kernel
theorem dL_law_744 : decode cL_law 744 = .ok (.iconst 3, 1) := by decide +kernel
theorem dL_law_745 : decode cL_law 745 = .ok (.iadd, 1) := by decide +kernel
theorem dL_law_746 : decode cL_law 746 = .ok (.iaload, 1) := by decide +kernel
theorem dL_law_747 : decode cL_law 747 = .ok (.aload_n 0, 1) := by decide +kernel
theorem dL_law_748 : decode cL_law 748 = .ok (.iload_n 3, 1) := by decide +kernel
theorem dL_law_749 : decode cL_law 749 = .ok (.iconst 4, 1) := by decide +kernel
theorem dL_law_750 : decode cL_law 750 = .ok (.iadd, 1) := by decide +kernel
theorem dL_law_751 : decode cL_law 751 = .ok (.iaload, 1) := by decide +kernel
theorem dL_law_752 : decode cL_law 752 = .ok (.invokevirtual 92, 3) := by decide +kernel
theorem dL_law_755 : decode cL_law 755 = .ok (.if_icmp .eq 344, 3) := by decide +kernel
theorem dL_law_758 : decode cL_law 758 = .ok (.iconst 0, 1) := by decide +kernel
theorem dL_law_759 : decode cL_law 759 = .ok (.ireturn, 1) := by decide +kernel
theorem dL_law_760 : decode cL_law 760 = .ok (.aload_n 1, 1) := by decide +kernel
theorem dL_law_761 : decode cL_law 761 = .ok (.aload_n 0, 1) := by decide +kernel
theorem dL_law_762 : decode cL_law 762 = .ok (.iload_n 3, 1) := by decide +kernel
theorem dL_law_763 : decode cL_law 763 = .ok (.iconst 1, 1) := by decide +kernel
theorem dL_law_764 : decode cL_law 764 = .ok (.iadd, 1) := by decide +kernel
theorem dL_law_765 : decode cL_law 765 = .ok (.iaload, 1) := by decide +kernel
theorem dL_law_766 : decode cL_law 766 = .ok (.aload_n 0, 1) := by decide +kernel
theorem dL_law_767 : decode cL_law 767 = .ok (.iload_n 3, 1) := by decide +kernel
theorem dL_law_768 : decode cL_law 768 = .ok (.iconst 2, 1) := by decide +kernel
theorem dL_law_769 : decode cL_law 769 = .ok (.iadd, 1) := by decide +kernel
theorem dL_law_770 : decode cL_law 770 = .ok (.iaload, 1) := by decide +kernel
theorem dL_law_771 : decode cL_law 771 = .ok (.aload_n 0, 1) := by decide +kernel
theorem dL_law_772 : decode cL_law 772 = .ok (.iload_n 3, 1) := by decide +kernel
theorem dL_law_773 : decode cL_law 773 = .ok (.iconst 3, 1) := by decide +kernel
theorem dL_law_774 : decode cL_law 774 = .ok (.iadd, 1) := by decide +kernel
theorem dL_law_775 : decode cL_law 775 = .ok (.iaload, 1) := by decide +kernel
theorem dL_law_776 : decode cL_law 776 = .ok (.invokevirtual 93, 3) := by decide +kernel
theorem dL_law_779 : decode cL_law 779 = .ok (.aload_n 2, 1) := by decide +kernel
theorem dL_law_780 : decode cL_law 780 = .ok (.aload_n 0, 1) := by decide +kernel
theorem dL_law_781 : decode cL_law 781 = .ok (.iload_n 3, 1) := by decide +kernel
theorem dL_law_782 : decode cL_law 782 = .ok (.iconst 1, 1) := by decide +kernel
theorem dL_law_783 : decode cL_law 783 = .ok (.iadd, 1) := by decide +kernel
theorem dL_law_784 : decode cL_law 784 = .ok (.iaload, 1) := by decide +kernel
theorem dL_law_785 : decode cL_law 785 = .ok (.aload_n 0, 1) := by decide +kernel
theorem dL_law_786 : decode cL_law 786 = .ok (.iload_n 3, 1) := by decide +kernel
theorem dL_law_787 : decode cL_law 787 = .ok (.iconst 2, 1) := by decide +kernel
theorem dL_law_788 : decode cL_law 788 = .ok (.iadd, 1) := by decide +kernel
theorem dL_law_789 : decode cL_law 789 = .ok (.iaload, 1) := by decide +kernel
theorem dL_law_790 : decode cL_law 790 = .ok (.aload_n 0, 1) := by decide +kernel
theorem dL_law_791 : decode cL_law 791 = .ok (.iload_n 3, 1) := by decide +kernel
theorem dL_law_792 : decode cL_law 792 = .ok (.iconst 3, 1) := by decide +kernel
theorem dL_law_793 : decode cL_law 793 = .ok (.iadd, 1) := by decide +kernel
theorem dL_law_794 : decode cL_law 794 = .ok (.iaload, 1) := by decide +kernel
theorem dL_law_795 : decode cL_law 795 = .ok (.invokevirtual 96, 3) := by decide +kernel
theorem dL_law_798 : decode cL_law 798 = .ok (.if_icmp .eq 301, 3) := by decide +kernel
theorem dL_law_801 : decode cL_law 801 = .ok (.iconst 0, 1) := by decide +kernel
theorem dL_law_802 : decode cL_law 802 = .ok (.ireturn, 1) := by decide +kernel
theorem dL_law_803 : decode cL_law 803 = .ok (.aload_n 1, 1) := by decide +kernel
theorem dL_law_804 : decode cL_law 804 = .ok (.invokevirtual 97, 3) := by decide +kernel
theorem dL_law_807 : decode cL_law 807 = .ok (.aload_n 2, 1) := by decide +kernel
theorem dL_law_808 : decode cL_law 808 = .ok (.invokevirtual 100, 3) := by decide +kernel
theorem dL_law_811 : decode cL_law 811 = .ok (.if_icmp .eq 288, 3) := by decide +kernel
theorem dL_law_814 : decode cL_law 814 = .ok (.iconst 0, 1) := by decide +kernel
theorem dL_law_815 : decode cL_law 815 = .ok (.ireturn, 1) := by decide +kernel
theorem dL_law_816 : decode cL_law 816 = .ok (.aload_n 1, 1) := by decide +kernel
theorem dL_law_817 : decode cL_law 817 = .ok (.invokevirtual 101, 3) := by decide +kernel
theorem dL_law_820 : decode cL_law 820 = .ok (.aload_n 2, 1) := by decide +kernel
theorem dL_law_821 : decode cL_law 821 = .ok (.invokevirtual 104, 3) := by decide +kernel
theorem dL_law_824 : decode cL_law 824 = .ok (.if_icmp .eq 275, 3) := by decide +kernel
theorem dL_law_827 : decode cL_law 827 = .ok (.iconst 0, 1) := by decide +kernel
theorem dL_law_828 : decode cL_law 828 = .ok (.ireturn, 1) := by decide +kernel
theorem dL_law_829 : decode cL_law 829 = .ok (.aload_n 1, 1) := by decide +kernel
theorem dL_law_830 : decode cL_law 830 = .ok (.invokevirtual 105, 3) := by decide +kernel
theorem dL_law_833 : decode cL_law 833 = .ok (.aload_n 2, 1) := by decide +kernel
theorem dL_law_834 : decode cL_law 834 = .ok (.invokevirtual 108, 3) := by decide +kernel
theorem dL_law_837 : decode cL_law 837 = .ok (.if_icmp .eq 262, 3) := by decide +kernel
theorem dL_law_840 : decode cL_law 840 = .ok (.iconst 0, 1) := by decide +kernel
theorem dL_law_841 : decode cL_law 841 = .ok (.ireturn, 1) := by decide +kernel
theorem dL_law_842 : decode cL_law 842 = .ok (.aload_n 1, 1) := by decide +kernel
theorem dL_law_843 : decode cL_law 843 = .ok (.aload_n 0, 1) := by decide +kernel
theorem dL_law_844 : decode cL_law 844 = .ok (.iload_n 3, 1) := by decide +kernel
theorem dL_law_845 : decode cL_law 845 = .ok (.iconst 1, 1) := by decide +kernel
theorem dL_law_846 : decode cL_law 846 = .ok (.iadd, 1) := by decide +kernel
theorem dL_law_847 : decode cL_law 847 = .ok (.iaload, 1) := by decide +kernel
theorem dL_law_848 : decode cL_law 848 = .ok (.aload_n 0, 1) := by decide +kernel
theorem dL_law_849 : decode cL_law 849 = .ok (.iload_n 3, 1) := by decide +kernel
theorem dL_law_850 : decode cL_law 850 = .ok (.iconst 2, 1) := by decide +kernel
theorem dL_law_851 : decode cL_law 851 = .ok (.iadd, 1) := by decide +kernel
theorem dL_law_852 : decode cL_law 852 = .ok (.iaload, 1) := by decide +kernel
theorem dL_law_853 : decode cL_law 853 = .ok (.invokevirtual 109, 3) := by decide +kernel
theorem dL_law_856 : decode cL_law 856 = .ok (.aload_n 2, 1) := by decide +kernel
theorem dL_law_857 : decode cL_law 857 = .ok (.aload_n 0, 1) := by decide +kernel
theorem dL_law_858 : decode cL_law 858 = .ok (.iload_n 3, 1) := by decide +kernel
theorem dL_law_859 : decode cL_law 859 = .ok (.iconst 1, 1) := by decide +kernel
theorem dL_law_860 : decode cL_law 860 = .ok (.iadd, 1) := by decide +kernel
theorem dL_law_861 : decode cL_law 861 = .ok (.iaload, 1) := by decide +kernel
theorem dL_law_862 : decode cL_law 862 = .ok (.aload_n 0, 1) := by decide +kernel
theorem dL_law_863 : decode cL_law 863 = .ok (.iload_n 3, 1) := by decide +kernel
theorem dL_law_864 : decode cL_law 864 = .ok (.iconst 2, 1) := by decide +kernel
theorem dL_law_865 : decode cL_law 865 = .ok (.iadd, 1) := by decide +kernel
theorem dL_law_866 : decode cL_law 866 = .ok (.iaload, 1) := by decide +kernel
theorem dL_law_867 : decode cL_law 867 = .ok (.invokevirtual 112, 3) := by decide +kernel
theorem dL_law_870 : decode cL_law 870 = .ok (.if_icmp .eq 229, 3) := by decide +kernel
theorem dL_law_873 : decode cL_law 873 = .ok (.iconst 0, 1) := by decide +kernel
theorem dL_law_874 : decode cL_law 874 = .ok (.ireturn, 1) := by decide +kernel
theorem dL_law_875 : decode cL_law 875 = .ok (.aload_n 1, 1) := by decide +kernel
theorem dL_law_876 : decode cL_law 876 = .ok (.aload_n 0, 1) := by decide +kernel
theorem dL_law_877 : decode cL_law 877 = .ok (.iload_n 3, 1) := by decide +kernel
theorem dL_law_878 : decode cL_law 878 = .ok (.iconst 1, 1) := by decide +kernel
theorem dL_law_879 : decode cL_law 879 = .ok (.iadd, 1) := by decide +kernel
theorem dL_law_880 : decode cL_law 880 = .ok (.iaload, 1) := by decide +kernel
theorem dL_law_881 : decode cL_law 881 = .ok (.aload_n 0, 1) := by decide +kernel
theorem dL_law_882 : decode cL_law 882 = .ok (.iload_n 3, 1) := by decide +kernel
theorem dL_law_883 : decode cL_law 883 = .ok (.iconst 2, 1) := by decide +kernel
theorem dL_law_884 : decode cL_law 884 = .ok (.iadd, 1) := by decide +kernel
theorem dL_law_885 : decode cL_law 885 = .ok (.iaload, 1) := by decide +kernel
theorem dL_law_886 : decode cL_law 886 = .ok (.aload_n 0, 1) := by decide +kernel
theorem dL_law_887 : decode cL_law 887 = .ok (.iload_n 3, 1) := by decide +kernel
theorem dL_law_888 : decode cL_law 888 = .ok (.iconst 3, 1) := by decide +kernel
theorem dL_law_889 : decode cL_law 889 = .ok (.iadd, 1) := by decide +kernel
theorem dL_law_890 : decode cL_law 890 = .ok (.iaload, 1) := by decide +kernel
theorem dL_law_891 : decode cL_law 891 = .ok (.ifCond .eq 7, 3) := by decide +kernel
theorem dL_law_894 : decode cL_law 894 = .ok (.iconst 1, 1) := by decide +kernel
theorem dL_law_895 : decode cL_law 895 = .ok (.goto 4, 3) := by decide +kernel
theorem dL_law_898 : decode cL_law 898 = .ok (.iconst 0, 1) := by decide +kernel
theorem dL_law_899 : decode cL_law 899 = .ok (.invokevirtual 113, 3) := by decide +kernel
theorem dL_law_902 : decode cL_law 902 = .ok (.aload_n 2, 1) := by decide +kernel
theorem dL_law_903 : decode cL_law 903 = .ok (.aload_n 0, 1) := by decide +kernel
theorem dL_law_904 : decode cL_law 904 = .ok (.iload_n 3, 1) := by decide +kernel
theorem dL_law_905 : decode cL_law 905 = .ok (.iconst 1, 1) := by decide +kernel
theorem dL_law_906 : decode cL_law 906 = .ok (.iadd, 1) := by decide +kernel
theorem dL_law_907 : decode cL_law 907 = .ok (.iaload, 1) := by decide +kernel
theorem dL_law_908 : decode cL_law 908 = .ok (.aload_n 0, 1) := by decide +kernel
theorem dL_law_909 : decode cL_law 909 = .ok (.iload_n 3, 1) := by decide +kernel
theorem dL_law_910 : decode cL_law 910 = .ok (.iconst 2, 1) := by decide +kernel
theorem dL_law_911 : decode cL_law 911 = .ok (.iadd, 1) := by decide +kernel
theorem dL_law_912 : decode cL_law 912 = .ok (.iaload, 1) := by decide +kernel
theorem dL_law_913 : decode cL_law 913 = .ok (.aload_n 0, 1) := by decide +kernel
theorem dL_law_914 : decode cL_law 914 = .ok (.iload_n 3, 1) := by decide +kernel
theorem dL_law_915 : decode cL_law 915 = .ok (.iconst 3, 1) := by decide +kernel
theorem dL_law_916 : decode cL_law 916 = .ok (.iadd, 1) := by decide +kernel
theorem dL_law_917 : decode cL_law 917 = .ok (.iaload, 1) := by decide +kernel
theorem dL_law_918 : decode cL_law 918 = .ok (.ifCond .eq 7, 3) := by decide +kernel
theorem dL_law_921 : decode cL_law 921 = .ok (.iconst 1, 1) := by decide +kernel
theorem dL_law_922 : decode cL_law 922 = .ok (.goto 4, 3) := by decide +kernel
theorem dL_law_925 : decode cL_law 925 = .ok (.iconst 0, 1) := by decide +kernel
theorem dL_law_926 : decode cL_law 926 = .ok (.invokevirtual 117, 3) := by decide +kernel
theorem dL_law_929 : decode cL_law 929 = .ok (.if_icmp .eq 170, 3) := by decide +kernel
theorem dL_law_932 : decode cL_law 932 = .ok (.iconst 0, 1) := by decide +kernel
theorem dL_law_933 : decode cL_law 933 = .ok (.ireturn, 1) := by decide +kernel
theorem dL_law_934 : decode cL_law 934 = .ok (.aload_n 1, 1) := by decide +kernel
theorem dL_law_935 : decode cL_law 935 = .ok (.aload_n 0, 1) := by decide +kernel
theorem dL_law_936 : decode cL_law 936 = .ok (.iload_n 3, 1) := by decide +kernel
theorem dL_law_937 : decode cL_law 937 = .ok (.iconst 1, 1) := by decide +kernel
theorem dL_law_938 : decode cL_law 938 = .ok (.iadd, 1) := by decide +kernel
theorem dL_law_939 : decode cL_law 939 = .ok (.iaload, 1) := by decide +kernel
theorem dL_law_940 : decode cL_law 940 = .ok (.invokevirtual 118, 3) := by decide +kernel
theorem dL_law_943 : decode cL_law 943 = .ok (.aload_n 2, 1) := by decide +kernel
theorem dL_law_944 : decode cL_law 944 = .ok (.aload_n 0, 1) := by decide +kernel
theorem dL_law_945 : decode cL_law 945 = .ok (.iload_n 3, 1) := by decide +kernel
theorem dL_law_946 : decode cL_law 946 = .ok (.iconst 1, 1) := by decide +kernel
theorem dL_law_947 : decode cL_law 947 = .ok (.iadd, 1) := by decide +kernel
theorem dL_law_948 : decode cL_law 948 = .ok (.iaload, 1) := by decide +kernel
theorem dL_law_949 : decode cL_law 949 = .ok (.invokevirtual 121, 3) := by decide +kernel
theorem dL_law_952 : decode cL_law 952 = .ok (.if_icmp .eq 147, 3) := by decide +kernel
theorem dL_law_955 : decode cL_law 955 = .ok (.iconst 0, 1) := by decide +kernel
theorem dL_law_956 : decode cL_law 956 = .ok (.ireturn, 1) := by decide +kernel
theorem dL_law_957 : decode cL_law 957 = .ok (.aload_n 1, 1) := by decide +kernel
theorem dL_law_958 : decode cL_law 958 = .ok (.invokevirtual 122, 3) := by decide +kernel
theorem dL_law_961 : decode cL_law 961 = .ok (.aload_n 2, 1) := by decide +kernel
theorem dL_law_962 : decode cL_law 962 = .ok (.invokevirtual 125, 3) := by decide +kernel
theorem dL_law_965 : decode cL_law 965 = .ok (.if_icmp .eq 134, 3) := by decide +kernel
theorem dL_law_968 : decode cL_law 968 = .ok (.iconst 0, 1) := by decide +kernel
theorem dL_law_969 : decode cL_law 969 = .ok (.ireturn, 1) := by decide +kernel
theorem dL_law_970 : decode cL_law 970 = .ok (.aload_n 1, 1) := by decide +kernel
theorem dL_law_971 : decode cL_law 971 = .ok (.aload_n 0, 1) := by decide +kernel
theorem dL_law_972 : decode cL_law 972 = .ok (.iload_n 3, 1) := by decide +kernel
theorem dL_law_973 : decode cL_law 973 = .ok (.iconst 1, 1) := by decide +kernel
theorem dL_law_974 : decode cL_law 974 = .ok (.iadd, 1) := by decide +kernel
theorem dL_law_975 : decode cL_law 975 = .ok (.iaload, 1) := by decide +kernel
theorem dL_law_976 : decode cL_law 976 = .ok (.invokevirtual 126, 3) := by decide +kernel
theorem dL_law_979 : decode cL_law 979 = .ok (.aload_n 2, 1) := by decide +kernel
theorem dL_law_980 : decode cL_law 980 = .ok (.aload_n 0, 1) := by decide +kernel
theorem dL_law_981 : decode cL_law 981 = .ok (.iload_n 3, 1) := by decide +kernel
theorem dL_law_982 : decode cL_law 982 = .ok (.iconst 1, 1) := by decide +kernel
theorem dL_law_983 : decode cL_law 983 = .ok (.iadd, 1) := by decide +kernel
theorem dL_law_984 : decode cL_law 984 = .ok (.iaload, 1) := by decide +kernel
theorem dL_law_985 : decode cL_law 985 = .ok (.invokevirtual 129, 3) := by decide +kernel
theorem dL_law_988 : decode cL_law 988 = .ok (.if_icmp .eq 111, 3) := by decide +kernel
theorem dL_law_991 : decode cL_law 991 = .ok (.iconst 0, 1) := by decide +kernel
theorem dL_law_992 : decode cL_law 992 = .ok (.ireturn, 1) := by decide +kernel
theorem dL_law_993 : decode cL_law 993 = .ok (.aload_n 1, 1) := by decide +kernel
theorem dL_law_994 : decode cL_law 994 = .ok (.aload_n 0, 1) := by decide +kernel
theorem dL_law_995 : decode cL_law 995 = .ok (.iload_n 3, 1) := by decide +kernel
theorem dL_law_996 : decode cL_law 996 = .ok (.iconst 1, 1) := by decide +kernel
theorem dL_law_997 : decode cL_law 997 = .ok (.iadd, 1) := by decide +kernel
theorem dL_law_998 : decode cL_law 998 = .ok (.iaload, 1) := by decide +kernel
theorem dL_law_999 : decode cL_law 999 = .ok (.invokevirtual 130, 3) := by decide +kernel
theorem dL_law_1002 : decode cL_law 1002 = .ok (.aload_n 2, 1) := by decide +kernel
theorem dL_law_1003 : decode cL_law 1003 = .ok (.aload_n 0, 1) := by decide +kernel
theorem dL_law_1004 : decode cL_law 1004 = .ok (.iload_n 3, 1) := by decide +kernel
theorem dL_law_1005 : decode cL_law 1005 = .ok (.iconst 1, 1) := by decide +kernel
theorem dL_law_1006 : decode cL_law 1006 = .ok (.iadd, 1) := by decide +kernel
theorem dL_law_1007 : decode cL_law 1007 = .ok (.iaload, 1) := by decide +kernel
theorem dL_law_1008 : decode cL_law 1008 = .ok (.invokevirtual 133, 3) := by decide +kernel
theorem dL_law_1011 : decode cL_law 1011 = .ok (.if_icmp .eq 88, 3) := by decide +kernel
theorem dL_law_1014 : decode cL_law 1014 = .ok (.iconst 0, 1) := by decide +kernel
theorem dL_law_1015 : decode cL_law 1015 = .ok (.ireturn, 1) := by decide +kernel
theorem dL_law_1016 : decode cL_law 1016 = .ok (.aload_n 1, 1) := by decide +kernel
theorem dL_law_1017 : decode cL_law 1017 = .ok (.aload_n 0, 1) := by decide +kernel
theorem dL_law_1018 : decode cL_law 1018 = .ok (.iload_n 3, 1) := by decide +kernel
theorem dL_law_1019 : decode cL_law 1019 = .ok (.iconst 1, 1) := by decide +kernel
theorem dL_law_1020 : decode cL_law 1020 = .ok (.iadd, 1) := by decide +kernel
theorem dL_law_1021 : decode cL_law 1021 = .ok (.iaload, 1) := by decide +kernel
theorem dL_law_1022 : decode cL_law 1022 = .ok (.invokevirtual 134, 3) := by decide +kernel
theorem dL_law_1025 : decode cL_law 1025 = .ok (.aload_n 2, 1) := by decide +kernel
theorem dL_law_1026 : decode cL_law 1026 = .ok (.aload_n 0, 1) := by decide +kernel
theorem dL_law_1027 : decode cL_law 1027 = .ok (.iload_n 3, 1) := by decide +kernel
theorem dL_law_1028 : decode cL_law 1028 = .ok (.iconst 1, 1) := by decide +kernel
theorem dL_law_1029 : decode cL_law 1029 = .ok (.iadd, 1) := by decide +kernel
theorem dL_law_1030 : decode cL_law 1030 = .ok (.iaload, 1) := by decide +kernel
theorem dL_law_1031 : decode cL_law 1031 = .ok (.invokevirtual 137, 3) := by decide +kernel
theorem dL_law_1034 : decode cL_law 1034 = .ok (.if_icmp .eq 65, 3) := by decide +kernel
theorem dL_law_1037 : decode cL_law 1037 = .ok (.iconst 0, 1) := by decide +kernel
theorem dL_law_1038 : decode cL_law 1038 = .ok (.ireturn, 1) := by decide +kernel
theorem dL_law_1039 : decode cL_law 1039 = .ok (.aload_n 1, 1) := by decide +kernel
theorem dL_law_1040 : decode cL_law 1040 = .ok (.aload_n 0, 1) := by decide +kernel
theorem dL_law_1041 : decode cL_law 1041 = .ok (.iload_n 3, 1) := by decide +kernel
theorem dL_law_1042 : decode cL_law 1042 = .ok (.iconst 1, 1) := by decide +kernel
theorem dL_law_1043 : decode cL_law 1043 = .ok (.iadd, 1) := by decide +kernel
theorem dL_law_1044 : decode cL_law 1044 = .ok (.iaload, 1) := by decide +kernel
theorem dL_law_1045 : decode cL_law 1045 = .ok (.invokevirtual 138, 3) := by decide +kernel
theorem dL_law_1048 : decode cL_law 1048 = .ok (.aload_n 2, 1) := by decide +kernel
theorem dL_law_1049 : decode cL_law 1049 = .ok (.aload_n 0, 1) := by decide +kernel
theorem dL_law_1050 : decode cL_law 1050 = .ok (.iload_n 3, 1) := by decide +kernel
theorem dL_law_1051 : decode cL_law 1051 = .ok (.iconst 1, 1) := by decide +kernel
theorem dL_law_1052 : decode cL_law 1052 = .ok (.iadd, 1) := by decide +kernel
theorem dL_law_1053 : decode cL_law 1053 = .ok (.iaload, 1) := by decide +kernel
theorem dL_law_1054 : decode cL_law 1054 = .ok (.invokevirtual 141, 3) := by decide +kernel
theorem dL_law_1057 : decode cL_law 1057 = .ok (.if_icmp .eq 42, 3) := by decide +kernel
theorem dL_law_1060 : decode cL_law 1060 = .ok (.iconst 0, 1) := by decide +kernel
theorem dL_law_1061 : decode cL_law 1061 = .ok (.ireturn, 1) := by decide +kernel
theorem dL_law_1062 : decode cL_law 1062 = .ok (.aload_n 1, 1) := by decide +kernel
theorem dL_law_1063 : decode cL_law 1063 = .ok (.aload_n 0, 1) := by decide +kernel
theorem dL_law_1064 : decode cL_law 1064 = .ok (.iload_n 3, 1) := by decide +kernel
theorem dL_law_1065 : decode cL_law 1065 = .ok (.iconst 1, 1) := by decide +kernel
theorem dL_law_1066 : decode cL_law 1066 = .ok (.iadd, 1) := by decide +kernel
theorem dL_law_1067 : decode cL_law 1067 = .ok (.iaload, 1) := by decide +kernel
theorem dL_law_1068 : decode cL_law 1068 = .ok (.invokevirtual 142, 3) := by decide +kernel
theorem dL_law_1071 : decode cL_law 1071 = .ok (.aload_n 2, 1) := by decide +kernel
theorem dL_law_1072 : decode cL_law 1072 = .ok (.aload_n 0, 1) := by decide +kernel
theorem dL_law_1073 : decode cL_law 1073 = .ok (.iload_n 3, 1) := by decide +kernel
theorem dL_law_1074 : decode cL_law 1074 = .ok (.iconst 1, 1) := by decide +kernel
theorem dL_law_1075 : decode cL_law 1075 = .ok (.iadd, 1) := by decide +kernel
theorem dL_law_1076 : decode cL_law 1076 = .ok (.iaload, 1) := by decide +kernel
theorem dL_law_1077 : decode cL_law 1077 = .ok (.invokevirtual 145, 3) := by decide +kernel
theorem dL_law_1080 : decode cL_law 1080 = .ok (.if_icmp .eq 19, 3) := by decide +kernel
theorem dL_law_1083 : decode cL_law 1083 = .ok (.iconst 0, 1) := by decide +kernel
theorem dL_law_1084 : decode cL_law 1084 = .ok (.ireturn, 1) := by decide +kernel
theorem dL_law_1085 : decode cL_law 1085 = .ok (.aload_n 1, 1) := by decide +kernel
theorem dL_law_1086 : decode cL_law 1086 = .ok (.invokevirtual 146, 3) := by decide +kernel
theorem dL_law_1089 : decode cL_law 1089 = .ok (.aload_n 2, 1) := by decide +kernel
theorem dL_law_1090 : decode cL_law 1090 = .ok (.invokevirtual 150, 3) := by decide +kernel
theorem dL_law_1093 : decode cL_law 1093 = .ok (.lcmp, 1) := by decide +kernel
theorem dL_law_1094 : decode cL_law 1094 = .ok (.ifCond .eq 5, 3) := by decide +kernel
theorem dL_law_1097 : decode cL_law 1097 = .ok (.iconst 0, 1) := by decide +kernel
theorem dL_law_1098 : decode cL_law 1098 = .ok (.ireturn, 1) := by decide +kernel
theorem dL_law_1099 : decode cL_law 1099 = .ok (.iinc 3 5, 3) := by decide +kernel
theorem dL_law_1102 : decode cL_law 1102 = .ok (.goto (-1084), 3) := by decide +kernel
theorem dL_law_1105 : decode cL_law 1105 = .ok (.iconst 1, 1) := by decide +kernel
theorem dL_law_1106 : decode cL_law 1106 = .ok (.ireturn, 1) := by decide +kernel
