theorem dX7_init_0 : decode cX7_init 0 = .ok (.aload_n 0, 1) := by decide +kernel
theorem dX7_init_1 : decode cX7_init 1 = .ok (.invokespecial 3, 3) := by decide +kernel
theorem dX7_init_4 : decode cX7_init 4 = .ok (.aload_n 0, 1) := by decide +kernel
theorem dX7_init_5 : decode cX7_init 5 = .ok (.sipush 160, 3) := by decide +kernel
theorem dX7_init_8 : decode cX7_init 8 = .ok (.newarray .int, 2) := by decide +kernel
theorem dX7_init_10 : decode cX7_init 10 = .ok (.putfield 9, 3) := by decide +kernel
theorem dX7_init_13 : decode cX7_init 13 = .ok (.aload_n 0, 1) := by decide +kernel
theorem dX7_init_14 : decode cX7_init 14 = .ok (.iconst 0, 1) := by decide +kernel
theorem dX7_init_15 : decode cX7_init 15 = .ok (.putfield 15, 3) := by decide +kernel
theorem dX7_init_18 : decode cX7_init 18 = .ok (.aload_n 0, 1) := by decide +kernel
theorem dX7_init_19 : decode cX7_init 19 = .ok (.new 19, 3) := by decide +kernel
theorem dX7_init_22 : decode cX7_init 22 = .ok (.dup, 1) := by decide +kernel
theorem dX7_init_23 : decode cX7_init 23 = .ok (.invokespecial 21, 3) := by decide +kernel
theorem dX7_init_26 : decode cX7_init 26 = .ok (.putfield 22, 3) := by decide +kernel
theorem dX7_init_29 : decode cX7_init 29 = .ok (.aload_n 0, 1) := by decide +kernel
theorem dX7_init_30 : decode cX7_init 30 = .ok (.iconst 0, 1) := by decide +kernel
theorem dX7_init_31 : decode cX7_init 31 = .ok (.putfield 26, 3) := by decide +kernel
theorem dX7_init_34 : decode cX7_init 34 = .ok (.aload_n 0, 1) := by decide +kernel
theorem dX7_init_35 : decode cX7_init 35 = .ok (.iconst 0, 1) := by decide +kernel
theorem dX7_init_36 : decode cX7_init 36 = .ok (.putfield 29, 3) := by decide +kernel
theorem dX7_init_39 : decode cX7_init 39 = .ok (.return_, 1) := by decide +kernel
theorem dX7_add_0 : decode cX7_add 0 = .ok (.aload_n 0, 1) := by decide +kernel
theorem dX7_add_1 : decode cX7_add 1 = .ok (.getfield 15, 3) := by decide +kernel
theorem dX7_add_4 : decode cX7_add 4 = .ok (.sipush 160, 3) := by decide +kernel
theorem dX7_add_7 : decode cX7_add 7 = .ok (.if_icmp .ge 23, 3) := by decide +kernel
theorem dX7_add_10 : decode cX7_add 10 = .ok (.aload_n 0, 1) := by decide +kernel
theorem dX7_add_11 : decode cX7_add 11 = .ok (.getfield 9, 3) := by decide +kernel
theorem dX7_add_14 : decode cX7_add 14 = .ok (.aload_n 0, 1) := by decide +kernel
theorem dX7_add_15 : decode cX7_add 15 = .ok (.getfield 15, 3) := by decide +kernel
theorem dX7_add_18 : decode cX7_add 18 = .ok (.iload_n 1, 1) := by decide +kernel
theorem dX7_add_19 : decode cX7_add 19 = .ok (.iastore, 1) := by decide +kernel
theorem dX7_add_20 : decode cX7_add 20 = .ok (.aload_n 0, 1) := by decide +kernel
theorem dX7_add_21 : decode cX7_add 21 = .ok (.dup, 1) := by decide +kernel
theorem dX7_add_22 : decode cX7_add 22 = .ok (.getfield 15, 3) := by decide +kernel
theorem dX7_add_25 : decode cX7_add 25 = .ok (.iconst 1, 1) := by decide +kernel
theorem dX7_add_26 : decode cX7_add 26 = .ok (.iadd, 1) := by decide +kernel
theorem dX7_add_27 : decode cX7_add 27 = .ok (.putfield 15, 3) := by decide +kernel
theorem dX7_add_30 : decode cX7_add 30 = .ok (.return_, 1) := by decide +kernel
theorem dX7_parse_0 : decode cX7_parse 0 = .ok (.aload_n 0, 1) := by decide +kernel
theorem dX7_parse_1 : decode cX7_parse 1 = .ok (.iconst 0, 1) := by decide +kernel
theorem dX7_parse_2 : decode cX7_parse 2 = .ok (.putfield 29, 3) := by decide +kernel
theorem dX7_parse_5 : decode cX7_parse 5 = .ok (.iconst 0, 1) := by decide +kernel
theorem dX7_parse_6 : decode cX7_parse 6 = .ok (.istore_n 1, 1) := by decide +kernel
theorem dX7_parse_7 : decode cX7_parse 7 = .ok (.iload_n 1, 1) := by decide +kernel
theorem dX7_parse_8 : decode cX7_parse 8 = .ok (.bipush 6, 2) := by decide +kernel
theorem dX7_parse_10 : decode cX7_parse 10 = .ok (.if_icmp .ge 59, 3) := by decide +kernel
theorem dX7_parse_13 : decode cX7_parse 13 = .ok (.aload_n 0, 1) := by decide +kernel
theorem dX7_parse_14 : decode cX7_parse 14 = .ok (.invokevirtual 32, 3) := by decide +kernel
theorem dX7_parse_17 : decode cX7_parse 17 = .ok (.aload_n 0, 1) := by decide +kernel
theorem dX7_parse_18 : decode cX7_parse 18 = .ok (.iload_n 1, 1) := by decide +kernel
theorem dX7_parse_19 : decode cX7_parse 19 = .ok (.invokevirtual 35, 3) := by decide +kernel
theorem dX7_parse_22 : decode cX7_parse 22 = .ok (.ifCond .ne 8, 3) := by decide +kernel
theorem dX7_parse_25 : decode cX7_parse 25 = .ok (.aload_n 0, 1) := by decide +kernel
theorem dX7_parse_26 : decode cX7_parse 26 = .ok (.getfield 26, 3) := by decide +kernel
theorem dX7_parse_29 : decode cX7_parse 29 = .ok (.ireturn, 1) := by decide +kernel
theorem dX7_parse_30 : decode cX7_parse 30 = .ok (.aload_n 0, 1) := by decide +kernel
theorem dX7_parse_31 : decode cX7_parse 31 = .ok (.invokevirtual 39, 3) := by decide +kernel
theorem dX7_parse_34 : decode cX7_parse 34 = .ok (.ifCond .eq 15, 3) := by decide +kernel
theorem dX7_parse_37 : decode cX7_parse 37 = .ok (.aload_n 0, 1) := by decide +kernel
theorem dX7_parse_38 : decode cX7_parse 38 = .ok (.getfield 22, 3) := by decide +kernel
theorem dX7_parse_41 : decode cX7_parse 41 = .ok (.iload_n 1, 1) := by decide +kernel
theorem dX7_parse_42 : decode cX7_parse 42 = .ok (.iconst 1, 1) := by decide +kernel
theorem dX7_parse_43 : decode cX7_parse 43 = .ok (.iadd, 1) := by decide +kernel
theorem dX7_parse_44 : decode cX7_parse 44 = .ok (.putfield 43, 3) := by decide +kernel
theorem dX7_parse_47 : decode cX7_parse 47 = .ok (.iconst (-1), 1) := by decide +kernel
theorem dX7_parse_48 : decode cX7_parse 48 = .ok (.ireturn, 1) := by decide +kernel
theorem dX7_parse_49 : decode cX7_parse 49 = .ok (.aload_n 0, 1) := by decide +kernel
theorem dX7_parse_50 : decode cX7_parse 50 = .ok (.bipush 59, 2) := by decide +kernel
theorem dX7_parse_52 : decode cX7_parse 52 = .ok (.invokevirtual 46, 3) := by decide +kernel
theorem dX7_parse_55 : decode cX7_parse 55 = .ok (.ifCond .ne 8, 3) := by decide +kernel
theorem dX7_parse_58 : decode cX7_parse 58 = .ok (.aload_n 0, 1) := by decide +kernel
theorem dX7_parse_59 : decode cX7_parse 59 = .ok (.getfield 26, 3) := by decide +kernel
theorem dX7_parse_62 : decode cX7_parse 62 = .ok (.ireturn, 1) := by decide +kernel
theorem dX7_parse_63 : decode cX7_parse 63 = .ok (.iinc 1 1, 3) := by decide +kernel
theorem dX7_parse_66 : decode cX7_parse 66 = .ok (.goto (-59), 3) := by decide +kernel
theorem dX7_parse_69 : decode cX7_parse 69 = .ok (.aload_n 0, 1) := by decide +kernel
theorem dX7_parse_70 : decode cX7_parse 70 = .ok (.getfield 26, 3) := by decide +kernel
theorem dX7_parse_73 : decode cX7_parse 73 = .ok (.ireturn, 1) := by decide +kernel
theorem dX7_parseLine_0 : decode cX7_parseLine 0 = .ok (.aload_n 0, 1) := by decide +kernel
theorem dX7_parseLine_1 : decode cX7_parseLine 1 = .ok (.getfield 22, 3) := by decide +kernel
theorem dX7_parseLine_4 : decode cX7_parseLine 4 = .ok (.getfield 49, 3) := by decide +kernel
theorem dX7_parseLine_7 : decode cX7_parseLine 7 = .ok (.iload_n 1, 1) := by decide +kernel
theorem dX7_parseLine_8 : decode cX7_parseLine 8 = .ok (.iconst 0, 1) := by decide +kernel
theorem dX7_parseLine_9 : decode cX7_parseLine 9 = .ok (.iastore, 1) := by decide +kernel
theorem dX7_parseLine_10 : decode cX7_parseLine 10 = .ok (.aload_n 0, 1) := by decide +kernel
theorem dX7_parseLine_11 : decode cX7_parseLine 11 = .ok (.iload_n 1, 1) := by decide +kernel
theorem dX7_parseLine_12 : decode cX7_parseLine 12 = .ok (.invokevirtual 52, 3) := by decide +kernel
theorem dX7_parseLine_15 : decode cX7_parseLine 15 = .ok (.ifCond .ne 5, 3) := by decide +kernel
theorem dX7_parseLine_18 : decode cX7_parseLine 18 = .ok (.iconst 0, 1) := by decide +kernel
theorem dX7_parseLine_19 : decode cX7_parseLine 19 = .ok (.ireturn, 1) := by decide +kernel
theorem dX7_parseLine_20 : decode cX7_parseLine 20 = .ok (.aload_n 0, 1) := by decide +kernel
theorem dX7_parseLine_21 : decode cX7_parseLine 21 = .ok (.ldc 55, 2) := by decide +kernel
theorem dX7_parseLine_23 : decode cX7_parseLine 23 = .ok (.invokevirtual 57, 3) := by decide +kernel
theorem dX7_parseLine_26 : decode cX7_parseLine 26 = .ok (.ifCond .ne 5, 3) := by decide +kernel
theorem dX7_parseLine_29 : decode cX7_parseLine 29 = .ok (.iconst 1, 1) := by decide +kernel
theorem dX7_parseLine_30 : decode cX7_parseLine 30 = .ok (.ireturn, 1) := by decide +kernel
theorem dX7_parseLine_31 : decode cX7_parseLine 31 = .ok (.iconst 0, 1) := by decide +kernel
theorem dX7_parseLine_32 : decode cX7_parseLine 32 = .ok (.istore_n 2, 1) := by decide +kernel
theorem dX7_parseLine_33 : decode cX7_parseLine 33 = .ok (.iload_n 2, 1) := by decide +kernel
theorem dX7_parseLine_34 : decode cX7_parseLine 34 = .ok (.iconst 4, 1) := by decide +kernel
theorem dX7_parseLine_35 : decode cX7_parseLine 35 = .ok (.if_icmp .ge 47, 3) := by decide +kernel
theorem dX7_parseLine_38 : decode cX7_parseLine 38 = .ok (.aload_n 0, 1) := by decide +kernel
theorem dX7_parseLine_39 : decode cX7_parseLine 39 = .ok (.invokevirtual 32, 3) := by decide +kernel
theorem dX7_parseLine_42 : decode cX7_parseLine 42 = .ok (.aload_n 0, 1) := by decide +kernel
theorem dX7_parseLine_43 : decode cX7_parseLine 43 = .ok (.iload_n 1, 1) := by decide +kernel
theorem dX7_parseLine_44 : decode cX7_parseLine 44 = .ok (.iload_n 2, 1) := by decide +kernel
theorem dX7_parseLine_45 : decode cX7_parseLine 45 = .ok (.invokevirtual 61, 3) := by decide +kernel
theorem dX7_parseLine_48 : decode cX7_parseLine 48 = .ok (.ifCond .ne 5, 3) := by decide +kernel
theorem dX7_parseLine_51 : decode cX7_parseLine 51 = .ok (.iconst 0, 1) := by decide +kernel
theorem dX7_parseLine_52 : decode cX7_parseLine 52 = .ok (.ireturn, 1) := by decide +kernel
theorem dX7_parseLine_53 : decode cX7_parseLine 53 = .ok (.aload_n 0, 1) := by decide +kernel
theorem dX7_parseLine_54 : decode cX7_parseLine 54 = .ok (.getfield 22, 3) := by decide +kernel
theorem dX7_parseLine_57 : decode cX7_parseLine 57 = .ok (.getfield 49, 3) := by decide +kernel
theorem dX7_parseLine_60 : decode cX7_parseLine 60 = .ok (.iload_n 1, 1) := by decide +kernel
theorem dX7_parseLine_61 : decode cX7_parseLine 61 = .ok (.iload_n 2, 1) := by decide +kernel
theorem dX7_parseLine_62 : decode cX7_parseLine 62 = .ok (.iconst 1, 1) := by decide +kernel
theorem dX7_parseLine_63 : decode cX7_parseLine 63 = .ok (.iadd, 1) := by decide +kernel
theorem dX7_parseLine_64 : decode cX7_parseLine 64 = .ok (.iastore, 1) := by decide +kernel
theorem dX7_parseLine_65 : decode cX7_parseLine 65 = .ok (.aload_n 0, 1) := by decide +kernel
theorem dX7_parseLine_66 : decode cX7_parseLine 66 = .ok (.ldc 65, 2) := by decide +kernel
theorem dX7_parseLine_68 : decode cX7_parseLine 68 = .ok (.invokevirtual 57, 3) := by decide +kernel
theorem dX7_parseLine_71 : decode cX7_parseLine 71 = .ok (.ifCond .ne 5, 3) := by decide +kernel
theorem dX7_parseLine_74 : decode cX7_parseLine 74 = .ok (.iconst 1, 1) := by decide +kernel
theorem dX7_parseLine_75 : decode cX7_parseLine 75 = .ok (.ireturn, 1) := by decide +kernel
theorem dX7_parseLine_76 : decode cX7_parseLine 76 = .ok (.iinc 2 1, 3) := by decide +kernel
theorem dX7_parseLine_79 : decode cX7_parseLine 79 = .ok (.goto (-46), 3) := by decide +kernel
theorem dX7_parseLine_82 : decode cX7_parseLine 82 = .ok (.iconst 0, 1) := by decide +kernel
theorem dX7_parseLine_83 : decode cX7_parseLine 83 = .ok (.ireturn, 1) := by decide +kernel
theorem dX7_parseWish_0 : decode cX7_parseWish 0 = .ok (.aload_n 0, 1) := by decide +kernel
theorem dX7_parseWish_1 : decode cX7_parseWish 1 = .ok (.ldc 67, 2) := by decide +kernel
theorem dX7_parseWish_3 : decode cX7_parseWish 3 = .ok (.invokevirtual 57, 3) := by decide +kernel
theorem dX7_parseWish_6 : decode cX7_parseWish 6 = .ok (.ifCond .eq 19, 3) := by decide +kernel
theorem dX7_parseWish_9 : decode cX7_parseWish 9 = .ok (.aload_n 0, 1) := by decide +kernel
theorem dX7_parseWish_10 : decode cX7_parseWish 10 = .ok (.getfield 22, 3) := by decide +kernel
theorem dX7_parseWish_13 : decode cX7_parseWish 13 = .ok (.getfield 69, 3) := by decide +kernel
theorem dX7_parseWish_16 : decode cX7_parseWish 16 = .ok (.iload_n 1, 1) := by decide +kernel
theorem dX7_parseWish_17 : decode cX7_parseWish 17 = .ok (.iconst 0, 1) := by decide +kernel
theorem dX7_parseWish_18 : decode cX7_parseWish 18 = .ok (.iastore, 1) := by decide +kernel
theorem dX7_parseWish_19 : decode cX7_parseWish 19 = .ok (.aload_n 0, 1) := by decide +kernel
theorem dX7_parseWish_20 : decode cX7_parseWish 20 = .ok (.invokevirtual 32, 3) := by decide +kernel
theorem dX7_parseWish_23 : decode cX7_parseWish 23 = .ok (.iconst 1, 1) := by decide +kernel
theorem dX7_parseWish_24 : decode cX7_parseWish 24 = .ok (.ireturn, 1) := by decide +kernel
theorem dX7_parseWish_25 : decode cX7_parseWish 25 = .ok (.aload_n 0, 1) := by decide +kernel
theorem dX7_parseWish_26 : decode cX7_parseWish 26 = .ok (.ldc 72, 2) := by decide +kernel
theorem dX7_parseWish_28 : decode cX7_parseWish 28 = .ok (.invokevirtual 57, 3) := by decide +kernel
theorem dX7_parseWish_31 : decode cX7_parseWish 31 = .ok (.istore_n 2, 1) := by decide +kernel
theorem dX7_parseWish_32 : decode cX7_parseWish 32 = .ok (.iload_n 2, 1) := by decide +kernel
theorem dX7_parseWish_33 : decode cX7_parseWish 33 = .ok (.ifCond .ne 14, 3) := by decide +kernel
theorem dX7_parseWish_36 : decode cX7_parseWish 36 = .ok (.aload_n 0, 1) := by decide +kernel
theorem dX7_parseWish_37 : decode cX7_parseWish 37 = .ok (.ldc 74, 2) := by decide +kernel
theorem dX7_parseWish_39 : decode cX7_parseWish 39 = .ok (.invokevirtual 57, 3) := by decide +kernel
theorem dX7_parseWish_42 : decode cX7_parseWish 42 = .ok (.ifCond .ne 5, 3) := by decide +kernel
theorem dX7_parseWish_45 : decode cX7_parseWish 45 = .ok (.iconst 0, 1) := by decide +kernel
theorem dX7_parseWish_46 : decode cX7_parseWish 46 = .ok (.ireturn, 1) := by decide +kernel
theorem dX7_parseWish_47 : decode cX7_parseWish 47 = .ok (.aload_n 0, 1) := by decide +kernel
theorem dX7_parseWish_48 : decode cX7_parseWish 48 = .ok (.invokevirtual 32, 3) := by decide +kernel
theorem dX7_parseWish_51 : decode cX7_parseWish 51 = .ok (.aload_n 0, 1) := by decide +kernel
theorem dX7_parseWish_52 : decode cX7_parseWish 52 = .ok (.invokevirtual 76, 3) := by decide +kernel
theorem dX7_parseWish_55 : decode cX7_parseWish 55 = .ok (.ifCond .ne 5, 3) := by decide +kernel
theorem dX7_parseWish_58 : decode cX7_parseWish 58 = .ok (.iconst 0, 1) := by decide +kernel
theorem dX7_parseWish_59 : decode cX7_parseWish 59 = .ok (.ireturn, 1) := by decide +kernel
theorem dX7_parseWish_60 : decode cX7_parseWish 60 = .ok (.aload_n 0, 1) := by decide +kernel
theorem dX7_parseWish_61 : decode cX7_parseWish 61 = .ok (.getfield 22, 3) := by decide +kernel
theorem dX7_parseWish_64 : decode cX7_parseWish 64 = .ok (.getfield 69, 3) := by decide +kernel
theorem dX7_parseWish_67 : decode cX7_parseWish 67 = .ok (.iload_n 1, 1) := by decide +kernel
theorem dX7_parseWish_68 : decode cX7_parseWish 68 = .ok (.iload_n 2, 1) := by decide +kernel
theorem dX7_parseWish_69 : decode cX7_parseWish 69 = .ok (.ifCond .eq 11, 3) := by decide +kernel
theorem dX7_parseWish_72 : decode cX7_parseWish 72 = .ok (.aload_n 0, 1) := by decide +kernel
theorem dX7_parseWish_73 : decode cX7_parseWish 73 = .ok (.invokevirtual 79, 3) := by decide +kernel
theorem dX7_parseWish_76 : decode cX7_parseWish 76 = .ok (.ineg, 1) := by decide +kernel
theorem dX7_parseWish_77 : decode cX7_parseWish 77 = .ok (.goto 7, 3) := by decide +kernel
theorem dX7_parseWish_80 : decode cX7_parseWish 80 = .ok (.aload_n 0, 1) := by decide +kernel
theorem dX7_parseWish_81 : decode cX7_parseWish 81 = .ok (.invokevirtual 79, 3) := by decide +kernel
theorem dX7_parseWish_84 : decode cX7_parseWish 84 = .ok (.iastore, 1) := by decide +kernel
theorem dX7_parseWish_85 : decode cX7_parseWish 85 = .ok (.aload_n 0, 1) := by decide +kernel
theorem dX7_parseWish_86 : decode cX7_parseWish 86 = .ok (.invokevirtual 32, 3) := by decide +kernel
theorem dX7_parseWish_89 : decode cX7_parseWish 89 = .ok (.iconst 1, 1) := by decide +kernel
theorem dX7_parseWish_90 : decode cX7_parseWish 90 = .ok (.ireturn, 1) := by decide +kernel
theorem dX7_parseTest_0 : decode cX7_parseTest 0 = .ok (.aload_n 0, 1) := by decide +kernel
theorem dX7_parseTest_1 : decode cX7_parseTest 1 = .ok (.invokevirtual 83, 3) := by decide +kernel
theorem dX7_parseTest_4 : decode cX7_parseTest 4 = .ok (.istore_n 3, 1) := by decide +kernel
theorem dX7_parseTest_5 : decode cX7_parseTest 5 = .ok (.iload_n 3, 1) := by decide +kernel
theorem dX7_parseTest_6 : decode cX7_parseTest 6 = .ok (.iconst (-1), 1) := by decide +kernel
theorem dX7_parseTest_7 : decode cX7_parseTest 7 = .ok (.if_icmp .ne 5, 3) := by decide +kernel
theorem dX7_parseTest_10 : decode cX7_parseTest 10 = .ok (.iconst 0, 1) := by decide +kernel
theorem dX7_parseTest_11 : decode cX7_parseTest 11 = .ok (.ireturn, 1) := by decide +kernel
theorem dX7_parseTest_12 : decode cX7_parseTest 12 = .ok (.aload_n 0, 1) := by decide +kernel
theorem dX7_parseTest_13 : decode cX7_parseTest 13 = .ok (.getfield 22, 3) := by decide +kernel
theorem dX7_parseTest_16 : decode cX7_parseTest 16 = .ok (.getfield 86, 3) := by decide +kernel
theorem dX7_parseTest_19 : decode cX7_parseTest 19 = .ok (.iload_n 1, 1) := by decide +kernel
theorem dX7_parseTest_20 : decode cX7_parseTest 20 = .ok (.aaload, 1) := by decide +kernel
theorem dX7_parseTest_21 : decode cX7_parseTest 21 = .ok (.iload_n 2, 1) := by decide +kernel
theorem dX7_parseTest_22 : decode cX7_parseTest 22 = .ok (.iload_n 3, 1) := by decide +kernel
theorem dX7_parseTest_23 : decode cX7_parseTest 23 = .ok (.iastore, 1) := by decide +kernel
theorem dX7_parseTest_24 : decode cX7_parseTest 24 = .ok (.aload_n 0, 1) := by decide +kernel
theorem dX7_parseTest_25 : decode cX7_parseTest 25 = .ok (.invokevirtual 32, 3) := by decide +kernel
theorem dX7_parseTest_28 : decode cX7_parseTest 28 = .ok (.aload_n 0, 1) := by decide +kernel
theorem dX7_parseTest_29 : decode cX7_parseTest 29 = .ok (.ldc 90, 2) := by decide +kernel
theorem dX7_parseTest_31 : decode cX7_parseTest 31 = .ok (.invokevirtual 57, 3) := by decide +kernel
theorem dX7_parseTest_34 : decode cX7_parseTest 34 = .ok (.istore 4, 2) := by decide +kernel
theorem dX7_parseTest_36 : decode cX7_parseTest 36 = .ok (.iload 4, 2) := by decide +kernel
theorem dX7_parseTest_38 : decode cX7_parseTest 38 = .ok (.ifCond .ne 14, 3) := by decide +kernel
theorem dX7_parseTest_41 : decode cX7_parseTest 41 = .ok (.aload_n 0, 1) := by decide +kernel
theorem dX7_parseTest_42 : decode cX7_parseTest 42 = .ok (.ldc 92, 2) := by decide +kernel
theorem dX7_parseTest_44 : decode cX7_parseTest 44 = .ok (.invokevirtual 57, 3) := by decide +kernel
theorem dX7_parseTest_47 : decode cX7_parseTest 47 = .ok (.ifCond .ne 5, 3) := by decide +kernel
theorem dX7_parseTest_50 : decode cX7_parseTest 50 = .ok (.iconst 0, 1) := by decide +kernel
theorem dX7_parseTest_51 : decode cX7_parseTest 51 = .ok (.ireturn, 1) := by decide +kernel
theorem dX7_parseTest_52 : decode cX7_parseTest 52 = .ok (.aload_n 0, 1) := by decide +kernel
theorem dX7_parseTest_53 : decode cX7_parseTest 53 = .ok (.getfield 22, 3) := by decide +kernel
theorem dX7_parseTest_56 : decode cX7_parseTest 56 = .ok (.getfield 94, 3) := by decide +kernel
theorem dX7_parseTest_59 : decode cX7_parseTest 59 = .ok (.iload_n 1, 1) := by decide +kernel
theorem dX7_parseTest_60 : decode cX7_parseTest 60 = .ok (.aaload, 1) := by decide +kernel
theorem dX7_parseTest_61 : decode cX7_parseTest 61 = .ok (.iload_n 2, 1) := by decide +kernel
theorem dX7_parseTest_62 : decode cX7_parseTest 62 = .ok (.iload 4, 2) := by decide +kernel
theorem dX7_parseTest_64 : decode cX7_parseTest 64 = .ok (.ifCond .eq 7, 3) := by decide +kernel
theorem dX7_parseTest_67 : decode cX7_parseTest 67 = .ok (.iconst 1, 1) := by decide +kernel
theorem dX7_parseTest_68 : decode cX7_parseTest 68 = .ok (.goto 4, 3) := by decide +kernel
theorem dX7_parseTest_71 : decode cX7_parseTest 71 = .ok (.iconst 0, 1) := by decide +kernel
theorem dX7_parseTest_72 : decode cX7_parseTest 72 = .ok (.iastore, 1) := by decide +kernel
theorem dX7_parseTest_73 : decode cX7_parseTest 73 = .ok (.aload_n 0, 1) := by decide +kernel
theorem dX7_parseTest_74 : decode cX7_parseTest 74 = .ok (.invokevirtual 32, 3) := by decide +kernel
theorem dX7_parseTest_77 : decode cX7_parseTest 77 = .ok (.aload_n 0, 1) := by decide +kernel
theorem dX7_parseTest_78 : decode cX7_parseTest 78 = .ok (.invokevirtual 76, 3) := by decide +kernel
theorem dX7_parseTest_81 : decode cX7_parseTest 81 = .ok (.ifCond .ne 5, 3) := by decide +kernel
theorem dX7_parseTest_84 : decode cX7_parseTest 84 = .ok (.iconst 0, 1) := by decide +kernel
theorem dX7_parseTest_85 : decode cX7_parseTest 85 = .ok (.ireturn, 1) := by decide +kernel
theorem dX7_parseTest_86 : decode cX7_parseTest 86 = .ok (.aload_n 0, 1) := by decide +kernel
theorem dX7_parseTest_87 : decode cX7_parseTest 87 = .ok (.getfield 22, 3) := by decide +kernel
theorem dX7_parseTest_90 : decode cX7_parseTest 90 = .ok (.getfield 96, 3) := by decide +kernel
theorem dX7_parseTest_93 : decode cX7_parseTest 93 = .ok (.iload_n 1, 1) := by decide +kernel
theorem dX7_parseTest_94 : decode cX7_parseTest 94 = .ok (.aaload, 1) := by decide +kernel
theorem dX7_parseTest_95 : decode cX7_parseTest 95 = .ok (.iload_n 2, 1) := by decide +kernel
theorem dX7_parseTest_96 : decode cX7_parseTest 96 = .ok (.aload_n 0, 1) := by decide +kernel
theorem dX7_parseTest_97 : decode cX7_parseTest 97 = .ok (.invokevirtual 79, 3) := by decide +kernel
theorem dX7_parseTest_100 : decode cX7_parseTest 100 = .ok (.iastore, 1) := by decide +kernel
theorem dX7_parseTest_101 : decode cX7_parseTest 101 = .ok (.aload_n 0, 1) := by decide +kernel
theorem dX7_parseTest_102 : decode cX7_parseTest 102 = .ok (.invokevirtual 32, 3) := by decide +kernel
theorem dX7_parseTest_105 : decode cX7_parseTest 105 = .ok (.iconst 1, 1) := by decide +kernel
theorem dX7_parseTest_106 : decode cX7_parseTest 106 = .ok (.ireturn, 1) := by decide +kernel
theorem dX7_readingNamed_0 : decode cX7_readingNamed 0 = .ok (.aload_n 0, 1) := by decide +kernel
theorem dX7_readingNamed_1 : decode cX7_readingNamed 1 = .ok (.ldc 99, 2) := by decide +kernel
theorem dX7_readingNamed_3 : decode cX7_readingNamed 3 = .ok (.invokevirtual 57, 3) := by decide +kernel
theorem dX7_readingNamed_6 : decode cX7_readingNamed 6 = .ok (.ifCond .eq 5, 3) := by decide +kernel
theorem dX7_readingNamed_9 : decode cX7_readingNamed 9 = .ok (.iconst 0, 1) := by decide +kernel
theorem dX7_readingNamed_10 : decode cX7_readingNamed 10 = .ok (.ireturn, 1) := by decide +kernel
theorem dX7_readingNamed_11 : decode cX7_readingNamed 11 = .ok (.aload_n 0, 1) := by decide +kernel
theorem dX7_readingNamed_12 : decode cX7_readingNamed 12 = .ok (.ldc 101, 2) := by decide +kernel
theorem dX7_readingNamed_14 : decode cX7_readingNamed 14 = .ok (.invokevirtual 57, 3) := by decide +kernel
theorem dX7_readingNamed_17 : decode cX7_readingNamed 17 = .ok (.ifCond .eq 5, 3) := by decide +kernel
theorem dX7_readingNamed_20 : decode cX7_readingNamed 20 = .ok (.iconst 1, 1) := by decide +kernel
theorem dX7_readingNamed_21 : decode cX7_readingNamed 21 = .ok (.ireturn, 1) := by decide +kernel
theorem dX7_readingNamed_22 : decode cX7_readingNamed 22 = .ok (.aload_n 0, 1) := by decide +kernel
theorem dX7_readingNamed_23 : decode cX7_readingNamed 23 = .ok (.ldc 103, 2) := by decide +kernel
theorem dX7_readingNamed_25 : decode cX7_readingNamed 25 = .ok (.invokevirtual 57, 3) := by decide +kernel
theorem dX7_readingNamed_28 : decode cX7_readingNamed 28 = .ok (.ifCond .eq 5, 3) := by decide +kernel
theorem dX7_readingNamed_31 : decode cX7_readingNamed 31 = .ok (.iconst 2, 1) := by decide +kernel
theorem dX7_readingNamed_32 : decode cX7_readingNamed 32 = .ok (.ireturn, 1) := by decide +kernel
theorem dX7_readingNamed_33 : decode cX7_readingNamed 33 = .ok (.aload_n 0, 1) := by decide +kernel
theorem dX7_readingNamed_34 : decode cX7_readingNamed 34 = .ok (.ldc 105, 2) := by decide +kernel
theorem dX7_readingNamed_36 : decode cX7_readingNamed 36 = .ok (.invokevirtual 57, 3) := by decide +kernel
theorem dX7_readingNamed_39 : decode cX7_readingNamed 39 = .ok (.ifCond .eq 5, 3) := by decide +kernel
theorem dX7_readingNamed_42 : decode cX7_readingNamed 42 = .ok (.iconst 3, 1) := by decide +kernel
theorem dX7_readingNamed_43 : decode cX7_readingNamed 43 = .ok (.ireturn, 1) := by decide +kernel
theorem dX7_readingNamed_44 : decode cX7_readingNamed 44 = .ok (.aload_n 0, 1) := by decide +kernel
theorem dX7_readingNamed_45 : decode cX7_readingNamed 45 = .ok (.ldc 107, 2) := by decide +kernel
theorem dX7_readingNamed_47 : decode cX7_readingNamed 47 = .ok (.invokevirtual 57, 3) := by decide +kernel
theorem dX7_readingNamed_50 : decode cX7_readingNamed 50 = .ok (.ifCond .eq 5, 3) := by decide +kernel
theorem dX7_readingNamed_53 : decode cX7_readingNamed 53 = .ok (.iconst 4, 1) := by decide +kernel
theorem dX7_readingNamed_54 : decode cX7_readingNamed 54 = .ok (.ireturn, 1) := by decide +kernel
theorem dX7_readingNamed_55 : decode cX7_readingNamed 55 = .ok (.aload_n 0, 1) := by decide +kernel
theorem dX7_readingNamed_56 : decode cX7_readingNamed 56 = .ok (.ldc 109, 2) := by decide +kernel
theorem dX7_readingNamed_58 : decode cX7_readingNamed 58 = .ok (.invokevirtual 57, 3) := by decide +kernel
theorem dX7_readingNamed_61 : decode cX7_readingNamed 61 = .ok (.ifCond .eq 7, 3) := by decide +kernel
theorem dX7_readingNamed_64 : decode cX7_readingNamed 64 = .ok (.iconst 5, 1) := by decide +kernel
theorem dX7_readingNamed_65 : decode cX7_readingNamed 65 = .ok (.goto 4, 3) := by decide +kernel
theorem dX7_readingNamed_68 : decode cX7_readingNamed 68 = .ok (.iconst (-1), 1) := by decide +kernel
theorem dX7_readingNamed_69 : decode cX7_readingNamed 69 = .ok (.ireturn, 1) := by decide +kernel
theorem dX7_advance_0 : decode cX7_advance 0 = .ok (.aload_n 0, 1) := by decide +kernel
theorem dX7_advance_1 : decode cX7_advance 1 = .ok (.aload_n 0, 1) := by decide +kernel
theorem dX7_advance_2 : decode cX7_advance 2 = .ok (.getfield 29, 3) := by decide +kernel
theorem dX7_advance_5 : decode cX7_advance 5 = .ok (.putfield 26, 3) := by decide +kernel
theorem dX7_advance_8 : decode cX7_advance 8 = .ok (.aload_n 0, 1) := by decide +kernel
theorem dX7_advance_9 : decode cX7_advance 9 = .ok (.getfield 26, 3) := by decide +kernel
theorem dX7_advance_12 : decode cX7_advance 12 = .ok (.aload_n 0, 1) := by decide +kernel
theorem dX7_advance_13 : decode cX7_advance 13 = .ok (.getfield 15, 3) := by decide +kernel
theorem dX7_advance_16 : decode cX7_advance 16 = .ok (.if_icmp .ge 30, 3) := by decide +kernel
theorem dX7_advance_19 : decode cX7_advance 19 = .ok (.aload_n 0, 1) := by decide +kernel
theorem dX7_advance_20 : decode cX7_advance 20 = .ok (.getfield 9, 3) := by decide +kernel
theorem dX7_advance_23 : decode cX7_advance 23 = .ok (.aload_n 0, 1) := by decide +kernel
theorem dX7_advance_24 : decode cX7_advance 24 = .ok (.getfield 26, 3) := by decide +kernel
theorem dX7_advance_27 : decode cX7_advance 27 = .ok (.iaload, 1) := by decide +kernel
theorem dX7_advance_28 : decode cX7_advance 28 = .ok (.bipush 32, 2) := by decide +kernel
theorem dX7_advance_30 : decode cX7_advance 30 = .ok (.if_icmp .ne 16, 3) := by decide +kernel
theorem dX7_advance_33 : decode cX7_advance 33 = .ok (.aload_n 0, 1) := by decide +kernel
theorem dX7_advance_34 : decode cX7_advance 34 = .ok (.dup, 1) := by decide +kernel
theorem dX7_advance_35 : decode cX7_advance 35 = .ok (.getfield 26, 3) := by decide +kernel
theorem dX7_advance_38 : decode cX7_advance 38 = .ok (.iconst 1, 1) := by decide +kernel
theorem dX7_advance_39 : decode cX7_advance 39 = .ok (.iadd, 1) := by decide +kernel
theorem dX7_advance_40 : decode cX7_advance 40 = .ok (.putfield 26, 3) := by decide +kernel
theorem dX7_advance_43 : decode cX7_advance 43 = .ok (.goto (-35), 3) := by decide +kernel
theorem dX7_advance_46 : decode cX7_advance 46 = .ok (.aload_n 0, 1) := by decide +kernel
theorem dX7_advance_47 : decode cX7_advance 47 = .ok (.aload_n 0, 1) := by decide +kernel
theorem dX7_advance_48 : decode cX7_advance 48 = .ok (.getfield 26, 3) := by decide +kernel
theorem dX7_advance_51 : decode cX7_advance 51 = .ok (.putfield 29, 3) := by decide +kernel
theorem dX7_advance_54 : decode cX7_advance 54 = .ok (.aload_n 0, 1) := by decide +kernel
theorem dX7_advance_55 : decode cX7_advance 55 = .ok (.invokevirtual 39, 3) := by decide +kernel
theorem dX7_advance_58 : decode cX7_advance 58 = .ok (.ifCond .eq 4, 3) := by decide +kernel
theorem dX7_advance_61 : decode cX7_advance 61 = .ok (.return_, 1) := by decide +kernel
theorem dX7_advance_62 : decode cX7_advance 62 = .ok (.aload_n 0, 1) := by decide +kernel
theorem dX7_advance_63 : decode cX7_advance 63 = .ok (.getfield 9, 3) := by decide +kernel
theorem dX7_advance_66 : decode cX7_advance 66 = .ok (.aload_n 0, 1) := by decide +kernel
theorem dX7_advance_67 : decode cX7_advance 67 = .ok (.getfield 26, 3) := by decide +kernel
theorem dX7_advance_70 : decode cX7_advance 70 = .ok (.iaload, 1) := by decide +kernel
theorem dX7_advance_71 : decode cX7_advance 71 = .ok (.invokestatic 111, 3) := by decide +kernel
theorem dX7_advance_74 : decode cX7_advance 74 = .ok (.istore_n 1, 1) := by decide +kernel
theorem dX7_advance_75 : decode cX7_advance 75 = .ok (.aload_n 0, 1) := by decide +kernel
theorem dX7_advance_76 : decode cX7_advance 76 = .ok (.dup, 1) := by decide +kernel
theorem dX7_advance_77 : decode cX7_advance 77 = .ok (.getfield 29, 3) := by decide +kernel
theorem dX7_advance_80 : decode cX7_advance 80 = .ok (.iconst 1, 1) := by decide +kernel
theorem dX7_advance_81 : decode cX7_advance 81 = .ok (.iadd, 1) := by decide +kernel
theorem dX7_advance_82 : decode cX7_advance 82 = .ok (.putfield 29, 3) := by decide +kernel
theorem dX7_advance_85 : decode cX7_advance 85 = .ok (.iload_n 1, 1) := by decide +kernel
theorem dX7_advance_86 : decode cX7_advance 86 = .ok (.iconst 2, 1) := by decide +kernel
theorem dX7_advance_87 : decode cX7_advance 87 = .ok (.if_icmp .eq 43, 3) := by decide +kernel
theorem dX7_advance_90 : decode cX7_advance 90 = .ok (.aload_n 0, 1) := by decide +kernel
theorem dX7_advance_91 : decode cX7_advance 91 = .ok (.getfield 29, 3) := by decide +kernel
theorem dX7_advance_94 : decode cX7_advance 94 = .ok (.aload_n 0, 1) := by decide +kernel
theorem dX7_advance_95 : decode cX7_advance 95 = .ok (.getfield 15, 3) := by decide +kernel
theorem dX7_advance_98 : decode cX7_advance 98 = .ok (.if_icmp .ge 32, 3) := by decide +kernel
theorem dX7_advance_101 : decode cX7_advance 101 = .ok (.aload_n 0, 1) := by decide +kernel
theorem dX7_advance_102 : decode cX7_advance 102 = .ok (.getfield 9, 3) := by decide +kernel
theorem dX7_advance_105 : decode cX7_advance 105 = .ok (.aload_n 0, 1) := by decide +kernel
theorem dX7_advance_106 : decode cX7_advance 106 = .ok (.getfield 29, 3) := by decide +kernel
theorem dX7_advance_109 : decode cX7_advance 109 = .ok (.iaload, 1) := by decide +kernel
theorem dX7_advance_110 : decode cX7_advance 110 = .ok (.invokestatic 111, 3) := by decide +kernel
theorem dX7_advance_113 : decode cX7_advance 113 = .ok (.iload_n 1, 1) := by decide +kernel
theorem dX7_advance_114 : decode cX7_advance 114 = .ok (.if_icmp .ne 16, 3) := by decide +kernel
theorem dX7_advance_117 : decode cX7_advance 117 = .ok (.aload_n 0, 1) := by decide +kernel
theorem dX7_advance_118 : decode cX7_advance 118 = .ok (.dup, 1) := by decide +kernel
theorem dX7_advance_119 : decode cX7_advance 119 = .ok (.getfield 29, 3) := by decide +kernel
theorem dX7_advance_122 : decode cX7_advance 122 = .ok (.iconst 1, 1) := by decide +kernel
theorem dX7_advance_123 : decode cX7_advance 123 = .ok (.iadd, 1) := by decide +kernel
theorem dX7_advance_124 : decode cX7_advance 124 = .ok (.putfield 29, 3) := by decide +kernel
theorem dX7_advance_127 : decode cX7_advance 127 = .ok (.goto (-42), 3) := by decide +kernel
theorem dX7_advance_130 : decode cX7_advance 130 = .ok (.return_, 1) := by decide +kernel
theorem dX7_kindOf_0 : decode cX7_kindOf 0 = .ok (.iload_n 0, 1) := by decide +kernel
theorem dX7_kindOf_1 : decode cX7_kindOf 1 = .ok (.bipush 97, 2) := by decide +kernel
theorem dX7_kindOf_3 : decode cX7_kindOf 3 = .ok (.if_icmp .lt 11, 3) := by decide +kernel
theorem dX7_kindOf_6 : decode cX7_kindOf 6 = .ok (.iload_n 0, 1) := by decide +kernel
theorem dX7_kindOf_7 : decode cX7_kindOf 7 = .ok (.bipush 122, 2) := by decide +kernel
theorem dX7_kindOf_9 : decode cX7_kindOf 9 = .ok (.if_icmp .gt 5, 3) := by decide +kernel
theorem dX7_kindOf_12 : decode cX7_kindOf 12 = .ok (.iconst 0, 1) := by decide +kernel
theorem dX7_kindOf_13 : decode cX7_kindOf 13 = .ok (.ireturn, 1) := by decide +kernel
theorem dX7_kindOf_14 : decode cX7_kindOf 14 = .ok (.iload_n 0, 1) := by decide +kernel
theorem dX7_kindOf_15 : decode cX7_kindOf 15 = .ok (.invokestatic 115, 3) := by decide +kernel
theorem dX7_kindOf_18 : decode cX7_kindOf 18 = .ok (.ifCond .eq 7, 3) := by decide +kernel
theorem dX7_kindOf_21 : decode cX7_kindOf 21 = .ok (.iconst 1, 1) := by decide +kernel
theorem dX7_kindOf_22 : decode cX7_kindOf 22 = .ok (.goto 4, 3) := by decide +kernel
theorem dX7_kindOf_25 : decode cX7_kindOf 25 = .ok (.iconst 2, 1) := by decide +kernel
theorem dX7_kindOf_26 : decode cX7_kindOf 26 = .ok (.ireturn, 1) := by decide +kernel
theorem dX7_isDigit_0 : decode cX7_isDigit 0 = .ok (.iload_n 0, 1) := by decide +kernel
theorem dX7_isDigit_1 : decode cX7_isDigit 1 = .ok (.bipush 48, 2) := by decide +kernel
theorem dX7_isDigit_3 : decode cX7_isDigit 3 = .ok (.if_icmp .lt 13, 3) := by decide +kernel
theorem dX7_isDigit_6 : decode cX7_isDigit 6 = .ok (.iload_n 0, 1) := by decide +kernel
theorem dX7_isDigit_7 : decode cX7_isDigit 7 = .ok (.bipush 57, 2) := by decide +kernel
theorem dX7_isDigit_9 : decode cX7_isDigit 9 = .ok (.if_icmp .gt 7, 3) := by decide +kernel
theorem dX7_isDigit_12 : decode cX7_isDigit 12 = .ok (.iconst 1, 1) := by decide +kernel
theorem dX7_isDigit_13 : decode cX7_isDigit 13 = .ok (.goto 4, 3) := by decide +kernel
theorem dX7_isDigit_16 : decode cX7_isDigit 16 = .ok (.iconst 0, 1) := by decide +kernel
theorem dX7_isDigit_17 : decode cX7_isDigit 17 = .ok (.ireturn, 1) := by decide +kernel
theorem dX7_isAtEnd_0 : decode cX7_isAtEnd 0 = .ok (.aload_n 0, 1) := by decide +kernel
theorem dX7_isAtEnd_1 : decode cX7_isAtEnd 1 = .ok (.getfield 26, 3) := by decide +kernel
theorem dX7_isAtEnd_4 : decode cX7_isAtEnd 4 = .ok (.aload_n 0, 1) := by decide +kernel
theorem dX7_isAtEnd_5 : decode cX7_isAtEnd 5 = .ok (.getfield 15, 3) := by decide +kernel
theorem dX7_isAtEnd_8 : decode cX7_isAtEnd 8 = .ok (.if_icmp .lt 7, 3) := by decide +kernel
theorem dX7_isAtEnd_11 : decode cX7_isAtEnd 11 = .ok (.iconst 1, 1) := by decide +kernel
theorem dX7_isAtEnd_12 : decode cX7_isAtEnd 12 = .ok (.goto 4, 3) := by decide +kernel
theorem dX7_isAtEnd_15 : decode cX7_isAtEnd 15 = .ok (.iconst 0, 1) := by decide +kernel
theorem dX7_isAtEnd_16 : decode cX7_isAtEnd 16 = .ok (.ireturn, 1) := by decide +kernel
theorem dX7_isSign_0 : decode cX7_isSign 0 = .ok (.aload_n 0, 1) := by decide +kernel
theorem dX7_isSign_1 : decode cX7_isSign 1 = .ok (.invokevirtual 39, 3) := by decide +kernel
theorem dX7_isSign_4 : decode cX7_isSign 4 = .ok (.ifCond .ne 20, 3) := by decide +kernel
theorem dX7_isSign_7 : decode cX7_isSign 7 = .ok (.aload_n 0, 1) := by decide +kernel
theorem dX7_isSign_8 : decode cX7_isSign 8 = .ok (.getfield 9, 3) := by decide +kernel
theorem dX7_isSign_11 : decode cX7_isSign 11 = .ok (.aload_n 0, 1) := by decide +kernel
theorem dX7_isSign_12 : decode cX7_isSign 12 = .ok (.getfield 26, 3) := by decide +kernel
theorem dX7_isSign_15 : decode cX7_isSign 15 = .ok (.iaload, 1) := by decide +kernel
theorem dX7_isSign_16 : decode cX7_isSign 16 = .ok (.iload_n 1, 1) := by decide +kernel
theorem dX7_isSign_17 : decode cX7_isSign 17 = .ok (.if_icmp .ne 7, 3) := by decide +kernel
theorem dX7_isSign_20 : decode cX7_isSign 20 = .ok (.iconst 1, 1) := by decide +kernel
theorem dX7_isSign_21 : decode cX7_isSign 21 = .ok (.goto 4, 3) := by decide +kernel
theorem dX7_isSign_24 : decode cX7_isSign 24 = .ok (.iconst 0, 1) := by decide +kernel
theorem dX7_isSign_25 : decode cX7_isSign 25 = .ok (.ireturn, 1) := by decide +kernel
theorem dX7_isWord_0 : decode cX7_isWord 0 = .ok (.aload_n 0, 1) := by decide +kernel
theorem dX7_isWord_1 : decode cX7_isWord 1 = .ok (.getfield 29, 3) := by decide +kernel
theorem dX7_isWord_4 : decode cX7_isWord 4 = .ok (.aload_n 0, 1) := by decide +kernel
theorem dX7_isWord_5 : decode cX7_isWord 5 = .ok (.getfield 26, 3) := by decide +kernel
theorem dX7_isWord_8 : decode cX7_isWord 8 = .ok (.isub, 1) := by decide +kernel
theorem dX7_isWord_9 : decode cX7_isWord 9 = .ok (.aload_n 1, 1) := by decide +kernel
theorem dX7_isWord_10 : decode cX7_isWord 10 = .ok (.invokevirtual 118, 3) := by decide +kernel
theorem dX7_isWord_13 : decode cX7_isWord 13 = .ok (.if_icmp .eq 5, 3) := by decide +kernel
theorem dX7_isWord_16 : decode cX7_isWord 16 = .ok (.iconst 0, 1) := by decide +kernel
theorem dX7_isWord_17 : decode cX7_isWord 17 = .ok (.ireturn, 1) := by decide +kernel
theorem dX7_isWord_18 : decode cX7_isWord 18 = .ok (.iconst 0, 1) := by decide +kernel
theorem dX7_isWord_19 : decode cX7_isWord 19 = .ok (.istore_n 2, 1) := by decide +kernel
theorem dX7_isWord_20 : decode cX7_isWord 20 = .ok (.iload_n 2, 1) := by decide +kernel
theorem dX7_isWord_21 : decode cX7_isWord 21 = .ok (.aload_n 1, 1) := by decide +kernel
theorem dX7_isWord_22 : decode cX7_isWord 22 = .ok (.invokevirtual 118, 3) := by decide +kernel
theorem dX7_isWord_25 : decode cX7_isWord 25 = .ok (.if_icmp .ge 30, 3) := by decide +kernel
theorem dX7_isWord_28 : decode cX7_isWord 28 = .ok (.aload_n 0, 1) := by decide +kernel
theorem dX7_isWord_29 : decode cX7_isWord 29 = .ok (.getfield 9, 3) := by decide +kernel
theorem dX7_isWord_32 : decode cX7_isWord 32 = .ok (.aload_n 0, 1) := by decide +kernel
theorem dX7_isWord_33 : decode cX7_isWord 33 = .ok (.getfield 26, 3) := by decide +kernel
theorem dX7_isWord_36 : decode cX7_isWord 36 = .ok (.iload_n 2, 1) := by decide +kernel
theorem dX7_isWord_37 : decode cX7_isWord 37 = .ok (.iadd, 1) := by decide +kernel
theorem dX7_isWord_38 : decode cX7_isWord 38 = .ok (.iaload, 1) := by decide +kernel
theorem dX7_isWord_39 : decode cX7_isWord 39 = .ok (.aload_n 1, 1) := by decide +kernel
theorem dX7_isWord_40 : decode cX7_isWord 40 = .ok (.iload_n 2, 1) := by decide +kernel
theorem dX7_isWord_41 : decode cX7_isWord 41 = .ok (.invokevirtual 122, 3) := by decide +kernel
theorem dX7_isWord_44 : decode cX7_isWord 44 = .ok (.if_icmp .eq 5, 3) := by decide +kernel
theorem dX7_isWord_47 : decode cX7_isWord 47 = .ok (.iconst 0, 1) := by decide +kernel
theorem dX7_isWord_48 : decode cX7_isWord 48 = .ok (.ireturn, 1) := by decide +kernel
theorem dX7_isWord_49 : decode cX7_isWord 49 = .ok (.iinc 2 1, 3) := by decide +kernel
theorem dX7_isWord_52 : decode cX7_isWord 52 = .ok (.goto (-32), 3) := by decide +kernel
theorem dX7_isWord_55 : decode cX7_isWord 55 = .ok (.iconst 1, 1) := by decide +kernel
theorem dX7_isWord_56 : decode cX7_isWord 56 = .ok (.ireturn, 1) := by decide +kernel
theorem dX7_isNumber_0 : decode cX7_isNumber 0 = .ok (.aload_n 0, 1) := by decide +kernel
theorem dX7_isNumber_1 : decode cX7_isNumber 1 = .ok (.invokevirtual 39, 3) := by decide +kernel
theorem dX7_isNumber_4 : decode cX7_isNumber 4 = .ok (.ifCond .ne 35, 3) := by decide +kernel
theorem dX7_isNumber_7 : decode cX7_isNumber 7 = .ok (.aload_n 0, 1) := by decide +kernel
theorem dX7_isNumber_8 : decode cX7_isNumber 8 = .ok (.getfield 9, 3) := by decide +kernel
theorem dX7_isNumber_11 : decode cX7_isNumber 11 = .ok (.aload_n 0, 1) := by decide +kernel
theorem dX7_isNumber_12 : decode cX7_isNumber 12 = .ok (.getfield 26, 3) := by decide +kernel
theorem dX7_isNumber_15 : decode cX7_isNumber 15 = .ok (.iaload, 1) := by decide +kernel
theorem dX7_isNumber_16 : decode cX7_isNumber 16 = .ok (.invokestatic 115, 3) := by decide +kernel
theorem dX7_isNumber_19 : decode cX7_isNumber 19 = .ok (.ifCond .eq 20, 3) := by decide +kernel
theorem dX7_isNumber_22 : decode cX7_isNumber 22 = .ok (.aload_n 0, 1) := by decide +kernel
theorem dX7_isNumber_23 : decode cX7_isNumber 23 = .ok (.getfield 29, 3) := by decide +kernel
theorem dX7_isNumber_26 : decode cX7_isNumber 26 = .ok (.aload_n 0, 1) := by decide +kernel
theorem dX7_isNumber_27 : decode cX7_isNumber 27 = .ok (.getfield 26, 3) := by decide +kernel
theorem dX7_isNumber_30 : decode cX7_isNumber 30 = .ok (.isub, 1) := by decide +kernel
theorem dX7_isNumber_31 : decode cX7_isNumber 31 = .ok (.iconst 2, 1) := by decide +kernel
theorem dX7_isNumber_32 : decode cX7_isNumber 32 = .ok (.if_icmp .gt 7, 3) := by decide +kernel
theorem dX7_isNumber_35 : decode cX7_isNumber 35 = .ok (.iconst 1, 1) := by decide +kernel
theorem dX7_isNumber_36 : decode cX7_isNumber 36 = .ok (.goto 4, 3) := by decide +kernel
theorem dX7_isNumber_39 : decode cX7_isNumber 39 = .ok (.iconst 0, 1) := by decide +kernel
theorem dX7_isNumber_40 : decode cX7_isNumber 40 = .ok (.ireturn, 1) := by decide +kernel
theorem dX7_number_0 : decode cX7_number 0 = .ok (.iconst 0, 1) := by decide +kernel
theorem dX7_number_1 : decode cX7_number 1 = .ok (.istore_n 1, 1) := by decide +kernel
theorem dX7_number_2 : decode cX7_number 2 = .ok (.aload_n 0, 1) := by decide +kernel
theorem dX7_number_3 : decode cX7_number 3 = .ok (.getfield 26, 3) := by decide +kernel
theorem dX7_number_6 : decode cX7_number 6 = .ok (.istore_n 2, 1) := by decide +kernel
theorem dX7_number_7 : decode cX7_number 7 = .ok (.iload_n 2, 1) := by decide +kernel
theorem dX7_number_8 : decode cX7_number 8 = .ok (.aload_n 0, 1) := by decide +kernel
theorem dX7_number_9 : decode cX7_number 9 = .ok (.getfield 29, 3) := by decide +kernel
theorem dX7_number_12 : decode cX7_number 12 = .ok (.if_icmp .ge 24, 3) := by decide +kernel
theorem dX7_number_15 : decode cX7_number 15 = .ok (.bipush 10, 2) := by decide +kernel
theorem dX7_number_17 : decode cX7_number 17 = .ok (.iload_n 1, 1) := by decide +kernel
theorem dX7_number_18 : decode cX7_number 18 = .ok (.imul, 1) := by decide +kernel
theorem dX7_number_19 : decode cX7_number 19 = .ok (.aload_n 0, 1) := by decide +kernel
theorem dX7_number_20 : decode cX7_number 20 = .ok (.getfield 9, 3) := by decide +kernel
theorem dX7_number_23 : decode cX7_number 23 = .ok (.iload_n 2, 1) := by decide +kernel
theorem dX7_number_24 : decode cX7_number 24 = .ok (.iaload, 1) := by decide +kernel
theorem dX7_number_25 : decode cX7_number 25 = .ok (.iadd, 1) := by decide +kernel
theorem dX7_number_26 : decode cX7_number 26 = .ok (.bipush 48, 2) := by decide +kernel
theorem dX7_number_28 : decode cX7_number 28 = .ok (.isub, 1) := by decide +kernel
theorem dX7_number_29 : decode cX7_number 29 = .ok (.istore_n 1, 1) := by decide +kernel
theorem dX7_number_30 : decode cX7_number 30 = .ok (.iinc 2 1, 3) := by decide +kernel
theorem dX7_number_33 : decode cX7_number 33 = .ok (.goto (-26), 3) := by decide +kernel
theorem dX7_number_36 : decode cX7_number 36 = .ok (.iload_n 1, 1) := by decide +kernel
theorem dX7_number_37 : decode cX7_number 37 = .ok (.ireturn, 1) := by decide +kernel
theorem dX8_init_0 : decode cX8_init 0 = .ok (.aload_n 0, 1) := by decide +kernel
theorem dX8_init_1 : decode cX8_init 1 = .ok (.invokespecial 1, 3) := by decide +kernel
theorem dX8_init_4 : decode cX8_init 4 = .ok (.aload_n 0, 1) := by decide +kernel
theorem dX8_init_5 : decode cX8_init 5 = .ok (.new 7, 3) := by decide +kernel
theorem dX8_init_8 : decode cX8_init 8 = .ok (.dup, 1) := by decide +kernel
theorem dX8_init_9 : decode cX8_init 9 = .ok (.invokespecial 9, 3) := by decide +kernel
theorem dX8_init_12 : decode cX8_init 12 = .ok (.putfield 10, 3) := by decide +kernel
theorem dX8_init_15 : decode cX8_init 15 = .ok (.aload_n 0, 1) := by decide +kernel
theorem dX8_init_16 : decode cX8_init 16 = .ok (.new 16, 3) := by decide +kernel
theorem dX8_init_19 : decode cX8_init 19 = .ok (.dup, 1) := by decide +kernel
theorem dX8_init_20 : decode cX8_init 20 = .ok (.invokespecial 18, 3) := by decide +kernel
theorem dX8_init_23 : decode cX8_init 23 = .ok (.putfield 19, 3) := by decide +kernel
theorem dX8_init_26 : decode cX8_init 26 = .ok (.aload_n 0, 1) := by decide +kernel
theorem dX8_init_27 : decode cX8_init 27 = .ok (.new 23, 3) := by decide +kernel
theorem dX8_init_30 : decode cX8_init 30 = .ok (.dup, 1) := by decide +kernel
theorem dX8_init_31 : decode cX8_init 31 = .ok (.invokespecial 25, 3) := by decide +kernel
theorem dX8_init_34 : decode cX8_init 34 = .ok (.putfield 26, 3) := by decide +kernel
theorem dX8_init_37 : decode cX8_init 37 = .ok (.aload_n 0, 1) := by decide +kernel
theorem dX8_init_38 : decode cX8_init 38 = .ok (.new 30, 3) := by decide +kernel
theorem dX8_init_41 : decode cX8_init 41 = .ok (.dup, 1) := by decide +kernel
theorem dX8_init_42 : decode cX8_init 42 = .ok (.invokespecial 32, 3) := by decide +kernel
theorem dX8_init_45 : decode cX8_init 45 = .ok (.putfield 33, 3) := by decide +kernel
theorem dX8_init_48 : decode cX8_init 48 = .ok (.aload_n 0, 1) := by decide +kernel
theorem dX8_init_49 : decode cX8_init 49 = .ok (.new 37, 3) := by decide +kernel
theorem dX8_init_52 : decode cX8_init 52 = .ok (.dup, 1) := by decide +kernel
theorem dX8_init_53 : decode cX8_init 53 = .ok (.invokespecial 39, 3) := by decide +kernel
theorem dX8_init_56 : decode cX8_init 56 = .ok (.putfield 40, 3) := by decide +kernel
theorem dX8_init_59 : decode cX8_init 59 = .ok (.aload_n 0, 1) := by decide +kernel
theorem dX8_init_60 : decode cX8_init 60 = .ok (.new 44, 3) := by decide +kernel
theorem dX8_init_63 : decode cX8_init 63 = .ok (.dup, 1) := by decide +kernel
theorem dX8_init_64 : decode cX8_init 64 = .ok (.invokespecial 46, 3) := by decide +kernel
theorem dX8_init_67 : decode cX8_init 67 = .ok (.putfield 47, 3) := by decide +kernel
theorem dX8_init_70 : decode cX8_init 70 = .ok (.return_, 1) := by decide +kernel
theorem dX8_make_0 : decode cX8_make 0 = .ok (.iload_n 1, 1) := by decide +kernel
theorem dX8_make_1 : decode cX8_make 1 = .ok (.invokestatic 51, 3) := by decide +kernel
theorem dX8_make_4 : decode cX8_make 4 = .ok (.ifCond .eq 6, 3) := by decide +kernel
theorem dX8_make_7 : decode cX8_make 7 = .ok (.bipush (-2), 2) := by decide +kernel
theorem dX8_make_9 : decode cX8_make 9 = .ok (.ireturn, 1) := by decide +kernel
theorem dX8_make_10 : decode cX8_make 10 = .ok (.iload_n 2, 1) := by decide +kernel
theorem dX8_make_11 : decode cX8_make 11 = .ok (.iconst 1, 1) := by decide +kernel
theorem dX8_make_12 : decode cX8_make 12 = .ok (.bipush 40, 2) := by decide +kernel
theorem dX8_make_14 : decode cX8_make 14 = .ok (.invokestatic 55, 3) := by decide +kernel
theorem dX8_make_17 : decode cX8_make 17 = .ok (.ifCond .ne 33, 3) := by decide +kernel
theorem dX8_make_20 : decode cX8_make 20 = .ok (.iload_n 3, 1) := by decide +kernel
theorem dX8_make_21 : decode cX8_make 21 = .ok (.iconst 1, 1) := by decide +kernel
theorem dX8_make_22 : decode cX8_make 22 = .ok (.bipush 9, 2) := by decide +kernel
theorem dX8_make_24 : decode cX8_make 24 = .ok (.invokestatic 55, 3) := by decide +kernel
theorem dX8_make_27 : decode cX8_make 27 = .ok (.ifCond .ne 23, 3) := by decide +kernel
theorem dX8_make_30 : decode cX8_make 30 = .ok (.iload 4, 2) := by decide +kernel
theorem dX8_make_32 : decode cX8_make 32 = .ok (.iconst 1, 1) := by decide +kernel
theorem dX8_make_33 : decode cX8_make 33 = .ok (.iconst 5, 1) := by decide +kernel
theorem dX8_make_34 : decode cX8_make 34 = .ok (.invokestatic 55, 3) := by decide +kernel
theorem dX8_make_37 : decode cX8_make 37 = .ok (.ifCond .ne 13, 3) := by decide +kernel
theorem dX8_make_40 : decode cX8_make 40 = .ok (.iload 5, 2) := by decide +kernel
theorem dX8_make_42 : decode cX8_make 42 = .ok (.iconst 0, 1) := by decide +kernel
theorem dX8_make_43 : decode cX8_make 43 = .ok (.iconst 3, 1) := by decide +kernel
theorem dX8_make_44 : decode cX8_make 44 = .ok (.invokestatic 55, 3) := by decide +kernel
theorem dX8_make_47 : decode cX8_make 47 = .ok (.ifCond .eq 6, 3) := by decide +kernel
theorem dX8_make_50 : decode cX8_make 50 = .ok (.bipush (-3), 2) := by decide +kernel
theorem dX8_make_52 : decode cX8_make 52 = .ok (.ireturn, 1) := by decide +kernel
theorem dX8_make_53 : decode cX8_make 53 = .ok (.aload_n 0, 1) := by decide +kernel
theorem dX8_make_54 : decode cX8_make 54 = .ok (.getfield 19, 3) := by decide +kernel
theorem dX8_make_57 : decode cX8_make 57 = .ok (.getfield 59, 3) := by decide +kernel
theorem dX8_make_60 : decode cX8_make 60 = .ok (.iload_n 1, 1) := by decide +kernel
theorem dX8_make_61 : decode cX8_make 61 = .ok (.aaload, 1) := by decide +kernel
theorem dX8_make_62 : decode cX8_make 62 = .ok (.astore 6, 2) := by decide +kernel
theorem dX8_make_64 : decode cX8_make 64 = .ok (.aload 6, 2) := by decide +kernel
theorem dX8_make_66 : decode cX8_make 66 = .ok (.iload_n 2, 1) := by decide +kernel
theorem dX8_make_67 : decode cX8_make 67 = .ok (.putfield 63, 3) := by decide +kernel
theorem dX8_make_70 : decode cX8_make 70 = .ok (.aload 6, 2) := by decide +kernel
theorem dX8_make_72 : decode cX8_make 72 = .ok (.iload_n 3, 1) := by decide +kernel
theorem dX8_make_73 : decode cX8_make 73 = .ok (.putfield 69, 3) := by decide +kernel
theorem dX8_make_76 : decode cX8_make 76 = .ok (.aload 6, 2) := by decide +kernel
theorem dX8_make_78 : decode cX8_make 78 = .ok (.iload 4, 2) := by decide +kernel
theorem dX8_make_80 : decode cX8_make 80 = .ok (.putfield 72, 3) := by decide +kernel
theorem dX8_make_83 : decode cX8_make 83 = .ok (.aload 6, 2) := by decide +kernel
theorem dX8_make_85 : decode cX8_make 85 = .ok (.iload 5, 2) := by decide +kernel
theorem dX8_make_87 : decode cX8_make 87 = .ok (.putfield 75, 3) := by decide +kernel
theorem dX8_make_90 : decode cX8_make 90 = .ok (.iconst 1, 1) := by decide +kernel
theorem dX8_make_91 : decode cX8_make 91 = .ok (.ireturn, 1) := by decide +kernel
theorem dX8_write_0 : decode cX8_write 0 = .ok (.iload_n 3, 1) := by decide +kernel
theorem dX8_write_1 : decode cX8_write 1 = .ok (.iconst 1, 1) := by decide +kernel
theorem dX8_write_2 : decode cX8_write 2 = .ok (.bipush 8, 2) := by decide +kernel
theorem dX8_write_4 : decode cX8_write 4 = .ok (.invokestatic 55, 3) := by decide +kernel
theorem dX8_write_7 : decode cX8_write 7 = .ok (.ifCond .eq 6, 3) := by decide +kernel
theorem dX8_write_10 : decode cX8_write 10 = .ok (.bipush (-3), 2) := by decide +kernel
theorem dX8_write_12 : decode cX8_write 12 = .ok (.ireturn, 1) := by decide +kernel
theorem dX8_write_13 : decode cX8_write 13 = .ok (.aload_n 0, 1) := by decide +kernel
theorem dX8_write_14 : decode cX8_write 14 = .ok (.getfield 10, 3) := by decide +kernel
theorem dX8_write_17 : decode cX8_write 17 = .ok (.getfield 78, 3) := by decide +kernel
theorem dX8_write_20 : decode cX8_write 20 = .ok (.iload_n 3, 1) := by decide +kernel
theorem dX8_write_21 : decode cX8_write 21 = .ok (.iadd, 1) := by decide +kernel
theorem dX8_write_22 : decode cX8_write 22 = .ok (.sipush 160, 3) := by decide +kernel
theorem dX8_write_25 : decode cX8_write 25 = .ok (.if_icmp .le 6, 3) := by decide +kernel
theorem dX8_write_28 : decode cX8_write 28 = .ok (.bipush (-5), 2) := by decide +kernel
theorem dX8_write_30 : decode cX8_write 30 = .ok (.ireturn, 1) := by decide +kernel
theorem dX8_write_31 : decode cX8_write 31 = .ok (.iconst 0, 1) := by decide +kernel
theorem dX8_write_32 : decode cX8_write 32 = .ok (.istore 4, 2) := by decide +kernel
theorem dX8_write_34 : decode cX8_write 34 = .ok (.iload 4, 2) := by decide +kernel
theorem dX8_write_36 : decode cX8_write 36 = .ok (.iload_n 3, 1) := by decide +kernel
theorem dX8_write_37 : decode cX8_write 37 = .ok (.if_icmp .ge 28, 3) := by decide +kernel
theorem dX8_write_40 : decode cX8_write 40 = .ok (.aload_n 0, 1) := by decide +kernel
theorem dX8_write_41 : decode cX8_write 41 = .ok (.getfield 10, 3) := by decide +kernel
theorem dX8_write_44 : decode cX8_write 44 = .ok (.lload_n 1, 1) := by decide +kernel
theorem dX8_write_45 : decode cX8_write 45 = .ok (.bipush 8, 2) := by decide +kernel
theorem dX8_write_47 : decode cX8_write 47 = .ok (.iload 4, 2) := by decide +kernel
theorem dX8_write_49 : decode cX8_write 49 = .ok (.imul, 1) := by decide +kernel
theorem dX8_write_50 : decode cX8_write 50 = .ok (.lshr, 1) := by decide +kernel
theorem dX8_write_51 : decode cX8_write 51 = .ok (.ldc2_w 81, 3) := by decide +kernel
theorem dX8_write_54 : decode cX8_write 54 = .ok (.land, 1) := by decide +kernel
theorem dX8_write_55 : decode cX8_write 55 = .ok (.l2i, 1) := by decide +kernel
theorem dX8_write_56 : decode cX8_write 56 = .ok (.invokevirtual 83, 3) := by decide +kernel
theorem dX8_write_59 : decode cX8_write 59 = .ok (.iinc 4 1, 3) := by decide +kernel
theorem dX8_write_62 : decode cX8_write 62 = .ok (.goto (-28), 3) := by decide +kernel
theorem dX8_write_65 : decode cX8_write 65 = .ok (.aload_n 0, 1) := by decide +kernel
theorem dX8_write_66 : decode cX8_write 66 = .ok (.getfield 10, 3) := by decide +kernel
theorem dX8_write_69 : decode cX8_write 69 = .ok (.getfield 78, 3) := by decide +kernel
theorem dX8_write_72 : decode cX8_write 72 = .ok (.ireturn, 1) := by decide +kernel
theorem dX8_erase_0 : decode cX8_erase 0 = .ok (.aload_n 0, 1) := by decide +kernel
theorem dX8_erase_1 : decode cX8_erase 1 = .ok (.getfield 10, 3) := by decide +kernel
theorem dX8_erase_4 : decode cX8_erase 4 = .ok (.getfield 78, 3) := by decide +kernel
theorem dX8_erase_7 : decode cX8_erase 7 = .ok (.istore_n 1, 1) := by decide +kernel
theorem dX8_erase_8 : decode cX8_erase 8 = .ok (.aload_n 0, 1) := by decide +kernel
theorem dX8_erase_9 : decode cX8_erase 9 = .ok (.getfield 10, 3) := by decide +kernel
theorem dX8_erase_12 : decode cX8_erase 12 = .ok (.iconst 0, 1) := by decide +kernel
theorem dX8_erase_13 : decode cX8_erase 13 = .ok (.putfield 78, 3) := by decide +kernel
theorem dX8_erase_16 : decode cX8_erase 16 = .ok (.iload_n 1, 1) := by decide +kernel
theorem dX8_erase_17 : decode cX8_erase 17 = .ok (.ireturn, 1) := by decide +kernel
theorem dX8_fault_0 : decode cX8_fault 0 = .ok (.aload_n 0, 1) := by decide +kernel
theorem dX8_fault_1 : decode cX8_fault 1 = .ok (.getfield 10, 3) := by decide +kernel
theorem dX8_fault_4 : decode cX8_fault 4 = .ok (.invokevirtual 87, 3) := by decide +kernel
theorem dX8_fault_7 : decode cX8_fault 7 = .ok (.ireturn, 1) := by decide +kernel
theorem dX8_table_0 : decode cX8_table 0 = .ok (.iload_n 1, 1) := by decide +kernel
theorem dX8_table_1 : decode cX8_table 1 = .ok (.invokestatic 51, 3) := by decide +kernel
theorem dX8_table_4 : decode cX8_table 4 = .ok (.ifCond .eq 6, 3) := by decide +kernel
theorem dX8_table_7 : decode cX8_table 7 = .ok (.bipush (-2), 2) := by decide +kernel
theorem dX8_table_9 : decode cX8_table 9 = .ok (.ireturn, 1) := by decide +kernel
theorem dX8_table_10 : decode cX8_table 10 = .ok (.aload_n 0, 1) := by decide +kernel
theorem dX8_table_11 : decode cX8_table 11 = .ok (.getfield 10, 3) := by decide +kernel
theorem dX8_table_14 : decode cX8_table 14 = .ok (.invokevirtual 87, 3) := by decide +kernel
theorem dX8_table_17 : decode cX8_table 17 = .ok (.iconst (-1), 1) := by decide +kernel
theorem dX8_table_18 : decode cX8_table 18 = .ok (.if_icmp .eq 6, 3) := by decide +kernel
theorem dX8_table_21 : decode cX8_table 21 = .ok (.bipush (-4), 2) := by decide +kernel
theorem dX8_table_23 : decode cX8_table 23 = .ok (.ireturn, 1) := by decide +kernel
theorem dX8_table_24 : decode cX8_table 24 = .ok (.aload_n 0, 1) := by decide +kernel
theorem dX8_table_25 : decode cX8_table 25 = .ok (.getfield 19, 3) := by decide +kernel
theorem dX8_table_28 : decode cX8_table 28 = .ok (.getfield 59, 3) := by decide +kernel
theorem dX8_table_31 : decode cX8_table 31 = .ok (.iload_n 1, 1) := by decide +kernel
theorem dX8_table_32 : decode cX8_table 32 = .ok (.aaload, 1) := by decide +kernel
theorem dX8_table_33 : decode cX8_table 33 = .ok (.astore_n 2, 1) := by decide +kernel
theorem dX8_table_34 : decode cX8_table 34 = .ok (.aload_n 0, 1) := by decide +kernel
theorem dX8_table_35 : decode cX8_table 35 = .ok (.getfield 10, 3) := by decide +kernel
theorem dX8_table_38 : decode cX8_table 38 = .ok (.getfield 91, 3) := by decide +kernel
theorem dX8_table_41 : decode cX8_table 41 = .ok (.astore_n 3, 1) := by decide +kernel
theorem dX8_table_42 : decode cX8_table 42 = .ok (.aload_n 0, 1) := by decide +kernel
theorem dX8_table_43 : decode cX8_table 43 = .ok (.getfield 10, 3) := by decide +kernel
theorem dX8_table_46 : decode cX8_table 46 = .ok (.aload_n 2, 1) := by decide +kernel
theorem dX8_table_47 : decode cX8_table 47 = .ok (.getfield 95, 3) := by decide +kernel
theorem dX8_table_50 : decode cX8_table 50 = .ok (.putfield 91, 3) := by decide +kernel
theorem dX8_table_53 : decode cX8_table 53 = .ok (.aload_n 2, 1) := by decide +kernel
theorem dX8_table_54 : decode cX8_table 54 = .ok (.aload_n 3, 1) := by decide +kernel
theorem dX8_table_55 : decode cX8_table 55 = .ok (.putfield 95, 3) := by decide +kernel
theorem dX8_table_58 : decode cX8_table 58 = .ok (.aload_n 0, 1) := by decide +kernel
theorem dX8_table_59 : decode cX8_table 59 = .ok (.getfield 10, 3) := by decide +kernel
theorem dX8_table_62 : decode cX8_table 62 = .ok (.iconst 0, 1) := by decide +kernel
theorem dX8_table_63 : decode cX8_table 63 = .ok (.putfield 78, 3) := by decide +kernel
theorem dX8_table_66 : decode cX8_table 66 = .ok (.aload_n 3, 1) := by decide +kernel
theorem dX8_table_67 : decode cX8_table 67 = .ok (.getfield 98, 3) := by decide +kernel
theorem dX8_table_70 : decode cX8_table 70 = .ok (.ireturn, 1) := by decide +kernel
theorem dX8_row_0 : decode cX8_row 0 = .ok (.iload_n 2, 1) := by decide +kernel
theorem dX8_row_1 : decode cX8_row 1 = .ok (.iconst 1, 1) := by decide +kernel
theorem dX8_row_2 : decode cX8_row 2 = .ok (.bipush 6, 2) := by decide +kernel
theorem dX8_row_4 : decode cX8_row 4 = .ok (.invokestatic 55, 3) := by decide +kernel
theorem dX8_row_7 : decode cX8_row 7 = .ok (.ifCond .eq 6, 3) := by decide +kernel
theorem dX8_row_10 : decode cX8_row 10 = .ok (.bipush (-3), 2) := by decide +kernel
theorem dX8_row_12 : decode cX8_row 12 = .ok (.ireturn, 1) := by decide +kernel
theorem dX8_row_13 : decode cX8_row 13 = .ok (.aload_n 0, 1) := by decide +kernel
theorem dX8_row_14 : decode cX8_row 14 = .ok (.getfield 19, 3) := by decide +kernel
theorem dX8_row_17 : decode cX8_row 17 = .ok (.iload_n 2, 1) := by decide +kernel
theorem dX8_row_18 : decode cX8_row 18 = .ok (.putfield 103, 3) := by decide +kernel
theorem dX8_row_21 : decode cX8_row 21 = .ok (.iconst 0, 1) := by decide +kernel
theorem dX8_row_22 : decode cX8_row 22 = .ok (.istore_n 3, 1) := by decide +kernel
theorem dX8_row_23 : decode cX8_row 23 = .ok (.iload_n 3, 1) := by decide +kernel
theorem dX8_row_24 : decode cX8_row 24 = .ok (.iload_n 2, 1) := by decide +kernel
theorem dX8_row_25 : decode cX8_row 25 = .ok (.if_icmp .ge 25, 3) := by decide +kernel
theorem dX8_row_28 : decode cX8_row 28 = .ok (.aload_n 0, 1) := by decide +kernel
theorem dX8_row_29 : decode cX8_row 29 = .ok (.getfield 19, 3) := by decide +kernel
theorem dX8_row_32 : decode cX8_row 32 = .ok (.getfield 106, 3) := by decide +kernel
theorem dX8_row_35 : decode cX8_row 35 = .ok (.iload_n 3, 1) := by decide +kernel
theorem dX8_row_36 : decode cX8_row 36 = .ok (.iload_n 1, 1) := by decide +kernel
theorem dX8_row_37 : decode cX8_row 37 = .ok (.iconst 2, 1) := by decide +kernel
theorem dX8_row_38 : decode cX8_row 38 = .ok (.iload_n 3, 1) := by decide +kernel
theorem dX8_row_39 : decode cX8_row 39 = .ok (.imul, 1) := by decide +kernel
theorem dX8_row_40 : decode cX8_row 40 = .ok (.ishr, 1) := by decide +kernel
theorem dX8_row_41 : decode cX8_row 41 = .ok (.iconst 3, 1) := by decide +kernel
theorem dX8_row_42 : decode cX8_row 42 = .ok (.iand, 1) := by decide +kernel
theorem dX8_row_43 : decode cX8_row 43 = .ok (.iastore, 1) := by decide +kernel
theorem dX8_row_44 : decode cX8_row 44 = .ok (.iinc 3 1, 3) := by decide +kernel
theorem dX8_row_47 : decode cX8_row 47 = .ok (.goto (-24), 3) := by decide +kernel
theorem dX8_row_50 : decode cX8_row 50 = .ok (.iconst 1, 1) := by decide +kernel
theorem dX8_row_51 : decode cX8_row 51 = .ok (.ireturn, 1) := by decide +kernel
theorem dX8_set_0 : decode cX8_set 0 = .ok (.iload_n 1, 1) := by decide +kernel
theorem dX8_set_1 : decode cX8_set 1 = .ok (.iconst 0, 1) := by decide +kernel
theorem dX8_set_2 : decode cX8_set 2 = .ok (.iconst 4, 1) := by decide +kernel
theorem dX8_set_3 : decode cX8_set 3 = .ok (.invokestatic 55, 3) := by decide +kernel
theorem dX8_set_6 : decode cX8_set 6 = .ok (.ifCond .ne 20, 3) := by decide +kernel
theorem dX8_set_9 : decode cX8_set 9 = .ok (.iload_n 2, 1) := by decide +kernel
theorem dX8_set_10 : decode cX8_set 10 = .ok (.getstatic 110, 3) := by decide +kernel
theorem dX8_set_13 : decode cX8_set 13 = .ok (.iload_n 1, 1) := by decide +kernel
theorem dX8_set_14 : decode cX8_set 14 = .ok (.iaload, 1) := by decide +kernel
theorem dX8_set_15 : decode cX8_set 15 = .ok (.getstatic 113, 3) := by decide +kernel
theorem dX8_set_18 : decode cX8_set 18 = .ok (.iload_n 1, 1) := by decide +kernel
theorem dX8_set_19 : decode cX8_set 19 = .ok (.iaload, 1) := by decide +kernel
theorem dX8_set_20 : decode cX8_set 20 = .ok (.invokestatic 55, 3) := by decide +kernel
theorem dX8_set_23 : decode cX8_set 23 = .ok (.ifCond .eq 6, 3) := by decide +kernel
theorem dX8_set_26 : decode cX8_set 26 = .ok (.bipush (-3), 2) := by decide +kernel
theorem dX8_set_28 : decode cX8_set 28 = .ok (.ireturn, 1) := by decide +kernel
theorem dX8_set_29 : decode cX8_set 29 = .ok (.aload_n 0, 1) := by decide +kernel
theorem dX8_set_30 : decode cX8_set 30 = .ok (.getfield 19, 3) := by decide +kernel
theorem dX8_set_33 : decode cX8_set 33 = .ok (.getfield 116, 3) := by decide +kernel
theorem dX8_set_36 : decode cX8_set 36 = .ok (.iload_n 1, 1) := by decide +kernel
theorem dX8_set_37 : decode cX8_set 37 = .ok (.iaload, 1) := by decide +kernel
theorem dX8_set_38 : decode cX8_set 38 = .ok (.istore_n 3, 1) := by decide +kernel
theorem dX8_set_39 : decode cX8_set 39 = .ok (.aload_n 0, 1) := by decide +kernel
theorem dX8_set_40 : decode cX8_set 40 = .ok (.getfield 19, 3) := by decide +kernel
theorem dX8_set_43 : decode cX8_set 43 = .ok (.getfield 116, 3) := by decide +kernel
theorem dX8_set_46 : decode cX8_set 46 = .ok (.iload_n 1, 1) := by decide +kernel
theorem dX8_set_47 : decode cX8_set 47 = .ok (.iload_n 2, 1) := by decide +kernel
theorem dX8_set_48 : decode cX8_set 48 = .ok (.iastore, 1) := by decide +kernel
theorem dX8_set_49 : decode cX8_set 49 = .ok (.iload_n 3, 1) := by decide +kernel
theorem dX8_set_50 : decode cX8_set 50 = .ok (.ireturn, 1) := by decide +kernel
theorem dX8_push_0 : decode cX8_push 0 = .ok (.iload_n 1, 1) := by decide +kernel
theorem dX8_push_1 : decode cX8_push 1 = .ok (.iconst 0, 1) := by decide +kernel
theorem dX8_push_2 : decode cX8_push 2 = .ok (.bipush 31, 2) := by decide +kernel
theorem dX8_push_4 : decode cX8_push 4 = .ok (.invokestatic 55, 3) := by decide +kernel
theorem dX8_push_7 : decode cX8_push 7 = .ok (.ifCond .ne 13, 3) := by decide +kernel
theorem dX8_push_10 : decode cX8_push 10 = .ok (.iload_n 2, 1) := by decide +kernel
theorem dX8_push_11 : decode cX8_push 11 = .ok (.bipush (-9), 2) := by decide +kernel
theorem dX8_push_13 : decode cX8_push 13 = .ok (.iconst 5, 1) := by decide +kernel
theorem dX8_push_14 : decode cX8_push 14 = .ok (.invokestatic 55, 3) := by decide +kernel
theorem dX8_push_17 : decode cX8_push 17 = .ok (.ifCond .eq 6, 3) := by decide +kernel
theorem dX8_push_20 : decode cX8_push 20 = .ok (.bipush (-3), 2) := by decide +kernel
theorem dX8_push_22 : decode cX8_push 22 = .ok (.ireturn, 1) := by decide +kernel
theorem dX8_push_23 : decode cX8_push 23 = .ok (.aload_n 0, 1) := by decide +kernel
theorem dX8_push_24 : decode cX8_push 24 = .ok (.getfield 19, 3) := by decide +kernel
theorem dX8_push_27 : decode cX8_push 27 = .ok (.getfield 119, 3) := by decide +kernel
theorem dX8_push_30 : decode cX8_push 30 = .ok (.bipush 8, 2) := by decide +kernel
theorem dX8_push_32 : decode cX8_push 32 = .ok (.if_icmp .lt 6, 3) := by decide +kernel
theorem dX8_push_35 : decode cX8_push 35 = .ok (.bipush (-5), 2) := by decide +kernel
theorem dX8_push_37 : decode cX8_push 37 = .ok (.ireturn, 1) := by decide +kernel
theorem dX8_push_38 : decode cX8_push 38 = .ok (.aload_n 0, 1) := by decide +kernel
theorem dX8_push_39 : decode cX8_push 39 = .ok (.getfield 19, 3) := by decide +kernel
theorem dX8_push_42 : decode cX8_push 42 = .ok (.getfield 122, 3) := by decide +kernel
theorem dX8_push_45 : decode cX8_push 45 = .ok (.aload_n 0, 1) := by decide +kernel
theorem dX8_push_46 : decode cX8_push 46 = .ok (.getfield 19, 3) := by decide +kernel
theorem dX8_push_49 : decode cX8_push 49 = .ok (.getfield 119, 3) := by decide +kernel
theorem dX8_push_52 : decode cX8_push 52 = .ok (.iload_n 1, 1) := by decide +kernel
theorem dX8_push_53 : decode cX8_push 53 = .ok (.iastore, 1) := by decide +kernel
theorem dX8_push_54 : decode cX8_push 54 = .ok (.aload_n 0, 1) := by decide +kernel
theorem dX8_push_55 : decode cX8_push 55 = .ok (.getfield 19, 3) := by decide +kernel
theorem dX8_push_58 : decode cX8_push 58 = .ok (.getfield 125, 3) := by decide +kernel
theorem dX8_push_61 : decode cX8_push 61 = .ok (.aload_n 0, 1) := by decide +kernel
theorem dX8_push_62 : decode cX8_push 62 = .ok (.getfield 19, 3) := by decide +kernel
theorem dX8_push_65 : decode cX8_push 65 = .ok (.getfield 119, 3) := by decide +kernel
theorem dX8_push_68 : decode cX8_push 68 = .ok (.iload_n 2, 1) := by decide +kernel
theorem dX8_push_69 : decode cX8_push 69 = .ok (.iastore, 1) := by decide +kernel
theorem dX8_push_70 : decode cX8_push 70 = .ok (.aload_n 0, 1) := by decide +kernel
theorem dX8_push_71 : decode cX8_push 71 = .ok (.getfield 19, 3) := by decide +kernel
theorem dX8_push_74 : decode cX8_push 74 = .ok (.dup, 1) := by decide +kernel
theorem dX8_push_75 : decode cX8_push 75 = .ok (.getfield 119, 3) := by decide +kernel
theorem dX8_push_78 : decode cX8_push 78 = .ok (.iconst 1, 1) := by decide +kernel
theorem dX8_push_79 : decode cX8_push 79 = .ok (.iadd, 1) := by decide +kernel
theorem dX8_push_80 : decode cX8_push 80 = .ok (.putfield 119, 3) := by decide +kernel
theorem dX8_push_83 : decode cX8_push 83 = .ok (.aload_n 0, 1) := by decide +kernel
theorem dX8_push_84 : decode cX8_push 84 = .ok (.getfield 19, 3) := by decide +kernel
theorem dX8_push_87 : decode cX8_push 87 = .ok (.getfield 119, 3) := by decide +kernel
theorem dX8_push_90 : decode cX8_push 90 = .ok (.ireturn, 1) := by decide +kernel
theorem dX8_calm_0 : decode cX8_calm 0 = .ok (.aload_n 0, 1) := by decide +kernel
theorem dX8_calm_1 : decode cX8_calm 1 = .ok (.getfield 19, 3) := by decide +kernel
theorem dX8_calm_4 : decode cX8_calm 4 = .ok (.getfield 119, 3) := by decide +kernel
theorem dX8_calm_7 : decode cX8_calm 7 = .ok (.istore_n 1, 1) := by decide +kernel
theorem dX8_calm_8 : decode cX8_calm 8 = .ok (.aload_n 0, 1) := by decide +kernel
theorem dX8_calm_9 : decode cX8_calm 9 = .ok (.getfield 19, 3) := by decide +kernel
theorem dX8_calm_12 : decode cX8_calm 12 = .ok (.iconst 0, 1) := by decide +kernel
theorem dX8_calm_13 : decode cX8_calm 13 = .ok (.putfield 119, 3) := by decide +kernel
theorem dX8_calm_16 : decode cX8_calm 16 = .ok (.iload_n 1, 1) := by decide +kernel
theorem dX8_calm_17 : decode cX8_calm 17 = .ok (.ireturn, 1) := by decide +kernel
theorem dX8_lose_0 : decode cX8_lose 0 = .ok (.aload_n 0, 1) := by decide +kernel
theorem dX8_lose_1 : decode cX8_lose 1 = .ok (.getfield 19, 3) := by decide +kernel
theorem dX8_lose_4 : decode cX8_lose 4 = .ok (.iload_n 1, 1) := by decide +kernel
theorem dX8_lose_5 : decode cX8_lose 5 = .ok (.putfield 128, 3) := by decide +kernel
theorem dX8_lose_8 : decode cX8_lose 8 = .ok (.iconst 1, 1) := by decide +kernel
theorem dX8_lose_9 : decode cX8_lose 9 = .ok (.ireturn, 1) := by decide +kernel
theorem dX8_hill_0 : decode cX8_hill 0 = .ok (.iload_n 1, 1) := by decide +kernel
theorem dX8_hill_1 : decode cX8_hill 1 = .ok (.iload_n 2, 1) := by decide +kernel
theorem dX8_hill_2 : decode cX8_hill 2 = .ok (.invokestatic 131, 3) := by decide +kernel
theorem dX8_hill_5 : decode cX8_hill 5 = .ok (.ifCond .ne 24, 3) := by decide +kernel
theorem dX8_hill_8 : decode cX8_hill 8 = .ok (.iload_n 3, 1) := by decide +kernel
theorem dX8_hill_9 : decode cX8_hill 9 = .ok (.iconst 0, 1) := by decide +kernel
theorem dX8_hill_10 : decode cX8_hill 10 = .ok (.bipush 40, 2) := by decide +kernel
theorem dX8_hill_12 : decode cX8_hill 12 = .ok (.invokestatic 55, 3) := by decide +kernel
theorem dX8_hill_15 : decode cX8_hill 15 = .ok (.ifCond .ne 14, 3) := by decide +kernel
theorem dX8_hill_18 : decode cX8_hill 18 = .ok (.iload 4, 2) := by decide +kernel
theorem dX8_hill_20 : decode cX8_hill 20 = .ok (.iconst 0, 1) := by decide +kernel
theorem dX8_hill_21 : decode cX8_hill 21 = .ok (.bipush 40, 2) := by decide +kernel
theorem dX8_hill_23 : decode cX8_hill 23 = .ok (.invokestatic 55, 3) := by decide +kernel
theorem dX8_hill_26 : decode cX8_hill 26 = .ok (.ifCond .eq 6, 3) := by decide +kernel
theorem dX8_hill_29 : decode cX8_hill 29 = .ok (.bipush (-3), 2) := by decide +kernel
theorem dX8_hill_31 : decode cX8_hill 31 = .ok (.ireturn, 1) := by decide +kernel
theorem dX8_hill_32 : decode cX8_hill 32 = .ok (.aload_n 0, 1) := by decide +kernel
theorem dX8_hill_33 : decode cX8_hill 33 = .ok (.getfield 19, 3) := by decide +kernel
theorem dX8_hill_36 : decode cX8_hill 36 = .ok (.getfield 135, 3) := by decide +kernel
theorem dX8_hill_39 : decode cX8_hill 39 = .ok (.iconst 2, 1) := by decide +kernel
theorem dX8_hill_40 : decode cX8_hill 40 = .ok (.if_icmp .lt 6, 3) := by decide +kernel
theorem dX8_hill_43 : decode cX8_hill 43 = .ok (.bipush (-5), 2) := by decide +kernel
theorem dX8_hill_45 : decode cX8_hill 45 = .ok (.ireturn, 1) := by decide +kernel
theorem dX8_hill_46 : decode cX8_hill 46 = .ok (.aload_n 0, 1) := by decide +kernel
theorem dX8_hill_47 : decode cX8_hill 47 = .ok (.getfield 19, 3) := by decide +kernel
theorem dX8_hill_50 : decode cX8_hill 50 = .ok (.getfield 138, 3) := by decide +kernel
theorem dX8_hill_53 : decode cX8_hill 53 = .ok (.aload_n 0, 1) := by decide +kernel
theorem dX8_hill_54 : decode cX8_hill 54 = .ok (.getfield 19, 3) := by decide +kernel
theorem dX8_hill_57 : decode cX8_hill 57 = .ok (.getfield 135, 3) := by decide +kernel
theorem dX8_hill_60 : decode cX8_hill 60 = .ok (.iload_n 1, 1) := by decide +kernel
theorem dX8_hill_61 : decode cX8_hill 61 = .ok (.iastore, 1) := by decide +kernel
theorem dX8_hill_62 : decode cX8_hill 62 = .ok (.aload_n 0, 1) := by decide +kernel
theorem dX8_hill_63 : decode cX8_hill 63 = .ok (.getfield 19, 3) := by decide +kernel
theorem dX8_hill_66 : decode cX8_hill 66 = .ok (.getfield 141, 3) := by decide +kernel
theorem dX8_hill_69 : decode cX8_hill 69 = .ok (.aload_n 0, 1) := by decide +kernel
theorem dX8_hill_70 : decode cX8_hill 70 = .ok (.getfield 19, 3) := by decide +kernel
theorem dX8_hill_73 : decode cX8_hill 73 = .ok (.getfield 135, 3) := by decide +kernel
theorem dX8_hill_76 : decode cX8_hill 76 = .ok (.iload_n 2, 1) := by decide +kernel
theorem dX8_hill_77 : decode cX8_hill 77 = .ok (.iastore, 1) := by decide +kernel
theorem dX8_hill_78 : decode cX8_hill 78 = .ok (.aload_n 0, 1) := by decide +kernel
theorem dX8_hill_79 : decode cX8_hill 79 = .ok (.getfield 19, 3) := by decide +kernel
theorem dX8_hill_82 : decode cX8_hill 82 = .ok (.getfield 144, 3) := by decide +kernel
theorem dX8_hill_85 : decode cX8_hill 85 = .ok (.aload_n 0, 1) := by decide +kernel
theorem dX8_hill_86 : decode cX8_hill 86 = .ok (.getfield 19, 3) := by decide +kernel
theorem dX8_hill_89 : decode cX8_hill 89 = .ok (.getfield 135, 3) := by decide +kernel
theorem dX8_hill_92 : decode cX8_hill 92 = .ok (.iload_n 3, 1) := by decide +kernel
theorem dX8_hill_93 : decode cX8_hill 93 = .ok (.iastore, 1) := by decide +kernel
theorem dX8_hill_94 : decode cX8_hill 94 = .ok (.aload_n 0, 1) := by decide +kernel
theorem dX8_hill_95 : decode cX8_hill 95 = .ok (.getfield 19, 3) := by decide +kernel
theorem dX8_hill_98 : decode cX8_hill 98 = .ok (.getfield 147, 3) := by decide +kernel
theorem dX8_hill_101 : decode cX8_hill 101 = .ok (.aload_n 0, 1) := by decide +kernel
theorem dX8_hill_102 : decode cX8_hill 102 = .ok (.getfield 19, 3) := by decide +kernel
theorem dX8_hill_105 : decode cX8_hill 105 = .ok (.getfield 135, 3) := by decide +kernel
theorem dX8_hill_108 : decode cX8_hill 108 = .ok (.iload 4, 2) := by decide +kernel
theorem dX8_hill_110 : decode cX8_hill 110 = .ok (.iastore, 1) := by decide +kernel
theorem dX8_hill_111 : decode cX8_hill 111 = .ok (.aload_n 0, 1) := by decide +kernel
theorem dX8_hill_112 : decode cX8_hill 112 = .ok (.getfield 19, 3) := by decide +kernel
theorem dX8_hill_115 : decode cX8_hill 115 = .ok (.dup, 1) := by decide +kernel
theorem dX8_hill_116 : decode cX8_hill 116 = .ok (.getfield 135, 3) := by decide +kernel
theorem dX8_hill_119 : decode cX8_hill 119 = .ok (.iconst 1, 1) := by decide +kernel
theorem dX8_hill_120 : decode cX8_hill 120 = .ok (.iadd, 1) := by decide +kernel
theorem dX8_hill_121 : decode cX8_hill 121 = .ok (.putfield 135, 3) := by decide +kernel
theorem dX8_hill_124 : decode cX8_hill 124 = .ok (.aload_n 0, 1) := by decide +kernel
theorem dX8_hill_125 : decode cX8_hill 125 = .ok (.getfield 19, 3) := by decide +kernel
theorem dX8_hill_128 : decode cX8_hill 128 = .ok (.getfield 135, 3) := by decide +kernel
theorem dX8_hill_131 : decode cX8_hill 131 = .ok (.ireturn, 1) := by decide +kernel
theorem dX8_stranger_0 : decode cX8_stranger 0 = .ok (.aload_n 0, 1) := by decide +kernel
theorem dX8_stranger_1 : decode cX8_stranger 1 = .ok (.iload_n 1, 1) := by decide +kernel
theorem dX8_stranger_2 : decode cX8_stranger 2 = .ok (.invokevirtual 150, 3) := by decide +kernel
theorem dX8_stranger_5 : decode cX8_stranger 5 = .ok (.ifCond .eq 6, 3) := by decide +kernel
theorem dX8_stranger_8 : decode cX8_stranger 8 = .ok (.bipush (-2), 2) := by decide +kernel
theorem dX8_stranger_10 : decode cX8_stranger 10 = .ok (.ireturn, 1) := by decide +kernel
theorem dX8_stranger_11 : decode cX8_stranger 11 = .ok (.iload_n 2, 1) := by decide +kernel
theorem dX8_stranger_12 : decode cX8_stranger 12 = .ok (.iconst 0, 1) := by decide +kernel
theorem dX8_stranger_13 : decode cX8_stranger 13 = .ok (.bipush 31, 2) := by decide +kernel
theorem dX8_stranger_15 : decode cX8_stranger 15 = .ok (.invokestatic 55, 3) := by decide +kernel
theorem dX8_stranger_18 : decode cX8_stranger 18 = .ok (.ifCond .ne 24, 3) := by decide +kernel
theorem dX8_stranger_21 : decode cX8_stranger 21 = .ok (.iload_n 3, 1) := by decide +kernel
theorem dX8_stranger_22 : decode cX8_stranger 22 = .ok (.iload_n 2, 1) := by decide +kernel
theorem dX8_stranger_23 : decode cX8_stranger 23 = .ok (.bipush 31, 2) := by decide +kernel
theorem dX8_stranger_25 : decode cX8_stranger 25 = .ok (.invokestatic 55, 3) := by decide +kernel
theorem dX8_stranger_28 : decode cX8_stranger 28 = .ok (.ifCond .ne 14, 3) := by decide +kernel
theorem dX8_stranger_31 : decode cX8_stranger 31 = .ok (.iload 4, 2) := by decide +kernel
theorem dX8_stranger_33 : decode cX8_stranger 33 = .ok (.iconst 0, 1) := by decide +kernel
theorem dX8_stranger_34 : decode cX8_stranger 34 = .ok (.bipush 40, 2) := by decide +kernel
theorem dX8_stranger_36 : decode cX8_stranger 36 = .ok (.invokestatic 55, 3) := by decide +kernel
theorem dX8_stranger_39 : decode cX8_stranger 39 = .ok (.ifCond .eq 6, 3) := by decide +kernel
theorem dX8_stranger_42 : decode cX8_stranger 42 = .ok (.bipush (-3), 2) := by decide +kernel
theorem dX8_stranger_44 : decode cX8_stranger 44 = .ok (.ireturn, 1) := by decide +kernel
theorem dX8_stranger_45 : decode cX8_stranger 45 = .ok (.aload_n 0, 1) := by decide +kernel
theorem dX8_stranger_46 : decode cX8_stranger 46 = .ok (.getfield 19, 3) := by decide +kernel
theorem dX8_stranger_49 : decode cX8_stranger 49 = .ok (.iload_n 1, 1) := by decide +kernel
theorem dX8_stranger_50 : decode cX8_stranger 50 = .ok (.putfield 153, 3) := by decide +kernel
theorem dX8_stranger_53 : decode cX8_stranger 53 = .ok (.aload_n 0, 1) := by decide +kernel
theorem dX8_stranger_54 : decode cX8_stranger 54 = .ok (.getfield 19, 3) := by decide +kernel
theorem dX8_stranger_57 : decode cX8_stranger 57 = .ok (.iload_n 2, 1) := by decide +kernel
theorem dX8_stranger_58 : decode cX8_stranger 58 = .ok (.putfield 156, 3) := by decide +kernel
theorem dX8_stranger_61 : decode cX8_stranger 61 = .ok (.aload_n 0, 1) := by decide +kernel
theorem dX8_stranger_62 : decode cX8_stranger 62 = .ok (.getfield 19, 3) := by decide +kernel
theorem dX8_stranger_65 : decode cX8_stranger 65 = .ok (.iload_n 3, 1) := by decide +kernel
theorem dX8_stranger_66 : decode cX8_stranger 66 = .ok (.putfield 159, 3) := by decide +kernel
theorem dX8_stranger_69 : decode cX8_stranger 69 = .ok (.aload_n 0, 1) := by decide +kernel
theorem dX8_stranger_70 : decode cX8_stranger 70 = .ok (.getfield 19, 3) := by decide +kernel
theorem dX8_stranger_73 : decode cX8_stranger 73 = .ok (.iload 4, 2) := by decide +kernel
theorem dX8_stranger_75 : decode cX8_stranger 75 = .ok (.putfield 162, 3) := by decide +kernel
theorem dX8_stranger_78 : decode cX8_stranger 78 = .ok (.iconst 1, 1) := by decide +kernel
theorem dX8_stranger_79 : decode cX8_stranger 79 = .ok (.ireturn, 1) := by decide +kernel
theorem dX8_at_0 : decode cX8_at 0 = .ok (.aload_n 0, 1) := by decide +kernel
theorem dX8_at_1 : decode cX8_at 1 = .ok (.iload_n 1, 1) := by decide +kernel
theorem dX8_at_2 : decode cX8_at 2 = .ok (.invokevirtual 165, 3) := by decide +kernel
theorem dX8_at_5 : decode cX8_at 5 = .ok (.ifCond .ne 22, 3) := by decide +kernel
theorem dX8_at_8 : decode cX8_at 8 = .ok (.iload_n 2, 1) := by decide +kernel
theorem dX8_at_9 : decode cX8_at 9 = .ok (.iconst 0, 1) := by decide +kernel
theorem dX8_at_10 : decode cX8_at 10 = .ok (.bipush 31, 2) := by decide +kernel
theorem dX8_at_12 : decode cX8_at 12 = .ok (.invokestatic 55, 3) := by decide +kernel
theorem dX8_at_15 : decode cX8_at 15 = .ok (.ifCond .ne 12, 3) := by decide +kernel
theorem dX8_at_18 : decode cX8_at 18 = .ok (.iload_n 3, 1) := by decide +kernel
theorem dX8_at_19 : decode cX8_at 19 = .ok (.iconst 0, 1) := by decide +kernel
theorem dX8_at_20 : decode cX8_at 20 = .ok (.iconst 5, 1) := by decide +kernel
theorem dX8_at_21 : decode cX8_at 21 = .ok (.invokestatic 55, 3) := by decide +kernel
theorem dX8_at_24 : decode cX8_at 24 = .ok (.ifCond .eq 6, 3) := by decide +kernel
theorem dX8_at_27 : decode cX8_at 27 = .ok (.ldc 168, 2) := by decide +kernel
theorem dX8_at_29 : decode cX8_at 29 = .ok (.ireturn, 1) := by decide +kernel
theorem dX8_at_30 : decode cX8_at 30 = .ok (.aload_n 0, 1) := by decide +kernel
theorem dX8_at_31 : decode cX8_at 31 = .ok (.invokevirtual 169, 3) := by decide +kernel
theorem dX8_at_34 : decode cX8_at 34 = .ok (.iload_n 1, 1) := by decide +kernel
theorem dX8_at_35 : decode cX8_at 35 = .ok (.ifCond .ne 7, 3) := by decide +kernel
theorem dX8_at_38 : decode cX8_at 38 = .ok (.iconst 1, 1) := by decide +kernel
theorem dX8_at_39 : decode cX8_at 39 = .ok (.goto 4, 3) := by decide +kernel
theorem dX8_at_42 : decode cX8_at 42 = .ok (.iconst 0, 1) := by decide +kernel
theorem dX8_at_43 : decode cX8_at 43 = .ok (.istore 4, 2) := by decide +kernel
theorem dX8_at_45 : decode cX8_at 45 = .ok (.iload_n 3, 1) := by decide +kernel
theorem dX8_at_46 : decode cX8_at 46 = .ok (.tableswitch 116 0 4 #[34, 48, 71, 85, 97], 34) := by decide +kernel
theorem dX8_at_80 : decode cX8_at 80 = .ok (.aload_n 0, 1) := by decide +kernel
theorem dX8_at_81 : decode cX8_at 81 = .ok (.getfield 26, 3) := by decide +kernel
theorem dX8_at_84 : decode cX8_at 84 = .ok (.getfield 172, 3) := by decide +kernel
theorem dX8_at_87 : decode cX8_at 87 = .ok (.iload_n 1, 1) := by decide +kernel
theorem dX8_at_88 : decode cX8_at 88 = .ok (.aaload, 1) := by decide +kernel
theorem dX8_at_89 : decode cX8_at 89 = .ok (.iload_n 2, 1) := by decide +kernel
theorem dX8_at_90 : decode cX8_at 90 = .ok (.iconst 1, 1) := by decide +kernel
theorem dX8_at_91 : decode cX8_at 91 = .ok (.iadd, 1) := by decide +kernel
theorem dX8_at_92 : decode cX8_at 92 = .ok (.iaload, 1) := by decide +kernel
theorem dX8_at_93 : decode cX8_at 93 = .ok (.ireturn, 1) := by decide +kernel
theorem dX8_at_94 : decode cX8_at 94 = .ok (.iload 4, 2) := by decide +kernel
theorem dX8_at_96 : decode cX8_at 96 = .ok (.ifCond .eq 7, 3) := by decide +kernel
theorem dX8_at_99 : decode cX8_at 99 = .ok (.iconst (-1), 1) := by decide +kernel
theorem dX8_at_100 : decode cX8_at 100 = .ok (.goto 16, 3) := by decide +kernel
theorem dX8_at_103 : decode cX8_at 103 = .ok (.aload_n 0, 1) := by decide +kernel
theorem dX8_at_104 : decode cX8_at 104 = .ok (.getfield 26, 3) := by decide +kernel
theorem dX8_at_107 : decode cX8_at 107 = .ok (.getfield 176, 3) := by decide +kernel
theorem dX8_at_110 : decode cX8_at 110 = .ok (.iload_n 1, 1) := by decide +kernel
theorem dX8_at_111 : decode cX8_at 111 = .ok (.aaload, 1) := by decide +kernel
theorem dX8_at_112 : decode cX8_at 112 = .ok (.iload_n 2, 1) := by decide +kernel
theorem dX8_at_113 : decode cX8_at 113 = .ok (.iconst 1, 1) := by decide +kernel
theorem dX8_at_114 : decode cX8_at 114 = .ok (.iadd, 1) := by decide +kernel
theorem dX8_at_115 : decode cX8_at 115 = .ok (.iaload, 1) := by decide +kernel
theorem dX8_at_116 : decode cX8_at 116 = .ok (.ireturn, 1) := by decide +kernel
theorem dX8_at_117 : decode cX8_at 117 = .ok (.aload_n 0, 1) := by decide +kernel
theorem dX8_at_118 : decode cX8_at 118 = .ok (.getfield 26, 3) := by decide +kernel
theorem dX8_at_121 : decode cX8_at 121 = .ok (.getfield 179, 3) := by decide +kernel
theorem dX8_at_124 : decode cX8_at 124 = .ok (.iload_n 1, 1) := by decide +kernel
theorem dX8_at_125 : decode cX8_at 125 = .ok (.aaload, 1) := by decide +kernel
theorem dX8_at_126 : decode cX8_at 126 = .ok (.iload_n 2, 1) := by decide +kernel
theorem dX8_at_127 : decode cX8_at 127 = .ok (.iconst 1, 1) := by decide +kernel
theorem dX8_at_128 : decode cX8_at 128 = .ok (.iadd, 1) := by decide +kernel
theorem dX8_at_129 : decode cX8_at 129 = .ok (.iaload, 1) := by decide +kernel
theorem dX8_at_130 : decode cX8_at 130 = .ok (.ireturn, 1) := by decide +kernel
theorem dX8_at_131 : decode cX8_at 131 = .ok (.aload_n 0, 1) := by decide +kernel
theorem dX8_at_132 : decode cX8_at 132 = .ok (.getfield 26, 3) := by decide +kernel
theorem dX8_at_135 : decode cX8_at 135 = .ok (.getfield 182, 3) := by decide +kernel
theorem dX8_at_138 : decode cX8_at 138 = .ok (.iload_n 1, 1) := by decide +kernel
theorem dX8_at_139 : decode cX8_at 139 = .ok (.aaload, 1) := by decide +kernel
theorem dX8_at_140 : decode cX8_at 140 = .ok (.iload_n 2, 1) := by decide +kernel
theorem dX8_at_141 : decode cX8_at 141 = .ok (.iaload, 1) := by decide +kernel
theorem dX8_at_142 : decode cX8_at 142 = .ok (.ireturn, 1) := by decide +kernel
theorem dX8_at_143 : decode cX8_at 143 = .ok (.iload 4, 2) := by decide +kernel
theorem dX8_at_145 : decode cX8_at 145 = .ok (.ifCond .eq 7, 3) := by decide +kernel
theorem dX8_at_148 : decode cX8_at 148 = .ok (.iconst 0, 1) := by decide +kernel
theorem dX8_at_149 : decode cX8_at 149 = .ok (.goto 12, 3) := by decide +kernel
theorem dX8_at_152 : decode cX8_at 152 = .ok (.aload_n 0, 1) := by decide +kernel
theorem dX8_at_153 : decode cX8_at 153 = .ok (.getfield 26, 3) := by decide +kernel
theorem dX8_at_156 : decode cX8_at 156 = .ok (.getfield 185, 3) := by decide +kernel
theorem dX8_at_159 : decode cX8_at 159 = .ok (.iload_n 2, 1) := by decide +kernel
theorem dX8_at_160 : decode cX8_at 160 = .ok (.iaload, 1) := by decide +kernel
theorem dX8_at_161 : decode cX8_at 161 = .ok (.ireturn, 1) := by decide +kernel
theorem dX8_at_162 : decode cX8_at 162 = .ok (.iload 4, 2) := by decide +kernel
theorem dX8_at_164 : decode cX8_at 164 = .ok (.ifCond .eq 8, 3) := by decide +kernel
theorem dX8_at_167 : decode cX8_at 167 = .ok (.bipush 99, 2) := by decide +kernel
theorem dX8_at_169 : decode cX8_at 169 = .ok (.goto 12, 3) := by decide +kernel
theorem dX8_at_172 : decode cX8_at 172 = .ok (.aload_n 0, 1) := by decide +kernel
theorem dX8_at_173 : decode cX8_at 173 = .ok (.getfield 26, 3) := by decide +kernel
theorem dX8_at_176 : decode cX8_at 176 = .ok (.getfield 188, 3) := by decide +kernel
theorem dX8_at_179 : decode cX8_at 179 = .ok (.iload_n 2, 1) := by decide +kernel
theorem dX8_at_180 : decode cX8_at 180 = .ok (.iaload, 1) := by decide +kernel
theorem dX8_at_181 : decode cX8_at 181 = .ok (.ireturn, 1) := by decide +kernel
theorem dX8_touch_0 : decode cX8_touch 0 = .ok (.iload_n 1, 1) := by decide +kernel
theorem dX8_touch_1 : decode cX8_touch 1 = .ok (.iconst 0, 1) := by decide +kernel
theorem dX8_touch_2 : decode cX8_touch 2 = .ok (.iconst 1, 1) := by decide +kernel
theorem dX8_touch_3 : decode cX8_touch 3 = .ok (.invokestatic 55, 3) := by decide +kernel
theorem dX8_touch_6 : decode cX8_touch 6 = .ok (.ifCond .eq 6, 3) := by decide +kernel
theorem dX8_touch_9 : decode cX8_touch 9 = .ok (.bipush (-3), 2) := by decide +kernel
theorem dX8_touch_11 : decode cX8_touch 11 = .ok (.ireturn, 1) := by decide +kernel
theorem dX8_touch_12 : decode cX8_touch 12 = .ok (.aload_n 0, 1) := by decide +kernel
theorem dX8_touch_13 : decode cX8_touch 13 = .ok (.invokevirtual 169, 3) := by decide +kernel
theorem dX8_touch_16 : decode cX8_touch 16 = .ok (.iload_n 1, 1) := by decide +kernel
theorem dX8_touch_17 : decode cX8_touch 17 = .ok (.ifCond .ne 13, 3) := by decide +kernel
theorem dX8_touch_20 : decode cX8_touch 20 = .ok (.aload_n 0, 1) := by decide +kernel
theorem dX8_touch_21 : decode cX8_touch 21 = .ok (.getfield 26, 3) := by decide +kernel
theorem dX8_touch_24 : decode cX8_touch 24 = .ok (.getfield 191, 3) := by decide +kernel
theorem dX8_touch_27 : decode cX8_touch 27 = .ok (.goto 10, 3) := by decide +kernel
theorem dX8_touch_30 : decode cX8_touch 30 = .ok (.aload_n 0, 1) := by decide +kernel
theorem dX8_touch_31 : decode cX8_touch 31 = .ok (.getfield 26, 3) := by decide +kernel
theorem dX8_touch_34 : decode cX8_touch 34 = .ok (.getfield 194, 3) := by decide +kernel
theorem dX8_touch_37 : decode cX8_touch 37 = .ok (.ireturn, 1) := by decide +kernel
theorem dX8_least_0 : decode cX8_least 0 = .ok (.aload_n 0, 1) := by decide +kernel
theorem dX8_least_1 : decode cX8_least 1 = .ok (.iload_n 1, 1) := by decide +kernel
theorem dX8_least_2 : decode cX8_least 2 = .ok (.invokevirtual 150, 3) := by decide +kernel
theorem dX8_least_5 : decode cX8_least 5 = .ok (.ifCond .eq 6, 3) := by decide +kernel
theorem dX8_least_8 : decode cX8_least 8 = .ok (.ldc 168, 2) := by decide +kernel
theorem dX8_least_10 : decode cX8_least 10 = .ok (.ireturn, 1) := by decide +kernel
theorem dX8_least_11 : decode cX8_least 11 = .ok (.aload_n 0, 1) := by decide +kernel
theorem dX8_least_12 : decode cX8_least 12 = .ok (.invokevirtual 169, 3) := by decide +kernel
theorem dX8_least_15 : decode cX8_least 15 = .ok (.aload_n 0, 1) := by decide +kernel
theorem dX8_least_16 : decode cX8_least 16 = .ok (.getfield 26, 3) := by decide +kernel
theorem dX8_least_19 : decode cX8_least 19 = .ok (.iload_n 1, 1) := by decide +kernel
theorem dX8_least_20 : decode cX8_least 20 = .ok (.invokevirtual 197, 3) := by decide +kernel
theorem dX8_least_23 : decode cX8_least 23 = .ok (.ireturn, 1) := by decide +kernel
theorem dX8_dip_0 : decode cX8_dip 0 = .ok (.aload_n 0, 1) := by decide +kernel
theorem dX8_dip_1 : decode cX8_dip 1 = .ok (.iload_n 1, 1) := by decide +kernel
theorem dX8_dip_2 : decode cX8_dip 2 = .ok (.invokevirtual 165, 3) := by decide +kernel
theorem dX8_dip_5 : decode cX8_dip 5 = .ok (.ifCond .eq 6, 3) := by decide +kernel
theorem dX8_dip_8 : decode cX8_dip 8 = .ok (.bipush (-2), 2) := by decide +kernel
theorem dX8_dip_10 : decode cX8_dip 10 = .ok (.ireturn, 1) := by decide +kernel
theorem dX8_dip_11 : decode cX8_dip 11 = .ok (.aload_n 0, 1) := by decide +kernel
theorem dX8_dip_12 : decode cX8_dip 12 = .ok (.invokevirtual 169, 3) := by decide +kernel
theorem dX8_dip_15 : decode cX8_dip 15 = .ok (.aload_n 0, 1) := by decide +kernel
theorem dX8_dip_16 : decode cX8_dip 16 = .ok (.getfield 26, 3) := by decide +kernel
theorem dX8_dip_19 : decode cX8_dip 19 = .ok (.iload_n 1, 1) := by decide +kernel
theorem dX8_dip_20 : decode cX8_dip 20 = .ok (.invokevirtual 201, 3) := by decide +kernel
theorem dX8_dip_23 : decode cX8_dip 23 = .ok (.ireturn, 1) := by decide +kernel
theorem dX8_grows_0 : decode cX8_grows 0 = .ok (.aload_n 0, 1) := by decide +kernel
theorem dX8_grows_1 : decode cX8_grows 1 = .ok (.invokevirtual 169, 3) := by decide +kernel
theorem dX8_grows_4 : decode cX8_grows 4 = .ok (.iconst 0, 1) := by decide +kernel
theorem dX8_grows_5 : decode cX8_grows 5 = .ok (.istore_n 1, 1) := by decide +kernel
theorem dX8_grows_6 : decode cX8_grows 6 = .ok (.iconst 1, 1) := by decide +kernel
theorem dX8_grows_7 : decode cX8_grows 7 = .ok (.istore_n 2, 1) := by decide +kernel
theorem dX8_grows_8 : decode cX8_grows 8 = .ok (.iload_n 2, 1) := by decide +kernel
theorem dX8_grows_9 : decode cX8_grows 9 = .ok (.aload_n 0, 1) := by decide +kernel
theorem dX8_grows_10 : decode cX8_grows 10 = .ok (.getfield 19, 3) := by decide +kernel
theorem dX8_grows_13 : decode cX8_grows 13 = .ok (.getfield 103, 3) := by decide +kernel
theorem dX8_grows_16 : decode cX8_grows 16 = .ok (.if_icmp .ge 36, 3) := by decide +kernel
theorem dX8_grows_19 : decode cX8_grows 19 = .ok (.aload_n 0, 1) := by decide +kernel
theorem dX8_grows_20 : decode cX8_grows 20 = .ok (.getfield 26, 3) := by decide +kernel
theorem dX8_grows_23 : decode cX8_grows 23 = .ok (.iload_n 2, 1) := by decide +kernel
theorem dX8_grows_24 : decode cX8_grows 24 = .ok (.invokevirtual 201, 3) := by decide +kernel
theorem dX8_grows_27 : decode cX8_grows 27 = .ok (.aload_n 0, 1) := by decide +kernel
theorem dX8_grows_28 : decode cX8_grows 28 = .ok (.getfield 26, 3) := by decide +kernel
theorem dX8_grows_31 : decode cX8_grows 31 = .ok (.iload_n 2, 1) := by decide +kernel
theorem dX8_grows_32 : decode cX8_grows 32 = .ok (.iconst 1, 1) := by decide +kernel
theorem dX8_grows_33 : decode cX8_grows 33 = .ok (.isub, 1) := by decide +kernel
theorem dX8_grows_34 : decode cX8_grows 34 = .ok (.invokevirtual 201, 3) := by decide +kernel
theorem dX8_grows_37 : decode cX8_grows 37 = .ok (.if_icmp .le 9, 3) := by decide +kernel
theorem dX8_grows_40 : decode cX8_grows 40 = .ok (.iload_n 1, 1) := by decide +kernel
theorem dX8_grows_41 : decode cX8_grows 41 = .ok (.iconst 1, 1) := by decide +kernel
theorem dX8_grows_42 : decode cX8_grows 42 = .ok (.iload_n 2, 1) := by decide +kernel
theorem dX8_grows_43 : decode cX8_grows 43 = .ok (.ishl, 1) := by decide +kernel
theorem dX8_grows_44 : decode cX8_grows 44 = .ok (.ior, 1) := by decide +kernel
theorem dX8_grows_45 : decode cX8_grows 45 = .ok (.istore_n 1, 1) := by decide +kernel
theorem dX8_grows_46 : decode cX8_grows 46 = .ok (.iinc 2 1, 3) := by decide +kernel
theorem dX8_grows_49 : decode cX8_grows 49 = .ok (.goto (-41), 3) := by decide +kernel
theorem dX8_grows_52 : decode cX8_grows 52 = .ok (.iload_n 1, 1) := by decide +kernel
theorem dX8_grows_53 : decode cX8_grows 53 = .ok (.ireturn, 1) := by decide +kernel
theorem dX8_safe_0 : decode cX8_safe 0 = .ok (.iload_n 1, 1) := by decide +kernel
theorem dX8_safe_1 : decode cX8_safe 1 = .ok (.iconst 1, 1) := by decide +kernel
theorem dX8_safe_2 : decode cX8_safe 2 = .ok (.bipush 99, 2) := by decide +kernel
theorem dX8_safe_4 : decode cX8_safe 4 = .ok (.invokestatic 55, 3) := by decide +kernel
theorem dX8_safe_7 : decode cX8_safe 7 = .ok (.ifCond .ne 11, 3) := by decide +kernel
theorem dX8_safe_10 : decode cX8_safe 10 = .ok (.iload_n 2, 1) := by decide +kernel
theorem dX8_safe_11 : decode cX8_safe 11 = .ok (.iload_n 3, 1) := by decide +kernel
theorem dX8_safe_12 : decode cX8_safe 12 = .ok (.invokestatic 204, 3) := by decide +kernel
theorem dX8_safe_15 : decode cX8_safe 15 = .ok (.ifCond .eq 6, 3) := by decide +kernel
theorem dX8_safe_18 : decode cX8_safe 18 = .ok (.bipush (-3), 2) := by decide +kernel
theorem dX8_safe_20 : decode cX8_safe 20 = .ok (.ireturn, 1) := by decide +kernel
theorem dX8_safe_21 : decode cX8_safe 21 = .ok (.aload_n 0, 1) := by decide +kernel
theorem dX8_safe_22 : decode cX8_safe 22 = .ok (.getfield 26, 3) := by decide +kernel
theorem dX8_safe_25 : decode cX8_safe 25 = .ok (.aload_n 0, 1) := by decide +kernel
theorem dX8_safe_26 : decode cX8_safe 26 = .ok (.getfield 19, 3) := by decide +kernel
theorem dX8_safe_29 : decode cX8_safe 29 = .ok (.iload_n 1, 1) := by decide +kernel
theorem dX8_safe_30 : decode cX8_safe 30 = .ok (.iload_n 2, 1) := by decide +kernel
theorem dX8_safe_31 : decode cX8_safe 31 = .ok (.iload_n 3, 1) := by decide +kernel
theorem dX8_safe_32 : decode cX8_safe 32 = .ok (.invokevirtual 207, 3) := by decide +kernel
theorem dX8_safe_35 : decode cX8_safe 35 = .ok (.iconst (-1), 1) := by decide +kernel
theorem dX8_safe_36 : decode cX8_safe 36 = .ok (.if_icmp .ne 7, 3) := by decide +kernel
theorem dX8_safe_39 : decode cX8_safe 39 = .ok (.iconst 1, 1) := by decide +kernel
theorem dX8_safe_40 : decode cX8_safe 40 = .ok (.goto 4, 3) := by decide +kernel
theorem dX8_safe_43 : decode cX8_safe 43 = .ok (.iconst 0, 1) := by decide +kernel
theorem dX8_safe_44 : decode cX8_safe 44 = .ok (.ireturn, 1) := by decide +kernel
theorem dX8_need_0 : decode cX8_need 0 = .ok (.iload_n 1, 1) := by decide +kernel
theorem dX8_need_1 : decode cX8_need 1 = .ok (.iload_n 2, 1) := by decide +kernel
theorem dX8_need_2 : decode cX8_need 2 = .ok (.invokestatic 204, 3) := by decide +kernel
theorem dX8_need_5 : decode cX8_need 5 = .ok (.ifCond .eq 6, 3) := by decide +kernel
theorem dX8_need_8 : decode cX8_need 8 = .ok (.bipush (-3), 2) := by decide +kernel
theorem dX8_need_10 : decode cX8_need 10 = .ok (.ireturn, 1) := by decide +kernel
theorem dX8_need_11 : decode cX8_need 11 = .ok (.iconst 0, 1) := by decide +kernel
theorem dX8_need_12 : decode cX8_need 12 = .ok (.istore_n 3, 1) := by decide +kernel
theorem dX8_need_13 : decode cX8_need 13 = .ok (.iconst 1, 1) := by decide +kernel
theorem dX8_need_14 : decode cX8_need 14 = .ok (.istore 4, 2) := by decide +kernel
theorem dX8_need_16 : decode cX8_need 16 = .ok (.iload 4, 2) := by decide +kernel
theorem dX8_need_18 : decode cX8_need 18 = .ok (.bipush 60, 2) := by decide +kernel
theorem dX8_need_20 : decode cX8_need 20 = .ok (.if_icmp .gt 67, 3) := by decide +kernel
theorem dX8_need_23 : decode cX8_need 23 = .ok (.aload_n 0, 1) := by decide +kernel
theorem dX8_need_24 : decode cX8_need 24 = .ok (.getfield 26, 3) := by decide +kernel
theorem dX8_need_27 : decode cX8_need 27 = .ok (.aload_n 0, 1) := by decide +kernel
theorem dX8_need_28 : decode cX8_need 28 = .ok (.getfield 19, 3) := by decide +kernel
theorem dX8_need_31 : decode cX8_need 31 = .ok (.iload 4, 2) := by decide +kernel
theorem dX8_need_33 : decode cX8_need 33 = .ok (.iload_n 3, 1) := by decide +kernel
theorem dX8_need_34 : decode cX8_need 34 = .ok (.sipush 256, 3) := by decide +kernel
theorem dX8_need_37 : decode cX8_need 37 = .ok (.idiv, 1) := by decide +kernel
theorem dX8_need_38 : decode cX8_need 38 = .ok (.iload_n 3, 1) := by decide +kernel
theorem dX8_need_39 : decode cX8_need 39 = .ok (.sipush 256, 3) := by decide +kernel
theorem dX8_need_42 : decode cX8_need 42 = .ok (.irem, 1) := by decide +kernel
theorem dX8_need_43 : decode cX8_need 43 = .ok (.invokevirtual 211, 3) := by decide +kernel
theorem dX8_need_46 : decode cX8_need 46 = .ok (.ifCond .eq 6, 3) := by decide +kernel
theorem dX8_need_49 : decode cX8_need 49 = .ok (.goto 32, 3) := by decide +kernel
theorem dX8_need_52 : decode cX8_need 52 = .ok (.aload_n 0, 1) := by decide +kernel
theorem dX8_need_53 : decode cX8_need 53 = .ok (.getfield 26, 3) := by decide +kernel
theorem dX8_need_56 : decode cX8_need 56 = .ok (.aload_n 0, 1) := by decide +kernel
theorem dX8_need_57 : decode cX8_need 57 = .ok (.getfield 19, 3) := by decide +kernel
theorem dX8_need_60 : decode cX8_need 60 = .ok (.iload 4, 2) := by decide +kernel
theorem dX8_need_62 : decode cX8_need 62 = .ok (.iload_n 1, 1) := by decide +kernel
theorem dX8_need_63 : decode cX8_need 63 = .ok (.iload_n 2, 1) := by decide +kernel
theorem dX8_need_64 : decode cX8_need 64 = .ok (.invokevirtual 207, 3) := by decide +kernel
theorem dX8_need_67 : decode cX8_need 67 = .ok (.istore 5, 2) := by decide +kernel
theorem dX8_need_69 : decode cX8_need 69 = .ok (.iload 5, 2) := by decide +kernel
theorem dX8_need_71 : decode cX8_need 71 = .ok (.iconst (-1), 1) := by decide +kernel
theorem dX8_need_72 : decode cX8_need 72 = .ok (.if_icmp .ne 6, 3) := by decide +kernel
theorem dX8_need_75 : decode cX8_need 75 = .ok (.iload 4, 2) := by decide +kernel
theorem dX8_need_77 : decode cX8_need 77 = .ok (.ireturn, 1) := by decide +kernel
theorem dX8_need_78 : decode cX8_need 78 = .ok (.iload 5, 2) := by decide +kernel
theorem dX8_need_80 : decode cX8_need 80 = .ok (.istore_n 3, 1) := by decide +kernel
theorem dX8_need_81 : decode cX8_need 81 = .ok (.iinc 4 1, 3) := by decide +kernel
theorem dX8_need_84 : decode cX8_need 84 = .ok (.goto (-68), 3) := by decide +kernel
theorem dX8_need_87 : decode cX8_need 87 = .ok (.iconst (-1), 1) := by decide +kernel
theorem dX8_need_88 : decode cX8_need 88 = .ok (.ireturn, 1) := by decide +kernel
theorem dX8_worst_0 : decode cX8_worst 0 = .ok (.iload_n 1, 1) := by decide +kernel
theorem dX8_worst_1 : decode cX8_worst 1 = .ok (.iconst 1, 1) := by decide +kernel
theorem dX8_worst_2 : decode cX8_worst 2 = .ok (.bipush 99, 2) := by decide +kernel
theorem dX8_worst_4 : decode cX8_worst 4 = .ok (.invokestatic 55, 3) := by decide +kernel
theorem dX8_worst_7 : decode cX8_worst 7 = .ok (.ifCond .ne 11, 3) := by decide +kernel
theorem dX8_worst_10 : decode cX8_worst 10 = .ok (.iload_n 2, 1) := by decide +kernel
theorem dX8_worst_11 : decode cX8_worst 11 = .ok (.iload_n 3, 1) := by decide +kernel
theorem dX8_worst_12 : decode cX8_worst 12 = .ok (.invokestatic 204, 3) := by decide +kernel
theorem dX8_worst_15 : decode cX8_worst 15 = .ok (.ifCond .eq 6, 3) := by decide +kernel
theorem dX8_worst_18 : decode cX8_worst 18 = .ok (.bipush (-3), 2) := by decide +kernel
theorem dX8_worst_20 : decode cX8_worst 20 = .ok (.ireturn, 1) := by decide +kernel
theorem dX8_worst_21 : decode cX8_worst 21 = .ok (.aload_n 0, 1) := by decide +kernel
theorem dX8_worst_22 : decode cX8_worst 22 = .ok (.getfield 26, 3) := by decide +kernel
theorem dX8_worst_25 : decode cX8_worst 25 = .ok (.aload_n 0, 1) := by decide +kernel
theorem dX8_worst_26 : decode cX8_worst 26 = .ok (.getfield 19, 3) := by decide +kernel
theorem dX8_worst_29 : decode cX8_worst 29 = .ok (.iload_n 1, 1) := by decide +kernel
theorem dX8_worst_30 : decode cX8_worst 30 = .ok (.iload_n 2, 1) := by decide +kernel
theorem dX8_worst_31 : decode cX8_worst 31 = .ok (.iload_n 3, 1) := by decide +kernel
theorem dX8_worst_32 : decode cX8_worst 32 = .ok (.invokevirtual 207, 3) := by decide +kernel
theorem dX8_worst_35 : decode cX8_worst 35 = .ok (.ireturn, 1) := by decide +kernel
theorem dX8_sparing_0 : decode cX8_sparing 0 = .ok (.aload_n 0, 1) := by decide +kernel
theorem dX8_sparing_1 : decode cX8_sparing 1 = .ok (.getfield 19, 3) := by decide +kernel
theorem dX8_sparing_4 : decode cX8_sparing 4 = .ok (.getfield 116, 3) := by decide +kernel
theorem dX8_sparing_7 : decode cX8_sparing 7 = .ok (.iconst 0, 1) := by decide +kernel
theorem dX8_sparing_8 : decode cX8_sparing 8 = .ok (.iaload, 1) := by decide +kernel
theorem dX8_sparing_9 : decode cX8_sparing 9 = .ok (.istore_n 1, 1) := by decide +kernel
theorem dX8_sparing_10 : decode cX8_sparing 10 = .ok (.aload_n 0, 1) := by decide +kernel
theorem dX8_sparing_11 : decode cX8_sparing 11 = .ok (.getfield 19, 3) := by decide +kernel
theorem dX8_sparing_14 : decode cX8_sparing 14 = .ok (.getfield 116, 3) := by decide +kernel
theorem dX8_sparing_17 : decode cX8_sparing 17 = .ok (.iconst 2, 1) := by decide +kernel
theorem dX8_sparing_18 : decode cX8_sparing 18 = .ok (.iaload, 1) := by decide +kernel
theorem dX8_sparing_19 : decode cX8_sparing 19 = .ok (.istore_n 2, 1) := by decide +kernel
theorem dX8_sparing_20 : decode cX8_sparing 20 = .ok (.aload_n 0, 1) := by decide +kernel
theorem dX8_sparing_21 : decode cX8_sparing 21 = .ok (.getfield 26, 3) := by decide +kernel
theorem dX8_sparing_24 : decode cX8_sparing 24 = .ok (.aload_n 0, 1) := by decide +kernel
theorem dX8_sparing_25 : decode cX8_sparing 25 = .ok (.getfield 19, 3) := by decide +kernel
theorem dX8_sparing_28 : decode cX8_sparing 28 = .ok (.iload_n 1, 1) := by decide +kernel
theorem dX8_sparing_29 : decode cX8_sparing 29 = .ok (.iload_n 2, 1) := by decide +kernel
theorem dX8_sparing_30 : decode cX8_sparing 30 = .ok (.aload_n 0, 1) := by decide +kernel
theorem dX8_sparing_31 : decode cX8_sparing 31 = .ok (.getfield 19, 3) := by decide +kernel
theorem dX8_sparing_34 : decode cX8_sparing 34 = .ok (.getfield 128, 3) := by decide +kernel
theorem dX8_sparing_37 : decode cX8_sparing 37 = .ok (.invokevirtual 211, 3) := by decide +kernel
theorem dX8_sparing_40 : decode cX8_sparing 40 = .ok (.ifCond .ne 5, 3) := by decide +kernel
theorem dX8_sparing_43 : decode cX8_sparing 43 = .ok (.iconst 0, 1) := by decide +kernel
theorem dX8_sparing_44 : decode cX8_sparing 44 = .ok (.ireturn, 1) := by decide +kernel
theorem dX8_sparing_45 : decode cX8_sparing 45 = .ok (.iconst 0, 1) := by decide +kernel
theorem dX8_sparing_46 : decode cX8_sparing 46 = .ok (.istore_n 3, 1) := by decide +kernel
theorem dX8_sparing_47 : decode cX8_sparing 47 = .ok (.iconst 0, 1) := by decide +kernel
theorem dX8_sparing_48 : decode cX8_sparing 48 = .ok (.istore 4, 2) := by decide +kernel
theorem dX8_sparing_50 : decode cX8_sparing 50 = .ok (.iload 4, 2) := by decide +kernel
theorem dX8_sparing_52 : decode cX8_sparing 52 = .ok (.bipush 32, 2) := by decide +kernel
theorem dX8_sparing_54 : decode cX8_sparing 54 = .ok (.if_icmp .ge 61, 3) := by decide +kernel
theorem dX8_sparing_57 : decode cX8_sparing 57 = .ok (.iconst 1, 1) := by decide +kernel
theorem dX8_sparing_58 : decode cX8_sparing 58 = .ok (.iload 4, 2) := by decide +kernel
theorem dX8_sparing_60 : decode cX8_sparing 60 = .ok (.ishl, 1) := by decide +kernel
theorem dX8_sparing_61 : decode cX8_sparing 61 = .ok (.istore 5, 2) := by decide +kernel
theorem dX8_sparing_63 : decode cX8_sparing 63 = .ok (.aload_n 0, 1) := by decide +kernel
theorem dX8_sparing_64 : decode cX8_sparing 64 = .ok (.getfield 19, 3) := by decide +kernel
theorem dX8_sparing_67 : decode cX8_sparing 67 = .ok (.getfield 128, 3) := by decide +kernel
theorem dX8_sparing_70 : decode cX8_sparing 70 = .ok (.iload 5, 2) := by decide +kernel
theorem dX8_sparing_72 : decode cX8_sparing 72 = .ok (.iand, 1) := by decide +kernel
theorem dX8_sparing_73 : decode cX8_sparing 73 = .ok (.ifCond .eq 36, 3) := by decide +kernel
theorem dX8_sparing_76 : decode cX8_sparing 76 = .ok (.aload_n 0, 1) := by decide +kernel
theorem dX8_sparing_77 : decode cX8_sparing 77 = .ok (.getfield 26, 3) := by decide +kernel
theorem dX8_sparing_80 : decode cX8_sparing 80 = .ok (.aload_n 0, 1) := by decide +kernel
theorem dX8_sparing_81 : decode cX8_sparing 81 = .ok (.getfield 19, 3) := by decide +kernel
theorem dX8_sparing_84 : decode cX8_sparing 84 = .ok (.iload_n 1, 1) := by decide +kernel
theorem dX8_sparing_85 : decode cX8_sparing 85 = .ok (.iload_n 2, 1) := by decide +kernel
theorem dX8_sparing_86 : decode cX8_sparing 86 = .ok (.aload_n 0, 1) := by decide +kernel
theorem dX8_sparing_87 : decode cX8_sparing 87 = .ok (.getfield 19, 3) := by decide +kernel
theorem dX8_sparing_90 : decode cX8_sparing 90 = .ok (.getfield 128, 3) := by decide +kernel
theorem dX8_sparing_93 : decode cX8_sparing 93 = .ok (.iload 5, 2) := by decide +kernel
theorem dX8_sparing_95 : decode cX8_sparing 95 = .ok (.iconst (-1), 1) := by decide +kernel
theorem dX8_sparing_96 : decode cX8_sparing 96 = .ok (.ixor, 1) := by decide +kernel
theorem dX8_sparing_97 : decode cX8_sparing 97 = .ok (.iand, 1) := by decide +kernel
theorem dX8_sparing_98 : decode cX8_sparing 98 = .ok (.invokevirtual 211, 3) := by decide +kernel
theorem dX8_sparing_101 : decode cX8_sparing 101 = .ok (.ifCond .ne 8, 3) := by decide +kernel
theorem dX8_sparing_104 : decode cX8_sparing 104 = .ok (.iload_n 3, 1) := by decide +kernel
theorem dX8_sparing_105 : decode cX8_sparing 105 = .ok (.iload 5, 2) := by decide +kernel
theorem dX8_sparing_107 : decode cX8_sparing 107 = .ok (.ior, 1) := by decide +kernel
theorem dX8_sparing_108 : decode cX8_sparing 108 = .ok (.istore_n 3, 1) := by decide +kernel
theorem dX8_sparing_109 : decode cX8_sparing 109 = .ok (.iinc 4 1, 3) := by decide +kernel
theorem dX8_sparing_112 : decode cX8_sparing 112 = .ok (.goto (-62), 3) := by decide +kernel
theorem dX8_sparing_115 : decode cX8_sparing 115 = .ok (.iload_n 3, 1) := by decide +kernel
theorem dX8_sparing_116 : decode cX8_sparing 116 = .ok (.ireturn, 1) := by decide +kernel
theorem dX8_bears_0 : decode cX8_bears 0 = .ok (.iload_n 1, 1) := by decide +kernel
theorem dX8_bears_1 : decode cX8_bears 1 = .ok (.iload_n 2, 1) := by decide +kernel
theorem dX8_bears_2 : decode cX8_bears 2 = .ok (.invokestatic 131, 3) := by decide +kernel
theorem dX8_bears_5 : decode cX8_bears 5 = .ok (.ifCond .eq 6, 3) := by decide +kernel
theorem dX8_bears_8 : decode cX8_bears 8 = .ok (.bipush (-3), 2) := by decide +kernel
theorem dX8_bears_10 : decode cX8_bears 10 = .ok (.ireturn, 1) := by decide +kernel
theorem dX8_bears_11 : decode cX8_bears 11 = .ok (.aload_n 0, 1) := by decide +kernel
theorem dX8_bears_12 : decode cX8_bears 12 = .ok (.invokevirtual 169, 3) := by decide +kernel
theorem dX8_bears_15 : decode cX8_bears 15 = .ok (.iconst 0, 1) := by decide +kernel
theorem dX8_bears_16 : decode cX8_bears 16 = .ok (.istore_n 3, 1) := by decide +kernel
theorem dX8_bears_17 : decode cX8_bears 17 = .ok (.iconst 0, 1) := by decide +kernel
theorem dX8_bears_18 : decode cX8_bears 18 = .ok (.istore 4, 2) := by decide +kernel
theorem dX8_bears_20 : decode cX8_bears 20 = .ok (.iload 4, 2) := by decide +kernel
theorem dX8_bears_22 : decode cX8_bears 22 = .ok (.bipush 32, 2) := by decide +kernel
theorem dX8_bears_24 : decode cX8_bears 24 = .ok (.if_icmp .ge 29, 3) := by decide +kernel
theorem dX8_bears_27 : decode cX8_bears 27 = .ok (.iload_n 3, 1) := by decide +kernel
theorem dX8_bears_28 : decode cX8_bears 28 = .ok (.aload_n 0, 1) := by decide +kernel
theorem dX8_bears_29 : decode cX8_bears 29 = .ok (.getfield 26, 3) := by decide +kernel
theorem dX8_bears_32 : decode cX8_bears 32 = .ok (.aload_n 0, 1) := by decide +kernel
theorem dX8_bears_33 : decode cX8_bears 33 = .ok (.getfield 19, 3) := by decide +kernel
theorem dX8_bears_36 : decode cX8_bears 36 = .ok (.iload_n 1, 1) := by decide +kernel
theorem dX8_bears_37 : decode cX8_bears 37 = .ok (.iload_n 2, 1) := by decide +kernel
theorem dX8_bears_38 : decode cX8_bears 38 = .ok (.iload 4, 2) := by decide +kernel
theorem dX8_bears_40 : decode cX8_bears 40 = .ok (.invokevirtual 215, 3) := by decide +kernel
theorem dX8_bears_43 : decode cX8_bears 43 = .ok (.invokestatic 218, 3) := by decide +kernel
theorem dX8_bears_46 : decode cX8_bears 46 = .ok (.istore_n 3, 1) := by decide +kernel
theorem dX8_bears_47 : decode cX8_bears 47 = .ok (.iinc 4 1, 3) := by decide +kernel
theorem dX8_bears_50 : decode cX8_bears 50 = .ok (.goto (-30), 3) := by decide +kernel
theorem dX8_bears_53 : decode cX8_bears 53 = .ok (.iload_n 3, 1) := by decide +kernel
theorem dX8_bears_54 : decode cX8_bears 54 = .ok (.ireturn, 1) := by decide +kernel
theorem dX8_journey_0 : decode cX8_journey 0 = .ok (.iload_n 1, 1) := by decide +kernel
theorem dX8_journey_1 : decode cX8_journey 1 = .ok (.iconst 0, 1) := by decide +kernel
theorem dX8_journey_2 : decode cX8_journey 2 = .ok (.bipush 9, 2) := by decide +kernel
theorem dX8_journey_4 : decode cX8_journey 4 = .ok (.invokestatic 55, 3) := by decide +kernel
theorem dX8_journey_7 : decode cX8_journey 7 = .ok (.ifCond .ne 23, 3) := by decide +kernel
theorem dX8_journey_10 : decode cX8_journey 10 = .ok (.iload_n 2, 1) := by decide +kernel
theorem dX8_journey_11 : decode cX8_journey 11 = .ok (.iload_n 1, 1) := by decide +kernel
theorem dX8_journey_12 : decode cX8_journey 12 = .ok (.iconst 1, 1) := by decide +kernel
theorem dX8_journey_13 : decode cX8_journey 13 = .ok (.iadd, 1) := by decide +kernel
theorem dX8_journey_14 : decode cX8_journey 14 = .ok (.bipush 9, 2) := by decide +kernel
theorem dX8_journey_16 : decode cX8_journey 16 = .ok (.invokestatic 55, 3) := by decide +kernel
theorem dX8_journey_19 : decode cX8_journey 19 = .ok (.ifCond .ne 11, 3) := by decide +kernel
theorem dX8_journey_22 : decode cX8_journey 22 = .ok (.iload 5, 2) := by decide +kernel
theorem dX8_journey_24 : decode cX8_journey 24 = .ok (.invokestatic 51, 3) := by decide +kernel
theorem dX8_journey_27 : decode cX8_journey 27 = .ok (.ifCond .eq 6, 3) := by decide +kernel
theorem dX8_journey_30 : decode cX8_journey 30 = .ok (.bipush (-2), 2) := by decide +kernel
theorem dX8_journey_32 : decode cX8_journey 32 = .ok (.ireturn, 1) := by decide +kernel
theorem dX8_journey_33 : decode cX8_journey 33 = .ok (.iload_n 3, 1) := by decide +kernel
theorem dX8_journey_34 : decode cX8_journey 34 = .ok (.iconst 0, 1) := by decide +kernel
theorem dX8_journey_35 : decode cX8_journey 35 = .ok (.bipush 23, 2) := by decide +kernel
theorem dX8_journey_37 : decode cX8_journey 37 = .ok (.invokestatic 55, 3) := by decide +kernel
theorem dX8_journey_40 : decode cX8_journey 40 = .ok (.ifCond .ne 20, 3) := by decide +kernel
theorem dX8_journey_43 : decode cX8_journey 43 = .ok (.iload 4, 2) := by decide +kernel
theorem dX8_journey_45 : decode cX8_journey 45 = .ok (.iload_n 3, 1) := by decide +kernel
theorem dX8_journey_46 : decode cX8_journey 46 = .ok (.bipush 23, 2) := by decide +kernel
theorem dX8_journey_48 : decode cX8_journey 48 = .ok (.iload_n 3, 1) := by decide +kernel
theorem dX8_journey_49 : decode cX8_journey 49 = .ok (.iconst 5, 1) := by decide +kernel
theorem dX8_journey_50 : decode cX8_journey 50 = .ok (.iadd, 1) := by decide +kernel
theorem dX8_journey_51 : decode cX8_journey 51 = .ok (.invokestatic 224, 3) := by decide +kernel
theorem dX8_journey_54 : decode cX8_journey 54 = .ok (.invokestatic 55, 3) := by decide +kernel
theorem dX8_journey_57 : decode cX8_journey 57 = .ok (.ifCond .eq 6, 3) := by decide +kernel
theorem dX8_journey_60 : decode cX8_journey 60 = .ok (.bipush (-3), 2) := by decide +kernel
theorem dX8_journey_62 : decode cX8_journey 62 = .ok (.ireturn, 1) := by decide +kernel
theorem dX8_journey_63 : decode cX8_journey 63 = .ok (.aload_n 0, 1) := by decide +kernel
theorem dX8_journey_64 : decode cX8_journey 64 = .ok (.getfield 33, 3) := by decide +kernel
theorem dX8_journey_67 : decode cX8_journey 67 = .ok (.getfield 227, 3) := by decide +kernel
theorem dX8_journey_70 : decode cX8_journey 70 = .ok (.iconst 5, 1) := by decide +kernel
theorem dX8_journey_71 : decode cX8_journey 71 = .ok (.if_icmp .lt 6, 3) := by decide +kernel
theorem dX8_journey_74 : decode cX8_journey 74 = .ok (.bipush (-5), 2) := by decide +kernel
theorem dX8_journey_76 : decode cX8_journey 76 = .ok (.ireturn, 1) := by decide +kernel
theorem dX8_journey_77 : decode cX8_journey 77 = .ok (.aload_n 0, 1) := by decide +kernel
theorem dX8_journey_78 : decode cX8_journey 78 = .ok (.getfield 33, 3) := by decide +kernel
theorem dX8_journey_81 : decode cX8_journey 81 = .ok (.getfield 227, 3) := by decide +kernel
theorem dX8_journey_84 : decode cX8_journey 84 = .ok (.istore 6, 2) := by decide +kernel
theorem dX8_journey_86 : decode cX8_journey 86 = .ok (.aload_n 0, 1) := by decide +kernel
theorem dX8_journey_87 : decode cX8_journey 87 = .ok (.getfield 33, 3) := by decide +kernel
theorem dX8_journey_90 : decode cX8_journey 90 = .ok (.getfield 230, 3) := by decide +kernel
theorem dX8_journey_93 : decode cX8_journey 93 = .ok (.iload 6, 2) := by decide +kernel
theorem dX8_journey_95 : decode cX8_journey 95 = .ok (.iload_n 1, 1) := by decide +kernel
theorem dX8_journey_96 : decode cX8_journey 96 = .ok (.iastore, 1) := by decide +kernel
theorem dX8_journey_97 : decode cX8_journey 97 = .ok (.aload_n 0, 1) := by decide +kernel
theorem dX8_journey_98 : decode cX8_journey 98 = .ok (.getfield 33, 3) := by decide +kernel
theorem dX8_journey_101 : decode cX8_journey 101 = .ok (.getfield 233, 3) := by decide +kernel
theorem dX8_journey_104 : decode cX8_journey 104 = .ok (.iload 6, 2) := by decide +kernel
theorem dX8_journey_106 : decode cX8_journey 106 = .ok (.iload_n 2, 1) := by decide +kernel
theorem dX8_journey_107 : decode cX8_journey 107 = .ok (.iastore, 1) := by decide +kernel
theorem dX8_journey_108 : decode cX8_journey 108 = .ok (.aload_n 0, 1) := by decide +kernel
theorem dX8_journey_109 : decode cX8_journey 109 = .ok (.getfield 33, 3) := by decide +kernel
theorem dX8_journey_112 : decode cX8_journey 112 = .ok (.getfield 236, 3) := by decide +kernel
theorem dX8_journey_115 : decode cX8_journey 115 = .ok (.iload 6, 2) := by decide +kernel
theorem dX8_journey_117 : decode cX8_journey 117 = .ok (.iload_n 3, 1) := by decide +kernel
theorem dX8_journey_118 : decode cX8_journey 118 = .ok (.iastore, 1) := by decide +kernel
theorem dX8_journey_119 : decode cX8_journey 119 = .ok (.aload_n 0, 1) := by decide +kernel
theorem dX8_journey_120 : decode cX8_journey 120 = .ok (.getfield 33, 3) := by decide +kernel
theorem dX8_journey_123 : decode cX8_journey 123 = .ok (.getfield 239, 3) := by decide +kernel
theorem dX8_journey_126 : decode cX8_journey 126 = .ok (.iload 6, 2) := by decide +kernel
theorem dX8_journey_128 : decode cX8_journey 128 = .ok (.iload 4, 2) := by decide +kernel
theorem dX8_journey_130 : decode cX8_journey 130 = .ok (.iastore, 1) := by decide +kernel
theorem dX8_journey_131 : decode cX8_journey 131 = .ok (.aload_n 0, 1) := by decide +kernel
theorem dX8_journey_132 : decode cX8_journey 132 = .ok (.getfield 33, 3) := by decide +kernel
theorem dX8_journey_135 : decode cX8_journey 135 = .ok (.getfield 242, 3) := by decide +kernel
theorem dX8_journey_138 : decode cX8_journey 138 = .ok (.iload 6, 2) := by decide +kernel
theorem dX8_journey_140 : decode cX8_journey 140 = .ok (.iload 5, 2) := by decide +kernel
theorem dX8_journey_142 : decode cX8_journey 142 = .ok (.iastore, 1) := by decide +kernel
theorem dX8_journey_143 : decode cX8_journey 143 = .ok (.aload_n 0, 1) := by decide +kernel
theorem dX8_journey_144 : decode cX8_journey 144 = .ok (.getfield 33, 3) := by decide +kernel
theorem dX8_journey_147 : decode cX8_journey 147 = .ok (.dup, 1) := by decide +kernel
theorem dX8_journey_148 : decode cX8_journey 148 = .ok (.getfield 227, 3) := by decide +kernel
theorem dX8_journey_151 : decode cX8_journey 151 = .ok (.iconst 1, 1) := by decide +kernel
theorem dX8_journey_152 : decode cX8_journey 152 = .ok (.iadd, 1) := by decide +kernel
theorem dX8_journey_153 : decode cX8_journey 153 = .ok (.putfield 227, 3) := by decide +kernel
theorem dX8_journey_156 : decode cX8_journey 156 = .ok (.iload 6, 2) := by decide +kernel
theorem dX8_journey_158 : decode cX8_journey 158 = .ok (.ireturn, 1) := by decide +kernel
theorem dX8_clear_0 : decode cX8_clear 0 = .ok (.aload_n 0, 1) := by decide +kernel
theorem dX8_clear_1 : decode cX8_clear 1 = .ok (.getfield 33, 3) := by decide +kernel
theorem dX8_clear_4 : decode cX8_clear 4 = .ok (.getfield 227, 3) := by decide +kernel
theorem dX8_clear_7 : decode cX8_clear 7 = .ok (.istore_n 1, 1) := by decide +kernel
theorem dX8_clear_8 : decode cX8_clear 8 = .ok (.aload_n 0, 1) := by decide +kernel
theorem dX8_clear_9 : decode cX8_clear 9 = .ok (.getfield 33, 3) := by decide +kernel
theorem dX8_clear_12 : decode cX8_clear 12 = .ok (.iconst 0, 1) := by decide +kernel
theorem dX8_clear_13 : decode cX8_clear 13 = .ok (.putfield 227, 3) := by decide +kernel
theorem dX8_clear_16 : decode cX8_clear 16 = .ok (.iload_n 1, 1) := by decide +kernel
theorem dX8_clear_17 : decode cX8_clear 17 = .ok (.ireturn, 1) := by decide +kernel
theorem dX8_best_0 : decode cX8_best 0 = .ok (.iload_n 1, 1) := by decide +kernel
theorem dX8_best_1 : decode cX8_best 1 = .ok (.iconst (-1), 1) := by decide +kernel
theorem dX8_best_2 : decode cX8_best 2 = .ok (.if_icmp .ge 6, 3) := by decide +kernel
theorem dX8_best_5 : decode cX8_best 5 = .ok (.bipush (-3), 2) := by decide +kernel
theorem dX8_best_7 : decode cX8_best 7 = .ok (.ireturn, 1) := by decide +kernel
theorem dX8_best_8 : decode cX8_best 8 = .ok (.iload_n 1, 1) := by decide +kernel
theorem dX8_best_9 : decode cX8_best 9 = .ok (.aload_n 0, 1) := by decide +kernel
theorem dX8_best_10 : decode cX8_best 10 = .ok (.getfield 33, 3) := by decide +kernel
theorem dX8_best_13 : decode cX8_best 13 = .ok (.getfield 227, 3) := by decide +kernel
theorem dX8_best_16 : decode cX8_best 16 = .ok (.if_icmp .lt 5, 3) := by decide +kernel
theorem dX8_best_19 : decode cX8_best 19 = .ok (.iconst (-1), 1) := by decide +kernel
theorem dX8_best_20 : decode cX8_best 20 = .ok (.ireturn, 1) := by decide +kernel
theorem dX8_best_21 : decode cX8_best 21 = .ok (.aload_n 0, 1) := by decide +kernel
theorem dX8_best_22 : decode cX8_best 22 = .ok (.getfield 33, 3) := by decide +kernel
theorem dX8_best_25 : decode cX8_best 25 = .ok (.aload_n 0, 1) := by decide +kernel
theorem dX8_best_26 : decode cX8_best 26 = .ok (.getfield 19, 3) := by decide +kernel
theorem dX8_best_29 : decode cX8_best 29 = .ok (.invokevirtual 245, 3) := by decide +kernel
theorem dX8_best_32 : decode cX8_best 32 = .ok (.istore_n 2, 1) := by decide +kernel
theorem dX8_best_33 : decode cX8_best 33 = .ok (.iload_n 1, 1) := by decide +kernel
theorem dX8_best_34 : decode cX8_best 34 = .ok (.iconst (-1), 1) := by decide +kernel
theorem dX8_best_35 : decode cX8_best 35 = .ok (.if_icmp .ne 7, 3) := by decide +kernel
theorem dX8_best_38 : decode cX8_best 38 = .ok (.iload_n 2, 1) := by decide +kernel
theorem dX8_best_39 : decode cX8_best 39 = .ok (.goto 12, 3) := by decide +kernel
theorem dX8_best_42 : decode cX8_best 42 = .ok (.aload_n 0, 1) := by decide +kernel
theorem dX8_best_43 : decode cX8_best 43 = .ok (.getfield 33, 3) := by decide +kernel
theorem dX8_best_46 : decode cX8_best 46 = .ok (.getfield 249, 3) := by decide +kernel
theorem dX8_best_49 : decode cX8_best 49 = .ok (.iload_n 1, 1) := by decide +kernel
theorem dX8_best_50 : decode cX8_best 50 = .ok (.iaload, 1) := by decide +kernel
theorem dX8_best_51 : decode cX8_best 51 = .ok (.ireturn, 1) := by decide +kernel
theorem dX8_judge_0 : decode cX8_judge 0 = .ok (.iconst 0, 1) := by decide +kernel
theorem dX8_judge_1 : decode cX8_judge 1 = .ok (.istore_n 2, 1) := by decide +kernel
theorem dX8_judge_2 : decode cX8_judge 2 = .ok (.iload_n 2, 1) := by decide +kernel
theorem dX8_judge_3 : decode cX8_judge 3 = .ok (.aload_n 0, 1) := by decide +kernel
theorem dX8_judge_4 : decode cX8_judge 4 = .ok (.getfield 33, 3) := by decide +kernel
theorem dX8_judge_7 : decode cX8_judge 7 = .ok (.getfield 227, 3) := by decide +kernel
theorem dX8_judge_10 : decode cX8_judge 10 = .ok (.if_icmp .ge 54, 3) := by decide +kernel
theorem dX8_judge_13 : decode cX8_judge 13 = .ok (.aload_n 0, 1) := by decide +kernel
theorem dX8_judge_14 : decode cX8_judge 14 = .ok (.getfield 33, 3) := by decide +kernel
theorem dX8_judge_17 : decode cX8_judge 17 = .ok (.getfield 236, 3) := by decide +kernel
theorem dX8_judge_20 : decode cX8_judge 20 = .ok (.iload_n 2, 1) := by decide +kernel
theorem dX8_judge_21 : decode cX8_judge 21 = .ok (.iaload, 1) := by decide +kernel
theorem dX8_judge_22 : decode cX8_judge 22 = .ok (.iload_n 1, 1) := by decide +kernel
theorem dX8_judge_23 : decode cX8_judge 23 = .ok (.iconst 3, 1) := by decide +kernel
theorem dX8_judge_24 : decode cX8_judge 24 = .ok (.iload_n 2, 1) := by decide +kernel
theorem dX8_judge_25 : decode cX8_judge 25 = .ok (.imul, 1) := by decide +kernel
theorem dX8_judge_26 : decode cX8_judge 26 = .ok (.ishr, 1) := by decide +kernel
theorem dX8_judge_27 : decode cX8_judge 27 = .ok (.bipush 7, 2) := by decide +kernel
theorem dX8_judge_29 : decode cX8_judge 29 = .ok (.iand, 1) := by decide +kernel
theorem dX8_judge_30 : decode cX8_judge 30 = .ok (.iadd, 1) := by decide +kernel
theorem dX8_judge_31 : decode cX8_judge 31 = .ok (.istore_n 3, 1) := by decide +kernel
theorem dX8_judge_32 : decode cX8_judge 32 = .ok (.iload_n 3, 1) := by decide +kernel
theorem dX8_judge_33 : decode cX8_judge 33 = .ok (.aload_n 0, 1) := by decide +kernel
theorem dX8_judge_34 : decode cX8_judge 34 = .ok (.getfield 33, 3) := by decide +kernel
theorem dX8_judge_37 : decode cX8_judge 37 = .ok (.getfield 239, 3) := by decide +kernel
theorem dX8_judge_40 : decode cX8_judge 40 = .ok (.iload_n 2, 1) := by decide +kernel
theorem dX8_judge_41 : decode cX8_judge 41 = .ok (.iaload, 1) := by decide +kernel
theorem dX8_judge_42 : decode cX8_judge 42 = .ok (.if_icmp .le 6, 3) := by decide +kernel
theorem dX8_judge_45 : decode cX8_judge 45 = .ok (.bipush (-3), 2) := by decide +kernel
theorem dX8_judge_47 : decode cX8_judge 47 = .ok (.ireturn, 1) := by decide +kernel
theorem dX8_judge_48 : decode cX8_judge 48 = .ok (.aload_n 0, 1) := by decide +kernel
theorem dX8_judge_49 : decode cX8_judge 49 = .ok (.getfield 33, 3) := by decide +kernel
theorem dX8_judge_52 : decode cX8_judge 52 = .ok (.getfield 252, 3) := by decide +kernel
theorem dX8_judge_55 : decode cX8_judge 55 = .ok (.iload_n 2, 1) := by decide +kernel
theorem dX8_judge_56 : decode cX8_judge 56 = .ok (.iload_n 3, 1) := by decide +kernel
theorem dX8_judge_57 : decode cX8_judge 57 = .ok (.iastore, 1) := by decide +kernel
theorem dX8_judge_58 : decode cX8_judge 58 = .ok (.iinc 2 1, 3) := by decide +kernel
theorem dX8_judge_61 : decode cX8_judge 61 = .ok (.goto (-59), 3) := by decide +kernel
theorem dX8_judge_64 : decode cX8_judge 64 = .ok (.aload_n 0, 1) := by decide +kernel
theorem dX8_judge_65 : decode cX8_judge 65 = .ok (.getfield 33, 3) := by decide +kernel
theorem dX8_judge_68 : decode cX8_judge 68 = .ok (.aload_n 0, 1) := by decide +kernel
theorem dX8_judge_69 : decode cX8_judge 69 = .ok (.getfield 19, 3) := by decide +kernel
theorem dX8_judge_72 : decode cX8_judge 72 = .ok (.invokevirtual 255, 3) := by decide +kernel
theorem dX8_judge_75 : decode cX8_judge 75 = .ok (.ireturn, 1) := by decide +kernel
theorem dX8_spared_0 : decode cX8_spared 0 = .ok (.iload_n 1, 1) := by decide +kernel
theorem dX8_spared_1 : decode cX8_spared 1 = .ok (.invokestatic 258, 3) := by decide +kernel
theorem dX8_spared_4 : decode cX8_spared 4 = .ok (.ifCond .ne 15, 3) := by decide +kernel
theorem dX8_spared_7 : decode cX8_spared 7 = .ok (.iload_n 2, 1) := by decide +kernel
theorem dX8_spared_8 : decode cX8_spared 8 = .ok (.invokestatic 258, 3) := by decide +kernel
theorem dX8_spared_11 : decode cX8_spared 11 = .ok (.ifCond .ne 8, 3) := by decide +kernel
theorem dX8_spared_14 : decode cX8_spared 14 = .ok (.iload_n 1, 1) := by decide +kernel
theorem dX8_spared_15 : decode cX8_spared 15 = .ok (.iload_n 2, 1) := by decide +kernel
theorem dX8_spared_16 : decode cX8_spared 16 = .ok (.if_icmp .ne 6, 3) := by decide +kernel
theorem dX8_spared_19 : decode cX8_spared 19 = .ok (.bipush (-2), 2) := by decide +kernel
theorem dX8_spared_21 : decode cX8_spared 21 = .ok (.ireturn, 1) := by decide +kernel
theorem dX8_spared_22 : decode cX8_spared 22 = .ok (.iload_n 3, 1) := by decide +kernel
theorem dX8_spared_23 : decode cX8_spared 23 = .ok (.iconst 0, 1) := by decide +kernel
theorem dX8_spared_24 : decode cX8_spared 24 = .ok (.bipush 99, 2) := by decide +kernel
theorem dX8_spared_26 : decode cX8_spared 26 = .ok (.invokestatic 55, 3) := by decide +kernel
theorem dX8_spared_29 : decode cX8_spared 29 = .ok (.ifCond .eq 6, 3) := by decide +kernel
theorem dX8_spared_32 : decode cX8_spared 32 = .ok (.bipush (-3), 2) := by decide +kernel
theorem dX8_spared_34 : decode cX8_spared 34 = .ok (.ireturn, 1) := by decide +kernel
theorem dX8_spared_35 : decode cX8_spared 35 = .ok (.aload_n 0, 1) := by decide +kernel
theorem dX8_spared_36 : decode cX8_spared 36 = .ok (.getfield 40, 3) := by decide +kernel
theorem dX8_spared_39 : decode cX8_spared 39 = .ok (.getfield 261, 3) := by decide +kernel
theorem dX8_spared_42 : decode cX8_spared 42 = .ok (.iload_n 1, 1) := by decide +kernel
theorem dX8_spared_43 : decode cX8_spared 43 = .ok (.aaload, 1) := by decide +kernel
theorem dX8_spared_44 : decode cX8_spared 44 = .ok (.iload_n 2, 1) := by decide +kernel
theorem dX8_spared_45 : decode cX8_spared 45 = .ok (.iaload, 1) := by decide +kernel
theorem dX8_spared_46 : decode cX8_spared 46 = .ok (.istore 4, 2) := by decide +kernel
theorem dX8_spared_48 : decode cX8_spared 48 = .ok (.aload_n 0, 1) := by decide +kernel
theorem dX8_spared_49 : decode cX8_spared 49 = .ok (.getfield 40, 3) := by decide +kernel
theorem dX8_spared_52 : decode cX8_spared 52 = .ok (.getfield 261, 3) := by decide +kernel
theorem dX8_spared_55 : decode cX8_spared 55 = .ok (.iload_n 1, 1) := by decide +kernel
theorem dX8_spared_56 : decode cX8_spared 56 = .ok (.aaload, 1) := by decide +kernel
theorem dX8_spared_57 : decode cX8_spared 57 = .ok (.iload_n 2, 1) := by decide +kernel
theorem dX8_spared_58 : decode cX8_spared 58 = .ok (.iload_n 3, 1) := by decide +kernel
theorem dX8_spared_59 : decode cX8_spared 59 = .ok (.iastore, 1) := by decide +kernel
theorem dX8_spared_60 : decode cX8_spared 60 = .ok (.iload 4, 2) := by decide +kernel
theorem dX8_spared_62 : decode cX8_spared 62 = .ok (.ireturn, 1) := by decide +kernel
theorem dX8_together_0 : decode cX8_together 0 = .ok (.iload_n 1, 1) := by decide +kernel
theorem dX8_together_1 : decode cX8_together 1 = .ok (.iconst 0, 1) := by decide +kernel
theorem dX8_together_2 : decode cX8_together 2 = .ok (.bipush 63, 2) := by decide +kernel
theorem dX8_together_4 : decode cX8_together 4 = .ok (.invokestatic 55, 3) := by decide +kernel
theorem dX8_together_7 : decode cX8_together 7 = .ok (.ifCond .eq 6, 3) := by decide +kernel
theorem dX8_together_10 : decode cX8_together 10 = .ok (.bipush (-3), 2) := by decide +kernel
theorem dX8_together_12 : decode cX8_together 12 = .ok (.ireturn, 1) := by decide +kernel
theorem dX8_together_13 : decode cX8_together 13 = .ok (.aload_n 0, 1) := by decide +kernel
theorem dX8_together_14 : decode cX8_together 14 = .ok (.getfield 40, 3) := by decide +kernel
theorem dX8_together_17 : decode cX8_together 17 = .ok (.iload_n 1, 1) := by decide +kernel
theorem dX8_together_18 : decode cX8_together 18 = .ok (.invokevirtual 264, 3) := by decide +kernel
theorem dX8_together_21 : decode cX8_together 21 = .ok (.ireturn, 1) := by decide +kernel
theorem dX8_share_0 : decode cX8_share 0 = .ok (.iload_n 1, 1) := by decide +kernel
theorem dX8_share_1 : decode cX8_share 1 = .ok (.invokestatic 258, 3) := by decide +kernel
theorem dX8_share_4 : decode cX8_share 4 = .ok (.ifCond .eq 6, 3) := by decide +kernel
theorem dX8_share_7 : decode cX8_share 7 = .ok (.bipush (-2), 2) := by decide +kernel
theorem dX8_share_9 : decode cX8_share 9 = .ok (.ireturn, 1) := by decide +kernel
theorem dX8_share_10 : decode cX8_share 10 = .ok (.iload_n 2, 1) := by decide +kernel
theorem dX8_share_11 : decode cX8_share 11 = .ok (.iconst 1, 1) := by decide +kernel
theorem dX8_share_12 : decode cX8_share 12 = .ok (.bipush 6, 2) := by decide +kernel
theorem dX8_share_14 : decode cX8_share 14 = .ok (.invokestatic 55, 3) := by decide +kernel
theorem dX8_share_17 : decode cX8_share 17 = .ok (.ifCond .eq 6, 3) := by decide +kernel
theorem dX8_share_20 : decode cX8_share 20 = .ok (.bipush (-3), 2) := by decide +kernel
theorem dX8_share_22 : decode cX8_share 22 = .ok (.ireturn, 1) := by decide +kernel
theorem dX8_share_23 : decode cX8_share 23 = .ok (.iload_n 1, 1) := by decide +kernel
theorem dX8_share_24 : decode cX8_share 24 = .ok (.iload_n 2, 1) := by decide +kernel
theorem dX8_share_25 : decode cX8_share 25 = .ok (.if_icmp .lt 6, 3) := by decide +kernel
theorem dX8_share_28 : decode cX8_share 28 = .ok (.bipush (-2), 2) := by decide +kernel
theorem dX8_share_30 : decode cX8_share 30 = .ok (.ireturn, 1) := by decide +kernel
theorem dX8_share_31 : decode cX8_share 31 = .ok (.iload_n 3, 1) := by decide +kernel
theorem dX8_share_32 : decode cX8_share 32 = .ok (.tableswitch 58 0 2 #[28, 38, 48], 28) := by decide +kernel
theorem dX8_share_60 : decode cX8_share 60 = .ok (.aload_n 0, 1) := by decide +kernel
theorem dX8_share_61 : decode cX8_share 61 = .ok (.getfield 40, 3) := by decide +kernel
theorem dX8_share_64 : decode cX8_share 64 = .ok (.iload_n 1, 1) := by decide +kernel
theorem dX8_share_65 : decode cX8_share 65 = .ok (.iload_n 2, 1) := by decide +kernel
theorem dX8_share_66 : decode cX8_share 66 = .ok (.invokevirtual 267, 3) := by decide +kernel
theorem dX8_share_69 : decode cX8_share 69 = .ok (.ireturn, 1) := by decide +kernel
theorem dX8_share_70 : decode cX8_share 70 = .ok (.aload_n 0, 1) := by decide +kernel
theorem dX8_share_71 : decode cX8_share 71 = .ok (.getfield 40, 3) := by decide +kernel
theorem dX8_share_74 : decode cX8_share 74 = .ok (.iload_n 1, 1) := by decide +kernel
theorem dX8_share_75 : decode cX8_share 75 = .ok (.iload_n 2, 1) := by decide +kernel
theorem dX8_share_76 : decode cX8_share 76 = .ok (.invokevirtual 270, 3) := by decide +kernel
theorem dX8_share_79 : decode cX8_share 79 = .ok (.ireturn, 1) := by decide +kernel
theorem dX8_share_80 : decode cX8_share 80 = .ok (.aload_n 0, 1) := by decide +kernel
theorem dX8_share_81 : decode cX8_share 81 = .ok (.getfield 40, 3) := by decide +kernel
theorem dX8_share_84 : decode cX8_share 84 = .ok (.iload_n 1, 1) := by decide +kernel
theorem dX8_share_85 : decode cX8_share 85 = .ok (.iload_n 2, 1) := by decide +kernel
theorem dX8_share_86 : decode cX8_share 86 = .ok (.invokevirtual 273, 3) := by decide +kernel
theorem dX8_share_89 : decode cX8_share 89 = .ok (.ireturn, 1) := by decide +kernel
theorem dX8_share_90 : decode cX8_share 90 = .ok (.bipush (-3), 2) := by decide +kernel
theorem dX8_share_92 : decode cX8_share 92 = .ok (.ireturn, 1) := by decide +kernel
theorem dX8_clock_0 : decode cX8_clock 0 = .ok (.iload_n 1, 1) := by decide +kernel
theorem dX8_clock_1 : decode cX8_clock 1 = .ok (.invokestatic 276, 3) := by decide +kernel
theorem dX8_clock_4 : decode cX8_clock 4 = .ok (.ifCond .eq 6, 3) := by decide +kernel
theorem dX8_clock_7 : decode cX8_clock 7 = .ok (.bipush (-2), 2) := by decide +kernel
theorem dX8_clock_9 : decode cX8_clock 9 = .ok (.ireturn, 1) := by decide +kernel
theorem dX8_clock_10 : decode cX8_clock 10 = .ok (.iload_n 2, 1) := by decide +kernel
theorem dX8_clock_11 : decode cX8_clock 11 = .ok (.iconst 0, 1) := by decide +kernel
theorem dX8_clock_12 : decode cX8_clock 12 = .ok (.bipush 60, 2) := by decide +kernel
theorem dX8_clock_14 : decode cX8_clock 14 = .ok (.invokestatic 55, 3) := by decide +kernel
theorem dX8_clock_17 : decode cX8_clock 17 = .ok (.ifCond .eq 6, 3) := by decide +kernel
theorem dX8_clock_20 : decode cX8_clock 20 = .ok (.bipush (-3), 2) := by decide +kernel
theorem dX8_clock_22 : decode cX8_clock 22 = .ok (.ireturn, 1) := by decide +kernel
theorem dX8_clock_23 : decode cX8_clock 23 = .ok (.aload_n 0, 1) := by decide +kernel
theorem dX8_clock_24 : decode cX8_clock 24 = .ok (.getfield 47, 3) := by decide +kernel
theorem dX8_clock_27 : decode cX8_clock 27 = .ok (.getfield 279, 3) := by decide +kernel
theorem dX8_clock_30 : decode cX8_clock 30 = .ok (.iload_n 1, 1) := by decide +kernel
theorem dX8_clock_31 : decode cX8_clock 31 = .ok (.iaload, 1) := by decide +kernel
theorem dX8_clock_32 : decode cX8_clock 32 = .ok (.istore_n 3, 1) := by decide +kernel
theorem dX8_clock_33 : decode cX8_clock 33 = .ok (.aload_n 0, 1) := by decide +kernel
theorem dX8_clock_34 : decode cX8_clock 34 = .ok (.getfield 47, 3) := by decide +kernel
theorem dX8_clock_37 : decode cX8_clock 37 = .ok (.getfield 279, 3) := by decide +kernel
theorem dX8_clock_40 : decode cX8_clock 40 = .ok (.iload_n 1, 1) := by decide +kernel
theorem dX8_clock_41 : decode cX8_clock 41 = .ok (.iload_n 2, 1) := by decide +kernel
theorem dX8_clock_42 : decode cX8_clock 42 = .ok (.iastore, 1) := by decide +kernel
theorem dX8_clock_43 : decode cX8_clock 43 = .ok (.iload_n 3, 1) := by decide +kernel
theorem dX8_clock_44 : decode cX8_clock 44 = .ok (.ireturn, 1) := by decide +kernel
theorem dX8_event_0 : decode cX8_event 0 = .ok (.iload_n 1, 1) := by decide +kernel
theorem dX8_event_1 : decode cX8_event 1 = .ok (.invokestatic 276, 3) := by decide +kernel
theorem dX8_event_4 : decode cX8_event 4 = .ok (.ifCond .eq 6, 3) := by decide +kernel
theorem dX8_event_7 : decode cX8_event 7 = .ok (.bipush (-2), 2) := by decide +kernel
theorem dX8_event_9 : decode cX8_event 9 = .ok (.ireturn, 1) := by decide +kernel
theorem dX8_event_10 : decode cX8_event 10 = .ok (.iload_n 2, 1) := by decide +kernel
theorem dX8_event_11 : decode cX8_event 11 = .ok (.iconst 0, 1) := by decide +kernel
theorem dX8_event_12 : decode cX8_event 12 = .ok (.sipush 999, 3) := by decide +kernel
theorem dX8_event_15 : decode cX8_event 15 = .ok (.invokestatic 55, 3) := by decide +kernel
theorem dX8_event_18 : decode cX8_event 18 = .ok (.ifCond .eq 6, 3) := by decide +kernel
theorem dX8_event_21 : decode cX8_event 21 = .ok (.bipush (-3), 2) := by decide +kernel
theorem dX8_event_23 : decode cX8_event 23 = .ok (.ireturn, 1) := by decide +kernel
theorem dX8_event_24 : decode cX8_event 24 = .ok (.aload_n 0, 1) := by decide +kernel
theorem dX8_event_25 : decode cX8_event 25 = .ok (.getfield 47, 3) := by decide +kernel
theorem dX8_event_28 : decode cX8_event 28 = .ok (.getfield 282, 3) := by decide +kernel
theorem dX8_event_31 : decode cX8_event 31 = .ok (.bipush 12, 2) := by decide +kernel
theorem dX8_event_33 : decode cX8_event 33 = .ok (.if_icmp .lt 6, 3) := by decide +kernel
theorem dX8_event_36 : decode cX8_event 36 = .ok (.bipush (-5), 2) := by decide +kernel
theorem dX8_event_38 : decode cX8_event 38 = .ok (.ireturn, 1) := by decide +kernel
theorem dX8_event_39 : decode cX8_event 39 = .ok (.aload_n 0, 1) := by decide +kernel
theorem dX8_event_40 : decode cX8_event 40 = .ok (.getfield 47, 3) := by decide +kernel
theorem dX8_event_43 : decode cX8_event 43 = .ok (.getfield 282, 3) := by decide +kernel
theorem dX8_event_46 : decode cX8_event 46 = .ok (.istore_n 3, 1) := by decide +kernel
theorem dX8_event_47 : decode cX8_event 47 = .ok (.aload_n 0, 1) := by decide +kernel
theorem dX8_event_48 : decode cX8_event 48 = .ok (.getfield 47, 3) := by decide +kernel
theorem dX8_event_51 : decode cX8_event 51 = .ok (.getfield 285, 3) := by decide +kernel
theorem dX8_event_54 : decode cX8_event 54 = .ok (.iload_n 3, 1) := by decide +kernel
theorem dX8_event_55 : decode cX8_event 55 = .ok (.iload_n 1, 1) := by decide +kernel
theorem dX8_event_56 : decode cX8_event 56 = .ok (.iastore, 1) := by decide +kernel
theorem dX8_event_57 : decode cX8_event 57 = .ok (.aload_n 0, 1) := by decide +kernel
theorem dX8_event_58 : decode cX8_event 58 = .ok (.getfield 47, 3) := by decide +kernel
theorem dX8_event_61 : decode cX8_event 61 = .ok (.getfield 288, 3) := by decide +kernel
theorem dX8_event_64 : decode cX8_event 64 = .ok (.iload_n 3, 1) := by decide +kernel
theorem dX8_event_65 : decode cX8_event 65 = .ok (.iload_n 2, 1) := by decide +kernel
theorem dX8_event_66 : decode cX8_event 66 = .ok (.iastore, 1) := by decide +kernel
theorem dX8_event_67 : decode cX8_event 67 = .ok (.aload_n 0, 1) := by decide +kernel
theorem dX8_event_68 : decode cX8_event 68 = .ok (.getfield 47, 3) := by decide +kernel
theorem dX8_event_71 : decode cX8_event 71 = .ok (.dup, 1) := by decide +kernel
theorem dX8_event_72 : decode cX8_event 72 = .ok (.getfield 282, 3) := by decide +kernel
theorem dX8_event_75 : decode cX8_event 75 = .ok (.iconst 1, 1) := by decide +kernel
theorem dX8_event_76 : decode cX8_event 76 = .ok (.iadd, 1) := by decide +kernel
theorem dX8_event_77 : decode cX8_event 77 = .ok (.putfield 282, 3) := by decide +kernel
theorem dX8_event_80 : decode cX8_event 80 = .ok (.iload_n 3, 1) := by decide +kernel
theorem dX8_event_81 : decode cX8_event 81 = .ok (.ireturn, 1) := by decide +kernel
theorem dX8_after_0 : decode cX8_after 0 = .ok (.aload_n 0, 1) := by decide +kernel
theorem dX8_after_1 : decode cX8_after 1 = .ok (.iload_n 1, 1) := by decide +kernel
theorem dX8_after_2 : decode cX8_after 2 = .ok (.invokevirtual 291, 3) := by decide +kernel
theorem dX8_after_5 : decode cX8_after 5 = .ok (.ifCond .ne 16, 3) := by decide +kernel
theorem dX8_after_8 : decode cX8_after 8 = .ok (.aload_n 0, 1) := by decide +kernel
theorem dX8_after_9 : decode cX8_after 9 = .ok (.iload_n 2, 1) := by decide +kernel
theorem dX8_after_10 : decode cX8_after 10 = .ok (.invokevirtual 291, 3) := by decide +kernel
theorem dX8_after_13 : decode cX8_after 13 = .ok (.ifCond .ne 8, 3) := by decide +kernel
theorem dX8_after_16 : decode cX8_after 16 = .ok (.iload_n 1, 1) := by decide +kernel
theorem dX8_after_17 : decode cX8_after 17 = .ok (.iload_n 2, 1) := by decide +kernel
theorem dX8_after_18 : decode cX8_after 18 = .ok (.if_icmp .ne 6, 3) := by decide +kernel
theorem dX8_after_21 : decode cX8_after 21 = .ok (.bipush (-2), 2) := by decide +kernel
theorem dX8_after_23 : decode cX8_after 23 = .ok (.ireturn, 1) := by decide +kernel
theorem dX8_after_24 : decode cX8_after 24 = .ok (.iload_n 3, 1) := by decide +kernel
theorem dX8_after_25 : decode cX8_after 25 = .ok (.iconst 0, 1) := by decide +kernel
theorem dX8_after_26 : decode cX8_after 26 = .ok (.bipush 99, 2) := by decide +kernel
theorem dX8_after_28 : decode cX8_after 28 = .ok (.invokestatic 55, 3) := by decide +kernel
theorem dX8_after_31 : decode cX8_after 31 = .ok (.ifCond .eq 6, 3) := by decide +kernel
theorem dX8_after_34 : decode cX8_after 34 = .ok (.bipush (-3), 2) := by decide +kernel
theorem dX8_after_36 : decode cX8_after 36 = .ok (.ireturn, 1) := by decide +kernel
theorem dX8_after_37 : decode cX8_after 37 = .ok (.aload_n 0, 1) := by decide +kernel
theorem dX8_after_38 : decode cX8_after 38 = .ok (.getfield 47, 3) := by decide +kernel
theorem dX8_after_41 : decode cX8_after 41 = .ok (.getfield 294, 3) := by decide +kernel
theorem dX8_after_44 : decode cX8_after 44 = .ok (.bipush 12, 2) := by decide +kernel
theorem dX8_after_46 : decode cX8_after 46 = .ok (.if_icmp .lt 6, 3) := by decide +kernel
theorem dX8_after_49 : decode cX8_after 49 = .ok (.bipush (-5), 2) := by decide +kernel
theorem dX8_after_51 : decode cX8_after 51 = .ok (.ireturn, 1) := by decide +kernel
theorem dX8_after_52 : decode cX8_after 52 = .ok (.aload_n 0, 1) := by decide +kernel
theorem dX8_after_53 : decode cX8_after 53 = .ok (.getfield 47, 3) := by decide +kernel
theorem dX8_after_56 : decode cX8_after 56 = .ok (.getfield 297, 3) := by decide +kernel
theorem dX8_after_59 : decode cX8_after 59 = .ok (.aload_n 0, 1) := by decide +kernel
theorem dX8_after_60 : decode cX8_after 60 = .ok (.getfield 47, 3) := by decide +kernel
theorem dX8_after_63 : decode cX8_after 63 = .ok (.getfield 294, 3) := by decide +kernel
theorem dX8_after_66 : decode cX8_after 66 = .ok (.iload_n 1, 1) := by decide +kernel
theorem dX8_after_67 : decode cX8_after 67 = .ok (.iastore, 1) := by decide +kernel
theorem dX8_after_68 : decode cX8_after 68 = .ok (.aload_n 0, 1) := by decide +kernel
theorem dX8_after_69 : decode cX8_after 69 = .ok (.getfield 47, 3) := by decide +kernel
theorem dX8_after_72 : decode cX8_after 72 = .ok (.getfield 300, 3) := by decide +kernel
theorem dX8_after_75 : decode cX8_after 75 = .ok (.aload_n 0, 1) := by decide +kernel
theorem dX8_after_76 : decode cX8_after 76 = .ok (.getfield 47, 3) := by decide +kernel
theorem dX8_after_79 : decode cX8_after 79 = .ok (.getfield 294, 3) := by decide +kernel
theorem dX8_after_82 : decode cX8_after 82 = .ok (.iload_n 2, 1) := by decide +kernel
theorem dX8_after_83 : decode cX8_after 83 = .ok (.iastore, 1) := by decide +kernel
theorem dX8_after_84 : decode cX8_after 84 = .ok (.aload_n 0, 1) := by decide +kernel
theorem dX8_after_85 : decode cX8_after 85 = .ok (.getfield 47, 3) := by decide +kernel
theorem dX8_after_88 : decode cX8_after 88 = .ok (.getfield 303, 3) := by decide +kernel
theorem dX8_after_91 : decode cX8_after 91 = .ok (.aload_n 0, 1) := by decide +kernel
theorem dX8_after_92 : decode cX8_after 92 = .ok (.getfield 47, 3) := by decide +kernel
theorem dX8_after_95 : decode cX8_after 95 = .ok (.getfield 294, 3) := by decide +kernel
theorem dX8_after_98 : decode cX8_after 98 = .ok (.iload_n 3, 1) := by decide +kernel
theorem dX8_after_99 : decode cX8_after 99 = .ok (.iastore, 1) := by decide +kernel
theorem dX8_after_100 : decode cX8_after 100 = .ok (.aload_n 0, 1) := by decide +kernel
theorem dX8_after_101 : decode cX8_after 101 = .ok (.getfield 47, 3) := by decide +kernel
theorem dX8_after_104 : decode cX8_after 104 = .ok (.dup, 1) := by decide +kernel
theorem dX8_after_105 : decode cX8_after 105 = .ok (.getfield 294, 3) := by decide +kernel
theorem dX8_after_108 : decode cX8_after 108 = .ok (.iconst 1, 1) := by decide +kernel
theorem dX8_after_109 : decode cX8_after 109 = .ok (.iadd, 1) := by decide +kernel
theorem dX8_after_110 : decode cX8_after 110 = .ok (.putfield 294, 3) := by decide +kernel
theorem dX8_after_113 : decode cX8_after 113 = .ok (.aload_n 0, 1) := by decide +kernel
theorem dX8_after_114 : decode cX8_after 114 = .ok (.getfield 47, 3) := by decide +kernel
theorem dX8_after_117 : decode cX8_after 117 = .ok (.getfield 294, 3) := by decide +kernel
theorem dX8_after_120 : decode cX8_after 120 = .ok (.ireturn, 1) := by decide +kernel
theorem dX8_agree_0 : decode cX8_agree 0 = .ok (.aload_n 0, 1) := by decide +kernel
theorem dX8_agree_1 : decode cX8_agree 1 = .ok (.getfield 47, 3) := by decide +kernel
theorem dX8_agree_4 : decode cX8_agree 4 = .ok (.invokevirtual 306, 3) := by decide +kernel
theorem dX8_agree_7 : decode cX8_agree 7 = .ok (.ifCond .eq 7, 3) := by decide +kernel
theorem dX8_agree_10 : decode cX8_agree 10 = .ok (.iconst 1, 1) := by decide +kernel
theorem dX8_agree_11 : decode cX8_agree 11 = .ok (.goto 4, 3) := by decide +kernel
theorem dX8_agree_14 : decode cX8_agree 14 = .ok (.iconst 0, 1) := by decide +kernel
theorem dX8_agree_15 : decode cX8_agree 15 = .ok (.ireturn, 1) := by decide +kernel
theorem dX8_span_0 : decode cX8_span 0 = .ok (.aload_n 0, 1) := by decide +kernel
theorem dX8_span_1 : decode cX8_span 1 = .ok (.iload_n 1, 1) := by decide +kernel
theorem dX8_span_2 : decode cX8_span 2 = .ok (.invokevirtual 291, 3) := by decide +kernel
theorem dX8_span_5 : decode cX8_span 5 = .ok (.ifCond .ne 22, 3) := by decide +kernel
theorem dX8_span_8 : decode cX8_span 8 = .ok (.iload_n 2, 1) := by decide +kernel
theorem dX8_span_9 : decode cX8_span 9 = .ok (.iconst 0, 1) := by decide +kernel
theorem dX8_span_10 : decode cX8_span 10 = .ok (.iconst 1, 1) := by decide +kernel
theorem dX8_span_11 : decode cX8_span 11 = .ok (.invokestatic 55, 3) := by decide +kernel
theorem dX8_span_14 : decode cX8_span 14 = .ok (.ifCond .ne 13, 3) := by decide +kernel
theorem dX8_span_17 : decode cX8_span 17 = .ok (.aload_n 0, 1) := by decide +kernel
theorem dX8_span_18 : decode cX8_span 18 = .ok (.getfield 47, 3) := by decide +kernel
theorem dX8_span_21 : decode cX8_span 21 = .ok (.invokevirtual 306, 3) := by decide +kernel
theorem dX8_span_24 : decode cX8_span 24 = .ok (.ifCond .ne 6, 3) := by decide +kernel
theorem dX8_span_27 : decode cX8_span 27 = .ok (.ldc 168, 2) := by decide +kernel
theorem dX8_span_29 : decode cX8_span 29 = .ok (.ireturn, 1) := by decide +kernel
theorem dX8_span_30 : decode cX8_span 30 = .ok (.iload_n 2, 1) := by decide +kernel
theorem dX8_span_31 : decode cX8_span 31 = .ok (.ifCond .ne 14, 3) := by decide +kernel
theorem dX8_span_34 : decode cX8_span 34 = .ok (.aload_n 0, 1) := by decide +kernel
theorem dX8_span_35 : decode cX8_span 35 = .ok (.getfield 47, 3) := by decide +kernel
theorem dX8_span_38 : decode cX8_span 38 = .ok (.iload_n 1, 1) := by decide +kernel
theorem dX8_span_39 : decode cX8_span 39 = .ok (.invokevirtual 310, 3) := by decide +kernel
theorem dX8_span_42 : decode cX8_span 42 = .ok (.goto 11, 3) := by decide +kernel
theorem dX8_span_45 : decode cX8_span 45 = .ok (.aload_n 0, 1) := by decide +kernel
theorem dX8_span_46 : decode cX8_span 46 = .ok (.getfield 47, 3) := by decide +kernel
theorem dX8_span_49 : decode cX8_span 49 = .ok (.iload_n 1, 1) := by decide +kernel
theorem dX8_span_50 : decode cX8_span 50 = .ok (.invokevirtual 313, 3) := by decide +kernel
theorem dX8_span_53 : decode cX8_span 53 = .ok (.ireturn, 1) := by decide +kernel
theorem dX8_count_0 : decode cX8_count 0 = .ok (.iload_n 1, 1) := by decide +kernel
theorem dX8_count_1 : decode cX8_count 1 = .ok (.tableswitch 99 0 6 #[43, 51, 59, 67, 75, 83, 91], 43) := by decide +kernel
theorem dX8_count_44 : decode cX8_count 44 = .ok (.aload_n 0, 1) := by decide +kernel
theorem dX8_count_45 : decode cX8_count 45 = .ok (.getfield 19, 3) := by decide +kernel
theorem dX8_count_48 : decode cX8_count 48 = .ok (.getfield 103, 3) := by decide +kernel
theorem dX8_count_51 : decode cX8_count 51 = .ok (.ireturn, 1) := by decide +kernel
theorem dX8_count_52 : decode cX8_count 52 = .ok (.aload_n 0, 1) := by decide +kernel
theorem dX8_count_53 : decode cX8_count 53 = .ok (.getfield 19, 3) := by decide +kernel
theorem dX8_count_56 : decode cX8_count 56 = .ok (.getfield 119, 3) := by decide +kernel
theorem dX8_count_59 : decode cX8_count 59 = .ok (.ireturn, 1) := by decide +kernel
theorem dX8_count_60 : decode cX8_count 60 = .ok (.aload_n 0, 1) := by decide +kernel
theorem dX8_count_61 : decode cX8_count 61 = .ok (.getfield 19, 3) := by decide +kernel
theorem dX8_count_64 : decode cX8_count 64 = .ok (.getfield 135, 3) := by decide +kernel
theorem dX8_count_67 : decode cX8_count 67 = .ok (.ireturn, 1) := by decide +kernel
theorem dX8_count_68 : decode cX8_count 68 = .ok (.aload_n 0, 1) := by decide +kernel
theorem dX8_count_69 : decode cX8_count 69 = .ok (.getfield 33, 3) := by decide +kernel
theorem dX8_count_72 : decode cX8_count 72 = .ok (.getfield 227, 3) := by decide +kernel
theorem dX8_count_75 : decode cX8_count 75 = .ok (.ireturn, 1) := by decide +kernel
theorem dX8_count_76 : decode cX8_count 76 = .ok (.aload_n 0, 1) := by decide +kernel
theorem dX8_count_77 : decode cX8_count 77 = .ok (.getfield 47, 3) := by decide +kernel
theorem dX8_count_80 : decode cX8_count 80 = .ok (.getfield 282, 3) := by decide +kernel
theorem dX8_count_83 : decode cX8_count 83 = .ok (.ireturn, 1) := by decide +kernel
theorem dX8_count_84 : decode cX8_count 84 = .ok (.aload_n 0, 1) := by decide +kernel
theorem dX8_count_85 : decode cX8_count 85 = .ok (.getfield 47, 3) := by decide +kernel
theorem dX8_count_88 : decode cX8_count 88 = .ok (.getfield 294, 3) := by decide +kernel
theorem dX8_count_91 : decode cX8_count 91 = .ok (.ireturn, 1) := by decide +kernel
theorem dX8_count_92 : decode cX8_count 92 = .ok (.aload_n 0, 1) := by decide +kernel
theorem dX8_count_93 : decode cX8_count 93 = .ok (.getfield 10, 3) := by decide +kernel
theorem dX8_count_96 : decode cX8_count 96 = .ok (.getfield 78, 3) := by decide +kernel
theorem dX8_count_99 : decode cX8_count 99 = .ok (.ireturn, 1) := by decide +kernel
theorem dX8_count_100 : decode cX8_count 100 = .ok (.bipush (-3), 2) := by decide +kernel
theorem dX8_count_102 : decode cX8_count 102 = .ok (.ireturn, 1) := by decide +kernel
theorem dX8_isOutside_0 : decode cX8_isOutside 0 = .ok (.iload_n 0, 1) := by decide +kernel
theorem dX8_isOutside_1 : decode cX8_isOutside 1 = .ok (.iload_n 1, 1) := by decide +kernel
theorem dX8_isOutside_2 : decode cX8_isOutside 2 = .ok (.if_icmp .lt 8, 3) := by decide +kernel
theorem dX8_isOutside_5 : decode cX8_isOutside 5 = .ok (.iload_n 0, 1) := by decide +kernel
theorem dX8_isOutside_6 : decode cX8_isOutside 6 = .ok (.iload_n 2, 1) := by decide +kernel
theorem dX8_isOutside_7 : decode cX8_isOutside 7 = .ok (.if_icmp .le 7, 3) := by decide +kernel
theorem dX8_isOutside_10 : decode cX8_isOutside 10 = .ok (.iconst 1, 1) := by decide +kernel
theorem dX8_isOutside_11 : decode cX8_isOutside 11 = .ok (.goto 4, 3) := by decide +kernel
theorem dX8_isOutside_14 : decode cX8_isOutside 14 = .ok (.iconst 0, 1) := by decide +kernel
theorem dX8_isOutside_15 : decode cX8_isOutside 15 = .ok (.ireturn, 1) := by decide +kernel
theorem dX8_isNoMake_0 : decode cX8_isNoMake 0 = .ok (.iload_n 0, 1) := by decide +kernel
theorem dX8_isNoMake_1 : decode cX8_isNoMake 1 = .ok (.iconst 0, 1) := by decide +kernel
theorem dX8_isNoMake_2 : decode cX8_isNoMake 2 = .ok (.iconst 3, 1) := by decide +kernel
theorem dX8_isNoMake_3 : decode cX8_isNoMake 3 = .ok (.invokestatic 55, 3) := by decide +kernel
theorem dX8_isNoMake_6 : decode cX8_isNoMake 6 = .ok (.ireturn, 1) := by decide +kernel
theorem dX8_isNoPerson_0 : decode cX8_isNoPerson 0 = .ok (.iload_n 0, 1) := by decide +kernel
theorem dX8_isNoPerson_1 : decode cX8_isNoPerson 1 = .ok (.iconst 0, 1) := by decide +kernel
theorem dX8_isNoPerson_2 : decode cX8_isNoPerson 2 = .ok (.iconst 5, 1) := by decide +kernel
theorem dX8_isNoPerson_3 : decode cX8_isNoPerson 3 = .ok (.invokestatic 55, 3) := by decide +kernel
theorem dX8_isNoPerson_6 : decode cX8_isNoPerson 6 = .ok (.ireturn, 1) := by decide +kernel
theorem dX8_isNoClock_0 : decode cX8_isNoClock 0 = .ok (.iload_n 0, 1) := by decide +kernel
theorem dX8_isNoClock_1 : decode cX8_isNoClock 1 = .ok (.iconst 0, 1) := by decide +kernel
theorem dX8_isNoClock_2 : decode cX8_isNoClock 2 = .ok (.iconst 5, 1) := by decide +kernel
theorem dX8_isNoClock_3 : decode cX8_isNoClock 3 = .ok (.invokestatic 55, 3) := by decide +kernel
theorem dX8_isNoClock_6 : decode cX8_isNoClock 6 = .ok (.ireturn, 1) := by decide +kernel
