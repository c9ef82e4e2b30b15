theorem dX0_init_0 : decode cX0_init 0 = .ok (.aload_n 0, 1) := by decide +kernel
theorem dX0_init_1 : decode cX0_init 1 = .ok (.invokespecial 3, 3) := by decide +kernel
theorem dX0_init_4 : decode cX0_init 4 = .ok (.aload_n 0, 1) := by decide +kernel
theorem dX0_init_5 : decode cX0_init 5 = .ok (.bipush 7, 2) := by decide +kernel
theorem dX0_init_7 : decode cX0_init 7 = .ok (.newarray .int, 2) := by decide +kernel
theorem dX0_init_9 : decode cX0_init 9 = .ok (.putfield 9, 3) := by decide +kernel
theorem dX0_init_12 : decode cX0_init 12 = .ok (.aload_n 0, 1) := by decide +kernel
theorem dX0_init_13 : decode cX0_init 13 = .ok (.iconst 0, 1) := by decide +kernel
theorem dX0_init_14 : decode cX0_init 14 = .ok (.putfield 15, 3) := by decide +kernel
theorem dX0_init_17 : decode cX0_init 17 = .ok (.aload_n 0, 1) := by decide +kernel
theorem dX0_init_18 : decode cX0_init 18 = .ok (.bipush 12, 2) := by decide +kernel
theorem dX0_init_20 : decode cX0_init 20 = .ok (.newarray .int, 2) := by decide +kernel
theorem dX0_init_22 : decode cX0_init 22 = .ok (.putfield 19, 3) := by decide +kernel
theorem dX0_init_25 : decode cX0_init 25 = .ok (.aload_n 0, 1) := by decide +kernel
theorem dX0_init_26 : decode cX0_init 26 = .ok (.bipush 12, 2) := by decide +kernel
theorem dX0_init_28 : decode cX0_init 28 = .ok (.newarray .int, 2) := by decide +kernel
theorem dX0_init_30 : decode cX0_init 30 = .ok (.putfield 22, 3) := by decide +kernel
theorem dX0_init_33 : decode cX0_init 33 = .ok (.aload_n 0, 1) := by decide +kernel
theorem dX0_init_34 : decode cX0_init 34 = .ok (.iconst 0, 1) := by decide +kernel
theorem dX0_init_35 : decode cX0_init 35 = .ok (.putfield 25, 3) := by decide +kernel
theorem dX0_init_38 : decode cX0_init 38 = .ok (.aload_n 0, 1) := by decide +kernel
theorem dX0_init_39 : decode cX0_init 39 = .ok (.bipush 12, 2) := by decide +kernel
theorem dX0_init_41 : decode cX0_init 41 = .ok (.newarray .int, 2) := by decide +kernel
theorem dX0_init_43 : decode cX0_init 43 = .ok (.putfield 28, 3) := by decide +kernel
theorem dX0_init_46 : decode cX0_init 46 = .ok (.aload_n 0, 1) := by decide +kernel
theorem dX0_init_47 : decode cX0_init 47 = .ok (.bipush 12, 2) := by decide +kernel
theorem dX0_init_49 : decode cX0_init 49 = .ok (.newarray .int, 2) := by decide +kernel
theorem dX0_init_51 : decode cX0_init 51 = .ok (.putfield 31, 3) := by decide +kernel
theorem dX0_init_54 : decode cX0_init 54 = .ok (.aload_n 0, 1) := by decide +kernel
theorem dX0_init_55 : decode cX0_init 55 = .ok (.bipush 12, 2) := by decide +kernel
theorem dX0_init_57 : decode cX0_init 57 = .ok (.newarray .int, 2) := by decide +kernel
theorem dX0_init_59 : decode cX0_init 59 = .ok (.putfield 34, 3) := by decide +kernel
theorem dX0_init_62 : decode cX0_init 62 = .ok (.aload_n 0, 1) := by decide +kernel
theorem dX0_init_63 : decode cX0_init 63 = .ok (.bipush 7, 2) := by decide +kernel
theorem dX0_init_65 : decode cX0_init 65 = .ok (.bipush 7, 2) := by decide +kernel
theorem dX0_init_67 : decode cX0_init 67 = .ok (.multianewarray 37 2, 4) := by decide +kernel
theorem dX0_init_71 : decode cX0_init 71 = .ok (.putfield 39, 3) := by decide +kernel
theorem dX0_init_74 : decode cX0_init 74 = .ok (.return_, 1) := by decide +kernel
theorem dX0_layTogether_0 : decode cX0_layTogether 0 = .ok (.aload_n 0, 1) := by decide +kernel
theorem dX0_layTogether_1 : decode cX0_layTogether 1 = .ok (.invokevirtual 42, 3) := by decide +kernel
theorem dX0_layTogether_4 : decode cX0_layTogether 4 = .ok (.iconst 0, 1) := by decide +kernel
theorem dX0_layTogether_5 : decode cX0_layTogether 5 = .ok (.istore_n 1, 1) := by decide +kernel
theorem dX0_layTogether_6 : decode cX0_layTogether 6 = .ok (.iload_n 1, 1) := by decide +kernel
theorem dX0_layTogether_7 : decode cX0_layTogether 7 = .ok (.aload_n 0, 1) := by decide +kernel
theorem dX0_layTogether_8 : decode cX0_layTogether 8 = .ok (.getfield 25, 3) := by decide +kernel
theorem dX0_layTogether_11 : decode cX0_layTogether 11 = .ok (.if_icmp .ge 31, 3) := by decide +kernel
theorem dX0_layTogether_14 : decode cX0_layTogether 14 = .ok (.aload_n 0, 1) := by decide +kernel
theorem dX0_layTogether_15 : decode cX0_layTogether 15 = .ok (.aload_n 0, 1) := by decide +kernel
theorem dX0_layTogether_16 : decode cX0_layTogether 16 = .ok (.getfield 28, 3) := by decide +kernel
theorem dX0_layTogether_19 : decode cX0_layTogether 19 = .ok (.iload_n 1, 1) := by decide +kernel
theorem dX0_layTogether_20 : decode cX0_layTogether 20 = .ok (.iaload, 1) := by decide +kernel
theorem dX0_layTogether_21 : decode cX0_layTogether 21 = .ok (.aload_n 0, 1) := by decide +kernel
theorem dX0_layTogether_22 : decode cX0_layTogether 22 = .ok (.getfield 31, 3) := by decide +kernel
theorem dX0_layTogether_25 : decode cX0_layTogether 25 = .ok (.iload_n 1, 1) := by decide +kernel
theorem dX0_layTogether_26 : decode cX0_layTogether 26 = .ok (.iaload, 1) := by decide +kernel
theorem dX0_layTogether_27 : decode cX0_layTogether 27 = .ok (.aload_n 0, 1) := by decide +kernel
theorem dX0_layTogether_28 : decode cX0_layTogether 28 = .ok (.getfield 34, 3) := by decide +kernel
theorem dX0_layTogether_31 : decode cX0_layTogether 31 = .ok (.iload_n 1, 1) := by decide +kernel
theorem dX0_layTogether_32 : decode cX0_layTogether 32 = .ok (.iaload, 1) := by decide +kernel
theorem dX0_layTogether_33 : decode cX0_layTogether 33 = .ok (.invokevirtual 45, 3) := by decide +kernel
theorem dX0_layTogether_36 : decode cX0_layTogether 36 = .ok (.iinc 1 1, 3) := by decide +kernel
theorem dX0_layTogether_39 : decode cX0_layTogether 39 = .ok (.goto (-33), 3) := by decide +kernel
theorem dX0_layTogether_42 : decode cX0_layTogether 42 = .ok (.aload_n 0, 1) := by decide +kernel
theorem dX0_layTogether_43 : decode cX0_layTogether 43 = .ok (.invokevirtual 49, 3) := by decide +kernel
theorem dX0_layTogether_46 : decode cX0_layTogether 46 = .ok (.iconst 0, 1) := by decide +kernel
theorem dX0_layTogether_47 : decode cX0_layTogether 47 = .ok (.istore_n 1, 1) := by decide +kernel
theorem dX0_layTogether_48 : decode cX0_layTogether 48 = .ok (.iload_n 1, 1) := by decide +kernel
theorem dX0_layTogether_49 : decode cX0_layTogether 49 = .ok (.bipush 6, 2) := by decide +kernel
theorem dX0_layTogether_51 : decode cX0_layTogether 51 = .ok (.if_icmp .gt 22, 3) := by decide +kernel
theorem dX0_layTogether_54 : decode cX0_layTogether 54 = .ok (.aload_n 0, 1) := by decide +kernel
theorem dX0_layTogether_55 : decode cX0_layTogether 55 = .ok (.getfield 39, 3) := by decide +kernel
theorem dX0_layTogether_58 : decode cX0_layTogether 58 = .ok (.iload_n 1, 1) := by decide +kernel
theorem dX0_layTogether_59 : decode cX0_layTogether 59 = .ok (.aaload, 1) := by decide +kernel
theorem dX0_layTogether_60 : decode cX0_layTogether 60 = .ok (.iload_n 1, 1) := by decide +kernel
theorem dX0_layTogether_61 : decode cX0_layTogether 61 = .ok (.iaload, 1) := by decide +kernel
theorem dX0_layTogether_62 : decode cX0_layTogether 62 = .ok (.ifCond .ge 5, 3) := by decide +kernel
theorem dX0_layTogether_65 : decode cX0_layTogether 65 = .ok (.iconst 0, 1) := by decide +kernel
theorem dX0_layTogether_66 : decode cX0_layTogether 66 = .ok (.ireturn, 1) := by decide +kernel
theorem dX0_layTogether_67 : decode cX0_layTogether 67 = .ok (.iinc 1 1, 3) := by decide +kernel
theorem dX0_layTogether_70 : decode cX0_layTogether 70 = .ok (.goto (-22), 3) := by decide +kernel
theorem dX0_layTogether_73 : decode cX0_layTogether 73 = .ok (.iconst 1, 1) := by decide +kernel
theorem dX0_layTogether_74 : decode cX0_layTogether 74 = .ok (.ireturn, 1) := by decide +kernel
theorem dX0_earliest_0 : decode cX0_earliest 0 = .ok (.aload_n 0, 1) := by decide +kernel
theorem dX0_earliest_1 : decode cX0_earliest 1 = .ok (.getfield 22, 3) := by decide +kernel
theorem dX0_earliest_4 : decode cX0_earliest 4 = .ok (.iload_n 1, 1) := by decide +kernel
theorem dX0_earliest_5 : decode cX0_earliest 5 = .ok (.iaload, 1) := by decide +kernel
theorem dX0_earliest_6 : decode cX0_earliest 6 = .ok (.aload_n 0, 1) := by decide +kernel
theorem dX0_earliest_7 : decode cX0_earliest 7 = .ok (.getfield 39, 3) := by decide +kernel
theorem dX0_earliest_10 : decode cX0_earliest 10 = .ok (.bipush 6, 2) := by decide +kernel
theorem dX0_earliest_12 : decode cX0_earliest 12 = .ok (.aaload, 1) := by decide +kernel
theorem dX0_earliest_13 : decode cX0_earliest 13 = .ok (.aload_n 0, 1) := by decide +kernel
theorem dX0_earliest_14 : decode cX0_earliest 14 = .ok (.getfield 19, 3) := by decide +kernel
theorem dX0_earliest_17 : decode cX0_earliest 17 = .ok (.iload_n 1, 1) := by decide +kernel
theorem dX0_earliest_18 : decode cX0_earliest 18 = .ok (.iaload, 1) := by decide +kernel
theorem dX0_earliest_19 : decode cX0_earliest 19 = .ok (.iaload, 1) := by decide +kernel
theorem dX0_earliest_20 : decode cX0_earliest 20 = .ok (.isub, 1) := by decide +kernel
theorem dX0_earliest_21 : decode cX0_earliest 21 = .ok (.ireturn, 1) := by decide +kernel
theorem dX0_latest_0 : decode cX0_latest 0 = .ok (.aload_n 0, 1) := by decide +kernel
theorem dX0_latest_1 : decode cX0_latest 1 = .ok (.getfield 22, 3) := by decide +kernel
theorem dX0_latest_4 : decode cX0_latest 4 = .ok (.iload_n 1, 1) := by decide +kernel
theorem dX0_latest_5 : decode cX0_latest 5 = .ok (.iaload, 1) := by decide +kernel
theorem dX0_latest_6 : decode cX0_latest 6 = .ok (.aload_n 0, 1) := by decide +kernel
theorem dX0_latest_7 : decode cX0_latest 7 = .ok (.getfield 39, 3) := by decide +kernel
theorem dX0_latest_10 : decode cX0_latest 10 = .ok (.aload_n 0, 1) := by decide +kernel
theorem dX0_latest_11 : decode cX0_latest 11 = .ok (.getfield 19, 3) := by decide +kernel
theorem dX0_latest_14 : decode cX0_latest 14 = .ok (.iload_n 1, 1) := by decide +kernel
theorem dX0_latest_15 : decode cX0_latest 15 = .ok (.iaload, 1) := by decide +kernel
theorem dX0_latest_16 : decode cX0_latest 16 = .ok (.aaload, 1) := by decide +kernel
theorem dX0_latest_17 : decode cX0_latest 17 = .ok (.bipush 6, 2) := by decide +kernel
theorem dX0_latest_19 : decode cX0_latest 19 = .ok (.iaload, 1) := by decide +kernel
theorem dX0_latest_20 : decode cX0_latest 20 = .ok (.iadd, 1) := by decide +kernel
theorem dX0_latest_21 : decode cX0_latest 21 = .ok (.ireturn, 1) := by decide +kernel
theorem dX0_startLags_0 : decode cX0_startLags 0 = .ok (.iconst 0, 1) := by decide +kernel
theorem dX0_startLags_1 : decode cX0_startLags 1 = .ok (.istore_n 1, 1) := by decide +kernel
theorem dX0_startLags_2 : decode cX0_startLags 2 = .ok (.iload_n 1, 1) := by decide +kernel
theorem dX0_startLags_3 : decode cX0_startLags 3 = .ok (.bipush 6, 2) := by decide +kernel
theorem dX0_startLags_5 : decode cX0_startLags 5 = .ok (.if_icmp .gt 53, 3) := by decide +kernel
theorem dX0_startLags_8 : decode cX0_startLags 8 = .ok (.iconst 0, 1) := by decide +kernel
theorem dX0_startLags_9 : decode cX0_startLags 9 = .ok (.istore_n 2, 1) := by decide +kernel
theorem dX0_startLags_10 : decode cX0_startLags 10 = .ok (.iload_n 2, 1) := by decide +kernel
theorem dX0_startLags_11 : decode cX0_startLags 11 = .ok (.bipush 6, 2) := by decide +kernel
theorem dX0_startLags_13 : decode cX0_startLags 13 = .ok (.if_icmp .gt 39, 3) := by decide +kernel
theorem dX0_startLags_16 : decode cX0_startLags 16 = .ok (.aload_n 0, 1) := by decide +kernel
theorem dX0_startLags_17 : decode cX0_startLags 17 = .ok (.getfield 39, 3) := by decide +kernel
theorem dX0_startLags_20 : decode cX0_startLags 20 = .ok (.iload_n 1, 1) := by decide +kernel
theorem dX0_startLags_21 : decode cX0_startLags 21 = .ok (.aaload, 1) := by decide +kernel
theorem dX0_startLags_22 : decode cX0_startLags 22 = .ok (.iload_n 2, 1) := by decide +kernel
theorem dX0_startLags_23 : decode cX0_startLags 23 = .ok (.iload_n 1, 1) := by decide +kernel
theorem dX0_startLags_24 : decode cX0_startLags 24 = .ok (.iload_n 2, 1) := by decide +kernel
theorem dX0_startLags_25 : decode cX0_startLags 25 = .ok (.if_icmp .ne 7, 3) := by decide +kernel
theorem dX0_startLags_28 : decode cX0_startLags 28 = .ok (.iconst 0, 1) := by decide +kernel
theorem dX0_startLags_29 : decode cX0_startLags 29 = .ok (.goto 16, 3) := by decide +kernel
theorem dX0_startLags_32 : decode cX0_startLags 32 = .ok (.aload_n 0, 1) := by decide +kernel
theorem dX0_startLags_33 : decode cX0_startLags 33 = .ok (.getfield 9, 3) := by decide +kernel
theorem dX0_startLags_36 : decode cX0_startLags 36 = .ok (.iload_n 1, 1) := by decide +kernel
theorem dX0_startLags_37 : decode cX0_startLags 37 = .ok (.iaload, 1) := by decide +kernel
theorem dX0_startLags_38 : decode cX0_startLags 38 = .ok (.aload_n 0, 1) := by decide +kernel
theorem dX0_startLags_39 : decode cX0_startLags 39 = .ok (.getfield 9, 3) := by decide +kernel
theorem dX0_startLags_42 : decode cX0_startLags 42 = .ok (.iload_n 2, 1) := by decide +kernel
theorem dX0_startLags_43 : decode cX0_startLags 43 = .ok (.iaload, 1) := by decide +kernel
theorem dX0_startLags_44 : decode cX0_startLags 44 = .ok (.iadd, 1) := by decide +kernel
theorem dX0_startLags_45 : decode cX0_startLags 45 = .ok (.iastore, 1) := by decide +kernel
theorem dX0_startLags_46 : decode cX0_startLags 46 = .ok (.iinc 2 1, 3) := by decide +kernel
theorem dX0_startLags_49 : decode cX0_startLags 49 = .ok (.goto (-39), 3) := by decide +kernel
theorem dX0_startLags_52 : decode cX0_startLags 52 = .ok (.iinc 1 1, 3) := by decide +kernel
theorem dX0_startLags_55 : decode cX0_startLags 55 = .ok (.goto (-53), 3) := by decide +kernel
theorem dX0_startLags_58 : decode cX0_startLags 58 = .ok (.return_, 1) := by decide +kernel
theorem dX0_heedAfter_0 : decode cX0_heedAfter 0 = .ok (.aload_n 0, 1) := by decide +kernel
theorem dX0_heedAfter_1 : decode cX0_heedAfter 1 = .ok (.getfield 22, 3) := by decide +kernel
theorem dX0_heedAfter_4 : decode cX0_heedAfter 4 = .ok (.iload_n 2, 1) := by decide +kernel
theorem dX0_heedAfter_5 : decode cX0_heedAfter 5 = .ok (.iaload, 1) := by decide +kernel
theorem dX0_heedAfter_6 : decode cX0_heedAfter 6 = .ok (.aload_n 0, 1) := by decide +kernel
theorem dX0_heedAfter_7 : decode cX0_heedAfter 7 = .ok (.getfield 22, 3) := by decide +kernel
theorem dX0_heedAfter_10 : decode cX0_heedAfter 10 = .ok (.iload_n 1, 1) := by decide +kernel
theorem dX0_heedAfter_11 : decode cX0_heedAfter 11 = .ok (.iaload, 1) := by decide +kernel
theorem dX0_heedAfter_12 : decode cX0_heedAfter 12 = .ok (.isub, 1) := by decide +kernel
theorem dX0_heedAfter_13 : decode cX0_heedAfter 13 = .ok (.iload_n 3, 1) := by decide +kernel
theorem dX0_heedAfter_14 : decode cX0_heedAfter 14 = .ok (.isub, 1) := by decide +kernel
theorem dX0_heedAfter_15 : decode cX0_heedAfter 15 = .ok (.istore 4, 2) := by decide +kernel
theorem dX0_heedAfter_17 : decode cX0_heedAfter 17 = .ok (.aload_n 0, 1) := by decide +kernel
theorem dX0_heedAfter_18 : decode cX0_heedAfter 18 = .ok (.getfield 19, 3) := by decide +kernel
theorem dX0_heedAfter_21 : decode cX0_heedAfter 21 = .ok (.iload_n 1, 1) := by decide +kernel
theorem dX0_heedAfter_22 : decode cX0_heedAfter 22 = .ok (.iaload, 1) := by decide +kernel
theorem dX0_heedAfter_23 : decode cX0_heedAfter 23 = .ok (.istore 5, 2) := by decide +kernel
theorem dX0_heedAfter_25 : decode cX0_heedAfter 25 = .ok (.aload_n 0, 1) := by decide +kernel
theorem dX0_heedAfter_26 : decode cX0_heedAfter 26 = .ok (.getfield 19, 3) := by decide +kernel
theorem dX0_heedAfter_29 : decode cX0_heedAfter 29 = .ok (.iload_n 2, 1) := by decide +kernel
theorem dX0_heedAfter_30 : decode cX0_heedAfter 30 = .ok (.iaload, 1) := by decide +kernel
theorem dX0_heedAfter_31 : decode cX0_heedAfter 31 = .ok (.istore 6, 2) := by decide +kernel
theorem dX0_heedAfter_33 : decode cX0_heedAfter 33 = .ok (.aload_n 0, 1) := by decide +kernel
theorem dX0_heedAfter_34 : decode cX0_heedAfter 34 = .ok (.getfield 39, 3) := by decide +kernel
theorem dX0_heedAfter_37 : decode cX0_heedAfter 37 = .ok (.iload 5, 2) := by decide +kernel
theorem dX0_heedAfter_39 : decode cX0_heedAfter 39 = .ok (.aaload, 1) := by decide +kernel
theorem dX0_heedAfter_40 : decode cX0_heedAfter 40 = .ok (.iload 6, 2) := by decide +kernel
theorem dX0_heedAfter_42 : decode cX0_heedAfter 42 = .ok (.aload_n 0, 1) := by decide +kernel
theorem dX0_heedAfter_43 : decode cX0_heedAfter 43 = .ok (.getfield 39, 3) := by decide +kernel
theorem dX0_heedAfter_46 : decode cX0_heedAfter 46 = .ok (.iload 5, 2) := by decide +kernel
theorem dX0_heedAfter_48 : decode cX0_heedAfter 48 = .ok (.aaload, 1) := by decide +kernel
theorem dX0_heedAfter_49 : decode cX0_heedAfter 49 = .ok (.iload 6, 2) := by decide +kernel
theorem dX0_heedAfter_51 : decode cX0_heedAfter 51 = .ok (.iaload, 1) := by decide +kernel
theorem dX0_heedAfter_52 : decode cX0_heedAfter 52 = .ok (.iload 4, 2) := by decide +kernel
theorem dX0_heedAfter_54 : decode cX0_heedAfter 54 = .ok (.invokestatic 52, 3) := by decide +kernel
theorem dX0_heedAfter_57 : decode cX0_heedAfter 57 = .ok (.iastore, 1) := by decide +kernel
theorem dX0_heedAfter_58 : decode cX0_heedAfter 58 = .ok (.return_, 1) := by decide +kernel
theorem dX0_narrowLags_0 : decode cX0_narrowLags 0 = .ok (.iconst 0, 1) := by decide +kernel
theorem dX0_narrowLags_1 : decode cX0_narrowLags 1 = .ok (.istore_n 1, 1) := by decide +kernel
theorem dX0_narrowLags_2 : decode cX0_narrowLags 2 = .ok (.iload_n 1, 1) := by decide +kernel
theorem dX0_narrowLags_3 : decode cX0_narrowLags 3 = .ok (.bipush 6, 2) := by decide +kernel
theorem dX0_narrowLags_5 : decode cX0_narrowLags 5 = .ok (.if_icmp .gt 73, 3) := by decide +kernel
theorem dX0_narrowLags_8 : decode cX0_narrowLags 8 = .ok (.iconst 0, 1) := by decide +kernel
theorem dX0_narrowLags_9 : decode cX0_narrowLags 9 = .ok (.istore_n 2, 1) := by decide +kernel
theorem dX0_narrowLags_10 : decode cX0_narrowLags 10 = .ok (.iload_n 2, 1) := by decide +kernel
theorem dX0_narrowLags_11 : decode cX0_narrowLags 11 = .ok (.bipush 6, 2) := by decide +kernel
theorem dX0_narrowLags_13 : decode cX0_narrowLags 13 = .ok (.if_icmp .gt 59, 3) := by decide +kernel
theorem dX0_narrowLags_16 : decode cX0_narrowLags 16 = .ok (.iconst 0, 1) := by decide +kernel
theorem dX0_narrowLags_17 : decode cX0_narrowLags 17 = .ok (.istore_n 3, 1) := by decide +kernel
theorem dX0_narrowLags_18 : decode cX0_narrowLags 18 = .ok (.iload_n 3, 1) := by decide +kernel
theorem dX0_narrowLags_19 : decode cX0_narrowLags 19 = .ok (.bipush 6, 2) := by decide +kernel
theorem dX0_narrowLags_21 : decode cX0_narrowLags 21 = .ok (.if_icmp .gt 45, 3) := by decide +kernel
theorem dX0_narrowLags_24 : decode cX0_narrowLags 24 = .ok (.aload_n 0, 1) := by decide +kernel
theorem dX0_narrowLags_25 : decode cX0_narrowLags 25 = .ok (.getfield 39, 3) := by decide +kernel
theorem dX0_narrowLags_28 : decode cX0_narrowLags 28 = .ok (.iload_n 2, 1) := by decide +kernel
theorem dX0_narrowLags_29 : decode cX0_narrowLags 29 = .ok (.aaload, 1) := by decide +kernel
theorem dX0_narrowLags_30 : decode cX0_narrowLags 30 = .ok (.iload_n 3, 1) := by decide +kernel
theorem dX0_narrowLags_31 : decode cX0_narrowLags 31 = .ok (.aload_n 0, 1) := by decide +kernel
theorem dX0_narrowLags_32 : decode cX0_narrowLags 32 = .ok (.getfield 39, 3) := by decide +kernel
theorem dX0_narrowLags_35 : decode cX0_narrowLags 35 = .ok (.iload_n 2, 1) := by decide +kernel
theorem dX0_narrowLags_36 : decode cX0_narrowLags 36 = .ok (.aaload, 1) := by decide +kernel
theorem dX0_narrowLags_37 : decode cX0_narrowLags 37 = .ok (.iload_n 3, 1) := by decide +kernel
theorem dX0_narrowLags_38 : decode cX0_narrowLags 38 = .ok (.iaload, 1) := by decide +kernel
theorem dX0_narrowLags_39 : decode cX0_narrowLags 39 = .ok (.aload_n 0, 1) := by decide +kernel
theorem dX0_narrowLags_40 : decode cX0_narrowLags 40 = .ok (.getfield 39, 3) := by decide +kernel
theorem dX0_narrowLags_43 : decode cX0_narrowLags 43 = .ok (.iload_n 2, 1) := by decide +kernel
theorem dX0_narrowLags_44 : decode cX0_narrowLags 44 = .ok (.aaload, 1) := by decide +kernel
theorem dX0_narrowLags_45 : decode cX0_narrowLags 45 = .ok (.iload_n 1, 1) := by decide +kernel
theorem dX0_narrowLags_46 : decode cX0_narrowLags 46 = .ok (.iaload, 1) := by decide +kernel
theorem dX0_narrowLags_47 : decode cX0_narrowLags 47 = .ok (.aload_n 0, 1) := by decide +kernel
theorem dX0_narrowLags_48 : decode cX0_narrowLags 48 = .ok (.getfield 39, 3) := by decide +kernel
theorem dX0_narrowLags_51 : decode cX0_narrowLags 51 = .ok (.iload_n 1, 1) := by decide +kernel
theorem dX0_narrowLags_52 : decode cX0_narrowLags 52 = .ok (.aaload, 1) := by decide +kernel
theorem dX0_narrowLags_53 : decode cX0_narrowLags 53 = .ok (.iload_n 3, 1) := by decide +kernel
theorem dX0_narrowLags_54 : decode cX0_narrowLags 54 = .ok (.iaload, 1) := by decide +kernel
theorem dX0_narrowLags_55 : decode cX0_narrowLags 55 = .ok (.iadd, 1) := by decide +kernel
theorem dX0_narrowLags_56 : decode cX0_narrowLags 56 = .ok (.invokestatic 52, 3) := by decide +kernel
theorem dX0_narrowLags_59 : decode cX0_narrowLags 59 = .ok (.iastore, 1) := by decide +kernel
theorem dX0_narrowLags_60 : decode cX0_narrowLags 60 = .ok (.iinc 3 1, 3) := by decide +kernel
theorem dX0_narrowLags_63 : decode cX0_narrowLags 63 = .ok (.goto (-45), 3) := by decide +kernel
theorem dX0_narrowLags_66 : decode cX0_narrowLags 66 = .ok (.iinc 2 1, 3) := by decide +kernel
theorem dX0_narrowLags_69 : decode cX0_narrowLags 69 = .ok (.goto (-59), 3) := by decide +kernel
theorem dX0_narrowLags_72 : decode cX0_narrowLags 72 = .ok (.iinc 1 1, 3) := by decide +kernel
theorem dX0_narrowLags_75 : decode cX0_narrowLags 75 = .ok (.goto (-73), 3) := by decide +kernel
theorem dX0_narrowLags_78 : decode cX0_narrowLags 78 = .ok (.return_, 1) := by decide +kernel
theorem dX1_init_0 : decode cX1_init 0 = .ok (.aload_n 0, 1) := by decide +kernel
theorem dX1_init_1 : decode cX1_init 1 = .ok (.invokespecial 3, 3) := by decide +kernel
theorem dX1_init_4 : decode cX1_init 4 = .ok (.aload_n 0, 1) := by decide +kernel
theorem dX1_init_5 : decode cX1_init 5 = .ok (.iconst 0, 1) := by decide +kernel
theorem dX1_init_6 : decode cX1_init 6 = .ok (.putfield 9, 3) := by decide +kernel
theorem dX1_init_9 : decode cX1_init 9 = .ok (.aload_n 0, 1) := by decide +kernel
theorem dX1_init_10 : decode cX1_init 10 = .ok (.iconst 5, 1) := by decide +kernel
theorem dX1_init_11 : decode cX1_init 11 = .ok (.newarray .int, 2) := by decide +kernel
theorem dX1_init_13 : decode cX1_init 13 = .ok (.putfield 15, 3) := by decide +kernel
theorem dX1_init_16 : decode cX1_init 16 = .ok (.aload_n 0, 1) := by decide +kernel
theorem dX1_init_17 : decode cX1_init 17 = .ok (.iconst 5, 1) := by decide +kernel
theorem dX1_init_18 : decode cX1_init 18 = .ok (.newarray .int, 2) := by decide +kernel
theorem dX1_init_20 : decode cX1_init 20 = .ok (.putfield 19, 3) := by decide +kernel
theorem dX1_init_23 : decode cX1_init 23 = .ok (.aload_n 0, 1) := by decide +kernel
theorem dX1_init_24 : decode cX1_init 24 = .ok (.iconst 5, 1) := by decide +kernel
theorem dX1_init_25 : decode cX1_init 25 = .ok (.newarray .int, 2) := by decide +kernel
theorem dX1_init_27 : decode cX1_init 27 = .ok (.putfield 22, 3) := by decide +kernel
theorem dX1_init_30 : decode cX1_init 30 = .ok (.aload_n 0, 1) := by decide +kernel
theorem dX1_init_31 : decode cX1_init 31 = .ok (.iconst 5, 1) := by decide +kernel
theorem dX1_init_32 : decode cX1_init 32 = .ok (.newarray .int, 2) := by decide +kernel
theorem dX1_init_34 : decode cX1_init 34 = .ok (.putfield 25, 3) := by decide +kernel
theorem dX1_init_37 : decode cX1_init 37 = .ok (.aload_n 0, 1) := by decide +kernel
theorem dX1_init_38 : decode cX1_init 38 = .ok (.iconst 5, 1) := by decide +kernel
theorem dX1_init_39 : decode cX1_init 39 = .ok (.newarray .int, 2) := by decide +kernel
theorem dX1_init_41 : decode cX1_init 41 = .ok (.putfield 28, 3) := by decide +kernel
theorem dX1_init_44 : decode cX1_init 44 = .ok (.aload_n 0, 1) := by decide +kernel
theorem dX1_init_45 : decode cX1_init 45 = .ok (.iconst 5, 1) := by decide +kernel
theorem dX1_init_46 : decode cX1_init 46 = .ok (.newarray .int, 2) := by decide +kernel
theorem dX1_init_48 : decode cX1_init 48 = .ok (.putfield 31, 3) := by decide +kernel
theorem dX1_init_51 : decode cX1_init 51 = .ok (.aload_n 0, 1) := by decide +kernel
theorem dX1_init_52 : decode cX1_init 52 = .ok (.iconst 5, 1) := by decide +kernel
theorem dX1_init_53 : decode cX1_init 53 = .ok (.newarray .int, 2) := by decide +kernel
theorem dX1_init_55 : decode cX1_init 55 = .ok (.putfield 34, 3) := by decide +kernel
theorem dX1_init_58 : decode cX1_init 58 = .ok (.return_, 1) := by decide +kernel
theorem dX1_cost_0 : decode cX1_cost 0 = .ok (.iconst 0, 1) := by decide +kernel
theorem dX1_cost_1 : decode cX1_cost 1 = .ok (.istore_n 2, 1) := by decide +kernel
theorem dX1_cost_2 : decode cX1_cost 2 = .ok (.iconst 0, 1) := by decide +kernel
theorem dX1_cost_3 : decode cX1_cost 3 = .ok (.istore_n 3, 1) := by decide +kernel
theorem dX1_cost_4 : decode cX1_cost 4 = .ok (.iload_n 3, 1) := by decide +kernel
theorem dX1_cost_5 : decode cX1_cost 5 = .ok (.aload_n 0, 1) := by decide +kernel
theorem dX1_cost_6 : decode cX1_cost 6 = .ok (.getfield 9, 3) := by decide +kernel
theorem dX1_cost_9 : decode cX1_cost 9 = .ok (.if_icmp .ge 68, 3) := by decide +kernel
theorem dX1_cost_12 : decode cX1_cost 12 = .ok (.iload_n 2, 1) := by decide +kernel
theorem dX1_cost_13 : decode cX1_cost 13 = .ok (.aload_n 1, 1) := by decide +kernel
theorem dX1_cost_14 : decode cX1_cost 14 = .ok (.getfield 37, 3) := by decide +kernel
theorem dX1_cost_17 : decode cX1_cost 17 = .ok (.iconst 4, 1) := by decide +kernel
theorem dX1_cost_18 : decode cX1_cost 18 = .ok (.iaload, 1) := by decide +kernel
theorem dX1_cost_19 : decode cX1_cost 19 = .ok (.aload_n 0, 1) := by decide +kernel
theorem dX1_cost_20 : decode cX1_cost 20 = .ok (.getfield 31, 3) := by decide +kernel
theorem dX1_cost_23 : decode cX1_cost 23 = .ok (.iload_n 3, 1) := by decide +kernel
theorem dX1_cost_24 : decode cX1_cost 24 = .ok (.iaload, 1) := by decide +kernel
theorem dX1_cost_25 : decode cX1_cost 25 = .ok (.aload_n 0, 1) := by decide +kernel
theorem dX1_cost_26 : decode cX1_cost 26 = .ok (.getfield 22, 3) := by decide +kernel
theorem dX1_cost_29 : decode cX1_cost 29 = .ok (.iload_n 3, 1) := by decide +kernel
theorem dX1_cost_30 : decode cX1_cost 30 = .ok (.iaload, 1) := by decide +kernel
theorem dX1_cost_31 : decode cX1_cost 31 = .ok (.isub, 1) := by decide +kernel
theorem dX1_cost_32 : decode cX1_cost 32 = .ok (.imul, 1) := by decide +kernel
theorem dX1_cost_33 : decode cX1_cost 33 = .ok (.iadd, 1) := by decide +kernel
theorem dX1_cost_34 : decode cX1_cost 34 = .ok (.istore_n 2, 1) := by decide +kernel
theorem dX1_cost_35 : decode cX1_cost 35 = .ok (.aload_n 0, 1) := by decide +kernel
theorem dX1_cost_36 : decode cX1_cost 36 = .ok (.getfield 15, 3) := by decide +kernel
theorem dX1_cost_39 : decode cX1_cost 39 = .ok (.iload_n 3, 1) := by decide +kernel
theorem dX1_cost_40 : decode cX1_cost 40 = .ok (.iaload, 1) := by decide +kernel
theorem dX1_cost_41 : decode cX1_cost 41 = .ok (.istore 4, 2) := by decide +kernel
theorem dX1_cost_43 : decode cX1_cost 43 = .ok (.iload 4, 2) := by decide +kernel
theorem dX1_cost_45 : decode cX1_cost 45 = .ok (.aload_n 0, 1) := by decide +kernel
theorem dX1_cost_46 : decode cX1_cost 46 = .ok (.getfield 19, 3) := by decide +kernel
theorem dX1_cost_49 : decode cX1_cost 49 = .ok (.iload_n 3, 1) := by decide +kernel
theorem dX1_cost_50 : decode cX1_cost 50 = .ok (.iaload, 1) := by decide +kernel
theorem dX1_cost_51 : decode cX1_cost 51 = .ok (.if_icmp .ge 20, 3) := by decide +kernel
theorem dX1_cost_54 : decode cX1_cost 54 = .ok (.iload_n 2, 1) := by decide +kernel
theorem dX1_cost_55 : decode cX1_cost 55 = .ok (.aload_n 0, 1) := by decide +kernel
theorem dX1_cost_56 : decode cX1_cost 56 = .ok (.aload_n 1, 1) := by decide +kernel
theorem dX1_cost_57 : decode cX1_cost 57 = .ok (.iload_n 3, 1) := by decide +kernel
theorem dX1_cost_58 : decode cX1_cost 58 = .ok (.iload 4, 2) := by decide +kernel
theorem dX1_cost_60 : decode cX1_cost 60 = .ok (.invokevirtual 42, 3) := by decide +kernel
theorem dX1_cost_63 : decode cX1_cost 63 = .ok (.iadd, 1) := by decide +kernel
theorem dX1_cost_64 : decode cX1_cost 64 = .ok (.istore_n 2, 1) := by decide +kernel
theorem dX1_cost_65 : decode cX1_cost 65 = .ok (.iinc 4 1, 3) := by decide +kernel
theorem dX1_cost_68 : decode cX1_cost 68 = .ok (.goto (-25), 3) := by decide +kernel
theorem dX1_cost_71 : decode cX1_cost 71 = .ok (.iinc 3 1, 3) := by decide +kernel
theorem dX1_cost_74 : decode cX1_cost 74 = .ok (.goto (-70), 3) := by decide +kernel
theorem dX1_cost_77 : decode cX1_cost 77 = .ok (.iload_n 2, 1) := by decide +kernel
theorem dX1_cost_78 : decode cX1_cost 78 = .ok (.ireturn, 1) := by decide +kernel
theorem dX1_burnt_0 : decode cX1_burnt 0 = .ok (.aload_n 1, 1) := by decide +kernel
theorem dX1_burnt_1 : decode cX1_burnt 1 = .ok (.getfield 46, 3) := by decide +kernel
theorem dX1_burnt_4 : decode cX1_burnt 4 = .ok (.aload_n 0, 1) := by decide +kernel
theorem dX1_burnt_5 : decode cX1_burnt 5 = .ok (.getfield 28, 3) := by decide +kernel
theorem dX1_burnt_8 : decode cX1_burnt 8 = .ok (.iload_n 2, 1) := by decide +kernel
theorem dX1_burnt_9 : decode cX1_burnt 9 = .ok (.iaload, 1) := by decide +kernel
theorem dX1_burnt_10 : decode cX1_burnt 10 = .ok (.aaload, 1) := by decide +kernel
theorem dX1_burnt_11 : decode cX1_burnt 11 = .ok (.getfield 50, 3) := by decide +kernel
theorem dX1_burnt_14 : decode cX1_burnt 14 = .ok (.istore 4, 2) := by decide +kernel
theorem dX1_burnt_16 : decode cX1_burnt 16 = .ok (.iconst 0, 1) := by decide +kernel
theorem dX1_burnt_17 : decode cX1_burnt 17 = .ok (.istore 5, 2) := by decide +kernel
theorem dX1_burnt_19 : decode cX1_burnt 19 = .ok (.iload 5, 2) := by decide +kernel
theorem dX1_burnt_21 : decode cX1_burnt 21 = .ok (.aload_n 0, 1) := by decide +kernel
theorem dX1_burnt_22 : decode cX1_burnt 22 = .ok (.getfield 9, 3) := by decide +kernel
theorem dX1_burnt_25 : decode cX1_burnt 25 = .ok (.if_icmp .ge 51, 3) := by decide +kernel
theorem dX1_burnt_28 : decode cX1_burnt 28 = .ok (.iload 5, 2) := by decide +kernel
theorem dX1_burnt_30 : decode cX1_burnt 30 = .ok (.iload_n 2, 1) := by decide +kernel
theorem dX1_burnt_31 : decode cX1_burnt 31 = .ok (.if_icmp .eq 39, 3) := by decide +kernel
theorem dX1_burnt_34 : decode cX1_burnt 34 = .ok (.aload_n 0, 1) := by decide +kernel
theorem dX1_burnt_35 : decode cX1_burnt 35 = .ok (.iload_n 2, 1) := by decide +kernel
theorem dX1_burnt_36 : decode cX1_burnt 36 = .ok (.iload 5, 2) := by decide +kernel
theorem dX1_burnt_38 : decode cX1_burnt 38 = .ok (.iload_n 3, 1) := by decide +kernel
theorem dX1_burnt_39 : decode cX1_burnt 39 = .ok (.invokevirtual 55, 3) := by decide +kernel
theorem dX1_burnt_42 : decode cX1_burnt 42 = .ok (.ifCond .eq 28, 3) := by decide +kernel
theorem dX1_burnt_45 : decode cX1_burnt 45 = .ok (.aload_n 0, 1) := by decide +kernel
theorem dX1_burnt_46 : decode cX1_burnt 46 = .ok (.aload_n 1, 1) := by decide +kernel
theorem dX1_burnt_47 : decode cX1_burnt 47 = .ok (.iload 5, 2) := by decide +kernel
theorem dX1_burnt_49 : decode cX1_burnt 49 = .ok (.iload_n 2, 1) := by decide +kernel
theorem dX1_burnt_50 : decode cX1_burnt 50 = .ok (.invokevirtual 59, 3) := by decide +kernel
theorem dX1_burnt_53 : decode cX1_burnt 53 = .ok (.ifCond .eq 17, 3) := by decide +kernel
theorem dX1_burnt_56 : decode cX1_burnt 56 = .ok (.iconst 1, 1) := by decide +kernel
theorem dX1_burnt_57 : decode cX1_burnt 57 = .ok (.iload 4, 2) := by decide +kernel
theorem dX1_burnt_59 : decode cX1_burnt 59 = .ok (.aload_n 1, 1) := by decide +kernel
theorem dX1_burnt_60 : decode cX1_burnt 60 = .ok (.getfield 37, 3) := by decide +kernel
theorem dX1_burnt_63 : decode cX1_burnt 63 = .ok (.iconst 3, 1) := by decide +kernel
theorem dX1_burnt_64 : decode cX1_burnt 64 = .ok (.iaload, 1) := by decide +kernel
theorem dX1_burnt_65 : decode cX1_burnt 65 = .ok (.isub, 1) := by decide +kernel
theorem dX1_burnt_66 : decode cX1_burnt 66 = .ok (.invokestatic 63, 3) := by decide +kernel
theorem dX1_burnt_69 : decode cX1_burnt 69 = .ok (.ireturn, 1) := by decide +kernel
theorem dX1_burnt_70 : decode cX1_burnt 70 = .ok (.iinc 5 1, 3) := by decide +kernel
theorem dX1_burnt_73 : decode cX1_burnt 73 = .ok (.goto (-54), 3) := by decide +kernel
theorem dX1_burnt_76 : decode cX1_burnt 76 = .ok (.iload 4, 2) := by decide +kernel
theorem dX1_burnt_78 : decode cX1_burnt 78 = .ok (.ireturn, 1) := by decide +kernel
theorem dX1_leavesWith_0 : decode cX1_leavesWith 0 = .ok (.iload_n 3, 1) := by decide +kernel
theorem dX1_leavesWith_1 : decode cX1_leavesWith 1 = .ok (.aload_n 0, 1) := by decide +kernel
theorem dX1_leavesWith_2 : decode cX1_leavesWith 2 = .ok (.getfield 15, 3) := by decide +kernel
theorem dX1_leavesWith_5 : decode cX1_leavesWith 5 = .ok (.iload_n 2, 1) := by decide +kernel
theorem dX1_leavesWith_6 : decode cX1_leavesWith 6 = .ok (.iaload, 1) := by decide +kernel
theorem dX1_leavesWith_7 : decode cX1_leavesWith 7 = .ok (.if_icmp .lt 46, 3) := by decide +kernel
theorem dX1_leavesWith_10 : decode cX1_leavesWith 10 = .ok (.iload_n 3, 1) := by decide +kernel
theorem dX1_leavesWith_11 : decode cX1_leavesWith 11 = .ok (.aload_n 0, 1) := by decide +kernel
theorem dX1_leavesWith_12 : decode cX1_leavesWith 12 = .ok (.getfield 19, 3) := by decide +kernel
theorem dX1_leavesWith_15 : decode cX1_leavesWith 15 = .ok (.iload_n 2, 1) := by decide +kernel
theorem dX1_leavesWith_16 : decode cX1_leavesWith 16 = .ok (.iaload, 1) := by decide +kernel
theorem dX1_leavesWith_17 : decode cX1_leavesWith 17 = .ok (.if_icmp .ge 36, 3) := by decide +kernel
theorem dX1_leavesWith_20 : decode cX1_leavesWith 20 = .ok (.aload_n 0, 1) := by decide +kernel
theorem dX1_leavesWith_21 : decode cX1_leavesWith 21 = .ok (.getfield 31, 3) := by decide +kernel
theorem dX1_leavesWith_24 : decode cX1_leavesWith 24 = .ok (.iload_n 2, 1) := by decide +kernel
theorem dX1_leavesWith_25 : decode cX1_leavesWith 25 = .ok (.iaload, 1) := by decide +kernel
theorem dX1_leavesWith_26 : decode cX1_leavesWith 26 = .ok (.aload_n 0, 1) := by decide +kernel
theorem dX1_leavesWith_27 : decode cX1_leavesWith 27 = .ok (.getfield 15, 3) := by decide +kernel
theorem dX1_leavesWith_30 : decode cX1_leavesWith 30 = .ok (.iload_n 2, 1) := by decide +kernel
theorem dX1_leavesWith_31 : decode cX1_leavesWith 31 = .ok (.iaload, 1) := by decide +kernel
theorem dX1_leavesWith_32 : decode cX1_leavesWith 32 = .ok (.isub, 1) := by decide +kernel
theorem dX1_leavesWith_33 : decode cX1_leavesWith 33 = .ok (.aload_n 0, 1) := by decide +kernel
theorem dX1_leavesWith_34 : decode cX1_leavesWith 34 = .ok (.getfield 31, 3) := by decide +kernel
theorem dX1_leavesWith_37 : decode cX1_leavesWith 37 = .ok (.iload_n 1, 1) := by decide +kernel
theorem dX1_leavesWith_38 : decode cX1_leavesWith 38 = .ok (.iaload, 1) := by decide +kernel
theorem dX1_leavesWith_39 : decode cX1_leavesWith 39 = .ok (.aload_n 0, 1) := by decide +kernel
theorem dX1_leavesWith_40 : decode cX1_leavesWith 40 = .ok (.getfield 15, 3) := by decide +kernel
theorem dX1_leavesWith_43 : decode cX1_leavesWith 43 = .ok (.iload_n 1, 1) := by decide +kernel
theorem dX1_leavesWith_44 : decode cX1_leavesWith 44 = .ok (.iaload, 1) := by decide +kernel
theorem dX1_leavesWith_45 : decode cX1_leavesWith 45 = .ok (.isub, 1) := by decide +kernel
theorem dX1_leavesWith_46 : decode cX1_leavesWith 46 = .ok (.if_icmp .ne 7, 3) := by decide +kernel
theorem dX1_leavesWith_49 : decode cX1_leavesWith 49 = .ok (.iconst 1, 1) := by decide +kernel
theorem dX1_leavesWith_50 : decode cX1_leavesWith 50 = .ok (.goto 4, 3) := by decide +kernel
theorem dX1_leavesWith_53 : decode cX1_leavesWith 53 = .ok (.iconst 0, 1) := by decide +kernel
theorem dX1_leavesWith_54 : decode cX1_leavesWith 54 = .ok (.ireturn, 1) := by decide +kernel
theorem dX1_leads_0 : decode cX1_leads 0 = .ok (.aload_n 1, 1) := by decide +kernel
theorem dX1_leads_1 : decode cX1_leads 1 = .ok (.getfield 46, 3) := by decide +kernel
theorem dX1_leads_4 : decode cX1_leads 4 = .ok (.aload_n 0, 1) := by decide +kernel
theorem dX1_leads_5 : decode cX1_leads 5 = .ok (.getfield 28, 3) := by decide +kernel
theorem dX1_leads_8 : decode cX1_leads 8 = .ok (.iload_n 2, 1) := by decide +kernel
theorem dX1_leads_9 : decode cX1_leads 9 = .ok (.iaload, 1) := by decide +kernel
theorem dX1_leads_10 : decode cX1_leads 10 = .ok (.aaload, 1) := by decide +kernel
theorem dX1_leads_11 : decode cX1_leads 11 = .ok (.getfield 50, 3) := by decide +kernel
theorem dX1_leads_14 : decode cX1_leads 14 = .ok (.istore 4, 2) := by decide +kernel
theorem dX1_leads_16 : decode cX1_leads 16 = .ok (.aload_n 1, 1) := by decide +kernel
theorem dX1_leads_17 : decode cX1_leads 17 = .ok (.getfield 46, 3) := by decide +kernel
theorem dX1_leads_20 : decode cX1_leads 20 = .ok (.aload_n 0, 1) := by decide +kernel
theorem dX1_leads_21 : decode cX1_leads 21 = .ok (.getfield 28, 3) := by decide +kernel
theorem dX1_leads_24 : decode cX1_leads 24 = .ok (.iload_n 3, 1) := by decide +kernel
theorem dX1_leads_25 : decode cX1_leads 25 = .ok (.iaload, 1) := by decide +kernel
theorem dX1_leads_26 : decode cX1_leads 26 = .ok (.aaload, 1) := by decide +kernel
theorem dX1_leads_27 : decode cX1_leads 27 = .ok (.getfield 50, 3) := by decide +kernel
theorem dX1_leads_30 : decode cX1_leads 30 = .ok (.istore 5, 2) := by decide +kernel
theorem dX1_leads_32 : decode cX1_leads 32 = .ok (.iload 4, 2) := by decide +kernel
theorem dX1_leads_34 : decode cX1_leads 34 = .ok (.iload 5, 2) := by decide +kernel
theorem dX1_leads_36 : decode cX1_leads 36 = .ok (.if_icmp .gt 15, 3) := by decide +kernel
theorem dX1_leads_39 : decode cX1_leads 39 = .ok (.iload 4, 2) := by decide +kernel
theorem dX1_leads_41 : decode cX1_leads 41 = .ok (.iload 5, 2) := by decide +kernel
theorem dX1_leads_43 : decode cX1_leads 43 = .ok (.if_icmp .ne 12, 3) := by decide +kernel
theorem dX1_leads_46 : decode cX1_leads 46 = .ok (.iload_n 2, 1) := by decide +kernel
theorem dX1_leads_47 : decode cX1_leads 47 = .ok (.iload_n 3, 1) := by decide +kernel
theorem dX1_leads_48 : decode cX1_leads 48 = .ok (.if_icmp .ge 7, 3) := by decide +kernel
theorem dX1_leads_51 : decode cX1_leads 51 = .ok (.iconst 1, 1) := by decide +kernel
theorem dX1_leads_52 : decode cX1_leads 52 = .ok (.goto 4, 3) := by decide +kernel
theorem dX1_leads_55 : decode cX1_leads 55 = .ok (.iconst 0, 1) := by decide +kernel
theorem dX1_leads_56 : decode cX1_leads 56 = .ok (.ireturn, 1) := by decide +kernel
theorem dX1_findBest_0 : decode cX1_findBest 0 = .ok (.iconst 0, 1) := by decide +kernel
theorem dX1_findBest_1 : decode cX1_findBest 1 = .ok (.istore_n 2, 1) := by decide +kernel
theorem dX1_findBest_2 : decode cX1_findBest 2 = .ok (.iload_n 2, 1) := by decide +kernel
theorem dX1_findBest_3 : decode cX1_findBest 3 = .ok (.aload_n 0, 1) := by decide +kernel
theorem dX1_findBest_4 : decode cX1_findBest 4 = .ok (.getfield 9, 3) := by decide +kernel
theorem dX1_findBest_7 : decode cX1_findBest 7 = .ok (.if_icmp .ge 21, 3) := by decide +kernel
theorem dX1_findBest_10 : decode cX1_findBest 10 = .ok (.aload_n 0, 1) := by decide +kernel
theorem dX1_findBest_11 : decode cX1_findBest 11 = .ok (.getfield 31, 3) := by decide +kernel
theorem dX1_findBest_14 : decode cX1_findBest 14 = .ok (.iload_n 2, 1) := by decide +kernel
theorem dX1_findBest_15 : decode cX1_findBest 15 = .ok (.aload_n 0, 1) := by decide +kernel
theorem dX1_findBest_16 : decode cX1_findBest 16 = .ok (.getfield 22, 3) := by decide +kernel
theorem dX1_findBest_19 : decode cX1_findBest 19 = .ok (.iload_n 2, 1) := by decide +kernel
theorem dX1_findBest_20 : decode cX1_findBest 20 = .ok (.iaload, 1) := by decide +kernel
theorem dX1_findBest_21 : decode cX1_findBest 21 = .ok (.iastore, 1) := by decide +kernel
theorem dX1_findBest_22 : decode cX1_findBest 22 = .ok (.iinc 2 1, 3) := by decide +kernel
theorem dX1_findBest_25 : decode cX1_findBest 25 = .ok (.goto (-23), 3) := by decide +kernel
theorem dX1_findBest_28 : decode cX1_findBest 28 = .ok (.aload_n 0, 1) := by decide +kernel
theorem dX1_findBest_29 : decode cX1_findBest 29 = .ok (.aload_n 1, 1) := by decide +kernel
theorem dX1_findBest_30 : decode cX1_findBest 30 = .ok (.invokevirtual 69, 3) := by decide +kernel
theorem dX1_findBest_33 : decode cX1_findBest 33 = .ok (.istore_n 2, 1) := by decide +kernel
theorem dX1_findBest_34 : decode cX1_findBest 34 = .ok (.aload_n 0, 1) := by decide +kernel
theorem dX1_findBest_35 : decode cX1_findBest 35 = .ok (.getfield 31, 3) := by decide +kernel
theorem dX1_findBest_38 : decode cX1_findBest 38 = .ok (.iconst 0, 1) := by decide +kernel
theorem dX1_findBest_39 : decode cX1_findBest 39 = .ok (.aload_n 0, 1) := by decide +kernel
theorem dX1_findBest_40 : decode cX1_findBest 40 = .ok (.getfield 34, 3) := by decide +kernel
theorem dX1_findBest_43 : decode cX1_findBest 43 = .ok (.iconst 0, 1) := by decide +kernel
theorem dX1_findBest_44 : decode cX1_findBest 44 = .ok (.iconst 5, 1) := by decide +kernel
theorem dX1_findBest_45 : decode cX1_findBest 45 = .ok (.invokestatic 73, 3) := by decide +kernel
theorem dX1_findBest_48 : decode cX1_findBest 48 = .ok (.aload_n 0, 1) := by decide +kernel
theorem dX1_findBest_49 : decode cX1_findBest 49 = .ok (.invokevirtual 79, 3) := by decide +kernel
theorem dX1_findBest_52 : decode cX1_findBest 52 = .ok (.istore_n 3, 1) := by decide +kernel
theorem dX1_findBest_53 : decode cX1_findBest 53 = .ok (.iconst 1, 1) := by decide +kernel
theorem dX1_findBest_54 : decode cX1_findBest 54 = .ok (.istore 4, 2) := by decide +kernel
theorem dX1_findBest_56 : decode cX1_findBest 56 = .ok (.iload 4, 2) := by decide +kernel
theorem dX1_findBest_58 : decode cX1_findBest 58 = .ok (.iload_n 3, 1) := by decide +kernel
theorem dX1_findBest_59 : decode cX1_findBest 59 = .ok (.if_icmp .ge 43, 3) := by decide +kernel
theorem dX1_findBest_62 : decode cX1_findBest 62 = .ok (.aload_n 0, 1) := by decide +kernel
theorem dX1_findBest_63 : decode cX1_findBest 63 = .ok (.invokevirtual 83, 3) := by decide +kernel
theorem dX1_findBest_66 : decode cX1_findBest 66 = .ok (.aload_n 0, 1) := by decide +kernel
theorem dX1_findBest_67 : decode cX1_findBest 67 = .ok (.aload_n 1, 1) := by decide +kernel
theorem dX1_findBest_68 : decode cX1_findBest 68 = .ok (.invokevirtual 69, 3) := by decide +kernel
theorem dX1_findBest_71 : decode cX1_findBest 71 = .ok (.istore 5, 2) := by decide +kernel
theorem dX1_findBest_73 : decode cX1_findBest 73 = .ok (.iload 5, 2) := by decide +kernel
theorem dX1_findBest_75 : decode cX1_findBest 75 = .ok (.iload_n 2, 1) := by decide +kernel
theorem dX1_findBest_76 : decode cX1_findBest 76 = .ok (.if_icmp .ge 20, 3) := by decide +kernel
theorem dX1_findBest_79 : decode cX1_findBest 79 = .ok (.iload 5, 2) := by decide +kernel
theorem dX1_findBest_81 : decode cX1_findBest 81 = .ok (.istore_n 2, 1) := by decide +kernel
theorem dX1_findBest_82 : decode cX1_findBest 82 = .ok (.aload_n 0, 1) := by decide +kernel
theorem dX1_findBest_83 : decode cX1_findBest 83 = .ok (.getfield 31, 3) := by decide +kernel
theorem dX1_findBest_86 : decode cX1_findBest 86 = .ok (.iconst 0, 1) := by decide +kernel
theorem dX1_findBest_87 : decode cX1_findBest 87 = .ok (.aload_n 0, 1) := by decide +kernel
theorem dX1_findBest_88 : decode cX1_findBest 88 = .ok (.getfield 34, 3) := by decide +kernel
theorem dX1_findBest_91 : decode cX1_findBest 91 = .ok (.iconst 0, 1) := by decide +kernel
theorem dX1_findBest_92 : decode cX1_findBest 92 = .ok (.iconst 5, 1) := by decide +kernel
theorem dX1_findBest_93 : decode cX1_findBest 93 = .ok (.invokestatic 73, 3) := by decide +kernel
theorem dX1_findBest_96 : decode cX1_findBest 96 = .ok (.iinc 4 1, 3) := by decide +kernel
theorem dX1_findBest_99 : decode cX1_findBest 99 = .ok (.goto (-43), 3) := by decide +kernel
theorem dX1_findBest_102 : decode cX1_findBest 102 = .ok (.iload_n 2, 1) := by decide +kernel
theorem dX1_findBest_103 : decode cX1_findBest 103 = .ok (.ireturn, 1) := by decide +kernel
theorem dX1_choices_0 : decode cX1_choices 0 = .ok (.iconst 1, 1) := by decide +kernel
theorem dX1_choices_1 : decode cX1_choices 1 = .ok (.istore_n 1, 1) := by decide +kernel
theorem dX1_choices_2 : decode cX1_choices 2 = .ok (.iconst 0, 1) := by decide +kernel
theorem dX1_choices_3 : decode cX1_choices 3 = .ok (.istore_n 2, 1) := by decide +kernel
theorem dX1_choices_4 : decode cX1_choices 4 = .ok (.iload_n 2, 1) := by decide +kernel
theorem dX1_choices_5 : decode cX1_choices 5 = .ok (.aload_n 0, 1) := by decide +kernel
theorem dX1_choices_6 : decode cX1_choices 6 = .ok (.getfield 9, 3) := by decide +kernel
theorem dX1_choices_9 : decode cX1_choices 9 = .ok (.if_icmp .ge 27, 3) := by decide +kernel
theorem dX1_choices_12 : decode cX1_choices 12 = .ok (.iload_n 1, 1) := by decide +kernel
theorem dX1_choices_13 : decode cX1_choices 13 = .ok (.aload_n 0, 1) := by decide +kernel
theorem dX1_choices_14 : decode cX1_choices 14 = .ok (.getfield 25, 3) := by decide +kernel
theorem dX1_choices_17 : decode cX1_choices 17 = .ok (.iload_n 2, 1) := by decide +kernel
theorem dX1_choices_18 : decode cX1_choices 18 = .ok (.iaload, 1) := by decide +kernel
theorem dX1_choices_19 : decode cX1_choices 19 = .ok (.aload_n 0, 1) := by decide +kernel
theorem dX1_choices_20 : decode cX1_choices 20 = .ok (.getfield 22, 3) := by decide +kernel
theorem dX1_choices_23 : decode cX1_choices 23 = .ok (.iload_n 2, 1) := by decide +kernel
theorem dX1_choices_24 : decode cX1_choices 24 = .ok (.iaload, 1) := by decide +kernel
theorem dX1_choices_25 : decode cX1_choices 25 = .ok (.isub, 1) := by decide +kernel
theorem dX1_choices_26 : decode cX1_choices 26 = .ok (.iconst 1, 1) := by decide +kernel
theorem dX1_choices_27 : decode cX1_choices 27 = .ok (.iadd, 1) := by decide +kernel
theorem dX1_choices_28 : decode cX1_choices 28 = .ok (.imul, 1) := by decide +kernel
theorem dX1_choices_29 : decode cX1_choices 29 = .ok (.istore_n 1, 1) := by decide +kernel
theorem dX1_choices_30 : decode cX1_choices 30 = .ok (.iinc 2 1, 3) := by decide +kernel
theorem dX1_choices_33 : decode cX1_choices 33 = .ok (.goto (-29), 3) := by decide +kernel
theorem dX1_choices_36 : decode cX1_choices 36 = .ok (.iload_n 1, 1) := by decide +kernel
theorem dX1_choices_37 : decode cX1_choices 37 = .ok (.ireturn, 1) := by decide +kernel
theorem dX1_turn_0 : decode cX1_turn 0 = .ok (.aload_n 0, 1) := by decide +kernel
theorem dX1_turn_1 : decode cX1_turn 1 = .ok (.getfield 9, 3) := by decide +kernel
theorem dX1_turn_4 : decode cX1_turn 4 = .ok (.iconst 1, 1) := by decide +kernel
theorem dX1_turn_5 : decode cX1_turn 5 = .ok (.isub, 1) := by decide +kernel
theorem dX1_turn_6 : decode cX1_turn 6 = .ok (.istore_n 1, 1) := by decide +kernel
theorem dX1_turn_7 : decode cX1_turn 7 = .ok (.iload_n 1, 1) := by decide +kernel
theorem dX1_turn_8 : decode cX1_turn 8 = .ok (.ifCond .lt 47, 3) := by decide +kernel
theorem dX1_turn_11 : decode cX1_turn 11 = .ok (.aload_n 0, 1) := by decide +kernel
theorem dX1_turn_12 : decode cX1_turn 12 = .ok (.getfield 31, 3) := by decide +kernel
theorem dX1_turn_15 : decode cX1_turn 15 = .ok (.iload_n 1, 1) := by decide +kernel
theorem dX1_turn_16 : decode cX1_turn 16 = .ok (.iaload, 1) := by decide +kernel
theorem dX1_turn_17 : decode cX1_turn 17 = .ok (.aload_n 0, 1) := by decide +kernel
theorem dX1_turn_18 : decode cX1_turn 18 = .ok (.getfield 25, 3) := by decide +kernel
theorem dX1_turn_21 : decode cX1_turn 21 = .ok (.iload_n 1, 1) := by decide +kernel
theorem dX1_turn_22 : decode cX1_turn 22 = .ok (.iaload, 1) := by decide +kernel
theorem dX1_turn_23 : decode cX1_turn 23 = .ok (.if_icmp .ge 14, 3) := by decide +kernel
theorem dX1_turn_26 : decode cX1_turn 26 = .ok (.aload_n 0, 1) := by decide +kernel
theorem dX1_turn_27 : decode cX1_turn 27 = .ok (.getfield 31, 3) := by decide +kernel
theorem dX1_turn_30 : decode cX1_turn 30 = .ok (.iload_n 1, 1) := by decide +kernel
theorem dX1_turn_31 : decode cX1_turn 31 = .ok (.dup2, 1) := by decide +kernel
theorem dX1_turn_32 : decode cX1_turn 32 = .ok (.iaload, 1) := by decide +kernel
theorem dX1_turn_33 : decode cX1_turn 33 = .ok (.iconst 1, 1) := by decide +kernel
theorem dX1_turn_34 : decode cX1_turn 34 = .ok (.iadd, 1) := by decide +kernel
theorem dX1_turn_35 : decode cX1_turn 35 = .ok (.iastore, 1) := by decide +kernel
theorem dX1_turn_36 : decode cX1_turn 36 = .ok (.return_, 1) := by decide +kernel
theorem dX1_turn_37 : decode cX1_turn 37 = .ok (.aload_n 0, 1) := by decide +kernel
theorem dX1_turn_38 : decode cX1_turn 38 = .ok (.getfield 31, 3) := by decide +kernel
theorem dX1_turn_41 : decode cX1_turn 41 = .ok (.iload_n 1, 1) := by decide +kernel
theorem dX1_turn_42 : decode cX1_turn 42 = .ok (.aload_n 0, 1) := by decide +kernel
theorem dX1_turn_43 : decode cX1_turn 43 = .ok (.getfield 22, 3) := by decide +kernel
theorem dX1_turn_46 : decode cX1_turn 46 = .ok (.iload_n 1, 1) := by decide +kernel
theorem dX1_turn_47 : decode cX1_turn 47 = .ok (.iaload, 1) := by decide +kernel
theorem dX1_turn_48 : decode cX1_turn 48 = .ok (.iastore, 1) := by decide +kernel
theorem dX1_turn_49 : decode cX1_turn 49 = .ok (.iinc 1 (-1), 3) := by decide +kernel
theorem dX1_turn_52 : decode cX1_turn 52 = .ok (.goto (-45), 3) := by decide +kernel
theorem dX1_turn_55 : decode cX1_turn 55 = .ok (.return_, 1) := by decide +kernel
theorem dX2_init_0 : decode cX2_init 0 = .ok (.aload_n 0, 1) := by decide +kernel
theorem dX2_init_1 : decode cX2_init 1 = .ok (.invokespecial 1, 3) := by decide +kernel
theorem dX2_init_4 : decode cX2_init 4 = .ok (.aload_n 0, 1) := by decide +kernel
theorem dX2_init_5 : decode cX2_init 5 = .ok (.iconst 1, 1) := by decide +kernel
theorem dX2_init_6 : decode cX2_init 6 = .ok (.putfield 7, 3) := by decide +kernel
theorem dX2_init_9 : decode cX2_init 9 = .ok (.aload_n 0, 1) := by decide +kernel
theorem dX2_init_10 : decode cX2_init 10 = .ok (.iconst 4, 1) := by decide +kernel
theorem dX2_init_11 : decode cX2_init 11 = .ok (.putfield 13, 3) := by decide +kernel
theorem dX2_init_14 : decode cX2_init 14 = .ok (.aload_n 0, 1) := by decide +kernel
theorem dX2_init_15 : decode cX2_init 15 = .ok (.iconst 2, 1) := by decide +kernel
theorem dX2_init_16 : decode cX2_init 16 = .ok (.putfield 16, 3) := by decide +kernel
theorem dX2_init_19 : decode cX2_init 19 = .ok (.aload_n 0, 1) := by decide +kernel
theorem dX2_init_20 : decode cX2_init 20 = .ok (.iconst 0, 1) := by decide +kernel
theorem dX2_init_21 : decode cX2_init 21 = .ok (.putfield 19, 3) := by decide +kernel
theorem dX2_init_24 : decode cX2_init 24 = .ok (.aload_n 0, 1) := by decide +kernel
theorem dX2_init_25 : decode cX2_init 25 = .ok (.new 22, 3) := by decide +kernel
theorem dX2_init_28 : decode cX2_init 28 = .ok (.dup, 1) := by decide +kernel
theorem dX2_init_29 : decode cX2_init 29 = .ok (.invokespecial 24, 3) := by decide +kernel
theorem dX2_init_32 : decode cX2_init 32 = .ok (.putfield 25, 3) := by decide +kernel
theorem dX2_init_35 : decode cX2_init 35 = .ok (.return_, 1) := by decide +kernel
theorem dX2_bounded_0 : decode cX2_bounded 0 = .ok (.aload_n 0, 1) := by decide +kernel
theorem dX2_bounded_1 : decode cX2_bounded 1 = .ok (.getfield 13, 3) := by decide +kernel
theorem dX2_bounded_4 : decode cX2_bounded 4 = .ok (.ineg, 1) := by decide +kernel
theorem dX2_bounded_5 : decode cX2_bounded 5 = .ok (.aload_n 0, 1) := by decide +kernel
theorem dX2_bounded_6 : decode cX2_bounded 6 = .ok (.getfield 16, 3) := by decide +kernel
theorem dX2_bounded_9 : decode cX2_bounded 9 = .ok (.iload_n 1, 1) := by decide +kernel
theorem dX2_bounded_10 : decode cX2_bounded 10 = .ok (.invokestatic 29, 3) := by decide +kernel
theorem dX2_bounded_13 : decode cX2_bounded 13 = .ok (.invokestatic 35, 3) := by decide +kernel
theorem dX2_bounded_16 : decode cX2_bounded 16 = .ok (.ireturn, 1) := by decide +kernel
theorem dX3_init_0 : decode cX3_init 0 = .ok (.aload_n 0, 1) := by decide +kernel
theorem dX3_init_1 : decode cX3_init 1 = .ok (.invokespecial 3, 3) := by decide +kernel
theorem dX3_init_4 : decode cX3_init 4 = .ok (.aload_n 0, 1) := by decide +kernel
theorem dX3_init_5 : decode cX3_init 5 = .ok (.iconst 4, 1) := by decide +kernel
theorem dX3_init_6 : decode cX3_init 6 = .ok (.anewarray 9, 3) := by decide +kernel
theorem dX3_init_9 : decode cX3_init 9 = .ok (.dup, 1) := by decide +kernel
theorem dX3_init_10 : decode cX3_init 10 = .ok (.iconst 0, 1) := by decide +kernel
theorem dX3_init_11 : decode cX3_init 11 = .ok (.new 9, 3) := by decide +kernel
theorem dX3_init_14 : decode cX3_init 14 = .ok (.dup, 1) := by decide +kernel
theorem dX3_init_15 : decode cX3_init 15 = .ok (.invokespecial 11, 3) := by decide +kernel
theorem dX3_init_18 : decode cX3_init 18 = .ok (.aastore, 1) := by decide +kernel
theorem dX3_init_19 : decode cX3_init 19 = .ok (.dup, 1) := by decide +kernel
theorem dX3_init_20 : decode cX3_init 20 = .ok (.iconst 1, 1) := by decide +kernel
theorem dX3_init_21 : decode cX3_init 21 = .ok (.new 9, 3) := by decide +kernel
theorem dX3_init_24 : decode cX3_init 24 = .ok (.dup, 1) := by decide +kernel
theorem dX3_init_25 : decode cX3_init 25 = .ok (.invokespecial 11, 3) := by decide +kernel
theorem dX3_init_28 : decode cX3_init 28 = .ok (.aastore, 1) := by decide +kernel
theorem dX3_init_29 : decode cX3_init 29 = .ok (.dup, 1) := by decide +kernel
theorem dX3_init_30 : decode cX3_init 30 = .ok (.iconst 2, 1) := by decide +kernel
theorem dX3_init_31 : decode cX3_init 31 = .ok (.new 9, 3) := by decide +kernel
theorem dX3_init_34 : decode cX3_init 34 = .ok (.dup, 1) := by decide +kernel
theorem dX3_init_35 : decode cX3_init 35 = .ok (.invokespecial 11, 3) := by decide +kernel
theorem dX3_init_38 : decode cX3_init 38 = .ok (.aastore, 1) := by decide +kernel
theorem dX3_init_39 : decode cX3_init 39 = .ok (.dup, 1) := by decide +kernel
theorem dX3_init_40 : decode cX3_init 40 = .ok (.iconst 3, 1) := by decide +kernel
theorem dX3_init_41 : decode cX3_init 41 = .ok (.new 9, 3) := by decide +kernel
theorem dX3_init_44 : decode cX3_init 44 = .ok (.dup, 1) := by decide +kernel
theorem dX3_init_45 : decode cX3_init 45 = .ok (.invokespecial 11, 3) := by decide +kernel
theorem dX3_init_48 : decode cX3_init 48 = .ok (.aastore, 1) := by decide +kernel
theorem dX3_init_49 : decode cX3_init 49 = .ok (.putfield 12, 3) := by decide +kernel
theorem dX3_init_52 : decode cX3_init 52 = .ok (.aload_n 0, 1) := by decide +kernel
theorem dX3_init_53 : decode cX3_init 53 = .ok (.iconst 1, 1) := by decide +kernel
theorem dX3_init_54 : decode cX3_init 54 = .ok (.putfield 18, 3) := by decide +kernel
theorem dX3_init_57 : decode cX3_init 57 = .ok (.aload_n 0, 1) := by decide +kernel
theorem dX3_init_58 : decode cX3_init 58 = .ok (.bipush 6, 2) := by decide +kernel
theorem dX3_init_60 : decode cX3_init 60 = .ok (.newarray .int, 2) := by decide +kernel
theorem dX3_init_62 : decode cX3_init 62 = .ok (.putfield 22, 3) := by decide +kernel
theorem dX3_init_65 : decode cX3_init 65 = .ok (.aload_n 0, 1) := by decide +kernel
theorem dX3_init_66 : decode cX3_init 66 = .ok (.iconst 5, 1) := by decide +kernel
theorem dX3_init_67 : decode cX3_init 67 = .ok (.newarray .int, 2) := by decide +kernel
theorem dX3_init_69 : decode cX3_init 69 = .ok (.dup, 1) := by decide +kernel
theorem dX3_init_70 : decode cX3_init 70 = .ok (.iconst 0, 1) := by decide +kernel
theorem dX3_init_71 : decode cX3_init 71 = .ok (.bipush 10, 2) := by decide +kernel
theorem dX3_init_73 : decode cX3_init 73 = .ok (.iastore, 1) := by decide +kernel
theorem dX3_init_74 : decode cX3_init 74 = .ok (.dup, 1) := by decide +kernel
theorem dX3_init_75 : decode cX3_init 75 = .ok (.iconst 1, 1) := by decide +kernel
theorem dX3_init_76 : decode cX3_init 76 = .ok (.bipush 20, 2) := by decide +kernel
theorem dX3_init_78 : decode cX3_init 78 = .ok (.iastore, 1) := by decide +kernel
theorem dX3_init_79 : decode cX3_init 79 = .ok (.dup, 1) := by decide +kernel
theorem dX3_init_80 : decode cX3_init 80 = .ok (.iconst 2, 1) := by decide +kernel
theorem dX3_init_81 : decode cX3_init 81 = .ok (.iconst 1, 1) := by decide +kernel
theorem dX3_init_82 : decode cX3_init 82 = .ok (.iastore, 1) := by decide +kernel
theorem dX3_init_83 : decode cX3_init 83 = .ok (.dup, 1) := by decide +kernel
theorem dX3_init_84 : decode cX3_init 84 = .ok (.iconst 3, 1) := by decide +kernel
theorem dX3_init_85 : decode cX3_init 85 = .ok (.iconst 2, 1) := by decide +kernel
theorem dX3_init_86 : decode cX3_init 86 = .ok (.iastore, 1) := by decide +kernel
theorem dX3_init_87 : decode cX3_init 87 = .ok (.dup, 1) := by decide +kernel
theorem dX3_init_88 : decode cX3_init 88 = .ok (.iconst 4, 1) := by decide +kernel
theorem dX3_init_89 : decode cX3_init 89 = .ok (.iconst 1, 1) := by decide +kernel
theorem dX3_init_90 : decode cX3_init 90 = .ok (.iastore, 1) := by decide +kernel
theorem dX3_init_91 : decode cX3_init 91 = .ok (.putfield 26, 3) := by decide +kernel
theorem dX3_init_94 : decode cX3_init 94 = .ok (.aload_n 0, 1) := by decide +kernel
theorem dX3_init_95 : decode cX3_init 95 = .ok (.iconst 0, 1) := by decide +kernel
theorem dX3_init_96 : decode cX3_init 96 = .ok (.putfield 29, 3) := by decide +kernel
theorem dX3_init_99 : decode cX3_init 99 = .ok (.aload_n 0, 1) := by decide +kernel
theorem dX3_init_100 : decode cX3_init 100 = .ok (.iconst 0, 1) := by decide +kernel
theorem dX3_init_101 : decode cX3_init 101 = .ok (.putfield 32, 3) := by decide +kernel
theorem dX3_init_104 : decode cX3_init 104 = .ok (.aload_n 0, 1) := by decide +kernel
theorem dX3_init_105 : decode cX3_init 105 = .ok (.bipush 8, 2) := by decide +kernel
theorem dX3_init_107 : decode cX3_init 107 = .ok (.newarray .int, 2) := by decide +kernel
theorem dX3_init_109 : decode cX3_init 109 = .ok (.putfield 35, 3) := by decide +kernel
theorem dX3_init_112 : decode cX3_init 112 = .ok (.aload_n 0, 1) := by decide +kernel
theorem dX3_init_113 : decode cX3_init 113 = .ok (.bipush 8, 2) := by decide +kernel
theorem dX3_init_115 : decode cX3_init 115 = .ok (.newarray .int, 2) := by decide +kernel
theorem dX3_init_117 : decode cX3_init 117 = .ok (.putfield 38, 3) := by decide +kernel
theorem dX3_init_120 : decode cX3_init 120 = .ok (.aload_n 0, 1) := by decide +kernel
theorem dX3_init_121 : decode cX3_init 121 = .ok (.iconst 0, 1) := by decide +kernel
theorem dX3_init_122 : decode cX3_init 122 = .ok (.putfield 41, 3) := by decide +kernel
theorem dX3_init_125 : decode cX3_init 125 = .ok (.aload_n 0, 1) := by decide +kernel
theorem dX3_init_126 : decode cX3_init 126 = .ok (.iconst 2, 1) := by decide +kernel
theorem dX3_init_127 : decode cX3_init 127 = .ok (.newarray .int, 2) := by decide +kernel
theorem dX3_init_129 : decode cX3_init 129 = .ok (.putfield 44, 3) := by decide +kernel
theorem dX3_init_132 : decode cX3_init 132 = .ok (.aload_n 0, 1) := by decide +kernel
theorem dX3_init_133 : decode cX3_init 133 = .ok (.iconst 2, 1) := by decide +kernel
theorem dX3_init_134 : decode cX3_init 134 = .ok (.newarray .int, 2) := by decide +kernel
theorem dX3_init_136 : decode cX3_init 136 = .ok (.putfield 47, 3) := by decide +kernel
theorem dX3_init_139 : decode cX3_init 139 = .ok (.aload_n 0, 1) := by decide +kernel
theorem dX3_init_140 : decode cX3_init 140 = .ok (.iconst 2, 1) := by decide +kernel
theorem dX3_init_141 : decode cX3_init 141 = .ok (.newarray .int, 2) := by decide +kernel
theorem dX3_init_143 : decode cX3_init 143 = .ok (.putfield 50, 3) := by decide +kernel
theorem dX3_init_146 : decode cX3_init 146 = .ok (.aload_n 0, 1) := by decide +kernel
theorem dX3_init_147 : decode cX3_init 147 = .ok (.iconst 2, 1) := by decide +kernel
theorem dX3_init_148 : decode cX3_init 148 = .ok (.newarray .int, 2) := by decide +kernel
theorem dX3_init_150 : decode cX3_init 150 = .ok (.putfield 53, 3) := by decide +kernel
theorem dX3_init_153 : decode cX3_init 153 = .ok (.aload_n 0, 1) := by decide +kernel
theorem dX3_init_154 : decode cX3_init 154 = .ok (.iconst 0, 1) := by decide +kernel
theorem dX3_init_155 : decode cX3_init 155 = .ok (.putfield 56, 3) := by decide +kernel
theorem dX3_init_158 : decode cX3_init 158 = .ok (.aload_n 0, 1) := by decide +kernel
theorem dX3_init_159 : decode cX3_init 159 = .ok (.iconst 0, 1) := by decide +kernel
theorem dX3_init_160 : decode cX3_init 160 = .ok (.putfield 59, 3) := by decide +kernel
theorem dX3_init_163 : decode cX3_init 163 = .ok (.aload_n 0, 1) := by decide +kernel
theorem dX3_init_164 : decode cX3_init 164 = .ok (.iconst 0, 1) := by decide +kernel
theorem dX3_init_165 : decode cX3_init 165 = .ok (.putfield 62, 3) := by decide +kernel
theorem dX3_init_168 : decode cX3_init 168 = .ok (.aload_n 0, 1) := by decide +kernel
theorem dX3_init_169 : decode cX3_init 169 = .ok (.iconst 0, 1) := by decide +kernel
theorem dX3_init_170 : decode cX3_init 170 = .ok (.putfield 65, 3) := by decide +kernel
theorem dX3_init_173 : decode cX3_init 173 = .ok (.return_, 1) := by decide +kernel
theorem dX3_makeOfLorry_0 : decode cX3_makeOfLorry 0 = .ok (.aload_n 0, 1) := by decide +kernel
theorem dX3_makeOfLorry_1 : decode cX3_makeOfLorry 1 = .ok (.getfield 12, 3) := by decide +kernel
theorem dX3_makeOfLorry_4 : decode cX3_makeOfLorry 4 = .ok (.aload_n 0, 1) := by decide +kernel
theorem dX3_makeOfLorry_5 : decode cX3_makeOfLorry 5 = .ok (.getfield 22, 3) := by decide +kernel
theorem dX3_makeOfLorry_8 : decode cX3_makeOfLorry 8 = .ok (.iload_n 1, 1) := by decide +kernel
theorem dX3_makeOfLorry_9 : decode cX3_makeOfLorry 9 = .ok (.iaload, 1) := by decide +kernel
theorem dX3_makeOfLorry_10 : decode cX3_makeOfLorry 10 = .ok (.aaload, 1) := by decide +kernel
theorem dX3_makeOfLorry_11 : decode cX3_makeOfLorry 11 = .ok (.areturn, 1) := by decide +kernel
theorem dX3_pushIn_0 : decode cX3_pushIn 0 = .ok (.iconst 0, 1) := by decide +kernel
theorem dX3_pushIn_1 : decode cX3_pushIn 1 = .ok (.istore_n 2, 1) := by decide +kernel
theorem dX3_pushIn_2 : decode cX3_pushIn 2 = .ok (.iconst 0, 1) := by decide +kernel
theorem dX3_pushIn_3 : decode cX3_pushIn 3 = .ok (.istore_n 3, 1) := by decide +kernel
theorem dX3_pushIn_4 : decode cX3_pushIn 4 = .ok (.iload_n 3, 1) := by decide +kernel
theorem dX3_pushIn_5 : decode cX3_pushIn 5 = .ok (.aload_n 0, 1) := by decide +kernel
theorem dX3_pushIn_6 : decode cX3_pushIn 6 = .ok (.getfield 32, 3) := by decide +kernel
theorem dX3_pushIn_9 : decode cX3_pushIn 9 = .ok (.if_icmp .ge 26, 3) := by decide +kernel
theorem dX3_pushIn_12 : decode cX3_pushIn 12 = .ok (.aload_n 0, 1) := by decide +kernel
theorem dX3_pushIn_13 : decode cX3_pushIn 13 = .ok (.getfield 35, 3) := by decide +kernel
theorem dX3_pushIn_16 : decode cX3_pushIn 16 = .ok (.iload_n 3, 1) := by decide +kernel
theorem dX3_pushIn_17 : decode cX3_pushIn 17 = .ok (.iaload, 1) := by decide +kernel
theorem dX3_pushIn_18 : decode cX3_pushIn 18 = .ok (.iload_n 1, 1) := by decide +kernel
theorem dX3_pushIn_19 : decode cX3_pushIn 19 = .ok (.if_icmp .ne 10, 3) := by decide +kernel
theorem dX3_pushIn_22 : decode cX3_pushIn 22 = .ok (.aload_n 0, 1) := by decide +kernel
theorem dX3_pushIn_23 : decode cX3_pushIn 23 = .ok (.getfield 38, 3) := by decide +kernel
theorem dX3_pushIn_26 : decode cX3_pushIn 26 = .ok (.iload_n 3, 1) := by decide +kernel
theorem dX3_pushIn_27 : decode cX3_pushIn 27 = .ok (.iaload, 1) := by decide +kernel
theorem dX3_pushIn_28 : decode cX3_pushIn 28 = .ok (.istore_n 2, 1) := by decide +kernel
theorem dX3_pushIn_29 : decode cX3_pushIn 29 = .ok (.iinc 3 1, 3) := by decide +kernel
theorem dX3_pushIn_32 : decode cX3_pushIn 32 = .ok (.goto (-28), 3) := by decide +kernel
theorem dX3_pushIn_35 : decode cX3_pushIn 35 = .ok (.iload_n 2, 1) := by decide +kernel
theorem dX3_pushIn_36 : decode cX3_pushIn 36 = .ok (.ireturn, 1) := by decide +kernel
theorem dX3_mostSpeed_0 : decode cX3_mostSpeed 0 = .ok (.bipush 40, 2) := by decide +kernel
theorem dX3_mostSpeed_2 : decode cX3_mostSpeed 2 = .ok (.istore_n 3, 1) := by decide +kernel
theorem dX3_mostSpeed_3 : decode cX3_mostSpeed 3 = .ok (.iconst 0, 1) := by decide +kernel
theorem dX3_mostSpeed_4 : decode cX3_mostSpeed 4 = .ok (.istore 4, 2) := by decide +kernel
theorem dX3_mostSpeed_6 : decode cX3_mostSpeed 6 = .ok (.iload 4, 2) := by decide +kernel
theorem dX3_mostSpeed_8 : decode cX3_mostSpeed 8 = .ok (.aload_n 0, 1) := by decide +kernel
theorem dX3_mostSpeed_9 : decode cX3_mostSpeed 9 = .ok (.getfield 41, 3) := by decide +kernel
theorem dX3_mostSpeed_12 : decode cX3_mostSpeed 12 = .ok (.if_icmp .ge 66, 3) := by decide +kernel
theorem dX3_mostSpeed_15 : decode cX3_mostSpeed 15 = .ok (.iload_n 2, 1) := by decide +kernel
theorem dX3_mostSpeed_16 : decode cX3_mostSpeed 16 = .ok (.aload_n 0, 1) := by decide +kernel
theorem dX3_mostSpeed_17 : decode cX3_mostSpeed 17 = .ok (.getfield 44, 3) := by decide +kernel
theorem dX3_mostSpeed_20 : decode cX3_mostSpeed 20 = .ok (.iload 4, 2) := by decide +kernel
theorem dX3_mostSpeed_22 : decode cX3_mostSpeed 22 = .ok (.iaload, 1) := by decide +kernel
theorem dX3_mostSpeed_23 : decode cX3_mostSpeed 23 = .ok (.if_icmp .lt 18, 3) := by decide +kernel
theorem dX3_mostSpeed_26 : decode cX3_mostSpeed 26 = .ok (.iload_n 2, 1) := by decide +kernel
theorem dX3_mostSpeed_27 : decode cX3_mostSpeed 27 = .ok (.aload_n 0, 1) := by decide +kernel
theorem dX3_mostSpeed_28 : decode cX3_mostSpeed 28 = .ok (.getfield 47, 3) := by decide +kernel
theorem dX3_mostSpeed_31 : decode cX3_mostSpeed 31 = .ok (.iload 4, 2) := by decide +kernel
theorem dX3_mostSpeed_33 : decode cX3_mostSpeed 33 = .ok (.iaload, 1) := by decide +kernel
theorem dX3_mostSpeed_34 : decode cX3_mostSpeed 34 = .ok (.if_icmp .gt 7, 3) := by decide +kernel
theorem dX3_mostSpeed_37 : decode cX3_mostSpeed 37 = .ok (.iconst 1, 1) := by decide +kernel
theorem dX3_mostSpeed_38 : decode cX3_mostSpeed 38 = .ok (.goto 4, 3) := by decide +kernel
theorem dX3_mostSpeed_41 : decode cX3_mostSpeed 41 = .ok (.iconst 0, 1) := by decide +kernel
theorem dX3_mostSpeed_42 : decode cX3_mostSpeed 42 = .ok (.istore 5, 2) := by decide +kernel
theorem dX3_mostSpeed_44 : decode cX3_mostSpeed 44 = .ok (.iload 5, 2) := by decide +kernel
theorem dX3_mostSpeed_46 : decode cX3_mostSpeed 46 = .ok (.ifCond .eq 26, 3) := by decide +kernel
theorem dX3_mostSpeed_49 : decode cX3_mostSpeed 49 = .ok (.iload_n 1, 1) := by decide +kernel
theorem dX3_mostSpeed_50 : decode cX3_mostSpeed 50 = .ok (.aload_n 0, 1) := by decide +kernel
theorem dX3_mostSpeed_51 : decode cX3_mostSpeed 51 = .ok (.getfield 50, 3) := by decide +kernel
theorem dX3_mostSpeed_54 : decode cX3_mostSpeed 54 = .ok (.iload 4, 2) := by decide +kernel
theorem dX3_mostSpeed_56 : decode cX3_mostSpeed 56 = .ok (.iaload, 1) := by decide +kernel
theorem dX3_mostSpeed_57 : decode cX3_mostSpeed 57 = .ok (.if_icmp .le 15, 3) := by decide +kernel
theorem dX3_mostSpeed_60 : decode cX3_mostSpeed 60 = .ok (.iload_n 3, 1) := by decide +kernel
theorem dX3_mostSpeed_61 : decode cX3_mostSpeed 61 = .ok (.aload_n 0, 1) := by decide +kernel
theorem dX3_mostSpeed_62 : decode cX3_mostSpeed 62 = .ok (.getfield 53, 3) := by decide +kernel
theorem dX3_mostSpeed_65 : decode cX3_mostSpeed 65 = .ok (.iload 4, 2) := by decide +kernel
theorem dX3_mostSpeed_67 : decode cX3_mostSpeed 67 = .ok (.iaload, 1) := by decide +kernel
theorem dX3_mostSpeed_68 : decode cX3_mostSpeed 68 = .ok (.invokestatic 68, 3) := by decide +kernel
theorem dX3_mostSpeed_71 : decode cX3_mostSpeed 71 = .ok (.istore_n 3, 1) := by decide +kernel
theorem dX3_mostSpeed_72 : decode cX3_mostSpeed 72 = .ok (.iinc 4 1, 3) := by decide +kernel
theorem dX3_mostSpeed_75 : decode cX3_mostSpeed 75 = .ok (.goto (-69), 3) := by decide +kernel
theorem dX3_mostSpeed_78 : decode cX3_mostSpeed 78 = .ok (.iload_n 3, 1) := by decide +kernel
theorem dX3_mostSpeed_79 : decode cX3_mostSpeed 79 = .ok (.ireturn, 1) := by decide +kernel
theorem dX3_hasStrangerAhead_0 : decode cX3_hasStrangerAhead 0 = .ok (.iload_n 1, 1) := by decide +kernel
theorem dX3_hasStrangerAhead_1 : decode cX3_hasStrangerAhead 1 = .ok (.ifCond .le 31, 3) := by decide +kernel
theorem dX3_hasStrangerAhead_4 : decode cX3_hasStrangerAhead 4 = .ok (.iload_n 1, 1) := by decide +kernel
theorem dX3_hasStrangerAhead_5 : decode cX3_hasStrangerAhead 5 = .ok (.aload_n 0, 1) := by decide +kernel
theorem dX3_hasStrangerAhead_6 : decode cX3_hasStrangerAhead 6 = .ok (.getfield 56, 3) := by decide +kernel
theorem dX3_hasStrangerAhead_9 : decode cX3_hasStrangerAhead 9 = .ok (.if_icmp .ne 23, 3) := by decide +kernel
theorem dX3_hasStrangerAhead_12 : decode cX3_hasStrangerAhead 12 = .ok (.iload_n 2, 1) := by decide +kernel
theorem dX3_hasStrangerAhead_13 : decode cX3_hasStrangerAhead 13 = .ok (.aload_n 0, 1) := by decide +kernel
theorem dX3_hasStrangerAhead_14 : decode cX3_hasStrangerAhead 14 = .ok (.getfield 59, 3) := by decide +kernel
theorem dX3_hasStrangerAhead_17 : decode cX3_hasStrangerAhead 17 = .ok (.if_icmp .lt 15, 3) := by decide +kernel
theorem dX3_hasStrangerAhead_20 : decode cX3_hasStrangerAhead 20 = .ok (.iload_n 2, 1) := by decide +kernel
theorem dX3_hasStrangerAhead_21 : decode cX3_hasStrangerAhead 21 = .ok (.aload_n 0, 1) := by decide +kernel
theorem dX3_hasStrangerAhead_22 : decode cX3_hasStrangerAhead 22 = .ok (.getfield 62, 3) := by decide +kernel
theorem dX3_hasStrangerAhead_25 : decode cX3_hasStrangerAhead 25 = .ok (.if_icmp .gt 7, 3) := by decide +kernel
theorem dX3_hasStrangerAhead_28 : decode cX3_hasStrangerAhead 28 = .ok (.iconst 1, 1) := by decide +kernel
theorem dX3_hasStrangerAhead_29 : decode cX3_hasStrangerAhead 29 = .ok (.goto 4, 3) := by decide +kernel
theorem dX3_hasStrangerAhead_32 : decode cX3_hasStrangerAhead 32 = .ok (.iconst 0, 1) := by decide +kernel
theorem dX3_hasStrangerAhead_33 : decode cX3_hasStrangerAhead 33 = .ok (.ireturn, 1) := by decide +kernel
theorem dX4_init_0 : decode cX4_init 0 = .ok (.aload_n 0, 1) := by decide +kernel
theorem dX4_init_1 : decode cX4_init 1 = .ok (.invokespecial 3, 3) := by decide +kernel
theorem dX4_init_4 : decode cX4_init 4 = .ok (.aload_n 0, 1) := by decide +kernel
theorem dX4_init_5 : decode cX4_init 5 = .ok (.bipush 6, 2) := by decide +kernel
theorem dX4_init_7 : decode cX4_init 7 = .ok (.bipush 33, 2) := by decide +kernel
theorem dX4_init_9 : decode cX4_init 9 = .ok (.multianewarray 9 2, 4) := by decide +kernel
theorem dX4_init_13 : decode cX4_init 13 = .ok (.putfield 11, 3) := by decide +kernel
theorem dX4_init_16 : decode cX4_init 16 = .ok (.aload_n 0, 1) := by decide +kernel
theorem dX4_init_17 : decode cX4_init 17 = .ok (.bipush 6, 2) := by decide +kernel
theorem dX4_init_19 : decode cX4_init 19 = .ok (.bipush 33, 2) := by decide +kernel
theorem dX4_init_21 : decode cX4_init 21 = .ok (.multianewarray 9 2, 4) := by decide +kernel
theorem dX4_init_25 : decode cX4_init 25 = .ok (.putfield 16, 3) := by decide +kernel
theorem dX4_init_28 : decode cX4_init 28 = .ok (.aload_n 0, 1) := by decide +kernel
theorem dX4_init_29 : decode cX4_init 29 = .ok (.bipush 6, 2) := by decide +kernel
theorem dX4_init_31 : decode cX4_init 31 = .ok (.bipush 33, 2) := by decide +kernel
theorem dX4_init_33 : decode cX4_init 33 = .ok (.multianewarray 9 2, 4) := by decide +kernel
theorem dX4_init_37 : decode cX4_init 37 = .ok (.putfield 19, 3) := by decide +kernel
theorem dX4_init_40 : decode cX4_init 40 = .ok (.aload_n 0, 1) := by decide +kernel
theorem dX4_init_41 : decode cX4_init 41 = .ok (.bipush 6, 2) := by decide +kernel
theorem dX4_init_43 : decode cX4_init 43 = .ok (.bipush 32, 2) := by decide +kernel
theorem dX4_init_45 : decode cX4_init 45 = .ok (.multianewarray 9 2, 4) := by decide +kernel
theorem dX4_init_49 : decode cX4_init 49 = .ok (.putfield 22, 3) := by decide +kernel
theorem dX4_init_52 : decode cX4_init 52 = .ok (.aload_n 0, 1) := by decide +kernel
theorem dX4_init_53 : decode cX4_init 53 = .ok (.bipush 32, 2) := by decide +kernel
theorem dX4_init_55 : decode cX4_init 55 = .ok (.newarray .int, 2) := by decide +kernel
theorem dX4_init_57 : decode cX4_init 57 = .ok (.putfield 25, 3) := by decide +kernel
theorem dX4_init_60 : decode cX4_init 60 = .ok (.aload_n 0, 1) := by decide +kernel
theorem dX4_init_61 : decode cX4_init 61 = .ok (.bipush 32, 2) := by decide +kernel
theorem dX4_init_63 : decode cX4_init 63 = .ok (.newarray .int, 2) := by decide +kernel
theorem dX4_init_65 : decode cX4_init 65 = .ok (.putfield 29, 3) := by decide +kernel
theorem dX4_init_68 : decode cX4_init 68 = .ok (.aload_n 0, 1) := by decide +kernel
theorem dX4_init_69 : decode cX4_init 69 = .ok (.iconst (-1), 1) := by decide +kernel
theorem dX4_init_70 : decode cX4_init 70 = .ok (.putfield 32, 3) := by decide +kernel
theorem dX4_init_73 : decode cX4_init 73 = .ok (.aload_n 0, 1) := by decide +kernel
theorem dX4_init_74 : decode cX4_init 74 = .ok (.iconst (-1), 1) := by decide +kernel
theorem dX4_init_75 : decode cX4_init 75 = .ok (.putfield 36, 3) := by decide +kernel
theorem dX4_init_78 : decode cX4_init 78 = .ok (.aload_n 0, 1) := by decide +kernel
theorem dX4_init_79 : decode cX4_init 79 = .ok (.bipush 6, 2) := by decide +kernel
theorem dX4_init_81 : decode cX4_init 81 = .ok (.newarray .int, 2) := by decide +kernel
theorem dX4_init_83 : decode cX4_init 83 = .ok (.putfield 39, 3) := by decide +kernel
theorem dX4_init_86 : decode cX4_init 86 = .ok (.aload_n 0, 1) := by decide +kernel
theorem dX4_init_87 : decode cX4_init 87 = .ok (.iconst 0, 1) := by decide +kernel
theorem dX4_init_88 : decode cX4_init 88 = .ok (.putfield 42, 3) := by decide +kernel
theorem dX4_init_91 : decode cX4_init 91 = .ok (.return_, 1) := by decide +kernel
theorem dX4_drive_0 : decode cX4_drive 0 = .ok (.aload_n 0, 1) := by decide +kernel
theorem dX4_drive_1 : decode cX4_drive 1 = .ok (.aload_n 1, 1) := by decide +kernel
theorem dX4_drive_2 : decode cX4_drive 2 = .ok (.iload_n 2, 1) := by decide +kernel
theorem dX4_drive_3 : decode cX4_drive 3 = .ok (.invokevirtual 45, 3) := by decide +kernel
theorem dX4_drive_6 : decode cX4_drive 6 = .ok (.iconst 0, 1) := by decide +kernel
theorem dX4_drive_7 : decode cX4_drive 7 = .ok (.istore 5, 2) := by decide +kernel
theorem dX4_drive_9 : decode cX4_drive 9 = .ok (.iload 5, 2) := by decide +kernel
theorem dX4_drive_11 : decode cX4_drive 11 = .ok (.bipush 32, 2) := by decide +kernel
theorem dX4_drive_13 : decode cX4_drive 13 = .ok (.if_icmp .ge 19, 3) := by decide +kernel
theorem dX4_drive_16 : decode cX4_drive 16 = .ok (.aload_n 0, 1) := by decide +kernel
theorem dX4_drive_17 : decode cX4_drive 17 = .ok (.aload_n 1, 1) := by decide +kernel
theorem dX4_drive_18 : decode cX4_drive 18 = .ok (.iload 5, 2) := by decide +kernel
theorem dX4_drive_20 : decode cX4_drive 20 = .ok (.iload_n 3, 1) := by decide +kernel
theorem dX4_drive_21 : decode cX4_drive 21 = .ok (.iload 4, 2) := by decide +kernel
theorem dX4_drive_23 : decode cX4_drive 23 = .ok (.invokevirtual 49, 3) := by decide +kernel
theorem dX4_drive_26 : decode cX4_drive 26 = .ok (.iinc 5 1, 3) := by decide +kernel
theorem dX4_drive_29 : decode cX4_drive 29 = .ok (.goto (-20), 3) := by decide +kernel
theorem dX4_drive_32 : decode cX4_drive 32 = .ok (.return_, 1) := by decide +kernel
theorem dX4_touches_0 : decode cX4_touches 0 = .ok (.aload_n 0, 1) := by decide +kernel
theorem dX4_touches_1 : decode cX4_touches 1 = .ok (.aload_n 1, 1) := by decide +kernel
theorem dX4_touches_2 : decode cX4_touches 2 = .ok (.iload_n 2, 1) := by decide +kernel
theorem dX4_touches_3 : decode cX4_touches 3 = .ok (.invokevirtual 45, 3) := by decide +kernel
theorem dX4_touches_6 : decode cX4_touches 6 = .ok (.iconst 0, 1) := by decide +kernel
theorem dX4_touches_7 : decode cX4_touches 7 = .ok (.istore 5, 2) := by decide +kernel
theorem dX4_touches_9 : decode cX4_touches 9 = .ok (.iload 5, 2) := by decide +kernel
theorem dX4_touches_11 : decode cX4_touches 11 = .ok (.bipush 32, 2) := by decide +kernel
theorem dX4_touches_13 : decode cX4_touches 13 = .ok (.if_icmp .ge 27, 3) := by decide +kernel
theorem dX4_touches_16 : decode cX4_touches 16 = .ok (.aload_n 0, 1) := by decide +kernel
theorem dX4_touches_17 : decode cX4_touches 17 = .ok (.getfield 32, 3) := by decide +kernel
theorem dX4_touches_20 : decode cX4_touches 20 = .ok (.iconst (-1), 1) := by decide +kernel
theorem dX4_touches_21 : decode cX4_touches 21 = .ok (.if_icmp .ne 19, 3) := by decide +kernel
theorem dX4_touches_24 : decode cX4_touches 24 = .ok (.aload_n 0, 1) := by decide +kernel
theorem dX4_touches_25 : decode cX4_touches 25 = .ok (.aload_n 1, 1) := by decide +kernel
theorem dX4_touches_26 : decode cX4_touches 26 = .ok (.iload 5, 2) := by decide +kernel
theorem dX4_touches_28 : decode cX4_touches 28 = .ok (.iload_n 3, 1) := by decide +kernel
theorem dX4_touches_29 : decode cX4_touches 29 = .ok (.iload 4, 2) := by decide +kernel
theorem dX4_touches_31 : decode cX4_touches 31 = .ok (.invokevirtual 49, 3) := by decide +kernel
theorem dX4_touches_34 : decode cX4_touches 34 = .ok (.iinc 5 1, 3) := by decide +kernel
theorem dX4_touches_37 : decode cX4_touches 37 = .ok (.goto (-28), 3) := by decide +kernel
theorem dX4_touches_40 : decode cX4_touches 40 = .ok (.aload_n 0, 1) := by decide +kernel
theorem dX4_touches_41 : decode cX4_touches 41 = .ok (.getfield 32, 3) := by decide +kernel
theorem dX4_touches_44 : decode cX4_touches 44 = .ok (.iconst (-1), 1) := by decide +kernel
theorem dX4_touches_45 : decode cX4_touches 45 = .ok (.if_icmp .eq 7, 3) := by decide +kernel
theorem dX4_touches_48 : decode cX4_touches 48 = .ok (.iconst 1, 1) := by decide +kernel
theorem dX4_touches_49 : decode cX4_touches 49 = .ok (.goto 4, 3) := by decide +kernel
theorem dX4_touches_52 : decode cX4_touches 52 = .ok (.iconst 0, 1) := by decide +kernel
theorem dX4_touches_53 : decode cX4_touches 53 = .ok (.ireturn, 1) := by decide +kernel
theorem dX4_firstTouching_0 : decode cX4_firstTouching 0 = .ok (.iconst 0, 1) := by decide +kernel
theorem dX4_firstTouching_1 : decode cX4_firstTouching 1 = .ok (.istore 5, 2) := by decide +kernel
theorem dX4_firstTouching_3 : decode cX4_firstTouching 3 = .ok (.iload 5, 2) := by decide +kernel
theorem dX4_firstTouching_5 : decode cX4_firstTouching 5 = .ok (.iload_n 3, 1) := by decide +kernel
theorem dX4_firstTouching_6 : decode cX4_firstTouching 6 = .ok (.if_icmp .gt 68, 3) := by decide +kernel
theorem dX4_firstTouching_9 : decode cX4_firstTouching 9 = .ok (.iload 5, 2) := by decide +kernel
theorem dX4_firstTouching_11 : decode cX4_firstTouching 11 = .ok (.iconst 1, 1) := by decide +kernel
theorem dX4_firstTouching_12 : decode cX4_firstTouching 12 = .ok (.if_icmp .ne 6, 3) := by decide +kernel
theorem dX4_firstTouching_15 : decode cX4_firstTouching 15 = .ok (.goto 53, 3) := by decide +kernel
theorem dX4_firstTouching_18 : decode cX4_firstTouching 18 = .ok (.iconst 0, 1) := by decide +kernel
theorem dX4_firstTouching_19 : decode cX4_firstTouching 19 = .ok (.istore 6, 2) := by decide +kernel
theorem dX4_firstTouching_21 : decode cX4_firstTouching 21 = .ok (.iload 6, 2) := by decide +kernel
theorem dX4_firstTouching_23 : decode cX4_firstTouching 23 = .ok (.sipush 256, 3) := by decide +kernel
theorem dX4_firstTouching_26 : decode cX4_firstTouching 26 = .ok (.if_icmp .ge 42, 3) := by decide +kernel
theorem dX4_firstTouching_29 : decode cX4_firstTouching 29 = .ok (.iload 6, 2) := by decide +kernel
theorem dX4_firstTouching_31 : decode cX4_firstTouching 31 = .ok (.invokestatic 53, 3) := by decide +kernel
theorem dX4_firstTouching_34 : decode cX4_firstTouching 34 = .ok (.iload 4, 2) := by decide +kernel
theorem dX4_firstTouching_36 : decode cX4_firstTouching 36 = .ok (.if_icmp .gt 26, 3) := by decide +kernel
theorem dX4_firstTouching_39 : decode cX4_firstTouching 39 = .ok (.aload_n 0, 1) := by decide +kernel
theorem dX4_firstTouching_40 : decode cX4_firstTouching 40 = .ok (.aload_n 1, 1) := by decide +kernel
theorem dX4_firstTouching_41 : decode cX4_firstTouching 41 = .ok (.iload_n 2, 1) := by decide +kernel
theorem dX4_firstTouching_42 : decode cX4_firstTouching 42 = .ok (.iload 5, 2) := by decide +kernel
theorem dX4_firstTouching_44 : decode cX4_firstTouching 44 = .ok (.iload 6, 2) := by decide +kernel
theorem dX4_firstTouching_46 : decode cX4_firstTouching 46 = .ok (.invokevirtual 59, 3) := by decide +kernel
theorem dX4_firstTouching_49 : decode cX4_firstTouching 49 = .ok (.ifCond .eq 13, 3) := by decide +kernel
theorem dX4_firstTouching_52 : decode cX4_firstTouching 52 = .ok (.sipush 256, 3) := by decide +kernel
theorem dX4_firstTouching_55 : decode cX4_firstTouching 55 = .ok (.iload 5, 2) := by decide +kernel
theorem dX4_firstTouching_57 : decode cX4_firstTouching 57 = .ok (.imul, 1) := by decide +kernel
theorem dX4_firstTouching_58 : decode cX4_firstTouching 58 = .ok (.iload 6, 2) := by decide +kernel
theorem dX4_firstTouching_60 : decode cX4_firstTouching 60 = .ok (.iadd, 1) := by decide +kernel
theorem dX4_firstTouching_61 : decode cX4_firstTouching 61 = .ok (.ireturn, 1) := by decide +kernel
theorem dX4_firstTouching_62 : decode cX4_firstTouching 62 = .ok (.iinc 6 1, 3) := by decide +kernel
theorem dX4_firstTouching_65 : decode cX4_firstTouching 65 = .ok (.goto (-44), 3) := by decide +kernel
theorem dX4_firstTouching_68 : decode cX4_firstTouching 68 = .ok (.iinc 5 1, 3) := by decide +kernel
theorem dX4_firstTouching_71 : decode cX4_firstTouching 71 = .ok (.goto (-68), 3) := by decide +kernel
theorem dX4_firstTouching_74 : decode cX4_firstTouching 74 = .ok (.iconst (-1), 1) := by decide +kernel
theorem dX4_firstTouching_75 : decode cX4_firstTouching 75 = .ok (.ireturn, 1) := by decide +kernel
theorem dX4_leastGap_0 : decode cX4_leastGap 0 = .ok (.aload_n 0, 1) := by decide +kernel
theorem dX4_leastGap_1 : decode cX4_leastGap 1 = .ok (.getfield 16, 3) := by decide +kernel
theorem dX4_leastGap_4 : decode cX4_leastGap 4 = .ok (.iload_n 1, 1) := by decide +kernel
theorem dX4_leastGap_5 : decode cX4_leastGap 5 = .ok (.aaload, 1) := by decide +kernel
theorem dX4_leastGap_6 : decode cX4_leastGap 6 = .ok (.iconst 1, 1) := by decide +kernel
theorem dX4_leastGap_7 : decode cX4_leastGap 7 = .ok (.iaload, 1) := by decide +kernel
theorem dX4_leastGap_8 : decode cX4_leastGap 8 = .ok (.istore_n 2, 1) := by decide +kernel
theorem dX4_leastGap_9 : decode cX4_leastGap 9 = .ok (.iconst 2, 1) := by decide +kernel
theorem dX4_leastGap_10 : decode cX4_leastGap 10 = .ok (.istore_n 3, 1) := by decide +kernel
theorem dX4_leastGap_11 : decode cX4_leastGap 11 = .ok (.iload_n 3, 1) := by decide +kernel
theorem dX4_leastGap_12 : decode cX4_leastGap 12 = .ok (.bipush 32, 2) := by decide +kernel
theorem dX4_leastGap_14 : decode cX4_leastGap 14 = .ok (.if_icmp .gt 22, 3) := by decide +kernel
theorem dX4_leastGap_17 : decode cX4_leastGap 17 = .ok (.iload_n 2, 1) := by decide +kernel
theorem dX4_leastGap_18 : decode cX4_leastGap 18 = .ok (.aload_n 0, 1) := by decide +kernel
theorem dX4_leastGap_19 : decode cX4_leastGap 19 = .ok (.getfield 16, 3) := by decide +kernel
theorem dX4_leastGap_22 : decode cX4_leastGap 22 = .ok (.iload_n 1, 1) := by decide +kernel
theorem dX4_leastGap_23 : decode cX4_leastGap 23 = .ok (.aaload, 1) := by decide +kernel
theorem dX4_leastGap_24 : decode cX4_leastGap 24 = .ok (.iload_n 3, 1) := by decide +kernel
theorem dX4_leastGap_25 : decode cX4_leastGap 25 = .ok (.iaload, 1) := by decide +kernel
theorem dX4_leastGap_26 : decode cX4_leastGap 26 = .ok (.invokestatic 63, 3) := by decide +kernel
theorem dX4_leastGap_29 : decode cX4_leastGap 29 = .ok (.istore_n 2, 1) := by decide +kernel
theorem dX4_leastGap_30 : decode cX4_leastGap 30 = .ok (.iinc 3 1, 3) := by decide +kernel
theorem dX4_leastGap_33 : decode cX4_leastGap 33 = .ok (.goto (-22), 3) := by decide +kernel
theorem dX4_leastGap_36 : decode cX4_leastGap 36 = .ok (.iload_n 2, 1) := by decide +kernel
theorem dX4_leastGap_37 : decode cX4_leastGap 37 = .ok (.ireturn, 1) := by decide +kernel
theorem dX4_dipOf_0 : decode cX4_dipOf 0 = .ok (.aload_n 0, 1) := by decide +kernel
theorem dX4_dipOf_1 : decode cX4_dipOf 1 = .ok (.getfield 11, 3) := by decide +kernel
theorem dX4_dipOf_4 : decode cX4_dipOf 4 = .ok (.iload_n 1, 1) := by decide +kernel
theorem dX4_dipOf_5 : decode cX4_dipOf 5 = .ok (.aaload, 1) := by decide +kernel
theorem dX4_dipOf_6 : decode cX4_dipOf 6 = .ok (.iconst 0, 1) := by decide +kernel
theorem dX4_dipOf_7 : decode cX4_dipOf 7 = .ok (.iaload, 1) := by decide +kernel
theorem dX4_dipOf_8 : decode cX4_dipOf 8 = .ok (.istore_n 2, 1) := by decide +kernel
theorem dX4_dipOf_9 : decode cX4_dipOf 9 = .ok (.iconst 1, 1) := by decide +kernel
theorem dX4_dipOf_10 : decode cX4_dipOf 10 = .ok (.istore_n 3, 1) := by decide +kernel
theorem dX4_dipOf_11 : decode cX4_dipOf 11 = .ok (.iload_n 3, 1) := by decide +kernel
theorem dX4_dipOf_12 : decode cX4_dipOf 12 = .ok (.bipush 32, 2) := by decide +kernel
theorem dX4_dipOf_14 : decode cX4_dipOf 14 = .ok (.if_icmp .gt 22, 3) := by decide +kernel
theorem dX4_dipOf_17 : decode cX4_dipOf 17 = .ok (.iload_n 2, 1) := by decide +kernel
theorem dX4_dipOf_18 : decode cX4_dipOf 18 = .ok (.aload_n 0, 1) := by decide +kernel
theorem dX4_dipOf_19 : decode cX4_dipOf 19 = .ok (.getfield 11, 3) := by decide +kernel
theorem dX4_dipOf_22 : decode cX4_dipOf 22 = .ok (.iload_n 1, 1) := by decide +kernel
theorem dX4_dipOf_23 : decode cX4_dipOf 23 = .ok (.aaload, 1) := by decide +kernel
theorem dX4_dipOf_24 : decode cX4_dipOf 24 = .ok (.iload_n 3, 1) := by decide +kernel
theorem dX4_dipOf_25 : decode cX4_dipOf 25 = .ok (.iaload, 1) := by decide +kernel
theorem dX4_dipOf_26 : decode cX4_dipOf 26 = .ok (.invokestatic 63, 3) := by decide +kernel
theorem dX4_dipOf_29 : decode cX4_dipOf 29 = .ok (.istore_n 2, 1) := by decide +kernel
theorem dX4_dipOf_30 : decode cX4_dipOf 30 = .ok (.iinc 3 1, 3) := by decide +kernel
theorem dX4_dipOf_33 : decode cX4_dipOf 33 = .ok (.goto (-22), 3) := by decide +kernel
theorem dX4_dipOf_36 : decode cX4_dipOf 36 = .ok (.aload_n 0, 1) := by decide +kernel
theorem dX4_dipOf_37 : decode cX4_dipOf 37 = .ok (.getfield 11, 3) := by decide +kernel
theorem dX4_dipOf_40 : decode cX4_dipOf 40 = .ok (.iload_n 1, 1) := by decide +kernel
theorem dX4_dipOf_41 : decode cX4_dipOf 41 = .ok (.aaload, 1) := by decide +kernel
theorem dX4_dipOf_42 : decode cX4_dipOf 42 = .ok (.iconst 0, 1) := by decide +kernel
theorem dX4_dipOf_43 : decode cX4_dipOf 43 = .ok (.iaload, 1) := by decide +kernel
theorem dX4_dipOf_44 : decode cX4_dipOf 44 = .ok (.iload_n 2, 1) := by decide +kernel
theorem dX4_dipOf_45 : decode cX4_dipOf 45 = .ok (.isub, 1) := by decide +kernel
theorem dX4_dipOf_46 : decode cX4_dipOf 46 = .ok (.ireturn, 1) := by decide +kernel
theorem dX4_weightBetween_0 : decode cX4_weightBetween 0 = .ok (.iconst 0, 1) := by decide +kernel
theorem dX4_weightBetween_1 : decode cX4_weightBetween 1 = .ok (.istore 5, 2) := by decide +kernel
theorem dX4_weightBetween_3 : decode cX4_weightBetween 3 = .ok (.iconst 0, 1) := by decide +kernel
theorem dX4_weightBetween_4 : decode cX4_weightBetween 4 = .ok (.istore 6, 2) := by decide +kernel
theorem dX4_weightBetween_6 : decode cX4_weightBetween 6 = .ok (.iload 6, 2) := by decide +kernel
theorem dX4_weightBetween_8 : decode cX4_weightBetween 8 = .ok (.aload_n 1, 1) := by decide +kernel
theorem dX4_weightBetween_9 : decode cX4_weightBetween 9 = .ok (.getfield 69, 3) := by decide +kernel
theorem dX4_weightBetween_12 : decode cX4_weightBetween 12 = .ok (.if_icmp .ge 49, 3) := by decide +kernel
theorem dX4_weightBetween_15 : decode cX4_weightBetween 15 = .ok (.aload_n 0, 1) := by decide +kernel
theorem dX4_weightBetween_16 : decode cX4_weightBetween 16 = .ok (.getfield 19, 3) := by decide +kernel
theorem dX4_weightBetween_19 : decode cX4_weightBetween 19 = .ok (.iload 6, 2) := by decide +kernel
theorem dX4_weightBetween_21 : decode cX4_weightBetween 21 = .ok (.aaload, 1) := by decide +kernel
theorem dX4_weightBetween_22 : decode cX4_weightBetween 22 = .ok (.iload 4, 2) := by decide +kernel
theorem dX4_weightBetween_24 : decode cX4_weightBetween 24 = .ok (.iconst 1, 1) := by decide +kernel
theorem dX4_weightBetween_25 : decode cX4_weightBetween 25 = .ok (.iadd, 1) := by decide +kernel
theorem dX4_weightBetween_26 : decode cX4_weightBetween 26 = .ok (.iaload, 1) := by decide +kernel
theorem dX4_weightBetween_27 : decode cX4_weightBetween 27 = .ok (.istore 7, 2) := by decide +kernel
theorem dX4_weightBetween_29 : decode cX4_weightBetween 29 = .ok (.iload 7, 2) := by decide +kernel
theorem dX4_weightBetween_31 : decode cX4_weightBetween 31 = .ok (.iload_n 2, 1) := by decide +kernel
theorem dX4_weightBetween_32 : decode cX4_weightBetween 32 = .ok (.if_icmp .lt 23, 3) := by decide +kernel
theorem dX4_weightBetween_35 : decode cX4_weightBetween 35 = .ok (.iload 7, 2) := by decide +kernel
theorem dX4_weightBetween_37 : decode cX4_weightBetween 37 = .ok (.iload_n 3, 1) := by decide +kernel
theorem dX4_weightBetween_38 : decode cX4_weightBetween 38 = .ok (.if_icmp .gt 17, 3) := by decide +kernel
theorem dX4_weightBetween_41 : decode cX4_weightBetween 41 = .ok (.iload 5, 2) := by decide +kernel
theorem dX4_weightBetween_43 : decode cX4_weightBetween 43 = .ok (.aload_n 1, 1) := by decide +kernel
theorem dX4_weightBetween_44 : decode cX4_weightBetween 44 = .ok (.iload 6, 2) := by decide +kernel
theorem dX4_weightBetween_46 : decode cX4_weightBetween 46 = .ok (.invokevirtual 74, 3) := by decide +kernel
theorem dX4_weightBetween_49 : decode cX4_weightBetween 49 = .ok (.getfield 78, 3) := by decide +kernel
theorem dX4_weightBetween_52 : decode cX4_weightBetween 52 = .ok (.iadd, 1) := by decide +kernel
theorem dX4_weightBetween_53 : decode cX4_weightBetween 53 = .ok (.istore 5, 2) := by decide +kernel
theorem dX4_weightBetween_55 : decode cX4_weightBetween 55 = .ok (.iinc 6 1, 3) := by decide +kernel
theorem dX4_weightBetween_58 : decode cX4_weightBetween 58 = .ok (.goto (-52), 3) := by decide +kernel
theorem dX4_weightBetween_61 : decode cX4_weightBetween 61 = .ok (.iload 5, 2) := by decide +kernel
theorem dX4_weightBetween_63 : decode cX4_weightBetween 63 = .ok (.ireturn, 1) := by decide +kernel
theorem dX4_begin_0 : decode cX4_begin 0 = .ok (.aload_n 0, 1) := by decide +kernel
theorem dX4_begin_1 : decode cX4_begin 1 = .ok (.iconst (-1), 1) := by decide +kernel
theorem dX4_begin_2 : decode cX4_begin 2 = .ok (.putfield 32, 3) := by decide +kernel
theorem dX4_begin_5 : decode cX4_begin 5 = .ok (.aload_n 0, 1) := by decide +kernel
theorem dX4_begin_6 : decode cX4_begin 6 = .ok (.iconst (-1), 1) := by decide +kernel
theorem dX4_begin_7 : decode cX4_begin 7 = .ok (.putfield 36, 3) := by decide +kernel
theorem dX4_begin_10 : decode cX4_begin 10 = .ok (.iconst 0, 1) := by decide +kernel
theorem dX4_begin_11 : decode cX4_begin 11 = .ok (.istore_n 3, 1) := by decide +kernel
theorem dX4_begin_12 : decode cX4_begin 12 = .ok (.iload_n 3, 1) := by decide +kernel
theorem dX4_begin_13 : decode cX4_begin 13 = .ok (.aload_n 1, 1) := by decide +kernel
theorem dX4_begin_14 : decode cX4_begin 14 = .ok (.getfield 69, 3) := by decide +kernel
theorem dX4_begin_17 : decode cX4_begin 17 = .ok (.if_icmp .ge 47, 3) := by decide +kernel
theorem dX4_begin_20 : decode cX4_begin 20 = .ok (.aload_n 0, 1) := by decide +kernel
theorem dX4_begin_21 : decode cX4_begin 21 = .ok (.getfield 11, 3) := by decide +kernel
theorem dX4_begin_24 : decode cX4_begin 24 = .ok (.iload_n 3, 1) := by decide +kernel
theorem dX4_begin_25 : decode cX4_begin 25 = .ok (.aaload, 1) := by decide +kernel
theorem dX4_begin_26 : decode cX4_begin 26 = .ok (.iconst 0, 1) := by decide +kernel
theorem dX4_begin_27 : decode cX4_begin 27 = .ok (.aload_n 1, 1) := by decide +kernel
theorem dX4_begin_28 : decode cX4_begin 28 = .ok (.getfield 83, 3) := by decide +kernel
theorem dX4_begin_31 : decode cX4_begin 31 = .ok (.iconst 1, 1) := by decide +kernel
theorem dX4_begin_32 : decode cX4_begin 32 = .ok (.iaload, 1) := by decide +kernel
theorem dX4_begin_33 : decode cX4_begin 33 = .ok (.iastore, 1) := by decide +kernel
theorem dX4_begin_34 : decode cX4_begin 34 = .ok (.aload_n 0, 1) := by decide +kernel
theorem dX4_begin_35 : decode cX4_begin 35 = .ok (.getfield 16, 3) := by decide +kernel
theorem dX4_begin_38 : decode cX4_begin 38 = .ok (.iload_n 3, 1) := by decide +kernel
theorem dX4_begin_39 : decode cX4_begin 39 = .ok (.aaload, 1) := by decide +kernel
theorem dX4_begin_40 : decode cX4_begin 40 = .ok (.iconst 0, 1) := by decide +kernel
theorem dX4_begin_41 : decode cX4_begin 41 = .ok (.iload_n 2, 1) := by decide +kernel
theorem dX4_begin_42 : decode cX4_begin 42 = .ok (.iastore, 1) := by decide +kernel
theorem dX4_begin_43 : decode cX4_begin 43 = .ok (.aload_n 0, 1) := by decide +kernel
theorem dX4_begin_44 : decode cX4_begin 44 = .ok (.getfield 19, 3) := by decide +kernel
theorem dX4_begin_47 : decode cX4_begin 47 = .ok (.iload_n 3, 1) := by decide +kernel
theorem dX4_begin_48 : decode cX4_begin 48 = .ok (.aaload, 1) := by decide +kernel
theorem dX4_begin_49 : decode cX4_begin 49 = .ok (.iconst 0, 1) := by decide +kernel
theorem dX4_begin_50 : decode cX4_begin 50 = .ok (.sipush 300, 3) := by decide +kernel
theorem dX4_begin_53 : decode cX4_begin 53 = .ok (.iload_n 3, 1) := by decide +kernel
theorem dX4_begin_54 : decode cX4_begin 54 = .ok (.iload_n 2, 1) := by decide +kernel
theorem dX4_begin_55 : decode cX4_begin 55 = .ok (.imul, 1) := by decide +kernel
theorem dX4_begin_56 : decode cX4_begin 56 = .ok (.isub, 1) := by decide +kernel
theorem dX4_begin_57 : decode cX4_begin 57 = .ok (.iastore, 1) := by decide +kernel
theorem dX4_begin_58 : decode cX4_begin 58 = .ok (.iinc 3 1, 3) := by decide +kernel
theorem dX4_begin_61 : decode cX4_begin 61 = .ok (.goto (-49), 3) := by decide +kernel
theorem dX4_begin_64 : decode cX4_begin 64 = .ok (.return_, 1) := by decide +kernel
theorem dX4_pass_0 : decode cX4_pass 0 = .ok (.iload_n 2, 1) := by decide +kernel
theorem dX4_pass_1 : decode cX4_pass 1 = .ok (.aload_n 1, 1) := by decide +kernel
theorem dX4_pass_2 : decode cX4_pass 2 = .ok (.getfield 86, 3) := by decide +kernel
theorem dX4_pass_5 : decode cX4_pass 5 = .ok (.if_icmp .ne 9, 3) := by decide +kernel
theorem dX4_pass_8 : decode cX4_pass 8 = .ok (.aload_n 0, 1) := by decide +kernel
theorem dX4_pass_9 : decode cX4_pass 9 = .ok (.aload_n 1, 1) := by decide +kernel
theorem dX4_pass_10 : decode cX4_pass 10 = .ok (.iload_n 2, 1) := by decide +kernel
theorem dX4_pass_11 : decode cX4_pass 11 = .ok (.invokevirtual 89, 3) := by decide +kernel
theorem dX4_pass_14 : decode cX4_pass 14 = .ok (.aload_n 0, 1) := by decide +kernel
theorem dX4_pass_15 : decode cX4_pass 15 = .ok (.iload_n 2, 1) := by decide +kernel
theorem dX4_pass_16 : decode cX4_pass 16 = .ok (.iload_n 3, 1) := by decide +kernel
theorem dX4_pass_17 : decode cX4_pass 17 = .ok (.iload 4, 2) := by decide +kernel
theorem dX4_pass_19 : decode cX4_pass 19 = .ok (.invokevirtual 92, 3) := by decide +kernel
theorem dX4_pass_22 : decode cX4_pass 22 = .ok (.aload_n 0, 1) := by decide +kernel
theorem dX4_pass_23 : decode cX4_pass 23 = .ok (.getfield 22, 3) := by decide +kernel
theorem dX4_pass_26 : decode cX4_pass 26 = .ok (.iconst 0, 1) := by decide +kernel
theorem dX4_pass_27 : decode cX4_pass 27 = .ok (.aaload, 1) := by decide +kernel
theorem dX4_pass_28 : decode cX4_pass 28 = .ok (.iload_n 2, 1) := by decide +kernel
theorem dX4_pass_29 : decode cX4_pass 29 = .ok (.aload_n 1, 1) := by decide +kernel
theorem dX4_pass_30 : decode cX4_pass 30 = .ok (.iconst 0, 1) := by decide +kernel
theorem dX4_pass_31 : decode cX4_pass 31 = .ok (.invokevirtual 74, 3) := by decide +kernel
theorem dX4_pass_34 : decode cX4_pass 34 = .ok (.aload_n 1, 1) := by decide +kernel
theorem dX4_pass_35 : decode cX4_pass 35 = .ok (.iload_n 2, 1) := by decide +kernel
theorem dX4_pass_36 : decode cX4_pass 36 = .ok (.invokevirtual 96, 3) := by decide +kernel
theorem dX4_pass_39 : decode cX4_pass 39 = .ok (.invokevirtual 99, 3) := by decide +kernel
theorem dX4_pass_42 : decode cX4_pass 42 = .ok (.iastore, 1) := by decide +kernel
theorem dX4_pass_43 : decode cX4_pass 43 = .ok (.iconst 1, 1) := by decide +kernel
theorem dX4_pass_44 : decode cX4_pass 44 = .ok (.istore 5, 2) := by decide +kernel
theorem dX4_pass_46 : decode cX4_pass 46 = .ok (.iload 5, 2) := by decide +kernel
theorem dX4_pass_48 : decode cX4_pass 48 = .ok (.aload_n 1, 1) := by decide +kernel
theorem dX4_pass_49 : decode cX4_pass 49 = .ok (.getfield 69, 3) := by decide +kernel
theorem dX4_pass_52 : decode cX4_pass 52 = .ok (.if_icmp .ge 51, 3) := by decide +kernel
theorem dX4_pass_55 : decode cX4_pass 55 = .ok (.aload_n 0, 1) := by decide +kernel
theorem dX4_pass_56 : decode cX4_pass 56 = .ok (.aload_n 1, 1) := by decide +kernel
theorem dX4_pass_57 : decode cX4_pass 57 = .ok (.iload 5, 2) := by decide +kernel
theorem dX4_pass_59 : decode cX4_pass 59 = .ok (.iload_n 2, 1) := by decide +kernel
theorem dX4_pass_60 : decode cX4_pass 60 = .ok (.invokevirtual 102, 3) := by decide +kernel
theorem dX4_pass_63 : decode cX4_pass 63 = .ok (.aload_n 1, 1) := by decide +kernel
theorem dX4_pass_64 : decode cX4_pass 64 = .ok (.iload 5, 2) := by decide +kernel
theorem dX4_pass_66 : decode cX4_pass 66 = .ok (.invokevirtual 74, 3) := by decide +kernel
theorem dX4_pass_69 : decode cX4_pass 69 = .ok (.astore 6, 2) := by decide +kernel
theorem dX4_pass_71 : decode cX4_pass 71 = .ok (.aload_n 0, 1) := by decide +kernel
theorem dX4_pass_72 : decode cX4_pass 72 = .ok (.getfield 22, 3) := by decide +kernel
theorem dX4_pass_75 : decode cX4_pass 75 = .ok (.iload 5, 2) := by decide +kernel
theorem dX4_pass_77 : decode cX4_pass 77 = .ok (.aaload, 1) := by decide +kernel
theorem dX4_pass_78 : decode cX4_pass 78 = .ok (.iload_n 2, 1) := by decide +kernel
theorem dX4_pass_79 : decode cX4_pass 79 = .ok (.aload 6, 2) := by decide +kernel
theorem dX4_pass_81 : decode cX4_pass 81 = .ok (.aload 6, 2) := by decide +kernel
theorem dX4_pass_83 : decode cX4_pass 83 = .ok (.getfield 106, 3) := by decide +kernel
theorem dX4_pass_86 : decode cX4_pass 86 = .ok (.aload_n 0, 1) := by decide +kernel
theorem dX4_pass_87 : decode cX4_pass 87 = .ok (.getfield 39, 3) := by decide +kernel
theorem dX4_pass_90 : decode cX4_pass 90 = .ok (.invokevirtual 110, 3) := by decide +kernel
theorem dX4_pass_93 : decode cX4_pass 93 = .ok (.invokevirtual 99, 3) := by decide +kernel
theorem dX4_pass_96 : decode cX4_pass 96 = .ok (.iastore, 1) := by decide +kernel
theorem dX4_pass_97 : decode cX4_pass 97 = .ok (.iinc 5 1, 3) := by decide +kernel
theorem dX4_pass_100 : decode cX4_pass 100 = .ok (.goto (-54), 3) := by decide +kernel
theorem dX4_pass_103 : decode cX4_pass 103 = .ok (.iconst 0, 1) := by decide +kernel
theorem dX4_pass_104 : decode cX4_pass 104 = .ok (.istore 5, 2) := by decide +kernel
theorem dX4_pass_106 : decode cX4_pass 106 = .ok (.iload 5, 2) := by decide +kernel
theorem dX4_pass_108 : decode cX4_pass 108 = .ok (.aload_n 1, 1) := by decide +kernel
theorem dX4_pass_109 : decode cX4_pass 109 = .ok (.getfield 69, 3) := by decide +kernel
theorem dX4_pass_112 : decode cX4_pass 112 = .ok (.if_icmp .ge 28, 3) := by decide +kernel
theorem dX4_pass_115 : decode cX4_pass 115 = .ok (.aload_n 0, 1) := by decide +kernel
theorem dX4_pass_116 : decode cX4_pass 116 = .ok (.getfield 11, 3) := by decide +kernel
theorem dX4_pass_119 : decode cX4_pass 119 = .ok (.iload 5, 2) := by decide +kernel
theorem dX4_pass_121 : decode cX4_pass 121 = .ok (.aaload, 1) := by decide +kernel
theorem dX4_pass_122 : decode cX4_pass 122 = .ok (.iload_n 2, 1) := by decide +kernel
theorem dX4_pass_123 : decode cX4_pass 123 = .ok (.iconst 1, 1) := by decide +kernel
theorem dX4_pass_124 : decode cX4_pass 124 = .ok (.iadd, 1) := by decide +kernel
theorem dX4_pass_125 : decode cX4_pass 125 = .ok (.aload_n 0, 1) := by decide +kernel
theorem dX4_pass_126 : decode cX4_pass 126 = .ok (.aload_n 1, 1) := by decide +kernel
theorem dX4_pass_127 : decode cX4_pass 127 = .ok (.iload 5, 2) := by decide +kernel
theorem dX4_pass_129 : decode cX4_pass 129 = .ok (.iload_n 2, 1) := by decide +kernel
theorem dX4_pass_130 : decode cX4_pass 130 = .ok (.invokevirtual 116, 3) := by decide +kernel
theorem dX4_pass_133 : decode cX4_pass 133 = .ok (.iastore, 1) := by decide +kernel
theorem dX4_pass_134 : decode cX4_pass 134 = .ok (.iinc 5 1, 3) := by decide +kernel
theorem dX4_pass_137 : decode cX4_pass 137 = .ok (.goto (-31), 3) := by decide +kernel
theorem dX4_pass_140 : decode cX4_pass 140 = .ok (.aload_n 0, 1) := by decide +kernel
theorem dX4_pass_141 : decode cX4_pass 141 = .ok (.aload_n 1, 1) := by decide +kernel
theorem dX4_pass_142 : decode cX4_pass 142 = .ok (.iload_n 2, 1) := by decide +kernel
theorem dX4_pass_143 : decode cX4_pass 143 = .ok (.invokevirtual 120, 3) := by decide +kernel
theorem dX4_pass_146 : decode cX4_pass 146 = .ok (.aload_n 0, 1) := by decide +kernel
theorem dX4_pass_147 : decode cX4_pass 147 = .ok (.aload_n 1, 1) := by decide +kernel
theorem dX4_pass_148 : decode cX4_pass 148 = .ok (.iload_n 2, 1) := by decide +kernel
theorem dX4_pass_149 : decode cX4_pass 149 = .ok (.invokevirtual 123, 3) := by decide +kernel
theorem dX4_pass_152 : decode cX4_pass 152 = .ok (.return_, 1) := by decide +kernel
theorem dX4_meetStranger_0 : decode cX4_meetStranger 0 = .ok (.aload_n 1, 1) := by decide +kernel
theorem dX4_meetStranger_1 : decode cX4_meetStranger 1 = .ok (.getfield 126, 3) := by decide +kernel
theorem dX4_meetStranger_4 : decode cX4_meetStranger 4 = .ok (.istore_n 3, 1) := by decide +kernel
theorem dX4_meetStranger_5 : decode cX4_meetStranger 5 = .ok (.iload_n 3, 1) := by decide +kernel
theorem dX4_meetStranger_6 : decode cX4_meetStranger 6 = .ok (.ifCond .le 25, 3) := by decide +kernel
theorem dX4_meetStranger_9 : decode cX4_meetStranger 9 = .ok (.iload_n 3, 1) := by decide +kernel
theorem dX4_meetStranger_10 : decode cX4_meetStranger 10 = .ok (.aload_n 1, 1) := by decide +kernel
theorem dX4_meetStranger_11 : decode cX4_meetStranger 11 = .ok (.getfield 69, 3) := by decide +kernel
theorem dX4_meetStranger_14 : decode cX4_meetStranger 14 = .ok (.if_icmp .ge 17, 3) := by decide +kernel
theorem dX4_meetStranger_17 : decode cX4_meetStranger 17 = .ok (.aload_n 0, 1) := by decide +kernel
theorem dX4_meetStranger_18 : decode cX4_meetStranger 18 = .ok (.aload_n 0, 1) := by decide +kernel
theorem dX4_meetStranger_19 : decode cX4_meetStranger 19 = .ok (.getfield 16, 3) := by decide +kernel
theorem dX4_meetStranger_22 : decode cX4_meetStranger 22 = .ok (.iload_n 3, 1) := by decide +kernel
theorem dX4_meetStranger_23 : decode cX4_meetStranger 23 = .ok (.aaload, 1) := by decide +kernel
theorem dX4_meetStranger_24 : decode cX4_meetStranger 24 = .ok (.iload_n 2, 1) := by decide +kernel
theorem dX4_meetStranger_25 : decode cX4_meetStranger 25 = .ok (.iaload, 1) := by decide +kernel
theorem dX4_meetStranger_26 : decode cX4_meetStranger 26 = .ok (.iconst 2, 1) := by decide +kernel
theorem dX4_meetStranger_27 : decode cX4_meetStranger 27 = .ok (.idiv, 1) := by decide +kernel
theorem dX4_meetStranger_28 : decode cX4_meetStranger 28 = .ok (.putfield 42, 3) := by decide +kernel
theorem dX4_meetStranger_31 : decode cX4_meetStranger 31 = .ok (.return_, 1) := by decide +kernel
theorem dX4_hear_0 : decode cX4_hear 0 = .ok (.aload_n 0, 1) := by decide +kernel
theorem dX4_hear_1 : decode cX4_hear 1 = .ok (.getfield 25, 3) := by decide +kernel
theorem dX4_hear_4 : decode cX4_hear 4 = .ok (.iload_n 1, 1) := by decide +kernel
theorem dX4_hear_5 : decode cX4_hear 5 = .ok (.iconst 0, 1) := by decide +kernel
theorem dX4_hear_6 : decode cX4_hear 6 = .ok (.iastore, 1) := by decide +kernel
theorem dX4_hear_7 : decode cX4_hear 7 = .ok (.aload_n 0, 1) := by decide +kernel
theorem dX4_hear_8 : decode cX4_hear 8 = .ok (.getfield 29, 3) := by decide +kernel
theorem dX4_hear_11 : decode cX4_hear 11 = .ok (.iload_n 1, 1) := by decide +kernel
theorem dX4_hear_12 : decode cX4_hear 12 = .ok (.bipush 99, 2) := by decide +kernel
theorem dX4_hear_14 : decode cX4_hear 14 = .ok (.iastore, 1) := by decide +kernel
theorem dX4_hear_15 : decode cX4_hear 15 = .ok (.iload_n 1, 1) := by decide +kernel
theorem dX4_hear_16 : decode cX4_hear 16 = .ok (.iconst 1, 1) := by decide +kernel
theorem dX4_hear_17 : decode cX4_hear 17 = .ok (.iload_n 2, 1) := by decide +kernel
theorem dX4_hear_18 : decode cX4_hear 18 = .ok (.invokestatic 129, 3) := by decide +kernel
theorem dX4_hear_21 : decode cX4_hear 21 = .ok (.isub, 1) := by decide +kernel
theorem dX4_hear_22 : decode cX4_hear 22 = .ok (.istore 4, 2) := by decide +kernel
theorem dX4_hear_24 : decode cX4_hear 24 = .ok (.iload 4, 2) := by decide +kernel
theorem dX4_hear_26 : decode cX4_hear 26 = .ok (.ifCond .lt 49, 3) := by decide +kernel
theorem dX4_hear_29 : decode cX4_hear 29 = .ok (.iload_n 3, 1) := by decide +kernel
theorem dX4_hear_30 : decode cX4_hear 30 = .ok (.iload 4, 2) := by decide +kernel
theorem dX4_hear_32 : decode cX4_hear 32 = .ok (.ishr, 1) := by decide +kernel
theorem dX4_hear_33 : decode cX4_hear 33 = .ok (.iconst 1, 1) := by decide +kernel
theorem dX4_hear_34 : decode cX4_hear 34 = .ok (.iand, 1) := by decide +kernel
theorem dX4_hear_35 : decode cX4_hear 35 = .ok (.ifCond .ne 34, 3) := by decide +kernel
theorem dX4_hear_38 : decode cX4_hear 38 = .ok (.aload_n 0, 1) := by decide +kernel
theorem dX4_hear_39 : decode cX4_hear 39 = .ok (.getfield 25, 3) := by decide +kernel
theorem dX4_hear_42 : decode cX4_hear 42 = .ok (.iload_n 1, 1) := by decide +kernel
theorem dX4_hear_43 : decode cX4_hear 43 = .ok (.iconst 0, 1) := by decide +kernel
theorem dX4_hear_44 : decode cX4_hear 44 = .ok (.aload_n 0, 1) := by decide +kernel
theorem dX4_hear_45 : decode cX4_hear 45 = .ok (.getfield 22, 3) := by decide +kernel
theorem dX4_hear_48 : decode cX4_hear 48 = .ok (.iconst 0, 1) := by decide +kernel
theorem dX4_hear_49 : decode cX4_hear 49 = .ok (.aaload, 1) := by decide +kernel
theorem dX4_hear_50 : decode cX4_hear 50 = .ok (.iload 4, 2) := by decide +kernel
theorem dX4_hear_52 : decode cX4_hear 52 = .ok (.iaload, 1) := by decide +kernel
theorem dX4_hear_53 : decode cX4_hear 53 = .ok (.ineg, 1) := by decide +kernel
theorem dX4_hear_54 : decode cX4_hear 54 = .ok (.invokestatic 129, 3) := by decide +kernel
theorem dX4_hear_57 : decode cX4_hear 57 = .ok (.iastore, 1) := by decide +kernel
theorem dX4_hear_58 : decode cX4_hear 58 = .ok (.aload_n 0, 1) := by decide +kernel
theorem dX4_hear_59 : decode cX4_hear 59 = .ok (.getfield 29, 3) := by decide +kernel
theorem dX4_hear_62 : decode cX4_hear 62 = .ok (.iload_n 1, 1) := by decide +kernel
theorem dX4_hear_63 : decode cX4_hear 63 = .ok (.iload_n 1, 1) := by decide +kernel
theorem dX4_hear_64 : decode cX4_hear 64 = .ok (.iload 4, 2) := by decide +kernel
theorem dX4_hear_66 : decode cX4_hear 66 = .ok (.isub, 1) := by decide +kernel
theorem dX4_hear_67 : decode cX4_hear 67 = .ok (.iastore, 1) := by decide +kernel
theorem dX4_hear_68 : decode cX4_hear 68 = .ok (.return_, 1) := by decide +kernel
theorem dX4_hear_69 : decode cX4_hear 69 = .ok (.iinc 4 (-1), 3) := by decide +kernel
theorem dX4_hear_72 : decode cX4_hear 72 = .ok (.goto (-48), 3) := by decide +kernel
theorem dX4_hear_75 : decode cX4_hear 75 = .ok (.return_, 1) := by decide +kernel
theorem dX4_read_0 : decode cX4_read 0 = .ok (.aload_n 1, 1) := by decide +kernel
theorem dX4_read_1 : decode cX4_read 1 = .ok (.iload_n 2, 1) := by decide +kernel
theorem dX4_read_2 : decode cX4_read 2 = .ok (.iload_n 3, 1) := by decide +kernel
theorem dX4_read_3 : decode cX4_read 3 = .ok (.invokevirtual 132, 3) := by decide +kernel
theorem dX4_read_6 : decode cX4_read 6 = .ok (.istore 4, 2) := by decide +kernel
theorem dX4_read_8 : decode cX4_read 8 = .ok (.iload 4, 2) := by decide +kernel
theorem dX4_read_10 : decode cX4_read 10 = .ok (.ifCond .eq 10, 3) := by decide +kernel
theorem dX4_read_13 : decode cX4_read 13 = .ok (.aload_n 1, 1) := by decide +kernel
theorem dX4_read_14 : decode cX4_read 14 = .ok (.getfield 136, 3) := by decide +kernel
theorem dX4_read_17 : decode cX4_read 17 = .ok (.goto 13, 3) := by decide +kernel
theorem dX4_read_20 : decode cX4_read 20 = .ok (.aload_n 0, 1) := by decide +kernel
theorem dX4_read_21 : decode cX4_read 21 = .ok (.getfield 11, 3) := by decide +kernel
theorem dX4_read_24 : decode cX4_read 24 = .ok (.iload_n 2, 1) := by decide +kernel
theorem dX4_read_25 : decode cX4_read 25 = .ok (.iconst 1, 1) := by decide +kernel
theorem dX4_read_26 : decode cX4_read 26 = .ok (.isub, 1) := by decide +kernel
theorem dX4_read_27 : decode cX4_read 27 = .ok (.aaload, 1) := by decide +kernel
theorem dX4_read_28 : decode cX4_read 28 = .ok (.iload_n 3, 1) := by decide +kernel
theorem dX4_read_29 : decode cX4_read 29 = .ok (.iaload, 1) := by decide +kernel
theorem dX4_read_30 : decode cX4_read 30 = .ok (.istore 5, 2) := by decide +kernel
theorem dX4_read_32 : decode cX4_read 32 = .ok (.iload 4, 2) := by decide +kernel
theorem dX4_read_34 : decode cX4_read 34 = .ok (.ifCond .eq 10, 3) := by decide +kernel
theorem dX4_read_37 : decode cX4_read 37 = .ok (.aload_n 0, 1) := by decide +kernel
theorem dX4_read_38 : decode cX4_read 38 = .ok (.getfield 42, 3) := by decide +kernel
theorem dX4_read_41 : decode cX4_read 41 = .ok (.goto 11, 3) := by decide +kernel
theorem dX4_read_44 : decode cX4_read 44 = .ok (.aload_n 0, 1) := by decide +kernel
theorem dX4_read_45 : decode cX4_read 45 = .ok (.getfield 16, 3) := by decide +kernel
theorem dX4_read_48 : decode cX4_read 48 = .ok (.iload_n 2, 1) := by decide +kernel
theorem dX4_read_49 : decode cX4_read 49 = .ok (.aaload, 1) := by decide +kernel
theorem dX4_read_50 : decode cX4_read 50 = .ok (.iload_n 3, 1) := by decide +kernel
theorem dX4_read_51 : decode cX4_read 51 = .ok (.iaload, 1) := by decide +kernel
theorem dX4_read_52 : decode cX4_read 52 = .ok (.istore 6, 2) := by decide +kernel
theorem dX4_read_54 : decode cX4_read 54 = .ok (.aload_n 0, 1) := by decide +kernel
theorem dX4_read_55 : decode cX4_read 55 = .ok (.getfield 11, 3) := by decide +kernel
theorem dX4_read_58 : decode cX4_read 58 = .ok (.iload_n 2, 1) := by decide +kernel
theorem dX4_read_59 : decode cX4_read 59 = .ok (.aaload, 1) := by decide +kernel
theorem dX4_read_60 : decode cX4_read 60 = .ok (.iload_n 3, 1) := by decide +kernel
theorem dX4_read_61 : decode cX4_read 61 = .ok (.iaload, 1) := by decide +kernel
theorem dX4_read_62 : decode cX4_read 62 = .ok (.istore 7, 2) := by decide +kernel
theorem dX4_read_64 : decode cX4_read 64 = .ok (.aload_n 0, 1) := by decide +kernel
theorem dX4_read_65 : decode cX4_read 65 = .ok (.getfield 39, 3) := by decide +kernel
theorem dX4_read_68 : decode cX4_read 68 = .ok (.iconst 0, 1) := by decide +kernel
theorem dX4_read_69 : decode cX4_read 69 = .ok (.bipush 99, 2) := by decide +kernel
theorem dX4_read_71 : decode cX4_read 71 = .ok (.iload 6, 2) := by decide +kernel
theorem dX4_read_73 : decode cX4_read 73 = .ok (.invokestatic 63, 3) := by decide +kernel
theorem dX4_read_76 : decode cX4_read 76 = .ok (.iastore, 1) := by decide +kernel
theorem dX4_read_77 : decode cX4_read 77 = .ok (.aload_n 0, 1) := by decide +kernel
theorem dX4_read_78 : decode cX4_read 78 = .ok (.getfield 39, 3) := by decide +kernel
theorem dX4_read_81 : decode cX4_read 81 = .ok (.iconst 1, 1) := by decide +kernel
theorem dX4_read_82 : decode cX4_read 82 = .ok (.iconst 0, 1) := by decide +kernel
theorem dX4_read_83 : decode cX4_read 83 = .ok (.iload 7, 2) := by decide +kernel
theorem dX4_read_85 : decode cX4_read 85 = .ok (.iload 5, 2) := by decide +kernel
theorem dX4_read_87 : decode cX4_read 87 = .ok (.isub, 1) := by decide +kernel
theorem dX4_read_88 : decode cX4_read 88 = .ok (.invokestatic 129, 3) := by decide +kernel
theorem dX4_read_91 : decode cX4_read 91 = .ok (.iastore, 1) := by decide +kernel
theorem dX4_read_92 : decode cX4_read 92 = .ok (.aload_n 0, 1) := by decide +kernel
theorem dX4_read_93 : decode cX4_read 93 = .ok (.getfield 39, 3) := by decide +kernel
theorem dX4_read_96 : decode cX4_read 96 = .ok (.iconst 2, 1) := by decide +kernel
theorem dX4_read_97 : decode cX4_read 97 = .ok (.iconst 0, 1) := by decide +kernel
theorem dX4_read_98 : decode cX4_read 98 = .ok (.iload 5, 2) := by decide +kernel
theorem dX4_read_100 : decode cX4_read 100 = .ok (.iload 7, 2) := by decide +kernel
theorem dX4_read_102 : decode cX4_read 102 = .ok (.isub, 1) := by decide +kernel
theorem dX4_read_103 : decode cX4_read 103 = .ok (.invokestatic 129, 3) := by decide +kernel
theorem dX4_read_106 : decode cX4_read 106 = .ok (.iastore, 1) := by decide +kernel
theorem dX4_read_107 : decode cX4_read 107 = .ok (.aload_n 0, 1) := by decide +kernel
theorem dX4_read_108 : decode cX4_read 108 = .ok (.getfield 39, 3) := by decide +kernel
theorem dX4_read_111 : decode cX4_read 111 = .ok (.iconst 3, 1) := by decide +kernel
theorem dX4_read_112 : decode cX4_read 112 = .ok (.iload 7, 2) := by decide +kernel
theorem dX4_read_114 : decode cX4_read 114 = .ok (.iastore, 1) := by decide +kernel
theorem dX4_read_115 : decode cX4_read 115 = .ok (.aload_n 0, 1) := by decide +kernel
theorem dX4_read_116 : decode cX4_read 116 = .ok (.getfield 39, 3) := by decide +kernel
theorem dX4_read_119 : decode cX4_read 119 = .ok (.iconst 4, 1) := by decide +kernel
theorem dX4_read_120 : decode cX4_read 120 = .ok (.aload_n 0, 1) := by decide +kernel
theorem dX4_read_121 : decode cX4_read 121 = .ok (.getfield 25, 3) := by decide +kernel
theorem dX4_read_124 : decode cX4_read 124 = .ok (.iload_n 3, 1) := by decide +kernel
theorem dX4_read_125 : decode cX4_read 125 = .ok (.iaload, 1) := by decide +kernel
theorem dX4_read_126 : decode cX4_read 126 = .ok (.iastore, 1) := by decide +kernel
theorem dX4_read_127 : decode cX4_read 127 = .ok (.aload_n 0, 1) := by decide +kernel
theorem dX4_read_128 : decode cX4_read 128 = .ok (.getfield 39, 3) := by decide +kernel
theorem dX4_read_131 : decode cX4_read 131 = .ok (.iconst 5, 1) := by decide +kernel
theorem dX4_read_132 : decode cX4_read 132 = .ok (.aload_n 0, 1) := by decide +kernel
theorem dX4_read_133 : decode cX4_read 133 = .ok (.getfield 29, 3) := by decide +kernel
theorem dX4_read_136 : decode cX4_read 136 = .ok (.iload_n 3, 1) := by decide +kernel
theorem dX4_read_137 : decode cX4_read 137 = .ok (.iaload, 1) := by decide +kernel
theorem dX4_read_138 : decode cX4_read 138 = .ok (.iastore, 1) := by decide +kernel
theorem dX4_read_139 : decode cX4_read 139 = .ok (.return_, 1) := by decide +kernel
theorem dX4_speedBehind_0 : decode cX4_speedBehind 0 = .ok (.aload_n 1, 1) := by decide +kernel
theorem dX4_speedBehind_1 : decode cX4_speedBehind 1 = .ok (.iload_n 2, 1) := by decide +kernel
theorem dX4_speedBehind_2 : decode cX4_speedBehind 2 = .ok (.invokevirtual 74, 3) := by decide +kernel
theorem dX4_speedBehind_5 : decode cX4_speedBehind 5 = .ok (.astore 4, 2) := by decide +kernel
theorem dX4_speedBehind_7 : decode cX4_speedBehind 7 = .ok (.iload_n 3, 1) := by decide +kernel
theorem dX4_speedBehind_8 : decode cX4_speedBehind 8 = .ok (.aload 4, 2) := by decide +kernel
theorem dX4_speedBehind_10 : decode cX4_speedBehind 10 = .ok (.getfield 139, 3) := by decide +kernel
theorem dX4_speedBehind_13 : decode cX4_speedBehind 13 = .ok (.isub, 1) := by decide +kernel
theorem dX4_speedBehind_14 : decode cX4_speedBehind 14 = .ok (.istore 5, 2) := by decide +kernel
theorem dX4_speedBehind_16 : decode cX4_speedBehind 16 = .ok (.iload 5, 2) := by decide +kernel
theorem dX4_speedBehind_18 : decode cX4_speedBehind 18 = .ok (.ifCond .ge 7, 3) := by decide +kernel
theorem dX4_speedBehind_21 : decode cX4_speedBehind 21 = .ok (.iconst 0, 1) := by decide +kernel
theorem dX4_speedBehind_22 : decode cX4_speedBehind 22 = .ok (.goto 12, 3) := by decide +kernel
theorem dX4_speedBehind_25 : decode cX4_speedBehind 25 = .ok (.aload_n 0, 1) := by decide +kernel
theorem dX4_speedBehind_26 : decode cX4_speedBehind 26 = .ok (.getfield 22, 3) := by decide +kernel
theorem dX4_speedBehind_29 : decode cX4_speedBehind 29 = .ok (.iload_n 2, 1) := by decide +kernel
theorem dX4_speedBehind_30 : decode cX4_speedBehind 30 = .ok (.aaload, 1) := by decide +kernel
theorem dX4_speedBehind_31 : decode cX4_speedBehind 31 = .ok (.iload 5, 2) := by decide +kernel
theorem dX4_speedBehind_33 : decode cX4_speedBehind 33 = .ok (.iaload, 1) := by decide +kernel
theorem dX4_speedBehind_34 : decode cX4_speedBehind 34 = .ok (.istore 6, 2) := by decide +kernel
theorem dX4_speedBehind_36 : decode cX4_speedBehind 36 = .ok (.aload_n 1, 1) := by decide +kernel
theorem dX4_speedBehind_37 : decode cX4_speedBehind 37 = .ok (.aload 4, 2) := by decide +kernel
theorem dX4_speedBehind_39 : decode cX4_speedBehind 39 = .ok (.getfield 78, 3) := by decide +kernel
theorem dX4_speedBehind_42 : decode cX4_speedBehind 42 = .ok (.aload_n 0, 1) := by decide +kernel
theorem dX4_speedBehind_43 : decode cX4_speedBehind 43 = .ok (.getfield 19, 3) := by decide +kernel
theorem dX4_speedBehind_46 : decode cX4_speedBehind 46 = .ok (.iload_n 2, 1) := by decide +kernel
theorem dX4_speedBehind_47 : decode cX4_speedBehind 47 = .ok (.aaload, 1) := by decide +kernel
theorem dX4_speedBehind_48 : decode cX4_speedBehind 48 = .ok (.iload_n 3, 1) := by decide +kernel
theorem dX4_speedBehind_49 : decode cX4_speedBehind 49 = .ok (.iaload, 1) := by decide +kernel
theorem dX4_speedBehind_50 : decode cX4_speedBehind 50 = .ok (.invokevirtual 142, 3) := by decide +kernel
theorem dX4_speedBehind_53 : decode cX4_speedBehind 53 = .ok (.istore 7, 2) := by decide +kernel
theorem dX4_speedBehind_55 : decode cX4_speedBehind 55 = .ok (.iconst 0, 1) := by decide +kernel
theorem dX4_speedBehind_56 : decode cX4_speedBehind 56 = .ok (.iload 7, 2) := by decide +kernel
theorem dX4_speedBehind_58 : decode cX4_speedBehind 58 = .ok (.aload_n 0, 1) := by decide +kernel
theorem dX4_speedBehind_59 : decode cX4_speedBehind 59 = .ok (.getfield 11, 3) := by decide +kernel
theorem dX4_speedBehind_62 : decode cX4_speedBehind 62 = .ok (.iload_n 2, 1) := by decide +kernel
theorem dX4_speedBehind_63 : decode cX4_speedBehind 63 = .ok (.aaload, 1) := by decide +kernel
theorem dX4_speedBehind_64 : decode cX4_speedBehind 64 = .ok (.iload_n 3, 1) := by decide +kernel
theorem dX4_speedBehind_65 : decode cX4_speedBehind 65 = .ok (.iaload, 1) := by decide +kernel
theorem dX4_speedBehind_66 : decode cX4_speedBehind 66 = .ok (.iload 6, 2) := by decide +kernel
theorem dX4_speedBehind_68 : decode cX4_speedBehind 68 = .ok (.iadd, 1) := by decide +kernel
theorem dX4_speedBehind_69 : decode cX4_speedBehind 69 = .ok (.invokestatic 63, 3) := by decide +kernel
theorem dX4_speedBehind_72 : decode cX4_speedBehind 72 = .ok (.invokestatic 129, 3) := by decide +kernel
theorem dX4_speedBehind_75 : decode cX4_speedBehind 75 = .ok (.ireturn, 1) := by decide +kernel
theorem dX4_go_0 : decode cX4_go 0 = .ok (.iconst 0, 1) := by decide +kernel
theorem dX4_go_1 : decode cX4_go 1 = .ok (.istore_n 3, 1) := by decide +kernel
theorem dX4_go_2 : decode cX4_go 2 = .ok (.iload_n 3, 1) := by decide +kernel
theorem dX4_go_3 : decode cX4_go 3 = .ok (.aload_n 1, 1) := by decide +kernel
theorem dX4_go_4 : decode cX4_go 4 = .ok (.getfield 69, 3) := by decide +kernel
theorem dX4_go_7 : decode cX4_go 7 = .ok (.if_icmp .ge 105, 3) := by decide +kernel
theorem dX4_go_10 : decode cX4_go 10 = .ok (.aload_n 0, 1) := by decide +kernel
theorem dX4_go_11 : decode cX4_go 11 = .ok (.getfield 11, 3) := by decide +kernel
theorem dX4_go_14 : decode cX4_go 14 = .ok (.iload_n 3, 1) := by decide +kernel
theorem dX4_go_15 : decode cX4_go 15 = .ok (.aaload, 1) := by decide +kernel
theorem dX4_go_16 : decode cX4_go 16 = .ok (.iload_n 2, 1) := by decide +kernel
theorem dX4_go_17 : decode cX4_go 17 = .ok (.iconst 1, 1) := by decide +kernel
theorem dX4_go_18 : decode cX4_go 18 = .ok (.iadd, 1) := by decide +kernel
theorem dX4_go_19 : decode cX4_go 19 = .ok (.iaload, 1) := by decide +kernel
theorem dX4_go_20 : decode cX4_go 20 = .ok (.istore 4, 2) := by decide +kernel
theorem dX4_go_22 : decode cX4_go 22 = .ok (.aload_n 0, 1) := by decide +kernel
theorem dX4_go_23 : decode cX4_go 23 = .ok (.getfield 19, 3) := by decide +kernel
theorem dX4_go_26 : decode cX4_go 26 = .ok (.iload_n 3, 1) := by decide +kernel
theorem dX4_go_27 : decode cX4_go 27 = .ok (.aaload, 1) := by decide +kernel
theorem dX4_go_28 : decode cX4_go 28 = .ok (.iload_n 2, 1) := by decide +kernel
theorem dX4_go_29 : decode cX4_go 29 = .ok (.iconst 1, 1) := by decide +kernel
theorem dX4_go_30 : decode cX4_go 30 = .ok (.iadd, 1) := by decide +kernel
theorem dX4_go_31 : decode cX4_go 31 = .ok (.aload_n 0, 1) := by decide +kernel
theorem dX4_go_32 : decode cX4_go 32 = .ok (.getfield 19, 3) := by decide +kernel
theorem dX4_go_35 : decode cX4_go 35 = .ok (.iload_n 3, 1) := by decide +kernel
theorem dX4_go_36 : decode cX4_go 36 = .ok (.aaload, 1) := by decide +kernel
theorem dX4_go_37 : decode cX4_go 37 = .ok (.iload_n 2, 1) := by decide +kernel
theorem dX4_go_38 : decode cX4_go 38 = .ok (.iaload, 1) := by decide +kernel
theorem dX4_go_39 : decode cX4_go 39 = .ok (.iload 4, 2) := by decide +kernel
theorem dX4_go_41 : decode cX4_go 41 = .ok (.iadd, 1) := by decide +kernel
theorem dX4_go_42 : decode cX4_go 42 = .ok (.iastore, 1) := by decide +kernel
theorem dX4_go_43 : decode cX4_go 43 = .ok (.iload_n 3, 1) := by decide +kernel
theorem dX4_go_44 : decode cX4_go 44 = .ok (.ifCond .le 37, 3) := by decide +kernel
theorem dX4_go_47 : decode cX4_go 47 = .ok (.aload_n 0, 1) := by decide +kernel
theorem dX4_go_48 : decode cX4_go 48 = .ok (.getfield 16, 3) := by decide +kernel
theorem dX4_go_51 : decode cX4_go 51 = .ok (.iload_n 3, 1) := by decide +kernel
theorem dX4_go_52 : decode cX4_go 52 = .ok (.aaload, 1) := by decide +kernel
theorem dX4_go_53 : decode cX4_go 53 = .ok (.iload_n 2, 1) := by decide +kernel
theorem dX4_go_54 : decode cX4_go 54 = .ok (.iconst 1, 1) := by decide +kernel
theorem dX4_go_55 : decode cX4_go 55 = .ok (.iadd, 1) := by decide +kernel
theorem dX4_go_56 : decode cX4_go 56 = .ok (.aload_n 0, 1) := by decide +kernel
theorem dX4_go_57 : decode cX4_go 57 = .ok (.getfield 16, 3) := by decide +kernel
theorem dX4_go_60 : decode cX4_go 60 = .ok (.iload_n 3, 1) := by decide +kernel
theorem dX4_go_61 : decode cX4_go 61 = .ok (.aaload, 1) := by decide +kernel
theorem dX4_go_62 : decode cX4_go 62 = .ok (.iload_n 2, 1) := by decide +kernel
theorem dX4_go_63 : decode cX4_go 63 = .ok (.iaload, 1) := by decide +kernel
theorem dX4_go_64 : decode cX4_go 64 = .ok (.aload_n 0, 1) := by decide +kernel
theorem dX4_go_65 : decode cX4_go 65 = .ok (.getfield 11, 3) := by decide +kernel
theorem dX4_go_68 : decode cX4_go 68 = .ok (.iload_n 3, 1) := by decide +kernel
theorem dX4_go_69 : decode cX4_go 69 = .ok (.iconst 1, 1) := by decide +kernel
theorem dX4_go_70 : decode cX4_go 70 = .ok (.isub, 1) := by decide +kernel
theorem dX4_go_71 : decode cX4_go 71 = .ok (.aaload, 1) := by decide +kernel
theorem dX4_go_72 : decode cX4_go 72 = .ok (.iload_n 2, 1) := by decide +kernel
theorem dX4_go_73 : decode cX4_go 73 = .ok (.iconst 1, 1) := by decide +kernel
theorem dX4_go_74 : decode cX4_go 74 = .ok (.iadd, 1) := by decide +kernel
theorem dX4_go_75 : decode cX4_go 75 = .ok (.iaload, 1) := by decide +kernel
theorem dX4_go_76 : decode cX4_go 76 = .ok (.iadd, 1) := by decide +kernel
theorem dX4_go_77 : decode cX4_go 77 = .ok (.iload 4, 2) := by decide +kernel
theorem dX4_go_79 : decode cX4_go 79 = .ok (.isub, 1) := by decide +kernel
theorem dX4_go_80 : decode cX4_go 80 = .ok (.iastore, 1) := by decide +kernel
theorem dX4_go_81 : decode cX4_go 81 = .ok (.aload_n 1, 1) := by decide +kernel
theorem dX4_go_82 : decode cX4_go 82 = .ok (.iload_n 3, 1) := by decide +kernel
theorem dX4_go_83 : decode cX4_go 83 = .ok (.iload_n 2, 1) := by decide +kernel
theorem dX4_go_84 : decode cX4_go 84 = .ok (.invokevirtual 132, 3) := by decide +kernel
theorem dX4_go_87 : decode cX4_go 87 = .ok (.ifCond .eq 19, 3) := by decide +kernel
theorem dX4_go_90 : decode cX4_go 90 = .ok (.aload_n 0, 1) := by decide +kernel
theorem dX4_go_91 : decode cX4_go 91 = .ok (.dup, 1) := by decide +kernel
theorem dX4_go_92 : decode cX4_go 92 = .ok (.getfield 42, 3) := by decide +kernel
theorem dX4_go_95 : decode cX4_go 95 = .ok (.aload_n 1, 1) := by decide +kernel
theorem dX4_go_96 : decode cX4_go 96 = .ok (.getfield 136, 3) := by decide +kernel
theorem dX4_go_99 : decode cX4_go 99 = .ok (.iload 4, 2) := by decide +kernel
theorem dX4_go_101 : decode cX4_go 101 = .ok (.isub, 1) := by decide +kernel
theorem dX4_go_102 : decode cX4_go 102 = .ok (.iadd, 1) := by decide +kernel
theorem dX4_go_103 : decode cX4_go 103 = .ok (.putfield 42, 3) := by decide +kernel
theorem dX4_go_106 : decode cX4_go 106 = .ok (.iinc 3 1, 3) := by decide +kernel
theorem dX4_go_109 : decode cX4_go 109 = .ok (.goto (-107), 3) := by decide +kernel
theorem dX4_go_112 : decode cX4_go 112 = .ok (.return_, 1) := by decide +kernel
theorem dX4_noteTouch_0 : decode cX4_noteTouch 0 = .ok (.iconst 1, 1) := by decide +kernel
theorem dX4_noteTouch_1 : decode cX4_noteTouch 1 = .ok (.istore_n 3, 1) := by decide +kernel
theorem dX4_noteTouch_2 : decode cX4_noteTouch 2 = .ok (.iload_n 3, 1) := by decide +kernel
theorem dX4_noteTouch_3 : decode cX4_noteTouch 3 = .ok (.aload_n 1, 1) := by decide +kernel
theorem dX4_noteTouch_4 : decode cX4_noteTouch 4 = .ok (.getfield 69, 3) := by decide +kernel
theorem dX4_noteTouch_7 : decode cX4_noteTouch 7 = .ok (.if_icmp .ge 68, 3) := by decide +kernel
theorem dX4_noteTouch_10 : decode cX4_noteTouch 10 = .ok (.aload_n 0, 1) := by decide +kernel
theorem dX4_noteTouch_11 : decode cX4_noteTouch 11 = .ok (.getfield 32, 3) := by decide +kernel
theorem dX4_noteTouch_14 : decode cX4_noteTouch 14 = .ok (.iconst (-1), 1) := by decide +kernel
theorem dX4_noteTouch_15 : decode cX4_noteTouch 15 = .ok (.if_icmp .ne 60, 3) := by decide +kernel
theorem dX4_noteTouch_18 : decode cX4_noteTouch 18 = .ok (.aload_n 1, 1) := by decide +kernel
theorem dX4_noteTouch_19 : decode cX4_noteTouch 19 = .ok (.iload_n 3, 1) := by decide +kernel
theorem dX4_noteTouch_20 : decode cX4_noteTouch 20 = .ok (.iload_n 2, 1) := by decide +kernel
theorem dX4_noteTouch_21 : decode cX4_noteTouch 21 = .ok (.invokevirtual 132, 3) := by decide +kernel
theorem dX4_noteTouch_24 : decode cX4_noteTouch 24 = .ok (.ifCond .eq 14, 3) := by decide +kernel
theorem dX4_noteTouch_27 : decode cX4_noteTouch 27 = .ok (.aload_n 0, 1) := by decide +kernel
theorem dX4_noteTouch_28 : decode cX4_noteTouch 28 = .ok (.getfield 42, 3) := by decide +kernel
theorem dX4_noteTouch_31 : decode cX4_noteTouch 31 = .ok (.ifCond .gt 7, 3) := by decide +kernel
theorem dX4_noteTouch_34 : decode cX4_noteTouch 34 = .ok (.iconst 1, 1) := by decide +kernel
theorem dX4_noteTouch_35 : decode cX4_noteTouch 35 = .ok (.goto 4, 3) := by decide +kernel
theorem dX4_noteTouch_38 : decode cX4_noteTouch 38 = .ok (.iconst 0, 1) := by decide +kernel
theorem dX4_noteTouch_39 : decode cX4_noteTouch 39 = .ok (.istore 4, 2) := by decide +kernel
theorem dX4_noteTouch_41 : decode cX4_noteTouch 41 = .ok (.aload_n 0, 1) := by decide +kernel
theorem dX4_noteTouch_42 : decode cX4_noteTouch 42 = .ok (.getfield 16, 3) := by decide +kernel
theorem dX4_noteTouch_45 : decode cX4_noteTouch 45 = .ok (.iload_n 3, 1) := by decide +kernel
theorem dX4_noteTouch_46 : decode cX4_noteTouch 46 = .ok (.aaload, 1) := by decide +kernel
theorem dX4_noteTouch_47 : decode cX4_noteTouch 47 = .ok (.iload_n 2, 1) := by decide +kernel
theorem dX4_noteTouch_48 : decode cX4_noteTouch 48 = .ok (.iconst 1, 1) := by decide +kernel
theorem dX4_noteTouch_49 : decode cX4_noteTouch 49 = .ok (.iadd, 1) := by decide +kernel
theorem dX4_noteTouch_50 : decode cX4_noteTouch 50 = .ok (.iaload, 1) := by decide +kernel
theorem dX4_noteTouch_51 : decode cX4_noteTouch 51 = .ok (.ifCond .le 8, 3) := by decide +kernel
theorem dX4_noteTouch_54 : decode cX4_noteTouch 54 = .ok (.iload 4, 2) := by decide +kernel
theorem dX4_noteTouch_56 : decode cX4_noteTouch 56 = .ok (.ifCond .eq 13, 3) := by decide +kernel
theorem dX4_noteTouch_59 : decode cX4_noteTouch 59 = .ok (.aload_n 0, 1) := by decide +kernel
theorem dX4_noteTouch_60 : decode cX4_noteTouch 60 = .ok (.iload_n 2, 1) := by decide +kernel
theorem dX4_noteTouch_61 : decode cX4_noteTouch 61 = .ok (.putfield 32, 3) := by decide +kernel
theorem dX4_noteTouch_64 : decode cX4_noteTouch 64 = .ok (.aload_n 0, 1) := by decide +kernel
theorem dX4_noteTouch_65 : decode cX4_noteTouch 65 = .ok (.iload_n 3, 1) := by decide +kernel
theorem dX4_noteTouch_66 : decode cX4_noteTouch 66 = .ok (.putfield 36, 3) := by decide +kernel
theorem dX4_noteTouch_69 : decode cX4_noteTouch 69 = .ok (.iinc 3 1, 3) := by decide +kernel
theorem dX4_noteTouch_72 : decode cX4_noteTouch 72 = .ok (.goto (-70), 3) := by decide +kernel
theorem dX4_noteTouch_75 : decode cX4_noteTouch 75 = .ok (.return_, 1) := by decide +kernel
theorem dX5_init_0 : decode cX5_init 0 = .ok (.aload_n 0, 1) := by decide +kernel
theorem dX5_init_1 : decode cX5_init 1 = .ok (.invokespecial 3, 3) := by decide +kernel
theorem dX5_init_4 : decode cX5_init 4 = .ok (.aload_n 0, 1) := by decide +kernel
theorem dX5_init_5 : decode cX5_init 5 = .ok (.bipush 6, 2) := by decide +kernel
theorem dX5_init_7 : decode cX5_init 7 = .ok (.bipush 6, 2) := by decide +kernel
theorem dX5_init_9 : decode cX5_init 9 = .ok (.multianewarray 9 2, 4) := by decide +kernel
theorem dX5_init_13 : decode cX5_init 13 = .ok (.putfield 11, 3) := by decide +kernel
theorem dX5_init_16 : decode cX5_init 16 = .ok (.return_, 1) := by decide +kernel
theorem dX5_sparedOf_0 : decode cX5_sparedOf 0 = .ok (.iconst 0, 1) := by decide +kernel
theorem dX5_sparedOf_1 : decode cX5_sparedOf 1 = .ok (.istore_n 2, 1) := by decide +kernel
theorem dX5_sparedOf_2 : decode cX5_sparedOf 2 = .ok (.iconst (-1), 1) := by decide +kernel
theorem dX5_sparedOf_3 : decode cX5_sparedOf 3 = .ok (.istore_n 3, 1) := by decide +kernel
theorem dX5_sparedOf_4 : decode cX5_sparedOf 4 = .ok (.iconst 0, 1) := by decide +kernel
theorem dX5_sparedOf_5 : decode cX5_sparedOf 5 = .ok (.istore 4, 2) := by decide +kernel
theorem dX5_sparedOf_7 : decode cX5_sparedOf 7 = .ok (.iload 4, 2) := by decide +kernel
theorem dX5_sparedOf_9 : decode cX5_sparedOf 9 = .ok (.bipush 6, 2) := by decide +kernel
theorem dX5_sparedOf_11 : decode cX5_sparedOf 11 = .ok (.if_icmp .ge 41, 3) := by decide +kernel
theorem dX5_sparedOf_14 : decode cX5_sparedOf 14 = .ok (.iload_n 1, 1) := by decide +kernel
theorem dX5_sparedOf_15 : decode cX5_sparedOf 15 = .ok (.iload 4, 2) := by decide +kernel
theorem dX5_sparedOf_17 : decode cX5_sparedOf 17 = .ok (.ishr, 1) := by decide +kernel
theorem dX5_sparedOf_18 : decode cX5_sparedOf 18 = .ok (.iconst 1, 1) := by decide +kernel
theorem dX5_sparedOf_19 : decode cX5_sparedOf 19 = .ok (.iand, 1) := by decide +kernel
theorem dX5_sparedOf_20 : decode cX5_sparedOf 20 = .ok (.ifCond .ne 6, 3) := by decide +kernel
theorem dX5_sparedOf_23 : decode cX5_sparedOf 23 = .ok (.goto 23, 3) := by decide +kernel
theorem dX5_sparedOf_26 : decode cX5_sparedOf 26 = .ok (.iload_n 3, 1) := by decide +kernel
theorem dX5_sparedOf_27 : decode cX5_sparedOf 27 = .ok (.iconst (-1), 1) := by decide +kernel
theorem dX5_sparedOf_28 : decode cX5_sparedOf 28 = .ok (.if_icmp .eq 15, 3) := by decide +kernel
theorem dX5_sparedOf_31 : decode cX5_sparedOf 31 = .ok (.iload_n 2, 1) := by decide +kernel
theorem dX5_sparedOf_32 : decode cX5_sparedOf 32 = .ok (.aload_n 0, 1) := by decide +kernel
theorem dX5_sparedOf_33 : decode cX5_sparedOf 33 = .ok (.getfield 11, 3) := by decide +kernel
theorem dX5_sparedOf_36 : decode cX5_sparedOf 36 = .ok (.iload 4, 2) := by decide +kernel
theorem dX5_sparedOf_38 : decode cX5_sparedOf 38 = .ok (.aaload, 1) := by decide +kernel
theorem dX5_sparedOf_39 : decode cX5_sparedOf 39 = .ok (.iload_n 3, 1) := by decide +kernel
theorem dX5_sparedOf_40 : decode cX5_sparedOf 40 = .ok (.iaload, 1) := by decide +kernel
theorem dX5_sparedOf_41 : decode cX5_sparedOf 41 = .ok (.iadd, 1) := by decide +kernel
theorem dX5_sparedOf_42 : decode cX5_sparedOf 42 = .ok (.istore_n 2, 1) := by decide +kernel
theorem dX5_sparedOf_43 : decode cX5_sparedOf 43 = .ok (.iload 4, 2) := by decide +kernel
theorem dX5_sparedOf_45 : decode cX5_sparedOf 45 = .ok (.istore_n 3, 1) := by decide +kernel
theorem dX5_sparedOf_46 : decode cX5_sparedOf 46 = .ok (.iinc 4 1, 3) := by decide +kernel
theorem dX5_sparedOf_49 : decode cX5_sparedOf 49 = .ok (.goto (-42), 3) := by decide +kernel
theorem dX5_sparedOf_52 : decode cX5_sparedOf 52 = .ok (.iload_n 2, 1) := by decide +kernel
theorem dX5_sparedOf_53 : decode cX5_sparedOf 53 = .ok (.ireturn, 1) := by decide +kernel
theorem dX5_above_0 : decode cX5_above 0 = .ok (.aload_n 0, 1) := by decide +kernel
theorem dX5_above_1 : decode cX5_above 1 = .ok (.iload_n 1, 1) := by decide +kernel
theorem dX5_above_2 : decode cX5_above 2 = .ok (.iload_n 2, 1) := by decide +kernel
theorem dX5_above_3 : decode cX5_above 3 = .ok (.invokevirtual 16, 3) := by decide +kernel
theorem dX5_above_6 : decode cX5_above 6 = .ok (.istore_n 3, 1) := by decide +kernel
theorem dX5_above_7 : decode cX5_above 7 = .ok (.iload_n 3, 1) := by decide +kernel
theorem dX5_above_8 : decode cX5_above 8 = .ok (.iload_n 3, 1) := by decide +kernel
theorem dX5_above_9 : decode cX5_above 9 = .ok (.getstatic 20, 3) := by decide +kernel
theorem dX5_above_12 : decode cX5_above 12 = .ok (.iload_n 2, 1) := by decide +kernel
theorem dX5_above_13 : decode cX5_above 13 = .ok (.iaload, 1) := by decide +kernel
theorem dX5_above_14 : decode cX5_above 14 = .ok (.invokestatic 24, 3) := by decide +kernel
theorem dX5_above_17 : decode cX5_above 17 = .ok (.idiv, 1) := by decide +kernel
theorem dX5_above_18 : decode cX5_above 18 = .ok (.ireturn, 1) := by decide +kernel
theorem dX5_below_0 : decode cX5_below 0 = .ok (.getstatic 20, 3) := by decide +kernel
theorem dX5_below_3 : decode cX5_below 3 = .ok (.iload_n 2, 1) := by decide +kernel
theorem dX5_below_4 : decode cX5_below 4 = .ok (.iaload, 1) := by decide +kernel
theorem dX5_below_5 : decode cX5_below 5 = .ok (.istore_n 3, 1) := by decide +kernel
theorem dX5_below_6 : decode cX5_below 6 = .ok (.iload_n 3, 1) := by decide +kernel
theorem dX5_below_7 : decode cX5_below 7 = .ok (.aload_n 0, 1) := by decide +kernel
theorem dX5_below_8 : decode cX5_below 8 = .ok (.iload_n 1, 1) := by decide +kernel
theorem dX5_below_9 : decode cX5_below 9 = .ok (.iload_n 2, 1) := by decide +kernel
theorem dX5_below_10 : decode cX5_below 10 = .ok (.invokevirtual 16, 3) := by decide +kernel
theorem dX5_below_13 : decode cX5_below 13 = .ok (.iload_n 3, 1) := by decide +kernel
theorem dX5_below_14 : decode cX5_below 14 = .ok (.invokestatic 24, 3) := by decide +kernel
theorem dX5_below_17 : decode cX5_below 17 = .ok (.idiv, 1) := by decide +kernel
theorem dX5_below_18 : decode cX5_below 18 = .ok (.ireturn, 1) := by decide +kernel
theorem dX5_coins_0 : decode cX5_coins 0 = .ok (.getstatic 20, 3) := by decide +kernel
theorem dX5_coins_3 : decode cX5_coins 3 = .ok (.iload_n 2, 1) := by decide +kernel
theorem dX5_coins_4 : decode cX5_coins 4 = .ok (.iaload, 1) := by decide +kernel
theorem dX5_coins_5 : decode cX5_coins 5 = .ok (.istore_n 3, 1) := by decide +kernel
theorem dX5_coins_6 : decode cX5_coins 6 = .ok (.aload_n 0, 1) := by decide +kernel
theorem dX5_coins_7 : decode cX5_coins 7 = .ok (.iconst 1, 1) := by decide +kernel
theorem dX5_coins_8 : decode cX5_coins 8 = .ok (.iload_n 2, 1) := by decide +kernel
theorem dX5_coins_9 : decode cX5_coins 9 = .ok (.ishl, 1) := by decide +kernel
theorem dX5_coins_10 : decode cX5_coins 10 = .ok (.iconst 1, 1) := by decide +kernel
theorem dX5_coins_11 : decode cX5_coins 11 = .ok (.isub, 1) := by decide +kernel
theorem dX5_coins_12 : decode cX5_coins 12 = .ok (.invokevirtual 27, 3) := by decide +kernel
theorem dX5_coins_15 : decode cX5_coins 15 = .ok (.istore 4, 2) := by decide +kernel
theorem dX5_coins_17 : decode cX5_coins 17 = .ok (.aload_n 0, 1) := by decide +kernel
theorem dX5_coins_18 : decode cX5_coins 18 = .ok (.iload_n 1, 1) := by decide +kernel
theorem dX5_coins_19 : decode cX5_coins 19 = .ok (.iload_n 2, 1) := by decide +kernel
theorem dX5_coins_20 : decode cX5_coins 20 = .ok (.invokevirtual 16, 3) := by decide +kernel
theorem dX5_coins_23 : decode cX5_coins 23 = .ok (.iload_n 3, 1) := by decide +kernel
theorem dX5_coins_24 : decode cX5_coins 24 = .ok (.invokestatic 31, 3) := by decide +kernel
theorem dX5_coins_27 : decode cX5_coins 27 = .ok (.istore 5, 2) := by decide +kernel
theorem dX5_coins_29 : decode cX5_coins 29 = .ok (.iconst 0, 1) := by decide +kernel
theorem dX5_coins_30 : decode cX5_coins 30 = .ok (.istore 6, 2) := by decide +kernel
theorem dX5_coins_32 : decode cX5_coins 32 = .ok (.iconst 0, 1) := by decide +kernel
theorem dX5_coins_33 : decode cX5_coins 33 = .ok (.istore 7, 2) := by decide +kernel
theorem dX5_coins_35 : decode cX5_coins 35 = .ok (.iload 7, 2) := by decide +kernel
theorem dX5_coins_37 : decode cX5_coins 37 = .ok (.iload_n 2, 1) := by decide +kernel
theorem dX5_coins_38 : decode cX5_coins 38 = .ok (.if_icmp .ge 60, 3) := by decide +kernel
theorem dX5_coins_41 : decode cX5_coins 41 = .ok (.aload_n 0, 1) := by decide +kernel
theorem dX5_coins_42 : decode cX5_coins 42 = .ok (.iload 7, 2) := by decide +kernel
theorem dX5_coins_44 : decode cX5_coins 44 = .ok (.iload_n 2, 1) := by decide +kernel
theorem dX5_coins_45 : decode cX5_coins 45 = .ok (.invokevirtual 16, 3) := by decide +kernel
theorem dX5_coins_48 : decode cX5_coins 48 = .ok (.istore 8, 2) := by decide +kernel
theorem dX5_coins_50 : decode cX5_coins 50 = .ok (.iload 4, 2) := by decide +kernel
theorem dX5_coins_52 : decode cX5_coins 52 = .ok (.iload 8, 2) := by decide +kernel
theorem dX5_coins_54 : decode cX5_coins 54 = .ok (.iload_n 3, 1) := by decide +kernel
theorem dX5_coins_55 : decode cX5_coins 55 = .ok (.invokestatic 36, 3) := by decide +kernel
theorem dX5_coins_58 : decode cX5_coins 58 = .ok (.isub, 1) := by decide +kernel
theorem dX5_coins_59 : decode cX5_coins 59 = .ok (.istore 4, 2) := by decide +kernel
theorem dX5_coins_61 : decode cX5_coins 61 = .ok (.iload 8, 2) := by decide +kernel
theorem dX5_coins_63 : decode cX5_coins 63 = .ok (.iload_n 3, 1) := by decide +kernel
theorem dX5_coins_64 : decode cX5_coins 64 = .ok (.invokestatic 31, 3) := by decide +kernel
theorem dX5_coins_67 : decode cX5_coins 67 = .ok (.istore 9, 2) := by decide +kernel
theorem dX5_coins_69 : decode cX5_coins 69 = .ok (.iload 9, 2) := by decide +kernel
theorem dX5_coins_71 : decode cX5_coins 71 = .ok (.iload 5, 2) := by decide +kernel
theorem dX5_coins_73 : decode cX5_coins 73 = .ok (.if_icmp .gt 16, 3) := by decide +kernel
theorem dX5_coins_76 : decode cX5_coins 76 = .ok (.iload 9, 2) := by decide +kernel
theorem dX5_coins_78 : decode cX5_coins 78 = .ok (.iload 5, 2) := by decide +kernel
theorem dX5_coins_80 : decode cX5_coins 80 = .ok (.if_icmp .ne 12, 3) := by decide +kernel
theorem dX5_coins_83 : decode cX5_coins 83 = .ok (.iload 7, 2) := by decide +kernel
theorem dX5_coins_85 : decode cX5_coins 85 = .ok (.iload_n 1, 1) := by decide +kernel
theorem dX5_coins_86 : decode cX5_coins 86 = .ok (.if_icmp .ge 6, 3) := by decide +kernel
theorem dX5_coins_89 : decode cX5_coins 89 = .ok (.iinc 6 1, 3) := by decide +kernel
theorem dX5_coins_92 : decode cX5_coins 92 = .ok (.iinc 7 1, 3) := by decide +kernel
theorem dX5_coins_95 : decode cX5_coins 95 = .ok (.goto (-60), 3) := by decide +kernel
theorem dX5_coins_98 : decode cX5_coins 98 = .ok (.aload_n 0, 1) := by decide +kernel
theorem dX5_coins_99 : decode cX5_coins 99 = .ok (.iload_n 1, 1) := by decide +kernel
theorem dX5_coins_100 : decode cX5_coins 100 = .ok (.iload_n 2, 1) := by decide +kernel
theorem dX5_coins_101 : decode cX5_coins 101 = .ok (.invokevirtual 16, 3) := by decide +kernel
theorem dX5_coins_104 : decode cX5_coins 104 = .ok (.iload_n 3, 1) := by decide +kernel
theorem dX5_coins_105 : decode cX5_coins 105 = .ok (.invokestatic 36, 3) := by decide +kernel
theorem dX5_coins_108 : decode cX5_coins 108 = .ok (.istore 7, 2) := by decide +kernel
theorem dX5_coins_110 : decode cX5_coins 110 = .ok (.iload 6, 2) := by decide +kernel
theorem dX5_coins_112 : decode cX5_coins 112 = .ok (.iload 4, 2) := by decide +kernel
theorem dX5_coins_114 : decode cX5_coins 114 = .ok (.if_icmp .ge 10, 3) := by decide +kernel
theorem dX5_coins_117 : decode cX5_coins 117 = .ok (.iload 7, 2) := by decide +kernel
theorem dX5_coins_119 : decode cX5_coins 119 = .ok (.iconst 1, 1) := by decide +kernel
theorem dX5_coins_120 : decode cX5_coins 120 = .ok (.iadd, 1) := by decide +kernel
theorem dX5_coins_121 : decode cX5_coins 121 = .ok (.goto 5, 3) := by decide +kernel
theorem dX5_coins_124 : decode cX5_coins 124 = .ok (.iload 7, 2) := by decide +kernel
theorem dX5_coins_126 : decode cX5_coins 126 = .ok (.ireturn, 1) := by decide +kernel
theorem dX5_sumOverOrders_0 : decode cX5_sumOverOrders 0 = .ok (.iconst 0, 1) := by decide +kernel
theorem dX5_sumOverOrders_1 : decode cX5_sumOverOrders 1 = .ok (.istore_n 3, 1) := by decide +kernel
theorem dX5_sumOverOrders_2 : decode cX5_sumOverOrders 2 = .ok (.iconst 0, 1) := by decide +kernel
theorem dX5_sumOverOrders_3 : decode cX5_sumOverOrders 3 = .ok (.istore 4, 2) := by decide +kernel
theorem dX5_sumOverOrders_5 : decode cX5_sumOverOrders 5 = .ok (.iload 4, 2) := by decide +kernel
theorem dX5_sumOverOrders_7 : decode cX5_sumOverOrders 7 = .ok (.iconst 1, 1) := by decide +kernel
theorem dX5_sumOverOrders_8 : decode cX5_sumOverOrders 8 = .ok (.iload_n 2, 1) := by decide +kernel
theorem dX5_sumOverOrders_9 : decode cX5_sumOverOrders 9 = .ok (.ishl, 1) := by decide +kernel
theorem dX5_sumOverOrders_10 : decode cX5_sumOverOrders 10 = .ok (.if_icmp .ge 70, 3) := by decide +kernel
theorem dX5_sumOverOrders_13 : decode cX5_sumOverOrders 13 = .ok (.iload 4, 2) := by decide +kernel
theorem dX5_sumOverOrders_15 : decode cX5_sumOverOrders 15 = .ok (.iload_n 1, 1) := by decide +kernel
theorem dX5_sumOverOrders_16 : decode cX5_sumOverOrders 16 = .ok (.ishr, 1) := by decide +kernel
theorem dX5_sumOverOrders_17 : decode cX5_sumOverOrders 17 = .ok (.iconst 1, 1) := by decide +kernel
theorem dX5_sumOverOrders_18 : decode cX5_sumOverOrders 18 = .ok (.iand, 1) := by decide +kernel
theorem dX5_sumOverOrders_19 : decode cX5_sumOverOrders 19 = .ok (.ifCond .eq 6, 3) := by decide +kernel
theorem dX5_sumOverOrders_22 : decode cX5_sumOverOrders 22 = .ok (.goto 52, 3) := by decide +kernel
theorem dX5_sumOverOrders_25 : decode cX5_sumOverOrders 25 = .ok (.iload 4, 2) := by decide +kernel
theorem dX5_sumOverOrders_27 : decode cX5_sumOverOrders 27 = .ok (.invokestatic 39, 3) := by decide +kernel
theorem dX5_sumOverOrders_30 : decode cX5_sumOverOrders 30 = .ok (.istore 5, 2) := by decide +kernel
theorem dX5_sumOverOrders_32 : decode cX5_sumOverOrders 32 = .ok (.getstatic 20, 3) := by decide +kernel
theorem dX5_sumOverOrders_35 : decode cX5_sumOverOrders 35 = .ok (.iload 5, 2) := by decide +kernel
theorem dX5_sumOverOrders_37 : decode cX5_sumOverOrders 37 = .ok (.iaload, 1) := by decide +kernel
theorem dX5_sumOverOrders_38 : decode cX5_sumOverOrders 38 = .ok (.getstatic 20, 3) := by decide +kernel
theorem dX5_sumOverOrders_41 : decode cX5_sumOverOrders 41 = .ok (.iload_n 2, 1) := by decide +kernel
theorem dX5_sumOverOrders_42 : decode cX5_sumOverOrders 42 = .ok (.iconst 1, 1) := by decide +kernel
theorem dX5_sumOverOrders_43 : decode cX5_sumOverOrders 43 = .ok (.isub, 1) := by decide +kernel
theorem dX5_sumOverOrders_44 : decode cX5_sumOverOrders 44 = .ok (.iload 5, 2) := by decide +kernel
theorem dX5_sumOverOrders_46 : decode cX5_sumOverOrders 46 = .ok (.isub, 1) := by decide +kernel
theorem dX5_sumOverOrders_47 : decode cX5_sumOverOrders 47 = .ok (.iaload, 1) := by decide +kernel
theorem dX5_sumOverOrders_48 : decode cX5_sumOverOrders 48 = .ok (.imul, 1) := by decide +kernel
theorem dX5_sumOverOrders_49 : decode cX5_sumOverOrders 49 = .ok (.istore 6, 2) := by decide +kernel
theorem dX5_sumOverOrders_51 : decode cX5_sumOverOrders 51 = .ok (.iload_n 3, 1) := by decide +kernel
theorem dX5_sumOverOrders_52 : decode cX5_sumOverOrders 52 = .ok (.iload 6, 2) := by decide +kernel
theorem dX5_sumOverOrders_54 : decode cX5_sumOverOrders 54 = .ok (.aload_n 0, 1) := by decide +kernel
theorem dX5_sumOverOrders_55 : decode cX5_sumOverOrders 55 = .ok (.iload 4, 2) := by decide +kernel
theorem dX5_sumOverOrders_57 : decode cX5_sumOverOrders 57 = .ok (.iconst 1, 1) := by decide +kernel
theorem dX5_sumOverOrders_58 : decode cX5_sumOverOrders 58 = .ok (.iload_n 1, 1) := by decide +kernel
theorem dX5_sumOverOrders_59 : decode cX5_sumOverOrders 59 = .ok (.ishl, 1) := by decide +kernel
theorem dX5_sumOverOrders_60 : decode cX5_sumOverOrders 60 = .ok (.ior, 1) := by decide +kernel
theorem dX5_sumOverOrders_61 : decode cX5_sumOverOrders 61 = .ok (.invokevirtual 27, 3) := by decide +kernel
theorem dX5_sumOverOrders_64 : decode cX5_sumOverOrders 64 = .ok (.aload_n 0, 1) := by decide +kernel
theorem dX5_sumOverOrders_65 : decode cX5_sumOverOrders 65 = .ok (.iload 4, 2) := by decide +kernel
theorem dX5_sumOverOrders_67 : decode cX5_sumOverOrders 67 = .ok (.invokevirtual 27, 3) := by decide +kernel
theorem dX5_sumOverOrders_70 : decode cX5_sumOverOrders 70 = .ok (.isub, 1) := by decide +kernel
theorem dX5_sumOverOrders_71 : decode cX5_sumOverOrders 71 = .ok (.imul, 1) := by decide +kernel
theorem dX5_sumOverOrders_72 : decode cX5_sumOverOrders 72 = .ok (.iadd, 1) := by decide +kernel
theorem dX5_sumOverOrders_73 : decode cX5_sumOverOrders 73 = .ok (.istore_n 3, 1) := by decide +kernel
theorem dX5_sumOverOrders_74 : decode cX5_sumOverOrders 74 = .ok (.iinc 4 1, 3) := by decide +kernel
theorem dX5_sumOverOrders_77 : decode cX5_sumOverOrders 77 = .ok (.goto (-72), 3) := by decide +kernel
theorem dX5_sumOverOrders_80 : decode cX5_sumOverOrders 80 = .ok (.iload_n 3, 1) := by decide +kernel
theorem dX5_sumOverOrders_81 : decode cX5_sumOverOrders 81 = .ok (.ireturn, 1) := by decide +kernel
theorem dX5_greatestDivisor_0 : decode cX5_greatestDivisor 0 = .ok (.iload_n 1, 1) := by decide +kernel
theorem dX5_greatestDivisor_1 : decode cX5_greatestDivisor 1 = .ok (.istore_n 2, 1) := by decide +kernel
theorem dX5_greatestDivisor_2 : decode cX5_greatestDivisor 2 = .ok (.iload_n 2, 1) := by decide +kernel
theorem dX5_greatestDivisor_3 : decode cX5_greatestDivisor 3 = .ok (.iconst 1, 1) := by decide +kernel
theorem dX5_greatestDivisor_4 : decode cX5_greatestDivisor 4 = .ok (.if_icmp .le 23, 3) := by decide +kernel
theorem dX5_greatestDivisor_7 : decode cX5_greatestDivisor 7 = .ok (.iload_n 1, 1) := by decide +kernel
theorem dX5_greatestDivisor_8 : decode cX5_greatestDivisor 8 = .ok (.iload_n 2, 1) := by decide +kernel
theorem dX5_greatestDivisor_9 : decode cX5_greatestDivisor 9 = .ok (.irem, 1) := by decide +kernel
theorem dX5_greatestDivisor_10 : decode cX5_greatestDivisor 10 = .ok (.ifCond .ne 11, 3) := by decide +kernel
theorem dX5_greatestDivisor_13 : decode cX5_greatestDivisor 13 = .ok (.iload_n 0, 1) := by decide +kernel
theorem dX5_greatestDivisor_14 : decode cX5_greatestDivisor 14 = .ok (.iload_n 2, 1) := by decide +kernel
theorem dX5_greatestDivisor_15 : decode cX5_greatestDivisor 15 = .ok (.irem, 1) := by decide +kernel
theorem dX5_greatestDivisor_16 : decode cX5_greatestDivisor 16 = .ok (.ifCond .ne 5, 3) := by decide +kernel
theorem dX5_greatestDivisor_19 : decode cX5_greatestDivisor 19 = .ok (.iload_n 2, 1) := by decide +kernel
theorem dX5_greatestDivisor_20 : decode cX5_greatestDivisor 20 = .ok (.ireturn, 1) := by decide +kernel
theorem dX5_greatestDivisor_21 : decode cX5_greatestDivisor 21 = .ok (.iinc 2 (-1), 3) := by decide +kernel
theorem dX5_greatestDivisor_24 : decode cX5_greatestDivisor 24 = .ok (.goto (-22), 3) := by decide +kernel
theorem dX5_greatestDivisor_27 : decode cX5_greatestDivisor 27 = .ok (.iconst 1, 1) := by decide +kernel
theorem dX5_greatestDivisor_28 : decode cX5_greatestDivisor 28 = .ok (.ireturn, 1) := by decide +kernel
theorem dX6_init_0 : decode cX6_init 0 = .ok (.aload_n 0, 1) := by decide +kernel
theorem dX6_init_1 : decode cX6_init 1 = .ok (.invokespecial 3, 3) := by decide +kernel
theorem dX6_init_4 : decode cX6_init 4 = .ok (.aload_n 0, 1) := by decide +kernel
theorem dX6_init_5 : decode cX6_init 5 = .ok (.iconst 0, 1) := by decide +kernel
theorem dX6_init_6 : decode cX6_init 6 = .ok (.putfield 9, 3) := by decide +kernel
theorem dX6_init_9 : decode cX6_init 9 = .ok (.aload_n 0, 1) := by decide +kernel
theorem dX6_init_10 : decode cX6_init 10 = .ok (.bipush 6, 2) := by decide +kernel
theorem dX6_init_12 : decode cX6_init 12 = .ok (.newarray .int, 2) := by decide +kernel
theorem dX6_init_14 : decode cX6_init 14 = .ok (.putfield 15, 3) := by decide +kernel
theorem dX6_init_17 : decode cX6_init 17 = .ok (.aload_n 0, 1) := by decide +kernel
theorem dX6_init_18 : decode cX6_init 18 = .ok (.bipush 6, 2) := by decide +kernel
theorem dX6_init_20 : decode cX6_init 20 = .ok (.newarray .int, 2) := by decide +kernel
theorem dX6_init_22 : decode cX6_init 22 = .ok (.putfield 19, 3) := by decide +kernel
theorem dX6_init_25 : decode cX6_init 25 = .ok (.aload_n 0, 1) := by decide +kernel
theorem dX6_init_26 : decode cX6_init 26 = .ok (.bipush 6, 2) := by decide +kernel
theorem dX6_init_28 : decode cX6_init 28 = .ok (.iconst 4, 1) := by decide +kernel
theorem dX6_init_29 : decode cX6_init 29 = .ok (.multianewarray 22 2, 4) := by decide +kernel
theorem dX6_init_33 : decode cX6_init 33 = .ok (.putfield 24, 3) := by decide +kernel
theorem dX6_init_36 : decode cX6_init 36 = .ok (.aload_n 0, 1) := by decide +kernel
theorem dX6_init_37 : decode cX6_init 37 = .ok (.bipush 6, 2) := by decide +kernel
theorem dX6_init_39 : decode cX6_init 39 = .ok (.iconst 4, 1) := by decide +kernel
theorem dX6_init_40 : decode cX6_init 40 = .ok (.multianewarray 22 2, 4) := by decide +kernel
theorem dX6_init_44 : decode cX6_init 44 = .ok (.putfield 27, 3) := by decide +kernel
theorem dX6_init_47 : decode cX6_init 47 = .ok (.aload_n 0, 1) := by decide +kernel
theorem dX6_init_48 : decode cX6_init 48 = .ok (.bipush 6, 2) := by decide +kernel
theorem dX6_init_50 : decode cX6_init 50 = .ok (.iconst 4, 1) := by decide +kernel
theorem dX6_init_51 : decode cX6_init 51 = .ok (.multianewarray 22 2, 4) := by decide +kernel
theorem dX6_init_55 : decode cX6_init 55 = .ok (.putfield 30, 3) := by decide +kernel
theorem dX6_init_58 : decode cX6_init 58 = .ok (.return_, 1) := by decide +kernel
theorem dX6_wishBy_0 : decode cX6_wishBy 0 = .ok (.iconst 0, 1) := by decide +kernel
theorem dX6_wishBy_1 : decode cX6_wishBy 1 = .ok (.istore_n 2, 1) := by decide +kernel
theorem dX6_wishBy_2 : decode cX6_wishBy 2 = .ok (.iload_n 2, 1) := by decide +kernel
theorem dX6_wishBy_3 : decode cX6_wishBy 3 = .ok (.aload_n 0, 1) := by decide +kernel
theorem dX6_wishBy_4 : decode cX6_wishBy 4 = .ok (.getfield 9, 3) := by decide +kernel
theorem dX6_wishBy_7 : decode cX6_wishBy 7 = .ok (.if_icmp .ge 25, 3) := by decide +kernel
theorem dX6_wishBy_10 : decode cX6_wishBy 10 = .ok (.aload_n 0, 1) := by decide +kernel
theorem dX6_wishBy_11 : decode cX6_wishBy 11 = .ok (.iload_n 2, 1) := by decide +kernel
theorem dX6_wishBy_12 : decode cX6_wishBy 12 = .ok (.aload_n 1, 1) := by decide +kernel
theorem dX6_wishBy_13 : decode cX6_wishBy 13 = .ok (.invokevirtual 33, 3) := by decide +kernel
theorem dX6_wishBy_16 : decode cX6_wishBy 16 = .ok (.ifCond .eq 10, 3) := by decide +kernel
theorem dX6_wishBy_19 : decode cX6_wishBy 19 = .ok (.aload_n 0, 1) := by decide +kernel
theorem dX6_wishBy_20 : decode cX6_wishBy 20 = .ok (.getfield 15, 3) := by decide +kernel
theorem dX6_wishBy_23 : decode cX6_wishBy 23 = .ok (.iload_n 2, 1) := by decide +kernel
theorem dX6_wishBy_24 : decode cX6_wishBy 24 = .ok (.iaload, 1) := by decide +kernel
theorem dX6_wishBy_25 : decode cX6_wishBy 25 = .ok (.ireturn, 1) := by decide +kernel
theorem dX6_wishBy_26 : decode cX6_wishBy 26 = .ok (.iinc 2 1, 3) := by decide +kernel
theorem dX6_wishBy_29 : decode cX6_wishBy 29 = .ok (.goto (-27), 3) := by decide +kernel
theorem dX6_wishBy_32 : decode cX6_wishBy 32 = .ok (.iconst 0, 1) := by decide +kernel
theorem dX6_wishBy_33 : decode cX6_wishBy 33 = .ok (.ireturn, 1) := by decide +kernel
theorem dX6_holds_0 : decode cX6_holds 0 = .ok (.iconst 0, 1) := by decide +kernel
theorem dX6_holds_1 : decode cX6_holds 1 = .ok (.istore_n 3, 1) := by decide +kernel
theorem dX6_holds_2 : decode cX6_holds 2 = .ok (.iload_n 3, 1) := by decide +kernel
theorem dX6_holds_3 : decode cX6_holds 3 = .ok (.aload_n 0, 1) := by decide +kernel
theorem dX6_holds_4 : decode cX6_holds 4 = .ok (.getfield 19, 3) := by decide +kernel
theorem dX6_holds_7 : decode cX6_holds 7 = .ok (.iload_n 1, 1) := by decide +kernel
theorem dX6_holds_8 : decode cX6_holds 8 = .ok (.iaload, 1) := by decide +kernel
theorem dX6_holds_9 : decode cX6_holds 9 = .ok (.if_icmp .ge 79, 3) := by decide +kernel
theorem dX6_holds_12 : decode cX6_holds 12 = .ok (.aload_n 2, 1) := by decide +kernel
theorem dX6_holds_13 : decode cX6_holds 13 = .ok (.aload_n 0, 1) := by decide +kernel
theorem dX6_holds_14 : decode cX6_holds 14 = .ok (.getfield 24, 3) := by decide +kernel
theorem dX6_holds_17 : decode cX6_holds 17 = .ok (.iload_n 1, 1) := by decide +kernel
theorem dX6_holds_18 : decode cX6_holds 18 = .ok (.aaload, 1) := by decide +kernel
theorem dX6_holds_19 : decode cX6_holds 19 = .ok (.iload_n 3, 1) := by decide +kernel
theorem dX6_holds_20 : decode cX6_holds 20 = .ok (.iaload, 1) := by decide +kernel
theorem dX6_holds_21 : decode cX6_holds 21 = .ok (.iaload, 1) := by decide +kernel
theorem dX6_holds_22 : decode cX6_holds 22 = .ok (.istore 4, 2) := by decide +kernel
theorem dX6_holds_24 : decode cX6_holds 24 = .ok (.aload_n 0, 1) := by decide +kernel
theorem dX6_holds_25 : decode cX6_holds 25 = .ok (.getfield 27, 3) := by decide +kernel
theorem dX6_holds_28 : decode cX6_holds 28 = .ok (.iload_n 1, 1) := by decide +kernel
theorem dX6_holds_29 : decode cX6_holds 29 = .ok (.aaload, 1) := by decide +kernel
theorem dX6_holds_30 : decode cX6_holds 30 = .ok (.iload_n 3, 1) := by decide +kernel
theorem dX6_holds_31 : decode cX6_holds 31 = .ok (.iaload, 1) := by decide +kernel
theorem dX6_holds_32 : decode cX6_holds 32 = .ok (.istore 5, 2) := by decide +kernel
theorem dX6_holds_34 : decode cX6_holds 34 = .ok (.aload_n 0, 1) := by decide +kernel
theorem dX6_holds_35 : decode cX6_holds 35 = .ok (.getfield 30, 3) := by decide +kernel
theorem dX6_holds_38 : decode cX6_holds 38 = .ok (.iload_n 1, 1) := by decide +kernel
theorem dX6_holds_39 : decode cX6_holds 39 = .ok (.aaload, 1) := by decide +kernel
theorem dX6_holds_40 : decode cX6_holds 40 = .ok (.iload_n 3, 1) := by decide +kernel
theorem dX6_holds_41 : decode cX6_holds 41 = .ok (.iaload, 1) := by decide +kernel
theorem dX6_holds_42 : decode cX6_holds 42 = .ok (.iconst 1, 1) := by decide +kernel
theorem dX6_holds_43 : decode cX6_holds 43 = .ok (.if_icmp .ne 18, 3) := by decide +kernel
theorem dX6_holds_46 : decode cX6_holds 46 = .ok (.iload 4, 2) := by decide +kernel
theorem dX6_holds_48 : decode cX6_holds 48 = .ok (.iload 5, 2) := by decide +kernel
theorem dX6_holds_50 : decode cX6_holds 50 = .ok (.if_icmp .le 7, 3) := by decide +kernel
theorem dX6_holds_53 : decode cX6_holds 53 = .ok (.iconst 1, 1) := by decide +kernel
theorem dX6_holds_54 : decode cX6_holds 54 = .ok (.goto 19, 3) := by decide +kernel
theorem dX6_holds_57 : decode cX6_holds 57 = .ok (.iconst 0, 1) := by decide +kernel
theorem dX6_holds_58 : decode cX6_holds 58 = .ok (.goto 15, 3) := by decide +kernel
theorem dX6_holds_61 : decode cX6_holds 61 = .ok (.iload 4, 2) := by decide +kernel
theorem dX6_holds_63 : decode cX6_holds 63 = .ok (.iload 5, 2) := by decide +kernel
theorem dX6_holds_65 : decode cX6_holds 65 = .ok (.if_icmp .ge 7, 3) := by decide +kernel
theorem dX6_holds_68 : decode cX6_holds 68 = .ok (.iconst 1, 1) := by decide +kernel
theorem dX6_holds_69 : decode cX6_holds 69 = .ok (.goto 4, 3) := by decide +kernel
theorem dX6_holds_72 : decode cX6_holds 72 = .ok (.iconst 0, 1) := by decide +kernel
theorem dX6_holds_73 : decode cX6_holds 73 = .ok (.istore 6, 2) := by decide +kernel
theorem dX6_holds_75 : decode cX6_holds 75 = .ok (.iload 6, 2) := by decide +kernel
theorem dX6_holds_77 : decode cX6_holds 77 = .ok (.ifCond .ne 5, 3) := by decide +kernel
theorem dX6_holds_80 : decode cX6_holds 80 = .ok (.iconst 0, 1) := by decide +kernel
theorem dX6_holds_81 : decode cX6_holds 81 = .ok (.ireturn, 1) := by decide +kernel
theorem dX6_holds_82 : decode cX6_holds 82 = .ok (.iinc 3 1, 3) := by decide +kernel
theorem dX6_holds_85 : decode cX6_holds 85 = .ok (.goto (-83), 3) := by decide +kernel
theorem dX6_holds_88 : decode cX6_holds 88 = .ok (.iconst 1, 1) := by decide +kernel
theorem dX6_holds_89 : decode cX6_holds 89 = .ok (.ireturn, 1) := by decide +kernel
