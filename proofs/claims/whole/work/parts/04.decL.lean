theorem cd_L_init_0 : decode cb_L_init 0 = .ok (.aload_n 0, 1) := by decide +kernel
theorem cd_L_init_1 : decode cb_L_init 1 = .ok (.invokespecial 3, 3) := by decide +kernel
theorem cd_L_init_4 : decode cb_L_init 4 = .ok (.aload_n 0, 1) := by decide +kernel
theorem cd_L_init_5 : decode cb_L_init 5 = .ok (.iconst 0, 1) := by decide +kernel
theorem cd_L_init_6 : decode cb_L_init 6 = .ok (.putfield 9, 3) := by decide +kernel
theorem cd_L_init_9 : decode cb_L_init 9 = .ok (.aload_n 0, 1) := by decide +kernel
theorem cd_L_init_10 : decode cb_L_init 10 = .ok (.bipush 100, 2) := by decide +kernel
theorem cd_L_init_12 : decode cb_L_init 12 = .ok (.newarray .int, 2) := by decide +kernel
theorem cd_L_init_14 : decode cb_L_init 14 = .ok (.putfield 15, 3) := by decide +kernel
theorem cd_L_init_17 : decode cb_L_init 17 = .ok (.aload_n 0, 1) := by decide +kernel
theorem cd_L_init_18 : decode cb_L_init 18 = .ok (.bipush 100, 2) := by decide +kernel
theorem cd_L_init_20 : decode cb_L_init 20 = .ok (.newarray .int, 2) := by decide +kernel
theorem cd_L_init_22 : decode cb_L_init 22 = .ok (.putfield 19, 3) := by decide +kernel
theorem cd_L_init_25 : decode cb_L_init 25 = .ok (.aload_n 0, 1) := by decide +kernel
theorem cd_L_init_26 : decode cb_L_init 26 = .ok (.bipush 100, 2) := by decide +kernel
theorem cd_L_init_28 : decode cb_L_init 28 = .ok (.newarray .int, 2) := by decide +kernel
theorem cd_L_init_30 : decode cb_L_init 30 = .ok (.putfield 22, 3) := by decide +kernel
theorem cd_L_init_33 : decode cb_L_init 33 = .ok (.aload_n 0, 1) := by decide +kernel
theorem cd_L_init_34 : decode cb_L_init 34 = .ok (.bipush 100, 2) := by decide +kernel
theorem cd_L_init_36 : decode cb_L_init 36 = .ok (.newarray .int, 2) := by decide +kernel
theorem cd_L_init_38 : decode cb_L_init 38 = .ok (.putfield 25, 3) := by decide +kernel
theorem cd_L_init_41 : decode cb_L_init 41 = .ok (.aload_n 0, 1) := by decide +kernel
theorem cd_L_init_42 : decode cb_L_init 42 = .ok (.bipush 100, 2) := by decide +kernel
theorem cd_L_init_44 : decode cb_L_init 44 = .ok (.newarray .int, 2) := by decide +kernel
theorem cd_L_init_46 : decode cb_L_init 46 = .ok (.putfield 28, 3) := by decide +kernel
theorem cd_L_init_49 : decode cb_L_init 49 = .ok (.aload_n 0, 1) := by decide +kernel
theorem cd_L_init_50 : decode cb_L_init 50 = .ok (.bipush 100, 2) := by decide +kernel
theorem cd_L_init_52 : decode cb_L_init 52 = .ok (.newarray .int, 2) := by decide +kernel
theorem cd_L_init_54 : decode cb_L_init 54 = .ok (.putfield 31, 3) := by decide +kernel
theorem cd_L_init_57 : decode cb_L_init 57 = .ok (.aload_n 0, 1) := by decide +kernel
theorem cd_L_init_58 : decode cb_L_init 58 = .ok (.bipush 100, 2) := by decide +kernel
theorem cd_L_init_60 : decode cb_L_init 60 = .ok (.newarray .int, 2) := by decide +kernel
theorem cd_L_init_62 : decode cb_L_init 62 = .ok (.putfield 34, 3) := by decide +kernel
theorem cd_L_init_65 : decode cb_L_init 65 = .ok (.aload_n 0, 1) := by decide +kernel
theorem cd_L_init_66 : decode cb_L_init 66 = .ok (.bipush 100, 2) := by decide +kernel
theorem cd_L_init_68 : decode cb_L_init 68 = .ok (.newarray .int, 2) := by decide +kernel
theorem cd_L_init_70 : decode cb_L_init 70 = .ok (.putfield 37, 3) := by decide +kernel
theorem cd_L_init_73 : decode cb_L_init 73 = .ok (.aload_n 0, 1) := by decide +kernel
theorem cd_L_init_74 : decode cb_L_init 74 = .ok (.bipush 100, 2) := by decide +kernel
theorem cd_L_init_76 : decode cb_L_init 76 = .ok (.newarray .int, 2) := by decide +kernel
theorem cd_L_init_78 : decode cb_L_init 78 = .ok (.putfield 40, 3) := by decide +kernel
theorem cd_L_init_81 : decode cb_L_init 81 = .ok (.aload_n 0, 1) := by decide +kernel
theorem cd_L_init_82 : decode cb_L_init 82 = .ok (.bipush 100, 2) := by decide +kernel
theorem cd_L_init_84 : decode cb_L_init 84 = .ok (.newarray .int, 2) := by decide +kernel
theorem cd_L_init_86 : decode cb_L_init 86 = .ok (.putfield 43, 3) := by decide +kernel
theorem cd_L_init_89 : decode cb_L_init 89 = .ok (.aload_n 0, 1) := by decide +kernel
theorem cd_L_init_90 : decode cb_L_init 90 = .ok (.sipush 1600, 3) := by decide +kernel
theorem cd_L_init_93 : decode cb_L_init 93 = .ok (.newarray .int, 2) := by decide +kernel
theorem cd_L_init_95 : decode cb_L_init 95 = .ok (.putfield 46, 3) := by decide +kernel
theorem cd_L_init_98 : decode cb_L_init 98 = .ok (.return_, 1) := by decide +kernel
theorem cd_L_has_0 : decode cb_L_has 0 = .ok (.iload_n 1, 1) := by decide +kernel
theorem cd_L_has_1 : decode cb_L_has 1 = .ok (.ifCond .lt 15, 3) := by decide +kernel
theorem cd_L_has_4 : decode cb_L_has 4 = .ok (.iload_n 1, 1) := by decide +kernel
theorem cd_L_has_5 : decode cb_L_has 5 = .ok (.aload_n 0, 1) := by decide +kernel
theorem cd_L_has_6 : decode cb_L_has 6 = .ok (.getfield 9, 3) := by decide +kernel
theorem cd_L_has_9 : decode cb_L_has 9 = .ok (.if_icmp .ge 7, 3) := by decide +kernel
theorem cd_L_has_12 : decode cb_L_has 12 = .ok (.iconst 1, 1) := by decide +kernel
theorem cd_L_has_13 : decode cb_L_has 13 = .ok (.goto 4, 3) := by decide +kernel
theorem cd_L_has_16 : decode cb_L_has 16 = .ok (.iconst 0, 1) := by decide +kernel
theorem cd_L_has_17 : decode cb_L_has 17 = .ok (.ireturn, 1) := by decide +kernel
theorem cd_L_titleSign_0 : decode cb_L_titleSign 0 = .ok (.aload_n 0, 1) := by decide +kernel
theorem cd_L_titleSign_1 : decode cb_L_titleSign 1 = .ok (.getfield 46, 3) := by decide +kernel
theorem cd_L_titleSign_4 : decode cb_L_titleSign 4 = .ok (.iload_n 1, 1) := by decide +kernel
theorem cd_L_titleSign_5 : decode cb_L_titleSign 5 = .ok (.bipush 16, 2) := by decide +kernel
theorem cd_L_titleSign_7 : decode cb_L_titleSign 7 = .ok (.imul, 1) := by decide +kernel
theorem cd_L_titleSign_8 : decode cb_L_titleSign 8 = .ok (.iload_n 2, 1) := by decide +kernel
theorem cd_L_titleSign_9 : decode cb_L_titleSign 9 = .ok (.iadd, 1) := by decide +kernel
theorem cd_L_titleSign_10 : decode cb_L_titleSign 10 = .ok (.iaload, 1) := by decide +kernel
theorem cd_L_titleSign_11 : decode cb_L_titleSign 11 = .ok (.ireturn, 1) := by decide +kernel
theorem cd_L_addTitleSign_0 : decode cb_L_addTitleSign 0 = .ok (.aload_n 0, 1) := by decide +kernel
theorem cd_L_addTitleSign_1 : decode cb_L_addTitleSign 1 = .ok (.getfield 43, 3) := by decide +kernel
theorem cd_L_addTitleSign_4 : decode cb_L_addTitleSign 4 = .ok (.iload_n 1, 1) := by decide +kernel
theorem cd_L_addTitleSign_5 : decode cb_L_addTitleSign 5 = .ok (.iaload, 1) := by decide +kernel
theorem cd_L_addTitleSign_6 : decode cb_L_addTitleSign 6 = .ok (.bipush 16, 2) := by decide +kernel
theorem cd_L_addTitleSign_8 : decode cb_L_addTitleSign 8 = .ok (.if_icmp .ge 30, 3) := by decide +kernel
theorem cd_L_addTitleSign_11 : decode cb_L_addTitleSign 11 = .ok (.aload_n 0, 1) := by decide +kernel
theorem cd_L_addTitleSign_12 : decode cb_L_addTitleSign 12 = .ok (.getfield 46, 3) := by decide +kernel
theorem cd_L_addTitleSign_15 : decode cb_L_addTitleSign 15 = .ok (.iload_n 1, 1) := by decide +kernel
theorem cd_L_addTitleSign_16 : decode cb_L_addTitleSign 16 = .ok (.bipush 16, 2) := by decide +kernel
theorem cd_L_addTitleSign_18 : decode cb_L_addTitleSign 18 = .ok (.imul, 1) := by decide +kernel
theorem cd_L_addTitleSign_19 : decode cb_L_addTitleSign 19 = .ok (.aload_n 0, 1) := by decide +kernel
theorem cd_L_addTitleSign_20 : decode cb_L_addTitleSign 20 = .ok (.getfield 43, 3) := by decide +kernel
theorem cd_L_addTitleSign_23 : decode cb_L_addTitleSign 23 = .ok (.iload_n 1, 1) := by decide +kernel
theorem cd_L_addTitleSign_24 : decode cb_L_addTitleSign 24 = .ok (.iaload, 1) := by decide +kernel
theorem cd_L_addTitleSign_25 : decode cb_L_addTitleSign 25 = .ok (.iadd, 1) := by decide +kernel
theorem cd_L_addTitleSign_26 : decode cb_L_addTitleSign 26 = .ok (.iload_n 2, 1) := by decide +kernel
theorem cd_L_addTitleSign_27 : decode cb_L_addTitleSign 27 = .ok (.iastore, 1) := by decide +kernel
theorem cd_L_addTitleSign_28 : decode cb_L_addTitleSign 28 = .ok (.aload_n 0, 1) := by decide +kernel
theorem cd_L_addTitleSign_29 : decode cb_L_addTitleSign 29 = .ok (.getfield 43, 3) := by decide +kernel
theorem cd_L_addTitleSign_32 : decode cb_L_addTitleSign 32 = .ok (.iload_n 1, 1) := by decide +kernel
theorem cd_L_addTitleSign_33 : decode cb_L_addTitleSign 33 = .ok (.dup2, 1) := by decide +kernel
theorem cd_L_addTitleSign_34 : decode cb_L_addTitleSign 34 = .ok (.iaload, 1) := by decide +kernel
theorem cd_L_addTitleSign_35 : decode cb_L_addTitleSign 35 = .ok (.iconst 1, 1) := by decide +kernel
theorem cd_L_addTitleSign_36 : decode cb_L_addTitleSign 36 = .ok (.iadd, 1) := by decide +kernel
theorem cd_L_addTitleSign_37 : decode cb_L_addTitleSign 37 = .ok (.iastore, 1) := by decide +kernel
theorem cd_L_addTitleSign_38 : decode cb_L_addTitleSign 38 = .ok (.return_, 1) := by decide +kernel
theorem cd_L_addBare_0 : decode cb_L_addBare 0 = .ok (.aload_n 0, 1) := by decide +kernel
theorem cd_L_addBare_1 : decode cb_L_addBare 1 = .ok (.getfield 9, 3) := by decide +kernel
theorem cd_L_addBare_4 : decode cb_L_addBare 4 = .ok (.bipush 100, 2) := by decide +kernel
theorem cd_L_addBare_6 : decode cb_L_addBare 6 = .ok (.if_icmp .lt 4, 3) := by decide +kernel
theorem cd_L_addBare_9 : decode cb_L_addBare 9 = .ok (.return_, 1) := by decide +kernel
theorem cd_L_addBare_10 : decode cb_L_addBare 10 = .ok (.aload_n 0, 1) := by decide +kernel
theorem cd_L_addBare_11 : decode cb_L_addBare 11 = .ok (.getfield 9, 3) := by decide +kernel
theorem cd_L_addBare_14 : decode cb_L_addBare 14 = .ok (.istore_n 2, 1) := by decide +kernel
theorem cd_L_addBare_15 : decode cb_L_addBare 15 = .ok (.aload_n 0, 1) := by decide +kernel
theorem cd_L_addBare_16 : decode cb_L_addBare 16 = .ok (.dup, 1) := by decide +kernel
theorem cd_L_addBare_17 : decode cb_L_addBare 17 = .ok (.getfield 9, 3) := by decide +kernel
theorem cd_L_addBare_20 : decode cb_L_addBare 20 = .ok (.iconst 1, 1) := by decide +kernel
theorem cd_L_addBare_21 : decode cb_L_addBare 21 = .ok (.iadd, 1) := by decide +kernel
theorem cd_L_addBare_22 : decode cb_L_addBare 22 = .ok (.putfield 9, 3) := by decide +kernel
theorem cd_L_addBare_25 : decode cb_L_addBare 25 = .ok (.aload_n 0, 1) := by decide +kernel
theorem cd_L_addBare_26 : decode cb_L_addBare 26 = .ok (.getfield 25, 3) := by decide +kernel
theorem cd_L_addBare_29 : decode cb_L_addBare 29 = .ok (.iload_n 2, 1) := by decide +kernel
theorem cd_L_addBare_30 : decode cb_L_addBare 30 = .ok (.iload_n 1, 1) := by decide +kernel
theorem cd_L_addBare_31 : decode cb_L_addBare 31 = .ok (.iastore, 1) := by decide +kernel
theorem cd_L_addBare_32 : decode cb_L_addBare 32 = .ok (.aload_n 0, 1) := by decide +kernel
theorem cd_L_addBare_33 : decode cb_L_addBare 33 = .ok (.getfield 22, 3) := by decide +kernel
theorem cd_L_addBare_36 : decode cb_L_addBare 36 = .ok (.iload_n 2, 1) := by decide +kernel
theorem cd_L_addBare_37 : decode cb_L_addBare 37 = .ok (.aload_n 0, 1) := by decide +kernel
theorem cd_L_addBare_38 : decode cb_L_addBare 38 = .ok (.iload_n 2, 1) := by decide +kernel
theorem cd_L_addBare_39 : decode cb_L_addBare 39 = .ok (.iconst 1, 1) := by decide +kernel
theorem cd_L_addBare_40 : decode cb_L_addBare 40 = .ok (.isub, 1) := by decide +kernel
theorem cd_L_addBare_41 : decode cb_L_addBare 41 = .ok (.iload_n 1, 1) := by decide +kernel
theorem cd_L_addBare_42 : decode cb_L_addBare 42 = .ok (.iconst 1, 1) := by decide +kernel
theorem cd_L_addBare_43 : decode cb_L_addBare 43 = .ok (.isub, 1) := by decide +kernel
theorem cd_L_addBare_44 : decode cb_L_addBare 44 = .ok (.invokevirtual 49, 3) := by decide +kernel
theorem cd_L_addBare_47 : decode cb_L_addBare 47 = .ok (.iastore, 1) := by decide +kernel
theorem cd_L_addBare_48 : decode cb_L_addBare 48 = .ok (.aload_n 0, 1) := by decide +kernel
theorem cd_L_addBare_49 : decode cb_L_addBare 49 = .ok (.getfield 43, 3) := by decide +kernel
theorem cd_L_addBare_52 : decode cb_L_addBare 52 = .ok (.iload_n 2, 1) := by decide +kernel
theorem cd_L_addBare_53 : decode cb_L_addBare 53 = .ok (.iconst 0, 1) := by decide +kernel
theorem cd_L_addBare_54 : decode cb_L_addBare 54 = .ok (.iastore, 1) := by decide +kernel
theorem cd_L_addBare_55 : decode cb_L_addBare 55 = .ok (.aload_n 0, 1) := by decide +kernel
theorem cd_L_addBare_56 : decode cb_L_addBare 56 = .ok (.getfield 28, 3) := by decide +kernel
theorem cd_L_addBare_59 : decode cb_L_addBare 59 = .ok (.iload_n 2, 1) := by decide +kernel
theorem cd_L_addBare_60 : decode cb_L_addBare 60 = .ok (.iconst (-1), 1) := by decide +kernel
theorem cd_L_addBare_61 : decode cb_L_addBare 61 = .ok (.iastore, 1) := by decide +kernel
theorem cd_L_addBare_62 : decode cb_L_addBare 62 = .ok (.aload_n 0, 1) := by decide +kernel
theorem cd_L_addBare_63 : decode cb_L_addBare 63 = .ok (.getfield 31, 3) := by decide +kernel
theorem cd_L_addBare_66 : decode cb_L_addBare 66 = .ok (.iload_n 2, 1) := by decide +kernel
theorem cd_L_addBare_67 : decode cb_L_addBare 67 = .ok (.iconst (-1), 1) := by decide +kernel
theorem cd_L_addBare_68 : decode cb_L_addBare 68 = .ok (.iastore, 1) := by decide +kernel
theorem cd_L_addBare_69 : decode cb_L_addBare 69 = .ok (.aload_n 0, 1) := by decide +kernel
theorem cd_L_addBare_70 : decode cb_L_addBare 70 = .ok (.getfield 34, 3) := by decide +kernel
theorem cd_L_addBare_73 : decode cb_L_addBare 73 = .ok (.iload_n 2, 1) := by decide +kernel
theorem cd_L_addBare_74 : decode cb_L_addBare 74 = .ok (.iconst 0, 1) := by decide +kernel
theorem cd_L_addBare_75 : decode cb_L_addBare 75 = .ok (.iastore, 1) := by decide +kernel
theorem cd_L_addBare_76 : decode cb_L_addBare 76 = .ok (.aload_n 0, 1) := by decide +kernel
theorem cd_L_addBare_77 : decode cb_L_addBare 77 = .ok (.getfield 37, 3) := by decide +kernel
theorem cd_L_addBare_80 : decode cb_L_addBare 80 = .ok (.iload_n 2, 1) := by decide +kernel
theorem cd_L_addBare_81 : decode cb_L_addBare 81 = .ok (.iconst (-1), 1) := by decide +kernel
theorem cd_L_addBare_82 : decode cb_L_addBare 82 = .ok (.iastore, 1) := by decide +kernel
theorem cd_L_addBare_83 : decode cb_L_addBare 83 = .ok (.aload_n 0, 1) := by decide +kernel
theorem cd_L_addBare_84 : decode cb_L_addBare 84 = .ok (.getfield 40, 3) := by decide +kernel
theorem cd_L_addBare_87 : decode cb_L_addBare 87 = .ok (.iload_n 2, 1) := by decide +kernel
theorem cd_L_addBare_88 : decode cb_L_addBare 88 = .ok (.iconst (-1), 1) := by decide +kernel
theorem cd_L_addBare_89 : decode cb_L_addBare 89 = .ok (.iastore, 1) := by decide +kernel
theorem cd_L_addBare_90 : decode cb_L_addBare 90 = .ok (.return_, 1) := by decide +kernel
theorem cd_L_latestOfDepth_0 : decode cb_L_latestOfDepth 0 = .ok (.iload_n 1, 1) := by decide +kernel
theorem cd_L_latestOfDepth_1 : decode cb_L_latestOfDepth 1 = .ok (.istore_n 3, 1) := by decide +kernel
theorem cd_L_latestOfDepth_2 : decode cb_L_latestOfDepth 2 = .ok (.iload_n 3, 1) := by decide +kernel
theorem cd_L_latestOfDepth_3 : decode cb_L_latestOfDepth 3 = .ok (.ifCond .lt 21, 3) := by decide +kernel
theorem cd_L_latestOfDepth_6 : decode cb_L_latestOfDepth 6 = .ok (.aload_n 0, 1) := by decide +kernel
theorem cd_L_latestOfDepth_7 : decode cb_L_latestOfDepth 7 = .ok (.getfield 25, 3) := by decide +kernel
theorem cd_L_latestOfDepth_10 : decode cb_L_latestOfDepth 10 = .ok (.iload_n 3, 1) := by decide +kernel
theorem cd_L_latestOfDepth_11 : decode cb_L_latestOfDepth 11 = .ok (.iaload, 1) := by decide +kernel
theorem cd_L_latestOfDepth_12 : decode cb_L_latestOfDepth 12 = .ok (.iload_n 2, 1) := by decide +kernel
theorem cd_L_latestOfDepth_13 : decode cb_L_latestOfDepth 13 = .ok (.if_icmp .ne 5, 3) := by decide +kernel
theorem cd_L_latestOfDepth_16 : decode cb_L_latestOfDepth 16 = .ok (.iload_n 3, 1) := by decide +kernel
theorem cd_L_latestOfDepth_17 : decode cb_L_latestOfDepth 17 = .ok (.ireturn, 1) := by decide +kernel
theorem cd_L_latestOfDepth_18 : decode cb_L_latestOfDepth 18 = .ok (.iinc 3 (-1), 3) := by decide +kernel
theorem cd_L_latestOfDepth_21 : decode cb_L_latestOfDepth 21 = .ok (.goto (-19), 3) := by decide +kernel
theorem cd_L_latestOfDepth_24 : decode cb_L_latestOfDepth 24 = .ok (.iconst (-1), 1) := by decide +kernel
theorem cd_L_latestOfDepth_25 : decode cb_L_latestOfDepth 25 = .ok (.ireturn, 1) := by decide +kernel
theorem cd_L_orderOfDates_0 : decode cb_L_orderOfDates 0 = .ok (.aload_n 0, 1) := by decide +kernel
theorem cd_L_orderOfDates_1 : decode cb_L_orderOfDates 1 = .ok (.getfield 28, 3) := by decide +kernel
theorem cd_L_orderOfDates_4 : decode cb_L_orderOfDates 4 = .ok (.iload_n 1, 1) := by decide +kernel
theorem cd_L_orderOfDates_5 : decode cb_L_orderOfDates 5 = .ok (.iaload, 1) := by decide +kernel
theorem cd_L_orderOfDates_6 : decode cb_L_orderOfDates 6 = .ok (.iconst (-1), 1) := by decide +kernel
theorem cd_L_orderOfDates_7 : decode cb_L_orderOfDates 7 = .ok (.if_icmp .ne 7, 3) := by decide +kernel
theorem cd_L_orderOfDates_10 : decode cb_L_orderOfDates 10 = .ok (.iconst 1, 1) := by decide +kernel
theorem cd_L_orderOfDates_11 : decode cb_L_orderOfDates 11 = .ok (.goto 4, 3) := by decide +kernel
theorem cd_L_orderOfDates_14 : decode cb_L_orderOfDates 14 = .ok (.iconst 0, 1) := by decide +kernel
theorem cd_L_orderOfDates_15 : decode cb_L_orderOfDates 15 = .ok (.istore_n 3, 1) := by decide +kernel
theorem cd_L_orderOfDates_16 : decode cb_L_orderOfDates 16 = .ok (.aload_n 0, 1) := by decide +kernel
theorem cd_L_orderOfDates_17 : decode cb_L_orderOfDates 17 = .ok (.getfield 28, 3) := by decide +kernel
theorem cd_L_orderOfDates_20 : decode cb_L_orderOfDates 20 = .ok (.iload_n 2, 1) := by decide +kernel
theorem cd_L_orderOfDates_21 : decode cb_L_orderOfDates 21 = .ok (.iaload, 1) := by decide +kernel
theorem cd_L_orderOfDates_22 : decode cb_L_orderOfDates 22 = .ok (.iconst (-1), 1) := by decide +kernel
theorem cd_L_orderOfDates_23 : decode cb_L_orderOfDates 23 = .ok (.if_icmp .ne 7, 3) := by decide +kernel
theorem cd_L_orderOfDates_26 : decode cb_L_orderOfDates 26 = .ok (.iconst 1, 1) := by decide +kernel
theorem cd_L_orderOfDates_27 : decode cb_L_orderOfDates 27 = .ok (.goto 4, 3) := by decide +kernel
theorem cd_L_orderOfDates_30 : decode cb_L_orderOfDates 30 = .ok (.iconst 0, 1) := by decide +kernel
theorem cd_L_orderOfDates_31 : decode cb_L_orderOfDates 31 = .ok (.istore 4, 2) := by decide +kernel
theorem cd_L_orderOfDates_33 : decode cb_L_orderOfDates 33 = .ok (.iload_n 3, 1) := by decide +kernel
theorem cd_L_orderOfDates_34 : decode cb_L_orderOfDates 34 = .ok (.ifCond .ne 8, 3) := by decide +kernel
theorem cd_L_orderOfDates_37 : decode cb_L_orderOfDates 37 = .ok (.iload 4, 2) := by decide +kernel
theorem cd_L_orderOfDates_39 : decode cb_L_orderOfDates 39 = .ok (.ifCond .eq 26, 3) := by decide +kernel
theorem cd_L_orderOfDates_42 : decode cb_L_orderOfDates 42 = .ok (.iload_n 3, 1) := by decide +kernel
theorem cd_L_orderOfDates_43 : decode cb_L_orderOfDates 43 = .ok (.ifCond .eq 7, 3) := by decide +kernel
theorem cd_L_orderOfDates_46 : decode cb_L_orderOfDates 46 = .ok (.iconst 1, 1) := by decide +kernel
theorem cd_L_orderOfDates_47 : decode cb_L_orderOfDates 47 = .ok (.goto 4, 3) := by decide +kernel
theorem cd_L_orderOfDates_50 : decode cb_L_orderOfDates 50 = .ok (.iconst 0, 1) := by decide +kernel
theorem cd_L_orderOfDates_51 : decode cb_L_orderOfDates 51 = .ok (.iload 4, 2) := by decide +kernel
theorem cd_L_orderOfDates_53 : decode cb_L_orderOfDates 53 = .ok (.ifCond .eq 7, 3) := by decide +kernel
theorem cd_L_orderOfDates_56 : decode cb_L_orderOfDates 56 = .ok (.iconst 1, 1) := by decide +kernel
theorem cd_L_orderOfDates_57 : decode cb_L_orderOfDates 57 = .ok (.goto 4, 3) := by decide +kernel
theorem cd_L_orderOfDates_60 : decode cb_L_orderOfDates 60 = .ok (.iconst 0, 1) := by decide +kernel
theorem cd_L_orderOfDates_61 : decode cb_L_orderOfDates 61 = .ok (.invokestatic 53, 3) := by decide +kernel
theorem cd_L_orderOfDates_64 : decode cb_L_orderOfDates 64 = .ok (.ireturn, 1) := by decide +kernel
theorem cd_L_orderOfDates_65 : decode cb_L_orderOfDates 65 = .ok (.aload_n 0, 1) := by decide +kernel
theorem cd_L_orderOfDates_66 : decode cb_L_orderOfDates 66 = .ok (.getfield 28, 3) := by decide +kernel
theorem cd_L_orderOfDates_69 : decode cb_L_orderOfDates 69 = .ok (.iload_n 1, 1) := by decide +kernel
theorem cd_L_orderOfDates_70 : decode cb_L_orderOfDates 70 = .ok (.iaload, 1) := by decide +kernel
theorem cd_L_orderOfDates_71 : decode cb_L_orderOfDates 71 = .ok (.aload_n 0, 1) := by decide +kernel
theorem cd_L_orderOfDates_72 : decode cb_L_orderOfDates 72 = .ok (.getfield 28, 3) := by decide +kernel
theorem cd_L_orderOfDates_75 : decode cb_L_orderOfDates 75 = .ok (.iload_n 2, 1) := by decide +kernel
theorem cd_L_orderOfDates_76 : decode cb_L_orderOfDates 76 = .ok (.iaload, 1) := by decide +kernel
theorem cd_L_orderOfDates_77 : decode cb_L_orderOfDates 77 = .ok (.if_icmp .eq 19, 3) := by decide +kernel
theorem cd_L_orderOfDates_80 : decode cb_L_orderOfDates 80 = .ok (.aload_n 0, 1) := by decide +kernel
theorem cd_L_orderOfDates_81 : decode cb_L_orderOfDates 81 = .ok (.getfield 28, 3) := by decide +kernel
theorem cd_L_orderOfDates_84 : decode cb_L_orderOfDates 84 = .ok (.iload_n 1, 1) := by decide +kernel
theorem cd_L_orderOfDates_85 : decode cb_L_orderOfDates 85 = .ok (.iaload, 1) := by decide +kernel
theorem cd_L_orderOfDates_86 : decode cb_L_orderOfDates 86 = .ok (.aload_n 0, 1) := by decide +kernel
theorem cd_L_orderOfDates_87 : decode cb_L_orderOfDates 87 = .ok (.getfield 28, 3) := by decide +kernel
theorem cd_L_orderOfDates_90 : decode cb_L_orderOfDates 90 = .ok (.iload_n 2, 1) := by decide +kernel
theorem cd_L_orderOfDates_91 : decode cb_L_orderOfDates 91 = .ok (.iaload, 1) := by decide +kernel
theorem cd_L_orderOfDates_92 : decode cb_L_orderOfDates 92 = .ok (.invokestatic 53, 3) := by decide +kernel
theorem cd_L_orderOfDates_95 : decode cb_L_orderOfDates 95 = .ok (.ireturn, 1) := by decide +kernel
theorem cd_L_orderOfDates_96 : decode cb_L_orderOfDates 96 = .ok (.aload_n 0, 1) := by decide +kernel
theorem cd_L_orderOfDates_97 : decode cb_L_orderOfDates 97 = .ok (.getfield 31, 3) := by decide +kernel
theorem cd_L_orderOfDates_100 : decode cb_L_orderOfDates 100 = .ok (.iload_n 1, 1) := by decide +kernel
theorem cd_L_orderOfDates_101 : decode cb_L_orderOfDates 101 = .ok (.iaload, 1) := by decide +kernel
theorem cd_L_orderOfDates_102 : decode cb_L_orderOfDates 102 = .ok (.aload_n 0, 1) := by decide +kernel
theorem cd_L_orderOfDates_103 : decode cb_L_orderOfDates 103 = .ok (.getfield 31, 3) := by decide +kernel
theorem cd_L_orderOfDates_106 : decode cb_L_orderOfDates 106 = .ok (.iload_n 2, 1) := by decide +kernel
theorem cd_L_orderOfDates_107 : decode cb_L_orderOfDates 107 = .ok (.iaload, 1) := by decide +kernel
theorem cd_L_orderOfDates_108 : decode cb_L_orderOfDates 108 = .ok (.if_icmp .eq 19, 3) := by decide +kernel
theorem cd_L_orderOfDates_111 : decode cb_L_orderOfDates 111 = .ok (.aload_n 0, 1) := by decide +kernel
theorem cd_L_orderOfDates_112 : decode cb_L_orderOfDates 112 = .ok (.getfield 31, 3) := by decide +kernel
theorem cd_L_orderOfDates_115 : decode cb_L_orderOfDates 115 = .ok (.iload_n 1, 1) := by decide +kernel
theorem cd_L_orderOfDates_116 : decode cb_L_orderOfDates 116 = .ok (.iaload, 1) := by decide +kernel
theorem cd_L_orderOfDates_117 : decode cb_L_orderOfDates 117 = .ok (.aload_n 0, 1) := by decide +kernel
theorem cd_L_orderOfDates_118 : decode cb_L_orderOfDates 118 = .ok (.getfield 31, 3) := by decide +kernel
theorem cd_L_orderOfDates_121 : decode cb_L_orderOfDates 121 = .ok (.iload_n 2, 1) := by decide +kernel
theorem cd_L_orderOfDates_122 : decode cb_L_orderOfDates 122 = .ok (.iaload, 1) := by decide +kernel
theorem cd_L_orderOfDates_123 : decode cb_L_orderOfDates 123 = .ok (.invokestatic 53, 3) := by decide +kernel
theorem cd_L_orderOfDates_126 : decode cb_L_orderOfDates 126 = .ok (.ireturn, 1) := by decide +kernel
theorem cd_L_orderOfDates_127 : decode cb_L_orderOfDates 127 = .ok (.aload_n 0, 1) := by decide +kernel
theorem cd_L_orderOfDates_128 : decode cb_L_orderOfDates 128 = .ok (.getfield 34, 3) := by decide +kernel
theorem cd_L_orderOfDates_131 : decode cb_L_orderOfDates 131 = .ok (.iload_n 1, 1) := by decide +kernel
theorem cd_L_orderOfDates_132 : decode cb_L_orderOfDates 132 = .ok (.iaload, 1) := by decide +kernel
theorem cd_L_orderOfDates_133 : decode cb_L_orderOfDates 133 = .ok (.aload_n 0, 1) := by decide +kernel
theorem cd_L_orderOfDates_134 : decode cb_L_orderOfDates 134 = .ok (.getfield 34, 3) := by decide +kernel
theorem cd_L_orderOfDates_137 : decode cb_L_orderOfDates 137 = .ok (.iload_n 2, 1) := by decide +kernel
theorem cd_L_orderOfDates_138 : decode cb_L_orderOfDates 138 = .ok (.iaload, 1) := by decide +kernel
theorem cd_L_orderOfDates_139 : decode cb_L_orderOfDates 139 = .ok (.invokestatic 53, 3) := by decide +kernel
theorem cd_L_orderOfDates_142 : decode cb_L_orderOfDates 142 = .ok (.ireturn, 1) := by decide +kernel
theorem cd_L_repeatsNumber_0 : decode cb_L_repeatsNumber 0 = .ok (.iconst 0, 1) := by decide +kernel
theorem cd_L_repeatsNumber_1 : decode cb_L_repeatsNumber 1 = .ok (.istore_n 2, 1) := by decide +kernel
theorem cd_L_repeatsNumber_2 : decode cb_L_repeatsNumber 2 = .ok (.iload_n 2, 1) := by decide +kernel
theorem cd_L_repeatsNumber_3 : decode cb_L_repeatsNumber 3 = .ok (.iload_n 1, 1) := by decide +kernel
theorem cd_L_repeatsNumber_4 : decode cb_L_repeatsNumber 4 = .ok (.if_icmp .ge 41, 3) := by decide +kernel
theorem cd_L_repeatsNumber_7 : decode cb_L_repeatsNumber 7 = .ok (.aload_n 0, 1) := by decide +kernel
theorem cd_L_repeatsNumber_8 : decode cb_L_repeatsNumber 8 = .ok (.getfield 22, 3) := by decide +kernel
theorem cd_L_repeatsNumber_11 : decode cb_L_repeatsNumber 11 = .ok (.iload_n 2, 1) := by decide +kernel
theorem cd_L_repeatsNumber_12 : decode cb_L_repeatsNumber 12 = .ok (.iaload, 1) := by decide +kernel
theorem cd_L_repeatsNumber_13 : decode cb_L_repeatsNumber 13 = .ok (.aload_n 0, 1) := by decide +kernel
theorem cd_L_repeatsNumber_14 : decode cb_L_repeatsNumber 14 = .ok (.getfield 22, 3) := by decide +kernel
theorem cd_L_repeatsNumber_17 : decode cb_L_repeatsNumber 17 = .ok (.iload_n 1, 1) := by decide +kernel
theorem cd_L_repeatsNumber_18 : decode cb_L_repeatsNumber 18 = .ok (.iaload, 1) := by decide +kernel
theorem cd_L_repeatsNumber_19 : decode cb_L_repeatsNumber 19 = .ok (.if_icmp .ne 20, 3) := by decide +kernel
theorem cd_L_repeatsNumber_22 : decode cb_L_repeatsNumber 22 = .ok (.aload_n 0, 1) := by decide +kernel
theorem cd_L_repeatsNumber_23 : decode cb_L_repeatsNumber 23 = .ok (.getfield 19, 3) := by decide +kernel
theorem cd_L_repeatsNumber_26 : decode cb_L_repeatsNumber 26 = .ok (.iload_n 2, 1) := by decide +kernel
theorem cd_L_repeatsNumber_27 : decode cb_L_repeatsNumber 27 = .ok (.iaload, 1) := by decide +kernel
theorem cd_L_repeatsNumber_28 : decode cb_L_repeatsNumber 28 = .ok (.aload_n 0, 1) := by decide +kernel
theorem cd_L_repeatsNumber_29 : decode cb_L_repeatsNumber 29 = .ok (.getfield 19, 3) := by decide +kernel
theorem cd_L_repeatsNumber_32 : decode cb_L_repeatsNumber 32 = .ok (.iload_n 1, 1) := by decide +kernel
theorem cd_L_repeatsNumber_33 : decode cb_L_repeatsNumber 33 = .ok (.iaload, 1) := by decide +kernel
theorem cd_L_repeatsNumber_34 : decode cb_L_repeatsNumber 34 = .ok (.if_icmp .ne 5, 3) := by decide +kernel
theorem cd_L_repeatsNumber_37 : decode cb_L_repeatsNumber 37 = .ok (.iconst 1, 1) := by decide +kernel
theorem cd_L_repeatsNumber_38 : decode cb_L_repeatsNumber 38 = .ok (.ireturn, 1) := by decide +kernel
theorem cd_L_repeatsNumber_39 : decode cb_L_repeatsNumber 39 = .ok (.iinc 2 1, 3) := by decide +kernel
theorem cd_L_repeatsNumber_42 : decode cb_L_repeatsNumber 42 = .ok (.goto (-40), 3) := by decide +kernel
theorem cd_L_repeatsNumber_45 : decode cb_L_repeatsNumber 45 = .ok (.iconst 0, 1) := by decide +kernel
theorem cd_L_repeatsNumber_46 : decode cb_L_repeatsNumber 46 = .ok (.ireturn, 1) := by decide +kernel
theorem cd_L_isWithin_0 : decode cb_L_isWithin 0 = .ok (.iload_n 1, 1) := by decide +kernel
theorem cd_L_isWithin_1 : decode cb_L_isWithin 1 = .ok (.istore_n 3, 1) := by decide +kernel
theorem cd_L_isWithin_2 : decode cb_L_isWithin 2 = .ok (.iconst 0, 1) := by decide +kernel
theorem cd_L_isWithin_3 : decode cb_L_isWithin 3 = .ok (.istore 4, 2) := by decide +kernel
theorem cd_L_isWithin_5 : decode cb_L_isWithin 5 = .ok (.iload 4, 2) := by decide +kernel
theorem cd_L_isWithin_7 : decode cb_L_isWithin 7 = .ok (.bipush 8, 2) := by decide +kernel
theorem cd_L_isWithin_9 : decode cb_L_isWithin 9 = .ok (.if_icmp .gt 31, 3) := by decide +kernel
theorem cd_L_isWithin_12 : decode cb_L_isWithin 12 = .ok (.aload_n 0, 1) := by decide +kernel
theorem cd_L_isWithin_13 : decode cb_L_isWithin 13 = .ok (.iload_n 3, 1) := by decide +kernel
theorem cd_L_isWithin_14 : decode cb_L_isWithin 14 = .ok (.invokevirtual 56, 3) := by decide +kernel
theorem cd_L_isWithin_17 : decode cb_L_isWithin 17 = .ok (.ifCond .eq 23, 3) := by decide +kernel
theorem cd_L_isWithin_20 : decode cb_L_isWithin 20 = .ok (.iload_n 3, 1) := by decide +kernel
theorem cd_L_isWithin_21 : decode cb_L_isWithin 21 = .ok (.iload_n 2, 1) := by decide +kernel
theorem cd_L_isWithin_22 : decode cb_L_isWithin 22 = .ok (.if_icmp .ne 5, 3) := by decide +kernel
theorem cd_L_isWithin_25 : decode cb_L_isWithin 25 = .ok (.iconst 1, 1) := by decide +kernel
theorem cd_L_isWithin_26 : decode cb_L_isWithin 26 = .ok (.ireturn, 1) := by decide +kernel
theorem cd_L_isWithin_27 : decode cb_L_isWithin 27 = .ok (.aload_n 0, 1) := by decide +kernel
theorem cd_L_isWithin_28 : decode cb_L_isWithin 28 = .ok (.getfield 22, 3) := by decide +kernel
theorem cd_L_isWithin_31 : decode cb_L_isWithin 31 = .ok (.iload_n 3, 1) := by decide +kernel
theorem cd_L_isWithin_32 : decode cb_L_isWithin 32 = .ok (.iaload, 1) := by decide +kernel
theorem cd_L_isWithin_33 : decode cb_L_isWithin 33 = .ok (.istore_n 3, 1) := by decide +kernel
theorem cd_L_isWithin_34 : decode cb_L_isWithin 34 = .ok (.iinc 4 1, 3) := by decide +kernel
theorem cd_L_isWithin_37 : decode cb_L_isWithin 37 = .ok (.goto (-32), 3) := by decide +kernel
theorem cd_L_isWithin_40 : decode cb_L_isWithin 40 = .ok (.iconst 0, 1) := by decide +kernel
theorem cd_L_isWithin_41 : decode cb_L_isWithin 41 = .ok (.ireturn, 1) := by decide +kernel
theorem cd_L_mayHang_0 : decode cb_L_mayHang 0 = .ok (.aload_n 0, 1) := by decide +kernel
theorem cd_L_mayHang_1 : decode cb_L_mayHang 1 = .ok (.iload_n 2, 1) := by decide +kernel
theorem cd_L_mayHang_2 : decode cb_L_mayHang 2 = .ok (.iload_n 1, 1) := by decide +kernel
theorem cd_L_mayHang_3 : decode cb_L_mayHang 3 = .ok (.invokevirtual 60, 3) := by decide +kernel
theorem cd_L_mayHang_6 : decode cb_L_mayHang 6 = .ok (.ifCond .ne 28, 3) := by decide +kernel
theorem cd_L_mayHang_9 : decode cb_L_mayHang 9 = .ok (.aload_n 0, 1) := by decide +kernel
theorem cd_L_mayHang_10 : decode cb_L_mayHang 10 = .ok (.getfield 15, 3) := by decide +kernel
theorem cd_L_mayHang_13 : decode cb_L_mayHang 13 = .ok (.iload_n 2, 1) := by decide +kernel
theorem cd_L_mayHang_14 : decode cb_L_mayHang 14 = .ok (.iaload, 1) := by decide +kernel
theorem cd_L_mayHang_15 : decode cb_L_mayHang 15 = .ok (.aload_n 0, 1) := by decide +kernel
theorem cd_L_mayHang_16 : decode cb_L_mayHang 16 = .ok (.getfield 15, 3) := by decide +kernel
theorem cd_L_mayHang_19 : decode cb_L_mayHang 19 = .ok (.iload_n 1, 1) := by decide +kernel
theorem cd_L_mayHang_20 : decode cb_L_mayHang 20 = .ok (.iaload, 1) := by decide +kernel
theorem cd_L_mayHang_21 : decode cb_L_mayHang 21 = .ok (.if_icmp .gt 13, 3) := by decide +kernel
theorem cd_L_mayHang_24 : decode cb_L_mayHang 24 = .ok (.aload_n 0, 1) := by decide +kernel
theorem cd_L_mayHang_25 : decode cb_L_mayHang 25 = .ok (.getfield 15, 3) := by decide +kernel
theorem cd_L_mayHang_28 : decode cb_L_mayHang 28 = .ok (.iload_n 2, 1) := by decide +kernel
theorem cd_L_mayHang_29 : decode cb_L_mayHang 29 = .ok (.iaload, 1) := by decide +kernel
theorem cd_L_mayHang_30 : decode cb_L_mayHang 30 = .ok (.iconst 3, 1) := by decide +kernel
theorem cd_L_mayHang_31 : decode cb_L_mayHang 31 = .ok (.if_icmp .ne 5, 3) := by decide +kernel
theorem cd_L_mayHang_34 : decode cb_L_mayHang 34 = .ok (.iconst 0, 1) := by decide +kernel
theorem cd_L_mayHang_35 : decode cb_L_mayHang 35 = .ok (.ireturn, 1) := by decide +kernel
theorem cd_L_mayHang_36 : decode cb_L_mayHang 36 = .ok (.aload_n 0, 1) := by decide +kernel
theorem cd_L_mayHang_37 : decode cb_L_mayHang 37 = .ok (.iload_n 1, 1) := by decide +kernel
theorem cd_L_mayHang_38 : decode cb_L_mayHang 38 = .ok (.invokevirtual 64, 3) := by decide +kernel
theorem cd_L_mayHang_41 : decode cb_L_mayHang 41 = .ok (.aload_n 0, 1) := by decide +kernel
theorem cd_L_mayHang_42 : decode cb_L_mayHang 42 = .ok (.iload_n 1, 1) := by decide +kernel
theorem cd_L_mayHang_43 : decode cb_L_mayHang 43 = .ok (.iload_n 2, 1) := by decide +kernel
theorem cd_L_mayHang_44 : decode cb_L_mayHang 44 = .ok (.invokevirtual 68, 3) := by decide +kernel
theorem cd_L_mayHang_47 : decode cb_L_mayHang 47 = .ok (.iadd, 1) := by decide +kernel
theorem cd_L_mayHang_48 : decode cb_L_mayHang 48 = .ok (.bipush 8, 2) := by decide +kernel
theorem cd_L_mayHang_50 : decode cb_L_mayHang 50 = .ok (.if_icmp .gt 7, 3) := by decide +kernel
theorem cd_L_mayHang_53 : decode cb_L_mayHang 53 = .ok (.iconst 1, 1) := by decide +kernel
theorem cd_L_mayHang_54 : decode cb_L_mayHang 54 = .ok (.goto 4, 3) := by decide +kernel
theorem cd_L_mayHang_57 : decode cb_L_mayHang 57 = .ok (.iconst 0, 1) := by decide +kernel
theorem cd_L_mayHang_58 : decode cb_L_mayHang 58 = .ok (.ireturn, 1) := by decide +kernel
theorem cd_L_hang_0 : decode cb_L_hang 0 = .ok (.aload_n 0, 1) := by decide +kernel
theorem cd_L_hang_1 : decode cb_L_hang 1 = .ok (.iload_n 1, 1) := by decide +kernel
theorem cd_L_hang_2 : decode cb_L_hang 2 = .ok (.iload_n 2, 1) := by decide +kernel
theorem cd_L_hang_3 : decode cb_L_hang 3 = .ok (.invokevirtual 68, 3) := by decide +kernel
theorem cd_L_hang_6 : decode cb_L_hang 6 = .ok (.istore_n 3, 1) := by decide +kernel
theorem cd_L_hang_7 : decode cb_L_hang 7 = .ok (.iconst 0, 1) := by decide +kernel
theorem cd_L_hang_8 : decode cb_L_hang 8 = .ok (.istore 4, 2) := by decide +kernel
theorem cd_L_hang_10 : decode cb_L_hang 10 = .ok (.iload 4, 2) := by decide +kernel
theorem cd_L_hang_12 : decode cb_L_hang 12 = .ok (.aload_n 0, 1) := by decide +kernel
theorem cd_L_hang_13 : decode cb_L_hang 13 = .ok (.getfield 9, 3) := by decide +kernel
theorem cd_L_hang_16 : decode cb_L_hang 16 = .ok (.if_icmp .ge 30, 3) := by decide +kernel
theorem cd_L_hang_19 : decode cb_L_hang 19 = .ok (.aload_n 0, 1) := by decide +kernel
theorem cd_L_hang_20 : decode cb_L_hang 20 = .ok (.iload 4, 2) := by decide +kernel
theorem cd_L_hang_22 : decode cb_L_hang 22 = .ok (.iload_n 1, 1) := by decide +kernel
theorem cd_L_hang_23 : decode cb_L_hang 23 = .ok (.invokevirtual 60, 3) := by decide +kernel
theorem cd_L_hang_26 : decode cb_L_hang 26 = .ok (.ifCond .eq 14, 3) := by decide +kernel
theorem cd_L_hang_29 : decode cb_L_hang 29 = .ok (.aload_n 0, 1) := by decide +kernel
theorem cd_L_hang_30 : decode cb_L_hang 30 = .ok (.getfield 25, 3) := by decide +kernel
theorem cd_L_hang_33 : decode cb_L_hang 33 = .ok (.iload 4, 2) := by decide +kernel
theorem cd_L_hang_35 : decode cb_L_hang 35 = .ok (.dup2, 1) := by decide +kernel
theorem cd_L_hang_36 : decode cb_L_hang 36 = .ok (.iaload, 1) := by decide +kernel
theorem cd_L_hang_37 : decode cb_L_hang 37 = .ok (.iload_n 3, 1) := by decide +kernel
theorem cd_L_hang_38 : decode cb_L_hang 38 = .ok (.iadd, 1) := by decide +kernel
theorem cd_L_hang_39 : decode cb_L_hang 39 = .ok (.iastore, 1) := by decide +kernel
theorem cd_L_hang_40 : decode cb_L_hang 40 = .ok (.iinc 4 1, 3) := by decide +kernel
theorem cd_L_hang_43 : decode cb_L_hang 43 = .ok (.goto (-33), 3) := by decide +kernel
theorem cd_L_hang_46 : decode cb_L_hang 46 = .ok (.aload_n 0, 1) := by decide +kernel
theorem cd_L_hang_47 : decode cb_L_hang 47 = .ok (.getfield 22, 3) := by decide +kernel
theorem cd_L_hang_50 : decode cb_L_hang 50 = .ok (.iload_n 1, 1) := by decide +kernel
theorem cd_L_hang_51 : decode cb_L_hang 51 = .ok (.iload_n 2, 1) := by decide +kernel
theorem cd_L_hang_52 : decode cb_L_hang 52 = .ok (.iastore, 1) := by decide +kernel
theorem cd_L_hang_53 : decode cb_L_hang 53 = .ok (.return_, 1) := by decide +kernel
theorem cd_L_deeperUnder_0 : decode cb_L_deeperUnder 0 = .ok (.aload_n 0, 1) := by decide +kernel
theorem cd_L_deeperUnder_1 : decode cb_L_deeperUnder 1 = .ok (.getfield 25, 3) := by decide +kernel
theorem cd_L_deeperUnder_4 : decode cb_L_deeperUnder 4 = .ok (.iload_n 2, 1) := by decide +kernel
theorem cd_L_deeperUnder_5 : decode cb_L_deeperUnder 5 = .ok (.iaload, 1) := by decide +kernel
theorem cd_L_deeperUnder_6 : decode cb_L_deeperUnder 6 = .ok (.iconst 1, 1) := by decide +kernel
theorem cd_L_deeperUnder_7 : decode cb_L_deeperUnder 7 = .ok (.iadd, 1) := by decide +kernel
theorem cd_L_deeperUnder_8 : decode cb_L_deeperUnder 8 = .ok (.aload_n 0, 1) := by decide +kernel
theorem cd_L_deeperUnder_9 : decode cb_L_deeperUnder 9 = .ok (.getfield 25, 3) := by decide +kernel
theorem cd_L_deeperUnder_12 : decode cb_L_deeperUnder 12 = .ok (.iload_n 1, 1) := by decide +kernel
theorem cd_L_deeperUnder_13 : decode cb_L_deeperUnder 13 = .ok (.iaload, 1) := by decide +kernel
theorem cd_L_deeperUnder_14 : decode cb_L_deeperUnder 14 = .ok (.isub, 1) := by decide +kernel
theorem cd_L_deeperUnder_15 : decode cb_L_deeperUnder 15 = .ok (.ireturn, 1) := by decide +kernel
theorem cd_L_deepestWithin_0 : decode cb_L_deepestWithin 0 = .ok (.iconst 0, 1) := by decide +kernel
theorem cd_L_deepestWithin_1 : decode cb_L_deepestWithin 1 = .ok (.istore_n 2, 1) := by decide +kernel
theorem cd_L_deepestWithin_2 : decode cb_L_deepestWithin 2 = .ok (.iconst 0, 1) := by decide +kernel
theorem cd_L_deepestWithin_3 : decode cb_L_deepestWithin 3 = .ok (.istore_n 3, 1) := by decide +kernel
theorem cd_L_deepestWithin_4 : decode cb_L_deepestWithin 4 = .ok (.iload_n 3, 1) := by decide +kernel
theorem cd_L_deepestWithin_5 : decode cb_L_deepestWithin 5 = .ok (.aload_n 0, 1) := by decide +kernel
theorem cd_L_deepestWithin_6 : decode cb_L_deepestWithin 6 = .ok (.getfield 9, 3) := by decide +kernel
theorem cd_L_deepestWithin_9 : decode cb_L_deepestWithin 9 = .ok (.if_icmp .ge 29, 3) := by decide +kernel
theorem cd_L_deepestWithin_12 : decode cb_L_deepestWithin 12 = .ok (.aload_n 0, 1) := by decide +kernel
theorem cd_L_deepestWithin_13 : decode cb_L_deepestWithin 13 = .ok (.iload_n 3, 1) := by decide +kernel
theorem cd_L_deepestWithin_14 : decode cb_L_deepestWithin 14 = .ok (.iload_n 1, 1) := by decide +kernel
theorem cd_L_deepestWithin_15 : decode cb_L_deepestWithin 15 = .ok (.invokevirtual 60, 3) := by decide +kernel
theorem cd_L_deepestWithin_18 : decode cb_L_deepestWithin 18 = .ok (.ifCond .eq 14, 3) := by decide +kernel
theorem cd_L_deepestWithin_21 : decode cb_L_deepestWithin 21 = .ok (.iload_n 2, 1) := by decide +kernel
theorem cd_L_deepestWithin_22 : decode cb_L_deepestWithin 22 = .ok (.aload_n 0, 1) := by decide +kernel
theorem cd_L_deepestWithin_23 : decode cb_L_deepestWithin 23 = .ok (.getfield 25, 3) := by decide +kernel
theorem cd_L_deepestWithin_26 : decode cb_L_deepestWithin 26 = .ok (.iload_n 3, 1) := by decide +kernel
theorem cd_L_deepestWithin_27 : decode cb_L_deepestWithin 27 = .ok (.iaload, 1) := by decide +kernel
theorem cd_L_deepestWithin_28 : decode cb_L_deepestWithin 28 = .ok (.invokestatic 71, 3) := by decide +kernel
theorem cd_L_deepestWithin_31 : decode cb_L_deepestWithin 31 = .ok (.istore_n 2, 1) := by decide +kernel
theorem cd_L_deepestWithin_32 : decode cb_L_deepestWithin 32 = .ok (.iinc 3 1, 3) := by decide +kernel
theorem cd_L_deepestWithin_35 : decode cb_L_deepestWithin 35 = .ok (.goto (-31), 3) := by decide +kernel
theorem cd_L_deepestWithin_38 : decode cb_L_deepestWithin 38 = .ok (.iload_n 2, 1) := by decide +kernel
theorem cd_L_deepestWithin_39 : decode cb_L_deepestWithin 39 = .ok (.ireturn, 1) := by decide +kernel
theorem cd_L_nextUnder_0 : decode cb_L_nextUnder 0 = .ok (.iconst (-1), 1) := by decide +kernel
theorem cd_L_nextUnder_1 : decode cb_L_nextUnder 1 = .ok (.istore_n 3, 1) := by decide +kernel
theorem cd_L_nextUnder_2 : decode cb_L_nextUnder 2 = .ok (.iconst 0, 1) := by decide +kernel
theorem cd_L_nextUnder_3 : decode cb_L_nextUnder 3 = .ok (.istore 4, 2) := by decide +kernel
theorem cd_L_nextUnder_5 : decode cb_L_nextUnder 5 = .ok (.iload 4, 2) := by decide +kernel
theorem cd_L_nextUnder_7 : decode cb_L_nextUnder 7 = .ok (.aload_n 0, 1) := by decide +kernel
theorem cd_L_nextUnder_8 : decode cb_L_nextUnder 8 = .ok (.getfield 9, 3) := by decide +kernel
theorem cd_L_nextUnder_11 : decode cb_L_nextUnder 11 = .ok (.if_icmp .ge 53, 3) := by decide +kernel
theorem cd_L_nextUnder_14 : decode cb_L_nextUnder 14 = .ok (.aload_n 0, 1) := by decide +kernel
theorem cd_L_nextUnder_15 : decode cb_L_nextUnder 15 = .ok (.getfield 22, 3) := by decide +kernel
theorem cd_L_nextUnder_18 : decode cb_L_nextUnder 18 = .ok (.iload 4, 2) := by decide +kernel
theorem cd_L_nextUnder_20 : decode cb_L_nextUnder 20 = .ok (.iaload, 1) := by decide +kernel
theorem cd_L_nextUnder_21 : decode cb_L_nextUnder 21 = .ok (.iload_n 1, 1) := by decide +kernel
theorem cd_L_nextUnder_22 : decode cb_L_nextUnder 22 = .ok (.if_icmp .ne 36, 3) := by decide +kernel
theorem cd_L_nextUnder_25 : decode cb_L_nextUnder 25 = .ok (.iload_n 2, 1) := by decide +kernel
theorem cd_L_nextUnder_26 : decode cb_L_nextUnder 26 = .ok (.iconst (-1), 1) := by decide +kernel
theorem cd_L_nextUnder_27 : decode cb_L_nextUnder 27 = .ok (.if_icmp .eq 13, 3) := by decide +kernel
theorem cd_L_nextUnder_30 : decode cb_L_nextUnder 30 = .ok (.aload_n 0, 1) := by decide +kernel
theorem cd_L_nextUnder_31 : decode cb_L_nextUnder 31 = .ok (.iload 4, 2) := by decide +kernel
theorem cd_L_nextUnder_33 : decode cb_L_nextUnder 33 = .ok (.iload_n 2, 1) := by decide +kernel
theorem cd_L_nextUnder_34 : decode cb_L_nextUnder 34 = .ok (.invokevirtual 76, 3) := by decide +kernel
theorem cd_L_nextUnder_37 : decode cb_L_nextUnder 37 = .ok (.ifCond .eq 21, 3) := by decide +kernel
theorem cd_L_nextUnder_40 : decode cb_L_nextUnder 40 = .ok (.iload_n 3, 1) := by decide +kernel
theorem cd_L_nextUnder_41 : decode cb_L_nextUnder 41 = .ok (.iconst (-1), 1) := by decide +kernel
theorem cd_L_nextUnder_42 : decode cb_L_nextUnder 42 = .ok (.if_icmp .eq 13, 3) := by decide +kernel
theorem cd_L_nextUnder_45 : decode cb_L_nextUnder 45 = .ok (.aload_n 0, 1) := by decide +kernel
theorem cd_L_nextUnder_46 : decode cb_L_nextUnder 46 = .ok (.iload_n 3, 1) := by decide +kernel
theorem cd_L_nextUnder_47 : decode cb_L_nextUnder 47 = .ok (.iload 4, 2) := by decide +kernel
theorem cd_L_nextUnder_49 : decode cb_L_nextUnder 49 = .ok (.invokevirtual 76, 3) := by decide +kernel
theorem cd_L_nextUnder_52 : decode cb_L_nextUnder 52 = .ok (.ifCond .eq 6, 3) := by decide +kernel
theorem cd_L_nextUnder_55 : decode cb_L_nextUnder 55 = .ok (.iload 4, 2) := by decide +kernel
theorem cd_L_nextUnder_57 : decode cb_L_nextUnder 57 = .ok (.istore_n 3, 1) := by decide +kernel
theorem cd_L_nextUnder_58 : decode cb_L_nextUnder 58 = .ok (.iinc 4 1, 3) := by decide +kernel
theorem cd_L_nextUnder_61 : decode cb_L_nextUnder 61 = .ok (.goto (-56), 3) := by decide +kernel
theorem cd_L_nextUnder_64 : decode cb_L_nextUnder 64 = .ok (.iload_n 3, 1) := by decide +kernel
theorem cd_L_nextUnder_65 : decode cb_L_nextUnder 65 = .ok (.ireturn, 1) := by decide +kernel
theorem cd_L_isBehind_0 : decode cb_L_isBehind 0 = .ok (.aload_n 0, 1) := by decide +kernel
theorem cd_L_isBehind_1 : decode cb_L_isBehind 1 = .ok (.getfield 19, 3) := by decide +kernel
theorem cd_L_isBehind_4 : decode cb_L_isBehind 4 = .ok (.iload_n 1, 1) := by decide +kernel
theorem cd_L_isBehind_5 : decode cb_L_isBehind 5 = .ok (.iaload, 1) := by decide +kernel
theorem cd_L_isBehind_6 : decode cb_L_isBehind 6 = .ok (.aload_n 0, 1) := by decide +kernel
theorem cd_L_isBehind_7 : decode cb_L_isBehind 7 = .ok (.getfield 19, 3) := by decide +kernel
theorem cd_L_isBehind_10 : decode cb_L_isBehind 10 = .ok (.iload_n 2, 1) := by decide +kernel
theorem cd_L_isBehind_11 : decode cb_L_isBehind 11 = .ok (.iaload, 1) := by decide +kernel
theorem cd_L_isBehind_12 : decode cb_L_isBehind 12 = .ok (.if_icmp .eq 24, 3) := by decide +kernel
theorem cd_L_isBehind_15 : decode cb_L_isBehind 15 = .ok (.aload_n 0, 1) := by decide +kernel
theorem cd_L_isBehind_16 : decode cb_L_isBehind 16 = .ok (.getfield 19, 3) := by decide +kernel
theorem cd_L_isBehind_19 : decode cb_L_isBehind 19 = .ok (.iload_n 1, 1) := by decide +kernel
theorem cd_L_isBehind_20 : decode cb_L_isBehind 20 = .ok (.iaload, 1) := by decide +kernel
theorem cd_L_isBehind_21 : decode cb_L_isBehind 21 = .ok (.aload_n 0, 1) := by decide +kernel
theorem cd_L_isBehind_22 : decode cb_L_isBehind 22 = .ok (.getfield 19, 3) := by decide +kernel
theorem cd_L_isBehind_25 : decode cb_L_isBehind 25 = .ok (.iload_n 2, 1) := by decide +kernel
theorem cd_L_isBehind_26 : decode cb_L_isBehind 26 = .ok (.iaload, 1) := by decide +kernel
theorem cd_L_isBehind_27 : decode cb_L_isBehind 27 = .ok (.if_icmp .le 7, 3) := by decide +kernel
theorem cd_L_isBehind_30 : decode cb_L_isBehind 30 = .ok (.iconst 1, 1) := by decide +kernel
theorem cd_L_isBehind_31 : decode cb_L_isBehind 31 = .ok (.goto 4, 3) := by decide +kernel
theorem cd_L_isBehind_34 : decode cb_L_isBehind 34 = .ok (.iconst 0, 1) := by decide +kernel
theorem cd_L_isBehind_35 : decode cb_L_isBehind 35 = .ok (.ireturn, 1) := by decide +kernel
theorem cd_L_isBehind_36 : decode cb_L_isBehind 36 = .ok (.iload_n 1, 1) := by decide +kernel
theorem cd_L_isBehind_37 : decode cb_L_isBehind 37 = .ok (.iload_n 2, 1) := by decide +kernel
theorem cd_L_isBehind_38 : decode cb_L_isBehind 38 = .ok (.if_icmp .le 7, 3) := by decide +kernel
theorem cd_L_isBehind_41 : decode cb_L_isBehind 41 = .ok (.iconst 1, 1) := by decide +kernel
theorem cd_L_isBehind_42 : decode cb_L_isBehind 42 = .ok (.goto 4, 3) := by decide +kernel
theorem cd_L_isBehind_45 : decode cb_L_isBehind 45 = .ok (.iconst 0, 1) := by decide +kernel
theorem cd_L_isBehind_46 : decode cb_L_isBehind 46 = .ok (.ireturn, 1) := by decide +kernel
theorem cd_L_firstWithPathOf_0 : decode cb_L_firstWithPathOf 0 = .ok (.iconst 0, 1) := by decide +kernel
theorem cd_L_firstWithPathOf_1 : decode cb_L_firstWithPathOf 1 = .ok (.istore_n 3, 1) := by decide +kernel
theorem cd_L_firstWithPathOf_2 : decode cb_L_firstWithPathOf 2 = .ok (.iload_n 3, 1) := by decide +kernel
theorem cd_L_firstWithPathOf_3 : decode cb_L_firstWithPathOf 3 = .ok (.aload_n 0, 1) := by decide +kernel
theorem cd_L_firstWithPathOf_4 : decode cb_L_firstWithPathOf 4 = .ok (.getfield 9, 3) := by decide +kernel
theorem cd_L_firstWithPathOf_7 : decode cb_L_firstWithPathOf 7 = .ok (.if_icmp .ge 21, 3) := by decide +kernel
theorem cd_L_firstWithPathOf_10 : decode cb_L_firstWithPathOf 10 = .ok (.aload_n 0, 1) := by decide +kernel
theorem cd_L_firstWithPathOf_11 : decode cb_L_firstWithPathOf 11 = .ok (.iload_n 3, 1) := by decide +kernel
theorem cd_L_firstWithPathOf_12 : decode cb_L_firstWithPathOf 12 = .ok (.aload_n 1, 1) := by decide +kernel
theorem cd_L_firstWithPathOf_13 : decode cb_L_firstWithPathOf 13 = .ok (.iload_n 2, 1) := by decide +kernel
theorem cd_L_firstWithPathOf_14 : decode cb_L_firstWithPathOf 14 = .ok (.invokevirtual 79, 3) := by decide +kernel
theorem cd_L_firstWithPathOf_17 : decode cb_L_firstWithPathOf 17 = .ok (.ifCond .eq 5, 3) := by decide +kernel
theorem cd_L_firstWithPathOf_20 : decode cb_L_firstWithPathOf 20 = .ok (.iload_n 3, 1) := by decide +kernel
theorem cd_L_firstWithPathOf_21 : decode cb_L_firstWithPathOf 21 = .ok (.ireturn, 1) := by decide +kernel
theorem cd_L_firstWithPathOf_22 : decode cb_L_firstWithPathOf 22 = .ok (.iinc 3 1, 3) := by decide +kernel
theorem cd_L_firstWithPathOf_25 : decode cb_L_firstWithPathOf 25 = .ok (.goto (-23), 3) := by decide +kernel
theorem cd_L_firstWithPathOf_28 : decode cb_L_firstWithPathOf 28 = .ok (.iconst (-1), 1) := by decide +kernel
theorem cd_L_firstWithPathOf_29 : decode cb_L_firstWithPathOf 29 = .ok (.ireturn, 1) := by decide +kernel
theorem cd_L_hasPathOf_0 : decode cb_L_hasPathOf 0 = .ok (.iload_n 1, 1) := by decide +kernel
theorem cd_L_hasPathOf_1 : decode cb_L_hasPathOf 1 = .ok (.istore 4, 2) := by decide +kernel
theorem cd_L_hasPathOf_3 : decode cb_L_hasPathOf 3 = .ok (.iload_n 3, 1) := by decide +kernel
theorem cd_L_hasPathOf_4 : decode cb_L_hasPathOf 4 = .ok (.istore 5, 2) := by decide +kernel
theorem cd_L_hasPathOf_6 : decode cb_L_hasPathOf 6 = .ok (.iconst 0, 1) := by decide +kernel
theorem cd_L_hasPathOf_7 : decode cb_L_hasPathOf 7 = .ok (.istore 6, 2) := by decide +kernel
theorem cd_L_hasPathOf_9 : decode cb_L_hasPathOf 9 = .ok (.iload 6, 2) := by decide +kernel
theorem cd_L_hasPathOf_11 : decode cb_L_hasPathOf 11 = .ok (.bipush 8, 2) := by decide +kernel
theorem cd_L_hasPathOf_13 : decode cb_L_hasPathOf 13 = .ok (.if_icmp .gt 64, 3) := by decide +kernel
theorem cd_L_hasPathOf_16 : decode cb_L_hasPathOf 16 = .ok (.aload_n 0, 1) := by decide +kernel
theorem cd_L_hasPathOf_17 : decode cb_L_hasPathOf 17 = .ok (.iload 4, 2) := by decide +kernel
theorem cd_L_hasPathOf_19 : decode cb_L_hasPathOf 19 = .ok (.invokevirtual 56, 3) := by decide +kernel
theorem cd_L_hasPathOf_22 : decode cb_L_hasPathOf 22 = .ok (.ifCond .eq 55, 3) := by decide +kernel
theorem cd_L_hasPathOf_25 : decode cb_L_hasPathOf 25 = .ok (.aload_n 2, 1) := by decide +kernel
theorem cd_L_hasPathOf_26 : decode cb_L_hasPathOf 26 = .ok (.iload 5, 2) := by decide +kernel
theorem cd_L_hasPathOf_28 : decode cb_L_hasPathOf 28 = .ok (.invokevirtual 56, 3) := by decide +kernel
theorem cd_L_hasPathOf_31 : decode cb_L_hasPathOf 31 = .ok (.ifCond .eq 46, 3) := by decide +kernel
theorem cd_L_hasPathOf_34 : decode cb_L_hasPathOf 34 = .ok (.aload_n 0, 1) := by decide +kernel
theorem cd_L_hasPathOf_35 : decode cb_L_hasPathOf 35 = .ok (.getfield 19, 3) := by decide +kernel
theorem cd_L_hasPathOf_38 : decode cb_L_hasPathOf 38 = .ok (.iload 4, 2) := by decide +kernel
theorem cd_L_hasPathOf_40 : decode cb_L_hasPathOf 40 = .ok (.iaload, 1) := by decide +kernel
theorem cd_L_hasPathOf_41 : decode cb_L_hasPathOf 41 = .ok (.aload_n 2, 1) := by decide +kernel
theorem cd_L_hasPathOf_42 : decode cb_L_hasPathOf 42 = .ok (.getfield 19, 3) := by decide +kernel
theorem cd_L_hasPathOf_45 : decode cb_L_hasPathOf 45 = .ok (.iload 5, 2) := by decide +kernel
theorem cd_L_hasPathOf_47 : decode cb_L_hasPathOf 47 = .ok (.iaload, 1) := by decide +kernel
theorem cd_L_hasPathOf_48 : decode cb_L_hasPathOf 48 = .ok (.if_icmp .eq 5, 3) := by decide +kernel
theorem cd_L_hasPathOf_51 : decode cb_L_hasPathOf 51 = .ok (.iconst 0, 1) := by decide +kernel
theorem cd_L_hasPathOf_52 : decode cb_L_hasPathOf 52 = .ok (.ireturn, 1) := by decide +kernel
theorem cd_L_hasPathOf_53 : decode cb_L_hasPathOf 53 = .ok (.aload_n 0, 1) := by decide +kernel
theorem cd_L_hasPathOf_54 : decode cb_L_hasPathOf 54 = .ok (.getfield 22, 3) := by decide +kernel
theorem cd_L_hasPathOf_57 : decode cb_L_hasPathOf 57 = .ok (.iload 4, 2) := by decide +kernel
theorem cd_L_hasPathOf_59 : decode cb_L_hasPathOf 59 = .ok (.iaload, 1) := by decide +kernel
theorem cd_L_hasPathOf_60 : decode cb_L_hasPathOf 60 = .ok (.istore 4, 2) := by decide +kernel
theorem cd_L_hasPathOf_62 : decode cb_L_hasPathOf 62 = .ok (.aload_n 2, 1) := by decide +kernel
theorem cd_L_hasPathOf_63 : decode cb_L_hasPathOf 63 = .ok (.getfield 22, 3) := by decide +kernel
theorem cd_L_hasPathOf_66 : decode cb_L_hasPathOf 66 = .ok (.iload 5, 2) := by decide +kernel
theorem cd_L_hasPathOf_68 : decode cb_L_hasPathOf 68 = .ok (.iaload, 1) := by decide +kernel
theorem cd_L_hasPathOf_69 : decode cb_L_hasPathOf 69 = .ok (.istore 5, 2) := by decide +kernel
theorem cd_L_hasPathOf_71 : decode cb_L_hasPathOf 71 = .ok (.iinc 6 1, 3) := by decide +kernel
theorem cd_L_hasPathOf_74 : decode cb_L_hasPathOf 74 = .ok (.goto (-65), 3) := by decide +kernel
theorem cd_L_hasPathOf_77 : decode cb_L_hasPathOf 77 = .ok (.aload_n 0, 1) := by decide +kernel
theorem cd_L_hasPathOf_78 : decode cb_L_hasPathOf 78 = .ok (.iload 4, 2) := by decide +kernel
theorem cd_L_hasPathOf_80 : decode cb_L_hasPathOf 80 = .ok (.invokevirtual 56, 3) := by decide +kernel
theorem cd_L_hasPathOf_83 : decode cb_L_hasPathOf 83 = .ok (.ifCond .ne 16, 3) := by decide +kernel
theorem cd_L_hasPathOf_86 : decode cb_L_hasPathOf 86 = .ok (.aload_n 2, 1) := by decide +kernel
theorem cd_L_hasPathOf_87 : decode cb_L_hasPathOf 87 = .ok (.iload 5, 2) := by decide +kernel
theorem cd_L_hasPathOf_89 : decode cb_L_hasPathOf 89 = .ok (.invokevirtual 56, 3) := by decide +kernel
theorem cd_L_hasPathOf_92 : decode cb_L_hasPathOf 92 = .ok (.ifCond .ne 7, 3) := by decide +kernel
theorem cd_L_hasPathOf_95 : decode cb_L_hasPathOf 95 = .ok (.iconst 1, 1) := by decide +kernel
theorem cd_L_hasPathOf_96 : decode cb_L_hasPathOf 96 = .ok (.goto 4, 3) := by decide +kernel
theorem cd_L_hasPathOf_99 : decode cb_L_hasPathOf 99 = .ok (.iconst 0, 1) := by decide +kernel
theorem cd_L_hasPathOf_100 : decode cb_L_hasPathOf 100 = .ok (.ireturn, 1) := by decide +kernel
theorem cd_L_differenceBits_0 : decode cb_L_differenceBits 0 = .ok (.iconst 0, 1) := by decide +kernel
theorem cd_L_differenceBits_1 : decode cb_L_differenceBits 1 = .ok (.istore 4, 2) := by decide +kernel
theorem cd_L_differenceBits_3 : decode cb_L_differenceBits 3 = .ok (.aload_n 0, 1) := by decide +kernel
theorem cd_L_differenceBits_4 : decode cb_L_differenceBits 4 = .ok (.iload_n 1, 1) := by decide +kernel
theorem cd_L_differenceBits_5 : decode cb_L_differenceBits 5 = .ok (.aload_n 2, 1) := by decide +kernel
theorem cd_L_differenceBits_6 : decode cb_L_differenceBits 6 = .ok (.iload_n 3, 1) := by decide +kernel
theorem cd_L_differenceBits_7 : decode cb_L_differenceBits 7 = .ok (.invokevirtual 83, 3) := by decide +kernel
theorem cd_L_differenceBits_10 : decode cb_L_differenceBits 10 = .ok (.ifCond .ne 9, 3) := by decide +kernel
theorem cd_L_differenceBits_13 : decode cb_L_differenceBits 13 = .ok (.iload 4, 2) := by decide +kernel
theorem cd_L_differenceBits_15 : decode cb_L_differenceBits 15 = .ok (.iconst 1, 1) := by decide +kernel
theorem cd_L_differenceBits_16 : decode cb_L_differenceBits 16 = .ok (.ior, 1) := by decide +kernel
theorem cd_L_differenceBits_17 : decode cb_L_differenceBits 17 = .ok (.istore 4, 2) := by decide +kernel
theorem cd_L_differenceBits_19 : decode cb_L_differenceBits 19 = .ok (.aload_n 0, 1) := by decide +kernel
theorem cd_L_differenceBits_20 : decode cb_L_differenceBits 20 = .ok (.getfield 28, 3) := by decide +kernel
theorem cd_L_differenceBits_23 : decode cb_L_differenceBits 23 = .ok (.iload_n 1, 1) := by decide +kernel
theorem cd_L_differenceBits_24 : decode cb_L_differenceBits 24 = .ok (.iaload, 1) := by decide +kernel
theorem cd_L_differenceBits_25 : decode cb_L_differenceBits 25 = .ok (.aload_n 2, 1) := by decide +kernel
theorem cd_L_differenceBits_26 : decode cb_L_differenceBits 26 = .ok (.getfield 28, 3) := by decide +kernel
theorem cd_L_differenceBits_29 : decode cb_L_differenceBits 29 = .ok (.iload_n 3, 1) := by decide +kernel
theorem cd_L_differenceBits_30 : decode cb_L_differenceBits 30 = .ok (.iaload, 1) := by decide +kernel
theorem cd_L_differenceBits_31 : decode cb_L_differenceBits 31 = .ok (.if_icmp .ne 33, 3) := by decide +kernel
theorem cd_L_differenceBits_34 : decode cb_L_differenceBits 34 = .ok (.aload_n 0, 1) := by decide +kernel
theorem cd_L_differenceBits_35 : decode cb_L_differenceBits 35 = .ok (.getfield 31, 3) := by decide +kernel
theorem cd_L_differenceBits_38 : decode cb_L_differenceBits 38 = .ok (.iload_n 1, 1) := by decide +kernel
theorem cd_L_differenceBits_39 : decode cb_L_differenceBits 39 = .ok (.iaload, 1) := by decide +kernel
theorem cd_L_differenceBits_40 : decode cb_L_differenceBits 40 = .ok (.aload_n 2, 1) := by decide +kernel
theorem cd_L_differenceBits_41 : decode cb_L_differenceBits 41 = .ok (.getfield 31, 3) := by decide +kernel
theorem cd_L_differenceBits_44 : decode cb_L_differenceBits 44 = .ok (.iload_n 3, 1) := by decide +kernel
theorem cd_L_differenceBits_45 : decode cb_L_differenceBits 45 = .ok (.iaload, 1) := by decide +kernel
theorem cd_L_differenceBits_46 : decode cb_L_differenceBits 46 = .ok (.if_icmp .ne 18, 3) := by decide +kernel
theorem cd_L_differenceBits_49 : decode cb_L_differenceBits 49 = .ok (.aload_n 0, 1) := by decide +kernel
theorem cd_L_differenceBits_50 : decode cb_L_differenceBits 50 = .ok (.getfield 34, 3) := by decide +kernel
theorem cd_L_differenceBits_53 : decode cb_L_differenceBits 53 = .ok (.iload_n 1, 1) := by decide +kernel
theorem cd_L_differenceBits_54 : decode cb_L_differenceBits 54 = .ok (.iaload, 1) := by decide +kernel
theorem cd_L_differenceBits_55 : decode cb_L_differenceBits 55 = .ok (.aload_n 2, 1) := by decide +kernel
theorem cd_L_differenceBits_56 : decode cb_L_differenceBits 56 = .ok (.getfield 34, 3) := by decide +kernel
theorem cd_L_differenceBits_59 : decode cb_L_differenceBits 59 = .ok (.iload_n 3, 1) := by decide +kernel
theorem cd_L_differenceBits_60 : decode cb_L_differenceBits 60 = .ok (.iaload, 1) := by decide +kernel
theorem cd_L_differenceBits_61 : decode cb_L_differenceBits 61 = .ok (.if_icmp .eq 9, 3) := by decide +kernel
theorem cd_L_differenceBits_64 : decode cb_L_differenceBits 64 = .ok (.iload 4, 2) := by decide +kernel
theorem cd_L_differenceBits_66 : decode cb_L_differenceBits 66 = .ok (.iconst 2, 1) := by decide +kernel
theorem cd_L_differenceBits_67 : decode cb_L_differenceBits 67 = .ok (.ior, 1) := by decide +kernel
theorem cd_L_differenceBits_68 : decode cb_L_differenceBits 68 = .ok (.istore 4, 2) := by decide +kernel
theorem cd_L_differenceBits_70 : decode cb_L_differenceBits 70 = .ok (.aload_n 0, 1) := by decide +kernel
theorem cd_L_differenceBits_71 : decode cb_L_differenceBits 71 = .ok (.getfield 37, 3) := by decide +kernel
theorem cd_L_differenceBits_74 : decode cb_L_differenceBits 74 = .ok (.iload_n 1, 1) := by decide +kernel
theorem cd_L_differenceBits_75 : decode cb_L_differenceBits 75 = .ok (.iaload, 1) := by decide +kernel
theorem cd_L_differenceBits_76 : decode cb_L_differenceBits 76 = .ok (.aload_n 2, 1) := by decide +kernel
theorem cd_L_differenceBits_77 : decode cb_L_differenceBits 77 = .ok (.getfield 37, 3) := by decide +kernel
theorem cd_L_differenceBits_80 : decode cb_L_differenceBits 80 = .ok (.iload_n 3, 1) := by decide +kernel
theorem cd_L_differenceBits_81 : decode cb_L_differenceBits 81 = .ok (.iaload, 1) := by decide +kernel
theorem cd_L_differenceBits_82 : decode cb_L_differenceBits 82 = .ok (.if_icmp .ne 18, 3) := by decide +kernel
theorem cd_L_differenceBits_85 : decode cb_L_differenceBits 85 = .ok (.aload_n 0, 1) := by decide +kernel
theorem cd_L_differenceBits_86 : decode cb_L_differenceBits 86 = .ok (.getfield 40, 3) := by decide +kernel
theorem cd_L_differenceBits_89 : decode cb_L_differenceBits 89 = .ok (.iload_n 1, 1) := by decide +kernel
theorem cd_L_differenceBits_90 : decode cb_L_differenceBits 90 = .ok (.iaload, 1) := by decide +kernel
theorem cd_L_differenceBits_91 : decode cb_L_differenceBits 91 = .ok (.aload_n 2, 1) := by decide +kernel
theorem cd_L_differenceBits_92 : decode cb_L_differenceBits 92 = .ok (.getfield 40, 3) := by decide +kernel
theorem cd_L_differenceBits_95 : decode cb_L_differenceBits 95 = .ok (.iload_n 3, 1) := by decide +kernel
theorem cd_L_differenceBits_96 : decode cb_L_differenceBits 96 = .ok (.iaload, 1) := by decide +kernel
theorem cd_L_differenceBits_97 : decode cb_L_differenceBits 97 = .ok (.if_icmp .eq 9, 3) := by decide +kernel
theorem cd_L_differenceBits_100 : decode cb_L_differenceBits 100 = .ok (.iload 4, 2) := by decide +kernel
theorem cd_L_differenceBits_102 : decode cb_L_differenceBits 102 = .ok (.iconst 4, 1) := by decide +kernel
theorem cd_L_differenceBits_103 : decode cb_L_differenceBits 103 = .ok (.ior, 1) := by decide +kernel
theorem cd_L_differenceBits_104 : decode cb_L_differenceBits 104 = .ok (.istore 4, 2) := by decide +kernel
theorem cd_L_differenceBits_106 : decode cb_L_differenceBits 106 = .ok (.iload 4, 2) := by decide +kernel
theorem cd_L_differenceBits_108 : decode cb_L_differenceBits 108 = .ok (.ireturn, 1) := by decide +kernel
theorem cd_L_hasTitleOf_0 : decode cb_L_hasTitleOf 0 = .ok (.aload_n 0, 1) := by decide +kernel
theorem cd_L_hasTitleOf_1 : decode cb_L_hasTitleOf 1 = .ok (.getfield 43, 3) := by decide +kernel
theorem cd_L_hasTitleOf_4 : decode cb_L_hasTitleOf 4 = .ok (.iload_n 1, 1) := by decide +kernel
theorem cd_L_hasTitleOf_5 : decode cb_L_hasTitleOf 5 = .ok (.iaload, 1) := by decide +kernel
theorem cd_L_hasTitleOf_6 : decode cb_L_hasTitleOf 6 = .ok (.aload_n 2, 1) := by decide +kernel
theorem cd_L_hasTitleOf_7 : decode cb_L_hasTitleOf 7 = .ok (.getfield 43, 3) := by decide +kernel
theorem cd_L_hasTitleOf_10 : decode cb_L_hasTitleOf 10 = .ok (.iload_n 3, 1) := by decide +kernel
theorem cd_L_hasTitleOf_11 : decode cb_L_hasTitleOf 11 = .ok (.iaload, 1) := by decide +kernel
theorem cd_L_hasTitleOf_12 : decode cb_L_hasTitleOf 12 = .ok (.if_icmp .eq 5, 3) := by decide +kernel
theorem cd_L_hasTitleOf_15 : decode cb_L_hasTitleOf 15 = .ok (.iconst 0, 1) := by decide +kernel
theorem cd_L_hasTitleOf_16 : decode cb_L_hasTitleOf 16 = .ok (.ireturn, 1) := by decide +kernel
theorem cd_L_hasTitleOf_17 : decode cb_L_hasTitleOf 17 = .ok (.iconst 0, 1) := by decide +kernel
theorem cd_L_hasTitleOf_18 : decode cb_L_hasTitleOf 18 = .ok (.istore 4, 2) := by decide +kernel
theorem cd_L_hasTitleOf_20 : decode cb_L_hasTitleOf 20 = .ok (.iload 4, 2) := by decide +kernel
theorem cd_L_hasTitleOf_22 : decode cb_L_hasTitleOf 22 = .ok (.aload_n 0, 1) := by decide +kernel
theorem cd_L_hasTitleOf_23 : decode cb_L_hasTitleOf 23 = .ok (.getfield 43, 3) := by decide +kernel
theorem cd_L_hasTitleOf_26 : decode cb_L_hasTitleOf 26 = .ok (.iload_n 1, 1) := by decide +kernel
theorem cd_L_hasTitleOf_27 : decode cb_L_hasTitleOf 27 = .ok (.iaload, 1) := by decide +kernel
theorem cd_L_hasTitleOf_28 : decode cb_L_hasTitleOf 28 = .ok (.if_icmp .ge 28, 3) := by decide +kernel
theorem cd_L_hasTitleOf_31 : decode cb_L_hasTitleOf 31 = .ok (.aload_n 0, 1) := by decide +kernel
theorem cd_L_hasTitleOf_32 : decode cb_L_hasTitleOf 32 = .ok (.iload_n 1, 1) := by decide +kernel
theorem cd_L_hasTitleOf_33 : decode cb_L_hasTitleOf 33 = .ok (.iload 4, 2) := by decide +kernel
theorem cd_L_hasTitleOf_35 : decode cb_L_hasTitleOf 35 = .ok (.invokevirtual 86, 3) := by decide +kernel
theorem cd_L_hasTitleOf_38 : decode cb_L_hasTitleOf 38 = .ok (.aload_n 2, 1) := by decide +kernel
theorem cd_L_hasTitleOf_39 : decode cb_L_hasTitleOf 39 = .ok (.iload_n 3, 1) := by decide +kernel
theorem cd_L_hasTitleOf_40 : decode cb_L_hasTitleOf 40 = .ok (.iload 4, 2) := by decide +kernel
theorem cd_L_hasTitleOf_42 : decode cb_L_hasTitleOf 42 = .ok (.invokevirtual 86, 3) := by decide +kernel
theorem cd_L_hasTitleOf_45 : decode cb_L_hasTitleOf 45 = .ok (.if_icmp .eq 5, 3) := by decide +kernel
theorem cd_L_hasTitleOf_48 : decode cb_L_hasTitleOf 48 = .ok (.iconst 0, 1) := by decide +kernel
theorem cd_L_hasTitleOf_49 : decode cb_L_hasTitleOf 49 = .ok (.ireturn, 1) := by decide +kernel
theorem cd_L_hasTitleOf_50 : decode cb_L_hasTitleOf 50 = .ok (.iinc 4 1, 3) := by decide +kernel
theorem cd_L_hasTitleOf_53 : decode cb_L_hasTitleOf 53 = .ok (.goto (-33), 3) := by decide +kernel
theorem cd_L_hasTitleOf_56 : decode cb_L_hasTitleOf 56 = .ok (.iconst 1, 1) := by decide +kernel
theorem cd_L_hasTitleOf_57 : decode cb_L_hasTitleOf 57 = .ok (.ireturn, 1) := by decide +kernel
theorem cd_L_copyParts_0 : decode cb_L_copyParts 0 = .ok (.aload_n 0, 1) := by decide +kernel
theorem cd_L_copyParts_1 : decode cb_L_copyParts 1 = .ok (.getfield 43, 3) := by decide +kernel
theorem cd_L_copyParts_4 : decode cb_L_copyParts 4 = .ok (.iload_n 1, 1) := by decide +kernel
theorem cd_L_copyParts_5 : decode cb_L_copyParts 5 = .ok (.iconst 0, 1) := by decide +kernel
theorem cd_L_copyParts_6 : decode cb_L_copyParts 6 = .ok (.iastore, 1) := by decide +kernel
theorem cd_L_copyParts_7 : decode cb_L_copyParts 7 = .ok (.iconst 0, 1) := by decide +kernel
theorem cd_L_copyParts_8 : decode cb_L_copyParts 8 = .ok (.istore 4, 2) := by decide +kernel
theorem cd_L_copyParts_10 : decode cb_L_copyParts 10 = .ok (.iload 4, 2) := by decide +kernel
theorem cd_L_copyParts_12 : decode cb_L_copyParts 12 = .ok (.aload_n 2, 1) := by decide +kernel
theorem cd_L_copyParts_13 : decode cb_L_copyParts 13 = .ok (.getfield 43, 3) := by decide +kernel
theorem cd_L_copyParts_16 : decode cb_L_copyParts 16 = .ok (.iload_n 3, 1) := by decide +kernel
theorem cd_L_copyParts_17 : decode cb_L_copyParts 17 = .ok (.iaload, 1) := by decide +kernel
theorem cd_L_copyParts_18 : decode cb_L_copyParts 18 = .ok (.if_icmp .ge 21, 3) := by decide +kernel
theorem cd_L_copyParts_21 : decode cb_L_copyParts 21 = .ok (.aload_n 0, 1) := by decide +kernel
theorem cd_L_copyParts_22 : decode cb_L_copyParts 22 = .ok (.iload_n 1, 1) := by decide +kernel
theorem cd_L_copyParts_23 : decode cb_L_copyParts 23 = .ok (.aload_n 2, 1) := by decide +kernel
theorem cd_L_copyParts_24 : decode cb_L_copyParts 24 = .ok (.iload_n 3, 1) := by decide +kernel
theorem cd_L_copyParts_25 : decode cb_L_copyParts 25 = .ok (.iload 4, 2) := by decide +kernel
theorem cd_L_copyParts_27 : decode cb_L_copyParts 27 = .ok (.invokevirtual 86, 3) := by decide +kernel
theorem cd_L_copyParts_30 : decode cb_L_copyParts 30 = .ok (.invokevirtual 89, 3) := by decide +kernel
theorem cd_L_copyParts_33 : decode cb_L_copyParts 33 = .ok (.iinc 4 1, 3) := by decide +kernel
theorem cd_L_copyParts_36 : decode cb_L_copyParts 36 = .ok (.goto (-26), 3) := by decide +kernel
theorem cd_L_copyParts_39 : decode cb_L_copyParts 39 = .ok (.aload_n 0, 1) := by decide +kernel
theorem cd_L_copyParts_40 : decode cb_L_copyParts 40 = .ok (.getfield 28, 3) := by decide +kernel
theorem cd_L_copyParts_43 : decode cb_L_copyParts 43 = .ok (.iload_n 1, 1) := by decide +kernel
theorem cd_L_copyParts_44 : decode cb_L_copyParts 44 = .ok (.aload_n 2, 1) := by decide +kernel
theorem cd_L_copyParts_45 : decode cb_L_copyParts 45 = .ok (.getfield 28, 3) := by decide +kernel
theorem cd_L_copyParts_48 : decode cb_L_copyParts 48 = .ok (.iload_n 3, 1) := by decide +kernel
theorem cd_L_copyParts_49 : decode cb_L_copyParts 49 = .ok (.iaload, 1) := by decide +kernel
theorem cd_L_copyParts_50 : decode cb_L_copyParts 50 = .ok (.iastore, 1) := by decide +kernel
theorem cd_L_copyParts_51 : decode cb_L_copyParts 51 = .ok (.aload_n 0, 1) := by decide +kernel
theorem cd_L_copyParts_52 : decode cb_L_copyParts 52 = .ok (.getfield 31, 3) := by decide +kernel
theorem cd_L_copyParts_55 : decode cb_L_copyParts 55 = .ok (.iload_n 1, 1) := by decide +kernel
theorem cd_L_copyParts_56 : decode cb_L_copyParts 56 = .ok (.aload_n 2, 1) := by decide +kernel
theorem cd_L_copyParts_57 : decode cb_L_copyParts 57 = .ok (.getfield 31, 3) := by decide +kernel
theorem cd_L_copyParts_60 : decode cb_L_copyParts 60 = .ok (.iload_n 3, 1) := by decide +kernel
theorem cd_L_copyParts_61 : decode cb_L_copyParts 61 = .ok (.iaload, 1) := by decide +kernel
theorem cd_L_copyParts_62 : decode cb_L_copyParts 62 = .ok (.iastore, 1) := by decide +kernel
theorem cd_L_copyParts_63 : decode cb_L_copyParts 63 = .ok (.aload_n 0, 1) := by decide +kernel
theorem cd_L_copyParts_64 : decode cb_L_copyParts 64 = .ok (.getfield 34, 3) := by decide +kernel
theorem cd_L_copyParts_67 : decode cb_L_copyParts 67 = .ok (.iload_n 1, 1) := by decide +kernel
theorem cd_L_copyParts_68 : decode cb_L_copyParts 68 = .ok (.aload_n 2, 1) := by decide +kernel
theorem cd_L_copyParts_69 : decode cb_L_copyParts 69 = .ok (.getfield 34, 3) := by decide +kernel
theorem cd_L_copyParts_72 : decode cb_L_copyParts 72 = .ok (.iload_n 3, 1) := by decide +kernel
theorem cd_L_copyParts_73 : decode cb_L_copyParts 73 = .ok (.iaload, 1) := by decide +kernel
theorem cd_L_copyParts_74 : decode cb_L_copyParts 74 = .ok (.iastore, 1) := by decide +kernel
theorem cd_L_copyParts_75 : decode cb_L_copyParts 75 = .ok (.aload_n 0, 1) := by decide +kernel
theorem cd_L_copyParts_76 : decode cb_L_copyParts 76 = .ok (.getfield 37, 3) := by decide +kernel
theorem cd_L_copyParts_79 : decode cb_L_copyParts 79 = .ok (.iload_n 1, 1) := by decide +kernel
theorem cd_L_copyParts_80 : decode cb_L_copyParts 80 = .ok (.aload_n 2, 1) := by decide +kernel
theorem cd_L_copyParts_81 : decode cb_L_copyParts 81 = .ok (.getfield 37, 3) := by decide +kernel
theorem cd_L_copyParts_84 : decode cb_L_copyParts 84 = .ok (.iload_n 3, 1) := by decide +kernel
theorem cd_L_copyParts_85 : decode cb_L_copyParts 85 = .ok (.iaload, 1) := by decide +kernel
theorem cd_L_copyParts_86 : decode cb_L_copyParts 86 = .ok (.iastore, 1) := by decide +kernel
theorem cd_L_copyParts_87 : decode cb_L_copyParts 87 = .ok (.aload_n 0, 1) := by decide +kernel
theorem cd_L_copyParts_88 : decode cb_L_copyParts 88 = .ok (.getfield 40, 3) := by decide +kernel
theorem cd_L_copyParts_91 : decode cb_L_copyParts 91 = .ok (.iload_n 1, 1) := by decide +kernel
theorem cd_L_copyParts_92 : decode cb_L_copyParts 92 = .ok (.aload_n 2, 1) := by decide +kernel
theorem cd_L_copyParts_93 : decode cb_L_copyParts 93 = .ok (.getfield 40, 3) := by decide +kernel
theorem cd_L_copyParts_96 : decode cb_L_copyParts 96 = .ok (.iload_n 3, 1) := by decide +kernel
theorem cd_L_copyParts_97 : decode cb_L_copyParts 97 = .ok (.iaload, 1) := by decide +kernel
theorem cd_L_copyParts_98 : decode cb_L_copyParts 98 = .ok (.iastore, 1) := by decide +kernel
theorem cd_L_copyParts_99 : decode cb_L_copyParts 99 = .ok (.return_, 1) := by decide +kernel
