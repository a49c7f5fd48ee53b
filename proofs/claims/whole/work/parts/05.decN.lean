theorem cd_K_init_0 : decode cb_K_init 0 = .ok (.aload_n 0, 1) := by decide +kernel
theorem cd_K_init_1 : decode cb_K_init 1 = .ok (.invokespecial 3, 3) := by decide +kernel
theorem cd_K_init_4 : decode cb_K_init 4 = .ok (.aload_n 0, 1) := by decide +kernel
theorem cd_K_init_5 : decode cb_K_init 5 = .ok (.iconst 0, 1) := by decide +kernel
theorem cd_K_init_6 : decode cb_K_init 6 = .ok (.putfield 9, 3) := by decide +kernel
theorem cd_K_init_9 : decode cb_K_init 9 = .ok (.aload_n 0, 1) := by decide +kernel
theorem cd_K_init_10 : decode cb_K_init 10 = .ok (.iconst 0, 1) := by decide +kernel
theorem cd_K_init_11 : decode cb_K_init 11 = .ok (.putfield 15, 3) := by decide +kernel
theorem cd_K_init_14 : decode cb_K_init 14 = .ok (.aload_n 0, 1) := by decide +kernel
theorem cd_K_init_15 : decode cb_K_init 15 = .ok (.bipush 100, 2) := by decide +kernel
theorem cd_K_init_17 : decode cb_K_init 17 = .ok (.newarray .int, 2) := by decide +kernel
theorem cd_K_init_19 : decode cb_K_init 19 = .ok (.putfield 19, 3) := by decide +kernel
theorem cd_K_init_22 : decode cb_K_init 22 = .ok (.aload_n 0, 1) := by decide +kernel
theorem cd_K_init_23 : decode cb_K_init 23 = .ok (.bipush 100, 2) := by decide +kernel
theorem cd_K_init_25 : decode cb_K_init 25 = .ok (.newarray .int, 2) := by decide +kernel
theorem cd_K_init_27 : decode cb_K_init 27 = .ok (.putfield 23, 3) := by decide +kernel
theorem cd_K_init_30 : decode cb_K_init 30 = .ok (.aload_n 0, 1) := by decide +kernel
theorem cd_K_init_31 : decode cb_K_init 31 = .ok (.bipush 100, 2) := by decide +kernel
theorem cd_K_init_33 : decode cb_K_init 33 = .ok (.newarray .int, 2) := by decide +kernel
theorem cd_K_init_35 : decode cb_K_init 35 = .ok (.putfield 26, 3) := by decide +kernel
theorem cd_K_init_38 : decode cb_K_init 38 = .ok (.aload_n 0, 1) := by decide +kernel
theorem cd_K_init_39 : decode cb_K_init 39 = .ok (.bipush 100, 2) := by decide +kernel
theorem cd_K_init_41 : decode cb_K_init 41 = .ok (.newarray .boolean, 2) := by decide +kernel
theorem cd_K_init_43 : decode cb_K_init 43 = .ok (.putfield 29, 3) := by decide +kernel
theorem cd_K_init_46 : decode cb_K_init 46 = .ok (.return_, 1) := by decide +kernel
theorem cd_K_has_0 : decode cb_K_has 0 = .ok (.iload_n 1, 1) := by decide +kernel
theorem cd_K_has_1 : decode cb_K_has 1 = .ok (.ifCond .lt 15, 3) := by decide +kernel
theorem cd_K_has_4 : decode cb_K_has 4 = .ok (.iload_n 1, 1) := by decide +kernel
theorem cd_K_has_5 : decode cb_K_has 5 = .ok (.aload_n 0, 1) := by decide +kernel
theorem cd_K_has_6 : decode cb_K_has 6 = .ok (.getfield 9, 3) := by decide +kernel
theorem cd_K_has_9 : decode cb_K_has 9 = .ok (.if_icmp .ge 7, 3) := by decide +kernel
theorem cd_K_has_12 : decode cb_K_has 12 = .ok (.iconst 1, 1) := by decide +kernel
theorem cd_K_has_13 : decode cb_K_has 13 = .ok (.goto 4, 3) := by decide +kernel
theorem cd_K_has_16 : decode cb_K_has 16 = .ok (.iconst 0, 1) := by decide +kernel
theorem cd_K_has_17 : decode cb_K_has 17 = .ok (.ireturn, 1) := by decide +kernel
theorem cd_K_gather_0 : decode cb_K_gather 0 = .ok (.aload_n 0, 1) := by decide +kernel
theorem cd_K_gather_1 : decode cb_K_gather 1 = .ok (.iconst 0, 1) := by decide +kernel
theorem cd_K_gather_2 : decode cb_K_gather 2 = .ok (.putfield 9, 3) := by decide +kernel
theorem cd_K_gather_5 : decode cb_K_gather 5 = .ok (.aload_n 0, 1) := by decide +kernel
theorem cd_K_gather_6 : decode cb_K_gather 6 = .ok (.iconst 0, 1) := by decide +kernel
theorem cd_K_gather_7 : decode cb_K_gather 7 = .ok (.putfield 15, 3) := by decide +kernel
theorem cd_K_gather_10 : decode cb_K_gather 10 = .ok (.iconst 0, 1) := by decide +kernel
theorem cd_K_gather_11 : decode cb_K_gather 11 = .ok (.istore_n 3, 1) := by decide +kernel
theorem cd_K_gather_12 : decode cb_K_gather 12 = .ok (.iload_n 3, 1) := by decide +kernel
theorem cd_K_gather_13 : decode cb_K_gather 13 = .ok (.aload_n 2, 1) := by decide +kernel
theorem cd_K_gather_14 : decode cb_K_gather 14 = .ok (.getfield 33, 3) := by decide +kernel
theorem cd_K_gather_17 : decode cb_K_gather 17 = .ok (.if_icmp .ge 51, 3) := by decide +kernel
theorem cd_K_gather_20 : decode cb_K_gather 20 = .ok (.aload_n 1, 1) := by decide +kernel
theorem cd_K_gather_21 : decode cb_K_gather 21 = .ok (.aload_n 2, 1) := by decide +kernel
theorem cd_K_gather_22 : decode cb_K_gather 22 = .ok (.iload_n 3, 1) := by decide +kernel
theorem cd_K_gather_23 : decode cb_K_gather 23 = .ok (.invokevirtual 36, 3) := by decide +kernel
theorem cd_K_gather_26 : decode cb_K_gather 26 = .ok (.istore 4, 2) := by decide +kernel
theorem cd_K_gather_28 : decode cb_K_gather 28 = .ok (.iload 4, 2) := by decide +kernel
theorem cd_K_gather_30 : decode cb_K_gather 30 = .ok (.iconst (-1), 1) := by decide +kernel
theorem cd_K_gather_31 : decode cb_K_gather 31 = .ok (.if_icmp .ne 7, 3) := by decide +kernel
theorem cd_K_gather_34 : decode cb_K_gather 34 = .ok (.iconst 0, 1) := by decide +kernel
theorem cd_K_gather_35 : decode cb_K_gather 35 = .ok (.goto 11, 3) := by decide +kernel
theorem cd_K_gather_38 : decode cb_K_gather 38 = .ok (.aload_n 1, 1) := by decide +kernel
theorem cd_K_gather_39 : decode cb_K_gather 39 = .ok (.iload 4, 2) := by decide +kernel
theorem cd_K_gather_41 : decode cb_K_gather 41 = .ok (.aload_n 2, 1) := by decide +kernel
theorem cd_K_gather_42 : decode cb_K_gather 42 = .ok (.iload_n 3, 1) := by decide +kernel
theorem cd_K_gather_43 : decode cb_K_gather 43 = .ok (.invokevirtual 40, 3) := by decide +kernel
theorem cd_K_gather_46 : decode cb_K_gather 46 = .ok (.istore 5, 2) := by decide +kernel
theorem cd_K_gather_48 : decode cb_K_gather 48 = .ok (.iload 5, 2) := by decide +kernel
theorem cd_K_gather_50 : decode cb_K_gather 50 = .ok (.ifCond .eq 12, 3) := by decide +kernel
theorem cd_K_gather_53 : decode cb_K_gather 53 = .ok (.aload_n 0, 1) := by decide +kernel
theorem cd_K_gather_54 : decode cb_K_gather 54 = .ok (.iload 4, 2) := by decide +kernel
theorem cd_K_gather_56 : decode cb_K_gather 56 = .ok (.iload_n 3, 1) := by decide +kernel
theorem cd_K_gather_57 : decode cb_K_gather 57 = .ok (.iload 5, 2) := by decide +kernel
theorem cd_K_gather_59 : decode cb_K_gather 59 = .ok (.invokevirtual 44, 3) := by decide +kernel
theorem cd_K_gather_62 : decode cb_K_gather 62 = .ok (.iinc 3 1, 3) := by decide +kernel
theorem cd_K_gather_65 : decode cb_K_gather 65 = .ok (.goto (-53), 3) := by decide +kernel
theorem cd_K_gather_68 : decode cb_K_gather 68 = .ok (.return_, 1) := by decide +kernel
theorem cd_K_add_0 : decode cb_K_add 0 = .ok (.aload_n 0, 1) := by decide +kernel
theorem cd_K_add_1 : decode cb_K_add 1 = .ok (.getfield 9, 3) := by decide +kernel
theorem cd_K_add_4 : decode cb_K_add 4 = .ok (.bipush 100, 2) := by decide +kernel
theorem cd_K_add_6 : decode cb_K_add 6 = .ok (.if_icmp .lt 4, 3) := by decide +kernel
theorem cd_K_add_9 : decode cb_K_add 9 = .ok (.return_, 1) := by decide +kernel
theorem cd_K_add_10 : decode cb_K_add 10 = .ok (.aload_n 0, 1) := by decide +kernel
theorem cd_K_add_11 : decode cb_K_add 11 = .ok (.getfield 19, 3) := by decide +kernel
theorem cd_K_add_14 : decode cb_K_add 14 = .ok (.aload_n 0, 1) := by decide +kernel
theorem cd_K_add_15 : decode cb_K_add 15 = .ok (.getfield 9, 3) := by decide +kernel
theorem cd_K_add_18 : decode cb_K_add 18 = .ok (.iload_n 1, 1) := by decide +kernel
theorem cd_K_add_19 : decode cb_K_add 19 = .ok (.iastore, 1) := by decide +kernel
theorem cd_K_add_20 : decode cb_K_add 20 = .ok (.aload_n 0, 1) := by decide +kernel
theorem cd_K_add_21 : decode cb_K_add 21 = .ok (.getfield 23, 3) := by decide +kernel
theorem cd_K_add_24 : decode cb_K_add 24 = .ok (.aload_n 0, 1) := by decide +kernel
theorem cd_K_add_25 : decode cb_K_add 25 = .ok (.getfield 9, 3) := by decide +kernel
theorem cd_K_add_28 : decode cb_K_add 28 = .ok (.iload_n 2, 1) := by decide +kernel
theorem cd_K_add_29 : decode cb_K_add 29 = .ok (.iastore, 1) := by decide +kernel
theorem cd_K_add_30 : decode cb_K_add 30 = .ok (.aload_n 0, 1) := by decide +kernel
theorem cd_K_add_31 : decode cb_K_add 31 = .ok (.getfield 26, 3) := by decide +kernel
theorem cd_K_add_34 : decode cb_K_add 34 = .ok (.aload_n 0, 1) := by decide +kernel
theorem cd_K_add_35 : decode cb_K_add 35 = .ok (.getfield 9, 3) := by decide +kernel
theorem cd_K_add_38 : decode cb_K_add 38 = .ok (.iload_n 3, 1) := by decide +kernel
theorem cd_K_add_39 : decode cb_K_add 39 = .ok (.iastore, 1) := by decide +kernel
theorem cd_K_add_40 : decode cb_K_add 40 = .ok (.aload_n 0, 1) := by decide +kernel
theorem cd_K_add_41 : decode cb_K_add 41 = .ok (.getfield 29, 3) := by decide +kernel
theorem cd_K_add_44 : decode cb_K_add 44 = .ok (.aload_n 0, 1) := by decide +kernel
theorem cd_K_add_45 : decode cb_K_add 45 = .ok (.getfield 9, 3) := by decide +kernel
theorem cd_K_add_48 : decode cb_K_add 48 = .ok (.iconst 0, 1) := by decide +kernel
theorem cd_K_add_49 : decode cb_K_add 49 = .ok (.bastore, 1) := by decide +kernel
theorem cd_K_add_50 : decode cb_K_add 50 = .ok (.aload_n 0, 1) := by decide +kernel
theorem cd_K_add_51 : decode cb_K_add 51 = .ok (.dup, 1) := by decide +kernel
theorem cd_K_add_52 : decode cb_K_add 52 = .ok (.getfield 9, 3) := by decide +kernel
theorem cd_K_add_55 : decode cb_K_add 55 = .ok (.iconst 1, 1) := by decide +kernel
theorem cd_K_add_56 : decode cb_K_add 56 = .ok (.iadd, 1) := by decide +kernel
theorem cd_K_add_57 : decode cb_K_add 57 = .ok (.putfield 9, 3) := by decide +kernel
theorem cd_K_add_60 : decode cb_K_add 60 = .ok (.return_, 1) := by decide +kernel
theorem cd_N_init_0 : decode cb_N_init 0 = .ok (.aload_n 0, 1) := by decide +kernel
theorem cd_N_init_1 : decode cb_N_init 1 = .ok (.invokespecial 3, 3) := by decide +kernel
theorem cd_N_init_4 : decode cb_N_init 4 = .ok (.aload_n 0, 1) := by decide +kernel
theorem cd_N_init_5 : decode cb_N_init 5 = .ok (.sipush 400, 3) := by decide +kernel
theorem cd_N_init_8 : decode cb_N_init 8 = .ok (.newarray .int, 2) := by decide +kernel
theorem cd_N_init_10 : decode cb_N_init 10 = .ok (.putfield 9, 3) := by decide +kernel
theorem cd_N_init_13 : decode cb_N_init 13 = .ok (.aload_n 0, 1) := by decide +kernel
theorem cd_N_init_14 : decode cb_N_init 14 = .ok (.sipush 400, 3) := by decide +kernel
theorem cd_N_init_17 : decode cb_N_init 17 = .ok (.newarray .int, 2) := by decide +kernel
theorem cd_N_init_19 : decode cb_N_init 19 = .ok (.putfield 15, 3) := by decide +kernel
theorem cd_N_init_22 : decode cb_N_init 22 = .ok (.aload_n 0, 1) := by decide +kernel
theorem cd_N_init_23 : decode cb_N_init 23 = .ok (.sipush 500, 3) := by decide +kernel
theorem cd_N_init_26 : decode cb_N_init 26 = .ok (.newarray .int, 2) := by decide +kernel
theorem cd_N_init_28 : decode cb_N_init 28 = .ok (.putfield 18, 3) := by decide +kernel
theorem cd_N_init_31 : decode cb_N_init 31 = .ok (.aload_n 0, 1) := by decide +kernel
theorem cd_N_init_32 : decode cb_N_init 32 = .ok (.bipush 100, 2) := by decide +kernel
theorem cd_N_init_34 : decode cb_N_init 34 = .ok (.newarray .int, 2) := by decide +kernel
theorem cd_N_init_36 : decode cb_N_init 36 = .ok (.putfield 21, 3) := by decide +kernel
theorem cd_N_init_39 : decode cb_N_init 39 = .ok (.aload_n 0, 1) := by decide +kernel
theorem cd_N_init_40 : decode cb_N_init 40 = .ok (.bipush 100, 2) := by decide +kernel
theorem cd_N_init_42 : decode cb_N_init 42 = .ok (.newarray .int, 2) := by decide +kernel
theorem cd_N_init_44 : decode cb_N_init 44 = .ok (.putfield 24, 3) := by decide +kernel
theorem cd_N_init_47 : decode cb_N_init 47 = .ok (.aload_n 0, 1) := by decide +kernel
theorem cd_N_init_48 : decode cb_N_init 48 = .ok (.bipush 100, 2) := by decide +kernel
theorem cd_N_init_50 : decode cb_N_init 50 = .ok (.newarray .boolean, 2) := by decide +kernel
theorem cd_N_init_52 : decode cb_N_init 52 = .ok (.putfield 27, 3) := by decide +kernel
theorem cd_N_init_55 : decode cb_N_init 55 = .ok (.return_, 1) := by decide +kernel
theorem cd_N_forget_0 : decode cb_N_forget 0 = .ok (.aload_n 0, 1) := by decide +kernel
theorem cd_N_forget_1 : decode cb_N_forget 1 = .ok (.getfield 9, 3) := by decide +kernel
theorem cd_N_forget_4 : decode cb_N_forget 4 = .ok (.iconst 0, 1) := by decide +kernel
theorem cd_N_forget_5 : decode cb_N_forget 5 = .ok (.invokestatic 31, 3) := by decide +kernel
theorem cd_N_forget_8 : decode cb_N_forget 8 = .ok (.aload_n 0, 1) := by decide +kernel
theorem cd_N_forget_9 : decode cb_N_forget 9 = .ok (.getfield 21, 3) := by decide +kernel
theorem cd_N_forget_12 : decode cb_N_forget 12 = .ok (.iconst 0, 1) := by decide +kernel
theorem cd_N_forget_13 : decode cb_N_forget 13 = .ok (.invokestatic 31, 3) := by decide +kernel
theorem cd_N_forget_16 : decode cb_N_forget 16 = .ok (.aload_n 0, 1) := by decide +kernel
theorem cd_N_forget_17 : decode cb_N_forget 17 = .ok (.getfield 24, 3) := by decide +kernel
theorem cd_N_forget_20 : decode cb_N_forget 20 = .ok (.iconst 0, 1) := by decide +kernel
theorem cd_N_forget_21 : decode cb_N_forget 21 = .ok (.invokestatic 31, 3) := by decide +kernel
theorem cd_N_forget_24 : decode cb_N_forget 24 = .ok (.iconst 0, 1) := by decide +kernel
theorem cd_N_forget_25 : decode cb_N_forget 25 = .ok (.istore_n 1, 1) := by decide +kernel
theorem cd_N_forget_26 : decode cb_N_forget 26 = .ok (.iload_n 1, 1) := by decide +kernel
theorem cd_N_forget_27 : decode cb_N_forget 27 = .ok (.bipush 100, 2) := by decide +kernel
theorem cd_N_forget_29 : decode cb_N_forget 29 = .ok (.if_icmp .ge 16, 3) := by decide +kernel
theorem cd_N_forget_32 : decode cb_N_forget 32 = .ok (.aload_n 0, 1) := by decide +kernel
theorem cd_N_forget_33 : decode cb_N_forget 33 = .ok (.getfield 27, 3) := by decide +kernel
theorem cd_N_forget_36 : decode cb_N_forget 36 = .ok (.iload_n 1, 1) := by decide +kernel
theorem cd_N_forget_37 : decode cb_N_forget 37 = .ok (.iconst 0, 1) := by decide +kernel
theorem cd_N_forget_38 : decode cb_N_forget 38 = .ok (.bastore, 1) := by decide +kernel
theorem cd_N_forget_39 : decode cb_N_forget 39 = .ok (.iinc 1 1, 3) := by decide +kernel
theorem cd_N_forget_42 : decode cb_N_forget 42 = .ok (.goto (-16), 3) := by decide +kernel
theorem cd_N_forget_45 : decode cb_N_forget 45 = .ok (.return_, 1) := by decide +kernel
theorem cd_N_setReason_0 : decode cb_N_setReason 0 = .ok (.aload_n 0, 1) := by decide +kernel
theorem cd_N_setReason_1 : decode cb_N_setReason 1 = .ok (.getfield 9, 3) := by decide +kernel
theorem cd_N_setReason_4 : decode cb_N_setReason 4 = .ok (.iload_n 1, 1) := by decide +kernel
theorem cd_N_setReason_5 : decode cb_N_setReason 5 = .ok (.iconst 4, 1) := by decide +kernel
theorem cd_N_setReason_6 : decode cb_N_setReason 6 = .ok (.imul, 1) := by decide +kernel
theorem cd_N_setReason_7 : decode cb_N_setReason 7 = .ok (.iload_n 2, 1) := by decide +kernel
theorem cd_N_setReason_8 : decode cb_N_setReason 8 = .ok (.iadd, 1) := by decide +kernel
theorem cd_N_setReason_9 : decode cb_N_setReason 9 = .ok (.iload_n 3, 1) := by decide +kernel
theorem cd_N_setReason_10 : decode cb_N_setReason 10 = .ok (.iastore, 1) := by decide +kernel
theorem cd_N_setReason_11 : decode cb_N_setReason 11 = .ok (.return_, 1) := by decide +kernel
theorem cd_N_reasonOf_0 : decode cb_N_reasonOf 0 = .ok (.aload_n 0, 1) := by decide +kernel
theorem cd_N_reasonOf_1 : decode cb_N_reasonOf 1 = .ok (.getfield 9, 3) := by decide +kernel
theorem cd_N_reasonOf_4 : decode cb_N_reasonOf 4 = .ok (.iload_n 1, 1) := by decide +kernel
theorem cd_N_reasonOf_5 : decode cb_N_reasonOf 5 = .ok (.iconst 4, 1) := by decide +kernel
theorem cd_N_reasonOf_6 : decode cb_N_reasonOf 6 = .ok (.imul, 1) := by decide +kernel
theorem cd_N_reasonOf_7 : decode cb_N_reasonOf 7 = .ok (.iload_n 2, 1) := by decide +kernel
theorem cd_N_reasonOf_8 : decode cb_N_reasonOf 8 = .ok (.iadd, 1) := by decide +kernel
theorem cd_N_reasonOf_9 : decode cb_N_reasonOf 9 = .ok (.iaload, 1) := by decide +kernel
theorem cd_N_reasonOf_10 : decode cb_N_reasonOf 10 = .ok (.ireturn, 1) := by decide +kernel
theorem cd_N_hasHeading_0 : decode cb_N_hasHeading 0 = .ok (.iconst 0, 1) := by decide +kernel
theorem cd_N_hasHeading_1 : decode cb_N_hasHeading 1 = .ok (.istore_n 3, 1) := by decide +kernel
theorem cd_N_hasHeading_2 : decode cb_N_hasHeading 2 = .ok (.iload_n 3, 1) := by decide +kernel
theorem cd_N_hasHeading_3 : decode cb_N_hasHeading 3 = .ok (.aload_n 0, 1) := by decide +kernel
theorem cd_N_hasHeading_4 : decode cb_N_hasHeading 4 = .ok (.getfield 21, 3) := by decide +kernel
theorem cd_N_hasHeading_7 : decode cb_N_hasHeading 7 = .ok (.iload_n 1, 1) := by decide +kernel
theorem cd_N_hasHeading_8 : decode cb_N_hasHeading 8 = .ok (.iaload, 1) := by decide +kernel
theorem cd_N_hasHeading_9 : decode cb_N_hasHeading 9 = .ok (.if_icmp .ge 25, 3) := by decide +kernel
theorem cd_N_hasHeading_12 : decode cb_N_hasHeading 12 = .ok (.aload_n 0, 1) := by decide +kernel
theorem cd_N_hasHeading_13 : decode cb_N_hasHeading 13 = .ok (.getfield 15, 3) := by decide +kernel
theorem cd_N_hasHeading_16 : decode cb_N_hasHeading 16 = .ok (.iload_n 1, 1) := by decide +kernel
theorem cd_N_hasHeading_17 : decode cb_N_hasHeading 17 = .ok (.iconst 4, 1) := by decide +kernel
theorem cd_N_hasHeading_18 : decode cb_N_hasHeading 18 = .ok (.imul, 1) := by decide +kernel
theorem cd_N_hasHeading_19 : decode cb_N_hasHeading 19 = .ok (.iload_n 3, 1) := by decide +kernel
theorem cd_N_hasHeading_20 : decode cb_N_hasHeading 20 = .ok (.iadd, 1) := by decide +kernel
theorem cd_N_hasHeading_21 : decode cb_N_hasHeading 21 = .ok (.iaload, 1) := by decide +kernel
theorem cd_N_hasHeading_22 : decode cb_N_hasHeading 22 = .ok (.iload_n 2, 1) := by decide +kernel
theorem cd_N_hasHeading_23 : decode cb_N_hasHeading 23 = .ok (.if_icmp .ne 5, 3) := by decide +kernel
theorem cd_N_hasHeading_26 : decode cb_N_hasHeading 26 = .ok (.iconst 1, 1) := by decide +kernel
theorem cd_N_hasHeading_27 : decode cb_N_hasHeading 27 = .ok (.ireturn, 1) := by decide +kernel
theorem cd_N_hasHeading_28 : decode cb_N_hasHeading 28 = .ok (.iinc 3 1, 3) := by decide +kernel
theorem cd_N_hasHeading_31 : decode cb_N_hasHeading 31 = .ok (.goto (-29), 3) := by decide +kernel
theorem cd_N_hasHeading_34 : decode cb_N_hasHeading 34 = .ok (.iconst 0, 1) := by decide +kernel
theorem cd_N_hasHeading_35 : decode cb_N_hasHeading 35 = .ok (.ireturn, 1) := by decide +kernel
theorem cd_N_addHeading_0 : decode cb_N_addHeading 0 = .ok (.aload_n 0, 1) := by decide +kernel
theorem cd_N_addHeading_1 : decode cb_N_addHeading 1 = .ok (.getfield 21, 3) := by decide +kernel
theorem cd_N_addHeading_4 : decode cb_N_addHeading 4 = .ok (.iload_n 1, 1) := by decide +kernel
theorem cd_N_addHeading_5 : decode cb_N_addHeading 5 = .ok (.iaload, 1) := by decide +kernel
theorem cd_N_addHeading_6 : decode cb_N_addHeading 6 = .ok (.iconst 4, 1) := by decide +kernel
theorem cd_N_addHeading_7 : decode cb_N_addHeading 7 = .ok (.if_icmp .ge 29, 3) := by decide +kernel
theorem cd_N_addHeading_10 : decode cb_N_addHeading 10 = .ok (.aload_n 0, 1) := by decide +kernel
theorem cd_N_addHeading_11 : decode cb_N_addHeading 11 = .ok (.getfield 15, 3) := by decide +kernel
theorem cd_N_addHeading_14 : decode cb_N_addHeading 14 = .ok (.iload_n 1, 1) := by decide +kernel
theorem cd_N_addHeading_15 : decode cb_N_addHeading 15 = .ok (.iconst 4, 1) := by decide +kernel
theorem cd_N_addHeading_16 : decode cb_N_addHeading 16 = .ok (.imul, 1) := by decide +kernel
theorem cd_N_addHeading_17 : decode cb_N_addHeading 17 = .ok (.aload_n 0, 1) := by decide +kernel
theorem cd_N_addHeading_18 : decode cb_N_addHeading 18 = .ok (.getfield 21, 3) := by decide +kernel
theorem cd_N_addHeading_21 : decode cb_N_addHeading 21 = .ok (.iload_n 1, 1) := by decide +kernel
theorem cd_N_addHeading_22 : decode cb_N_addHeading 22 = .ok (.iaload, 1) := by decide +kernel
theorem cd_N_addHeading_23 : decode cb_N_addHeading 23 = .ok (.iadd, 1) := by decide +kernel
theorem cd_N_addHeading_24 : decode cb_N_addHeading 24 = .ok (.iload_n 2, 1) := by decide +kernel
theorem cd_N_addHeading_25 : decode cb_N_addHeading 25 = .ok (.iastore, 1) := by decide +kernel
theorem cd_N_addHeading_26 : decode cb_N_addHeading 26 = .ok (.aload_n 0, 1) := by decide +kernel
theorem cd_N_addHeading_27 : decode cb_N_addHeading 27 = .ok (.getfield 21, 3) := by decide +kernel
theorem cd_N_addHeading_30 : decode cb_N_addHeading 30 = .ok (.iload_n 1, 1) := by decide +kernel
theorem cd_N_addHeading_31 : decode cb_N_addHeading 31 = .ok (.dup2, 1) := by decide +kernel
theorem cd_N_addHeading_32 : decode cb_N_addHeading 32 = .ok (.iaload, 1) := by decide +kernel
theorem cd_N_addHeading_33 : decode cb_N_addHeading 33 = .ok (.iconst 1, 1) := by decide +kernel
theorem cd_N_addHeading_34 : decode cb_N_addHeading 34 = .ok (.iadd, 1) := by decide +kernel
theorem cd_N_addHeading_35 : decode cb_N_addHeading 35 = .ok (.iastore, 1) := by decide +kernel
theorem cd_N_addHeading_36 : decode cb_N_addHeading 36 = .ok (.return_, 1) := by decide +kernel
theorem cd_N_addMove_0 : decode cb_N_addMove 0 = .ok (.aload_n 0, 1) := by decide +kernel
theorem cd_N_addMove_1 : decode cb_N_addMove 1 = .ok (.getfield 24, 3) := by decide +kernel
theorem cd_N_addMove_4 : decode cb_N_addMove 4 = .ok (.iload_n 1, 1) := by decide +kernel
theorem cd_N_addMove_5 : decode cb_N_addMove 5 = .ok (.iaload, 1) := by decide +kernel
theorem cd_N_addMove_6 : decode cb_N_addMove 6 = .ok (.iconst 5, 1) := by decide +kernel
theorem cd_N_addMove_7 : decode cb_N_addMove 7 = .ok (.if_icmp .ge 29, 3) := by decide +kernel
theorem cd_N_addMove_10 : decode cb_N_addMove 10 = .ok (.aload_n 0, 1) := by decide +kernel
theorem cd_N_addMove_11 : decode cb_N_addMove 11 = .ok (.getfield 18, 3) := by decide +kernel
theorem cd_N_addMove_14 : decode cb_N_addMove 14 = .ok (.iload_n 1, 1) := by decide +kernel
theorem cd_N_addMove_15 : decode cb_N_addMove 15 = .ok (.iconst 5, 1) := by decide +kernel
theorem cd_N_addMove_16 : decode cb_N_addMove 16 = .ok (.imul, 1) := by decide +kernel
theorem cd_N_addMove_17 : decode cb_N_addMove 17 = .ok (.aload_n 0, 1) := by decide +kernel
theorem cd_N_addMove_18 : decode cb_N_addMove 18 = .ok (.getfield 24, 3) := by decide +kernel
theorem cd_N_addMove_21 : decode cb_N_addMove 21 = .ok (.iload_n 1, 1) := by decide +kernel
theorem cd_N_addMove_22 : decode cb_N_addMove 22 = .ok (.iaload, 1) := by decide +kernel
theorem cd_N_addMove_23 : decode cb_N_addMove 23 = .ok (.iadd, 1) := by decide +kernel
theorem cd_N_addMove_24 : decode cb_N_addMove 24 = .ok (.iload_n 2, 1) := by decide +kernel
theorem cd_N_addMove_25 : decode cb_N_addMove 25 = .ok (.iastore, 1) := by decide +kernel
theorem cd_N_addMove_26 : decode cb_N_addMove 26 = .ok (.aload_n 0, 1) := by decide +kernel
theorem cd_N_addMove_27 : decode cb_N_addMove 27 = .ok (.getfield 24, 3) := by decide +kernel
theorem cd_N_addMove_30 : decode cb_N_addMove 30 = .ok (.iload_n 1, 1) := by decide +kernel
theorem cd_N_addMove_31 : decode cb_N_addMove 31 = .ok (.dup2, 1) := by decide +kernel
theorem cd_N_addMove_32 : decode cb_N_addMove 32 = .ok (.iaload, 1) := by decide +kernel
theorem cd_N_addMove_33 : decode cb_N_addMove 33 = .ok (.iconst 1, 1) := by decide +kernel
theorem cd_N_addMove_34 : decode cb_N_addMove 34 = .ok (.iadd, 1) := by decide +kernel
theorem cd_N_addMove_35 : decode cb_N_addMove 35 = .ok (.iastore, 1) := by decide +kernel
theorem cd_N_addMove_36 : decode cb_N_addMove 36 = .ok (.return_, 1) := by decide +kernel
theorem cd_N_underBefore_0 : decode cb_N_underBefore 0 = .ok (.aload_n 0, 1) := by decide +kernel
theorem cd_N_underBefore_1 : decode cb_N_underBefore 1 = .ok (.getfield 18, 3) := by decide +kernel
theorem cd_N_underBefore_4 : decode cb_N_underBefore 4 = .ok (.iload_n 1, 1) := by decide +kernel
theorem cd_N_underBefore_5 : decode cb_N_underBefore 5 = .ok (.iconst 5, 1) := by decide +kernel
theorem cd_N_underBefore_6 : decode cb_N_underBefore 6 = .ok (.imul, 1) := by decide +kernel
theorem cd_N_underBefore_7 : decode cb_N_underBefore 7 = .ok (.iload_n 2, 1) := by decide +kernel
theorem cd_N_underBefore_8 : decode cb_N_underBefore 8 = .ok (.iadd, 1) := by decide +kernel
theorem cd_N_underBefore_9 : decode cb_N_underBefore 9 = .ok (.iaload, 1) := by decide +kernel
theorem cd_N_underBefore_10 : decode cb_N_underBefore 10 = .ok (.ireturn, 1) := by decide +kernel
theorem cd_P_init_0 : decode cb_P_init 0 = .ok (.aload_n 0, 1) := by decide +kernel
theorem cd_P_init_1 : decode cb_P_init 1 = .ok (.invokespecial 3, 3) := by decide +kernel
theorem cd_P_init_4 : decode cb_P_init 4 = .ok (.aload_n 0, 1) := by decide +kernel
theorem cd_P_init_5 : decode cb_P_init 5 = .ok (.sipush 5000, 3) := by decide +kernel
theorem cd_P_init_8 : decode cb_P_init 8 = .ok (.newarray .int, 2) := by decide +kernel
theorem cd_P_init_10 : decode cb_P_init 10 = .ok (.putfield 9, 3) := by decide +kernel
theorem cd_P_init_13 : decode cb_P_init 13 = .ok (.aload_n 0, 1) := by decide +kernel
theorem cd_P_init_14 : decode cb_P_init 14 = .ok (.iconst 0, 1) := by decide +kernel
theorem cd_P_init_15 : decode cb_P_init 15 = .ok (.putfield 15, 3) := by decide +kernel
theorem cd_P_init_18 : decode cb_P_init 18 = .ok (.return_, 1) := by decide +kernel
theorem cd_P_write_0 : decode cb_P_write 0 = .ok (.aload_n 0, 1) := by decide +kernel
theorem cd_P_write_1 : decode cb_P_write 1 = .ok (.iconst 0, 1) := by decide +kernel
theorem cd_P_write_2 : decode cb_P_write 2 = .ok (.putfield 15, 3) := by decide +kernel
theorem cd_P_write_5 : decode cb_P_write 5 = .ok (.aload_n 0, 1) := by decide +kernel
theorem cd_P_write_6 : decode cb_P_write 6 = .ok (.aload_n 1, 1) := by decide +kernel
theorem cd_P_write_7 : decode cb_P_write 7 = .ok (.aload_n 2, 1) := by decide +kernel
theorem cd_P_write_8 : decode cb_P_write 8 = .ok (.iconst 0, 1) := by decide +kernel
theorem cd_P_write_9 : decode cb_P_write 9 = .ok (.iconst 0, 1) := by decide +kernel
theorem cd_P_write_10 : decode cb_P_write 10 = .ok (.invokestatic 19, 3) := by decide +kernel
theorem cd_P_write_13 : decode cb_P_write 13 = .ok (.return_, 1) := by decide +kernel
theorem cd_P_writeFrom_0 : decode cb_P_writeFrom 0 = .ok (.iload 4, 2) := by decide +kernel
theorem cd_P_writeFrom_2 : decode cb_P_writeFrom 2 = .ok (.bipush 8, 2) := by decide +kernel
theorem cd_P_writeFrom_4 : decode cb_P_writeFrom 4 = .ok (.if_icmp .gt 20, 3) := by decide +kernel
theorem cd_P_writeFrom_7 : decode cb_P_writeFrom 7 = .ok (.aload_n 1, 1) := by decide +kernel
theorem cd_P_writeFrom_8 : decode cb_P_writeFrom 8 = .ok (.iload_n 3, 1) := by decide +kernel
theorem cd_P_writeFrom_9 : decode cb_P_writeFrom 9 = .ok (.invokevirtual 23, 3) := by decide +kernel
theorem cd_P_writeFrom_12 : decode cb_P_writeFrom 12 = .ok (.ifCond .eq 12, 3) := by decide +kernel
theorem cd_P_writeFrom_15 : decode cb_P_writeFrom 15 = .ok (.aload_n 2, 1) := by decide +kernel
theorem cd_P_writeFrom_16 : decode cb_P_writeFrom 16 = .ok (.getfield 29, 3) := by decide +kernel
theorem cd_P_writeFrom_19 : decode cb_P_writeFrom 19 = .ok (.iload_n 3, 1) := by decide +kernel
theorem cd_P_writeFrom_20 : decode cb_P_writeFrom 20 = .ok (.baload, 1) := by decide +kernel
theorem cd_P_writeFrom_21 : decode cb_P_writeFrom 21 = .ok (.ifCond .eq 4, 3) := by decide +kernel
theorem cd_P_writeFrom_24 : decode cb_P_writeFrom 24 = .ok (.return_, 1) := by decide +kernel
theorem cd_P_writeFrom_25 : decode cb_P_writeFrom 25 = .ok (.aload_n 0, 1) := by decide +kernel
theorem cd_P_writeFrom_26 : decode cb_P_writeFrom 26 = .ok (.aload_n 1, 1) := by decide +kernel
theorem cd_P_writeFrom_27 : decode cb_P_writeFrom 27 = .ok (.iload_n 3, 1) := by decide +kernel
theorem cd_P_writeFrom_28 : decode cb_P_writeFrom 28 = .ok (.invokevirtual 35, 3) := by decide +kernel
theorem cd_P_writeFrom_31 : decode cb_P_writeFrom 31 = .ok (.aload_n 1, 1) := by decide +kernel
theorem cd_P_writeFrom_32 : decode cb_P_writeFrom 32 = .ok (.iload_n 3, 1) := by decide +kernel
theorem cd_P_writeFrom_33 : decode cb_P_writeFrom 33 = .ok (.iconst (-1), 1) := by decide +kernel
theorem cd_P_writeFrom_34 : decode cb_P_writeFrom 34 = .ok (.invokevirtual 39, 3) := by decide +kernel
theorem cd_P_writeFrom_37 : decode cb_P_writeFrom 37 = .ok (.istore 5, 2) := by decide +kernel
theorem cd_P_writeFrom_39 : decode cb_P_writeFrom 39 = .ok (.iconst 0, 1) := by decide +kernel
theorem cd_P_writeFrom_40 : decode cb_P_writeFrom 40 = .ok (.istore 6, 2) := by decide +kernel
theorem cd_P_writeFrom_42 : decode cb_P_writeFrom 42 = .ok (.iload 6, 2) := by decide +kernel
theorem cd_P_writeFrom_44 : decode cb_P_writeFrom 44 = .ok (.aload_n 1, 1) := by decide +kernel
theorem cd_P_writeFrom_45 : decode cb_P_writeFrom 45 = .ok (.getfield 43, 3) := by decide +kernel
theorem cd_P_writeFrom_48 : decode cb_P_writeFrom 48 = .ok (.if_icmp .ge 36, 3) := by decide +kernel
theorem cd_P_writeFrom_51 : decode cb_P_writeFrom 51 = .ok (.iload 5, 2) := by decide +kernel
theorem cd_P_writeFrom_53 : decode cb_P_writeFrom 53 = .ok (.iconst (-1), 1) := by decide +kernel
theorem cd_P_writeFrom_54 : decode cb_P_writeFrom 54 = .ok (.if_icmp .eq 30, 3) := by decide +kernel
theorem cd_P_writeFrom_57 : decode cb_P_writeFrom 57 = .ok (.aload_n 0, 1) := by decide +kernel
theorem cd_P_writeFrom_58 : decode cb_P_writeFrom 58 = .ok (.aload_n 1, 1) := by decide +kernel
theorem cd_P_writeFrom_59 : decode cb_P_writeFrom 59 = .ok (.aload_n 2, 1) := by decide +kernel
theorem cd_P_writeFrom_60 : decode cb_P_writeFrom 60 = .ok (.iload 5, 2) := by decide +kernel
theorem cd_P_writeFrom_62 : decode cb_P_writeFrom 62 = .ok (.iload 4, 2) := by decide +kernel
theorem cd_P_writeFrom_64 : decode cb_P_writeFrom 64 = .ok (.iconst 1, 1) := by decide +kernel
theorem cd_P_writeFrom_65 : decode cb_P_writeFrom 65 = .ok (.iadd, 1) := by decide +kernel
theorem cd_P_writeFrom_66 : decode cb_P_writeFrom 66 = .ok (.invokestatic 19, 3) := by decide +kernel
theorem cd_P_writeFrom_69 : decode cb_P_writeFrom 69 = .ok (.aload_n 1, 1) := by decide +kernel
theorem cd_P_writeFrom_70 : decode cb_P_writeFrom 70 = .ok (.iload_n 3, 1) := by decide +kernel
theorem cd_P_writeFrom_71 : decode cb_P_writeFrom 71 = .ok (.iload 5, 2) := by decide +kernel
theorem cd_P_writeFrom_73 : decode cb_P_writeFrom 73 = .ok (.invokevirtual 39, 3) := by decide +kernel
theorem cd_P_writeFrom_76 : decode cb_P_writeFrom 76 = .ok (.istore 5, 2) := by decide +kernel
theorem cd_P_writeFrom_78 : decode cb_P_writeFrom 78 = .ok (.iinc 6 1, 3) := by decide +kernel
theorem cd_P_writeFrom_81 : decode cb_P_writeFrom 81 = .ok (.goto (-39), 3) := by decide +kernel
theorem cd_P_writeFrom_84 : decode cb_P_writeFrom 84 = .ok (.return_, 1) := by decide +kernel
theorem cd_P_writeLine_0 : decode cb_P_writeLine 0 = .ok (.iconst 0, 1) := by decide +kernel
theorem cd_P_writeLine_1 : decode cb_P_writeLine 1 = .ok (.istore_n 3, 1) := by decide +kernel
theorem cd_P_writeLine_2 : decode cb_P_writeLine 2 = .ok (.iload_n 3, 1) := by decide +kernel
theorem cd_P_writeLine_3 : decode cb_P_writeLine 3 = .ok (.aload_n 1, 1) := by decide +kernel
theorem cd_P_writeLine_4 : decode cb_P_writeLine 4 = .ok (.getfield 46, 3) := by decide +kernel
theorem cd_P_writeLine_7 : decode cb_P_writeLine 7 = .ok (.iload_n 2, 1) := by decide +kernel
theorem cd_P_writeLine_8 : decode cb_P_writeLine 8 = .ok (.iaload, 1) := by decide +kernel
theorem cd_P_writeLine_9 : decode cb_P_writeLine 9 = .ok (.if_icmp .ge 15, 3) := by decide +kernel
theorem cd_P_writeLine_12 : decode cb_P_writeLine 12 = .ok (.aload_n 0, 1) := by decide +kernel
theorem cd_P_writeLine_13 : decode cb_P_writeLine 13 = .ok (.bipush 43, 2) := by decide +kernel
theorem cd_P_writeLine_15 : decode cb_P_writeLine 15 = .ok (.invokevirtual 49, 3) := by decide +kernel
theorem cd_P_writeLine_18 : decode cb_P_writeLine 18 = .ok (.iinc 3 1, 3) := by decide +kernel
theorem cd_P_writeLine_21 : decode cb_P_writeLine 21 = .ok (.goto (-19), 3) := by decide +kernel
theorem cd_P_writeLine_24 : decode cb_P_writeLine 24 = .ok (.aload_n 0, 1) := by decide +kernel
theorem cd_P_writeLine_25 : decode cb_P_writeLine 25 = .ok (.getstatic 53, 3) := by decide +kernel
theorem cd_P_writeLine_28 : decode cb_P_writeLine 28 = .ok (.aload_n 1, 1) := by decide +kernel
theorem cd_P_writeLine_29 : decode cb_P_writeLine 29 = .ok (.getfield 57, 3) := by decide +kernel
theorem cd_P_writeLine_32 : decode cb_P_writeLine 32 = .ok (.iload_n 2, 1) := by decide +kernel
theorem cd_P_writeLine_33 : decode cb_P_writeLine 33 = .ok (.iaload, 1) := by decide +kernel
theorem cd_P_writeLine_34 : decode cb_P_writeLine 34 = .ok (.invokevirtual 60, 3) := by decide +kernel
theorem cd_P_writeLine_37 : decode cb_P_writeLine 37 = .ok (.aload_n 0, 1) := by decide +kernel
theorem cd_P_writeLine_38 : decode cb_P_writeLine 38 = .ok (.aload_n 1, 1) := by decide +kernel
theorem cd_P_writeLine_39 : decode cb_P_writeLine 39 = .ok (.getfield 64, 3) := by decide +kernel
theorem cd_P_writeLine_42 : decode cb_P_writeLine 42 = .ok (.iload_n 2, 1) := by decide +kernel
theorem cd_P_writeLine_43 : decode cb_P_writeLine 43 = .ok (.iaload, 1) := by decide +kernel
theorem cd_P_writeLine_44 : decode cb_P_writeLine 44 = .ok (.invokevirtual 67, 3) := by decide +kernel
theorem cd_P_writeLine_47 : decode cb_P_writeLine 47 = .ok (.aload_n 0, 1) := by decide +kernel
theorem cd_P_writeLine_48 : decode cb_P_writeLine 48 = .ok (.bipush 32, 2) := by decide +kernel
theorem cd_P_writeLine_50 : decode cb_P_writeLine 50 = .ok (.invokevirtual 49, 3) := by decide +kernel
theorem cd_P_writeLine_53 : decode cb_P_writeLine 53 = .ok (.iconst 0, 1) := by decide +kernel
theorem cd_P_writeLine_54 : decode cb_P_writeLine 54 = .ok (.istore_n 3, 1) := by decide +kernel
theorem cd_P_writeLine_55 : decode cb_P_writeLine 55 = .ok (.iload_n 3, 1) := by decide +kernel
theorem cd_P_writeLine_56 : decode cb_P_writeLine 56 = .ok (.aload_n 1, 1) := by decide +kernel
theorem cd_P_writeLine_57 : decode cb_P_writeLine 57 = .ok (.getfield 70, 3) := by decide +kernel
theorem cd_P_writeLine_60 : decode cb_P_writeLine 60 = .ok (.iload_n 2, 1) := by decide +kernel
theorem cd_P_writeLine_61 : decode cb_P_writeLine 61 = .ok (.iaload, 1) := by decide +kernel
theorem cd_P_writeLine_62 : decode cb_P_writeLine 62 = .ok (.if_icmp .ge 19, 3) := by decide +kernel
theorem cd_P_writeLine_65 : decode cb_P_writeLine 65 = .ok (.aload_n 0, 1) := by decide +kernel
theorem cd_P_writeLine_66 : decode cb_P_writeLine 66 = .ok (.aload_n 1, 1) := by decide +kernel
theorem cd_P_writeLine_67 : decode cb_P_writeLine 67 = .ok (.iload_n 2, 1) := by decide +kernel
theorem cd_P_writeLine_68 : decode cb_P_writeLine 68 = .ok (.iload_n 3, 1) := by decide +kernel
theorem cd_P_writeLine_69 : decode cb_P_writeLine 69 = .ok (.invokevirtual 73, 3) := by decide +kernel
theorem cd_P_writeLine_72 : decode cb_P_writeLine 72 = .ok (.invokevirtual 49, 3) := by decide +kernel
theorem cd_P_writeLine_75 : decode cb_P_writeLine 75 = .ok (.iinc 3 1, 3) := by decide +kernel
theorem cd_P_writeLine_78 : decode cb_P_writeLine 78 = .ok (.goto (-23), 3) := by decide +kernel
theorem cd_P_writeLine_81 : decode cb_P_writeLine 81 = .ok (.aload_n 1, 1) := by decide +kernel
theorem cd_P_writeLine_82 : decode cb_P_writeLine 82 = .ok (.getfield 76, 3) := by decide +kernel
theorem cd_P_writeLine_85 : decode cb_P_writeLine 85 = .ok (.iload_n 2, 1) := by decide +kernel
theorem cd_P_writeLine_86 : decode cb_P_writeLine 86 = .ok (.iaload, 1) := by decide +kernel
theorem cd_P_writeLine_87 : decode cb_P_writeLine 87 = .ok (.iconst (-1), 1) := by decide +kernel
theorem cd_P_writeLine_88 : decode cb_P_writeLine 88 = .ok (.if_icmp .eq 9, 3) := by decide +kernel
theorem cd_P_writeLine_91 : decode cb_P_writeLine 91 = .ok (.aload_n 0, 1) := by decide +kernel
theorem cd_P_writeLine_92 : decode cb_P_writeLine 92 = .ok (.aload_n 1, 1) := by decide +kernel
theorem cd_P_writeLine_93 : decode cb_P_writeLine 93 = .ok (.iload_n 2, 1) := by decide +kernel
theorem cd_P_writeLine_94 : decode cb_P_writeLine 94 = .ok (.invokevirtual 79, 3) := by decide +kernel
theorem cd_P_writeLine_97 : decode cb_P_writeLine 97 = .ok (.aload_n 1, 1) := by decide +kernel
theorem cd_P_writeLine_98 : decode cb_P_writeLine 98 = .ok (.getfield 82, 3) := by decide +kernel
theorem cd_P_writeLine_101 : decode cb_P_writeLine 101 = .ok (.iload_n 2, 1) := by decide +kernel
theorem cd_P_writeLine_102 : decode cb_P_writeLine 102 = .ok (.iaload, 1) := by decide +kernel
theorem cd_P_writeLine_103 : decode cb_P_writeLine 103 = .ok (.iconst (-1), 1) := by decide +kernel
theorem cd_P_writeLine_104 : decode cb_P_writeLine 104 = .ok (.if_icmp .eq 38, 3) := by decide +kernel
theorem cd_P_writeLine_107 : decode cb_P_writeLine 107 = .ok (.aload_n 0, 1) := by decide +kernel
theorem cd_P_writeLine_108 : decode cb_P_writeLine 108 = .ok (.bipush 32, 2) := by decide +kernel
theorem cd_P_writeLine_110 : decode cb_P_writeLine 110 = .ok (.invokevirtual 49, 3) := by decide +kernel
theorem cd_P_writeLine_113 : decode cb_P_writeLine 113 = .ok (.aload_n 0, 1) := by decide +kernel
theorem cd_P_writeLine_114 : decode cb_P_writeLine 114 = .ok (.bipush 101, 2) := by decide +kernel
theorem cd_P_writeLine_116 : decode cb_P_writeLine 116 = .ok (.invokevirtual 49, 3) := by decide +kernel
theorem cd_P_writeLine_119 : decode cb_P_writeLine 119 = .ok (.aload_n 0, 1) := by decide +kernel
theorem cd_P_writeLine_120 : decode cb_P_writeLine 120 = .ok (.aload_n 1, 1) := by decide +kernel
theorem cd_P_writeLine_121 : decode cb_P_writeLine 121 = .ok (.getfield 85, 3) := by decide +kernel
theorem cd_P_writeLine_124 : decode cb_P_writeLine 124 = .ok (.iload_n 2, 1) := by decide +kernel
theorem cd_P_writeLine_125 : decode cb_P_writeLine 125 = .ok (.iaload, 1) := by decide +kernel
theorem cd_P_writeLine_126 : decode cb_P_writeLine 126 = .ok (.invokevirtual 67, 3) := by decide +kernel
theorem cd_P_writeLine_129 : decode cb_P_writeLine 129 = .ok (.aload_n 0, 1) := by decide +kernel
theorem cd_P_writeLine_130 : decode cb_P_writeLine 130 = .ok (.getstatic 88, 3) := by decide +kernel
theorem cd_P_writeLine_133 : decode cb_P_writeLine 133 = .ok (.aload_n 1, 1) := by decide +kernel
theorem cd_P_writeLine_134 : decode cb_P_writeLine 134 = .ok (.getfield 82, 3) := by decide +kernel
theorem cd_P_writeLine_137 : decode cb_P_writeLine 137 = .ok (.iload_n 2, 1) := by decide +kernel
theorem cd_P_writeLine_138 : decode cb_P_writeLine 138 = .ok (.iaload, 1) := by decide +kernel
theorem cd_P_writeLine_139 : decode cb_P_writeLine 139 = .ok (.invokevirtual 60, 3) := by decide +kernel
theorem cd_P_writeLine_142 : decode cb_P_writeLine 142 = .ok (.aload_n 0, 1) := by decide +kernel
theorem cd_P_writeLine_143 : decode cb_P_writeLine 143 = .ok (.bipush 10, 2) := by decide +kernel
theorem cd_P_writeLine_145 : decode cb_P_writeLine 145 = .ok (.invokevirtual 49, 3) := by decide +kernel
theorem cd_P_writeLine_148 : decode cb_P_writeLine 148 = .ok (.return_, 1) := by decide +kernel
theorem cd_P_writeDate_0 : decode cb_P_writeDate 0 = .ok (.aload_n 0, 1) := by decide +kernel
theorem cd_P_writeDate_1 : decode cb_P_writeDate 1 = .ok (.bipush 32, 2) := by decide +kernel
theorem cd_P_writeDate_3 : decode cb_P_writeDate 3 = .ok (.invokevirtual 49, 3) := by decide +kernel
theorem cd_P_writeDate_6 : decode cb_P_writeDate 6 = .ok (.aload_n 0, 1) := by decide +kernel
theorem cd_P_writeDate_7 : decode cb_P_writeDate 7 = .ok (.bipush 100, 2) := by decide +kernel
theorem cd_P_writeDate_9 : decode cb_P_writeDate 9 = .ok (.invokevirtual 49, 3) := by decide +kernel
theorem cd_P_writeDate_12 : decode cb_P_writeDate 12 = .ok (.aload_n 0, 1) := by decide +kernel
theorem cd_P_writeDate_13 : decode cb_P_writeDate 13 = .ok (.aload_n 1, 1) := by decide +kernel
theorem cd_P_writeDate_14 : decode cb_P_writeDate 14 = .ok (.getfield 76, 3) := by decide +kernel
theorem cd_P_writeDate_17 : decode cb_P_writeDate 17 = .ok (.iload_n 2, 1) := by decide +kernel
theorem cd_P_writeDate_18 : decode cb_P_writeDate 18 = .ok (.iaload, 1) := by decide +kernel
theorem cd_P_writeDate_19 : decode cb_P_writeDate 19 = .ok (.invokevirtual 67, 3) := by decide +kernel
theorem cd_P_writeDate_22 : decode cb_P_writeDate 22 = .ok (.aload_n 1, 1) := by decide +kernel
theorem cd_P_writeDate_23 : decode cb_P_writeDate 23 = .ok (.getfield 91, 3) := by decide +kernel
theorem cd_P_writeDate_26 : decode cb_P_writeDate 26 = .ok (.iload_n 2, 1) := by decide +kernel
theorem cd_P_writeDate_27 : decode cb_P_writeDate 27 = .ok (.iaload, 1) := by decide +kernel
theorem cd_P_writeDate_28 : decode cb_P_writeDate 28 = .ok (.aload_n 1, 1) := by decide +kernel
theorem cd_P_writeDate_29 : decode cb_P_writeDate 29 = .ok (.getfield 76, 3) := by decide +kernel
theorem cd_P_writeDate_32 : decode cb_P_writeDate 32 = .ok (.iload_n 2, 1) := by decide +kernel
theorem cd_P_writeDate_33 : decode cb_P_writeDate 33 = .ok (.iaload, 1) := by decide +kernel
theorem cd_P_writeDate_34 : decode cb_P_writeDate 34 = .ok (.if_icmp .eq 19, 3) := by decide +kernel
theorem cd_P_writeDate_37 : decode cb_P_writeDate 37 = .ok (.aload_n 0, 1) := by decide +kernel
theorem cd_P_writeDate_38 : decode cb_P_writeDate 38 = .ok (.bipush 45, 2) := by decide +kernel
theorem cd_P_writeDate_40 : decode cb_P_writeDate 40 = .ok (.invokevirtual 49, 3) := by decide +kernel
theorem cd_P_writeDate_43 : decode cb_P_writeDate 43 = .ok (.aload_n 0, 1) := by decide +kernel
theorem cd_P_writeDate_44 : decode cb_P_writeDate 44 = .ok (.aload_n 1, 1) := by decide +kernel
theorem cd_P_writeDate_45 : decode cb_P_writeDate 45 = .ok (.getfield 91, 3) := by decide +kernel
theorem cd_P_writeDate_48 : decode cb_P_writeDate 48 = .ok (.iload_n 2, 1) := by decide +kernel
theorem cd_P_writeDate_49 : decode cb_P_writeDate 49 = .ok (.iaload, 1) := by decide +kernel
theorem cd_P_writeDate_50 : decode cb_P_writeDate 50 = .ok (.invokevirtual 67, 3) := by decide +kernel
theorem cd_P_writeDate_53 : decode cb_P_writeDate 53 = .ok (.aload_n 1, 1) := by decide +kernel
theorem cd_P_writeDate_54 : decode cb_P_writeDate 54 = .ok (.getfield 94, 3) := by decide +kernel
theorem cd_P_writeDate_57 : decode cb_P_writeDate 57 = .ok (.iload_n 2, 1) := by decide +kernel
theorem cd_P_writeDate_58 : decode cb_P_writeDate 58 = .ok (.iaload, 1) := by decide +kernel
theorem cd_P_writeDate_59 : decode cb_P_writeDate 59 = .ok (.iconst 1, 1) := by decide +kernel
theorem cd_P_writeDate_60 : decode cb_P_writeDate 60 = .ok (.if_icmp .ne 9, 3) := by decide +kernel
theorem cd_P_writeDate_63 : decode cb_P_writeDate 63 = .ok (.aload_n 0, 1) := by decide +kernel
theorem cd_P_writeDate_64 : decode cb_P_writeDate 64 = .ok (.bipush 63, 2) := by decide +kernel
theorem cd_P_writeDate_66 : decode cb_P_writeDate 66 = .ok (.invokevirtual 49, 3) := by decide +kernel
theorem cd_P_writeDate_69 : decode cb_P_writeDate 69 = .ok (.return_, 1) := by decide +kernel
theorem cd_P_putNumber_0 : decode cb_P_putNumber 0 = .ok (.sipush 1000, 3) := by decide +kernel
theorem cd_P_putNumber_3 : decode cb_P_putNumber 3 = .ok (.istore_n 2, 1) := by decide +kernel
theorem cd_P_putNumber_4 : decode cb_P_putNumber 4 = .ok (.iload_n 2, 1) := by decide +kernel
theorem cd_P_putNumber_5 : decode cb_P_putNumber 5 = .ok (.iconst 1, 1) := by decide +kernel
theorem cd_P_putNumber_6 : decode cb_P_putNumber 6 = .ok (.if_icmp .lt 29, 3) := by decide +kernel
theorem cd_P_putNumber_9 : decode cb_P_putNumber 9 = .ok (.iload_n 1, 1) := by decide +kernel
theorem cd_P_putNumber_10 : decode cb_P_putNumber 10 = .ok (.iload_n 2, 1) := by decide +kernel
theorem cd_P_putNumber_11 : decode cb_P_putNumber 11 = .ok (.if_icmp .lt 16, 3) := by decide +kernel
theorem cd_P_putNumber_14 : decode cb_P_putNumber 14 = .ok (.aload_n 0, 1) := by decide +kernel
theorem cd_P_putNumber_15 : decode cb_P_putNumber 15 = .ok (.bipush 48, 2) := by decide +kernel
theorem cd_P_putNumber_17 : decode cb_P_putNumber 17 = .ok (.iload_n 1, 1) := by decide +kernel
theorem cd_P_putNumber_18 : decode cb_P_putNumber 18 = .ok (.iload_n 2, 1) := by decide +kernel
theorem cd_P_putNumber_19 : decode cb_P_putNumber 19 = .ok (.idiv, 1) := by decide +kernel
theorem cd_P_putNumber_20 : decode cb_P_putNumber 20 = .ok (.bipush 10, 2) := by decide +kernel
theorem cd_P_putNumber_22 : decode cb_P_putNumber 22 = .ok (.irem, 1) := by decide +kernel
theorem cd_P_putNumber_23 : decode cb_P_putNumber 23 = .ok (.iadd, 1) := by decide +kernel
theorem cd_P_putNumber_24 : decode cb_P_putNumber 24 = .ok (.invokevirtual 49, 3) := by decide +kernel
theorem cd_P_putNumber_27 : decode cb_P_putNumber 27 = .ok (.iload_n 2, 1) := by decide +kernel
theorem cd_P_putNumber_28 : decode cb_P_putNumber 28 = .ok (.bipush 10, 2) := by decide +kernel
theorem cd_P_putNumber_30 : decode cb_P_putNumber 30 = .ok (.idiv, 1) := by decide +kernel
theorem cd_P_putNumber_31 : decode cb_P_putNumber 31 = .ok (.istore_n 2, 1) := by decide +kernel
theorem cd_P_putNumber_32 : decode cb_P_putNumber 32 = .ok (.goto (-28), 3) := by decide +kernel
theorem cd_P_putNumber_35 : decode cb_P_putNumber 35 = .ok (.return_, 1) := by decide +kernel
theorem cd_P_putOneOf_0 : decode cb_P_putOneOf 0 = .ok (.iload_n 2, 1) := by decide +kernel
theorem cd_P_putOneOf_1 : decode cb_P_putOneOf 1 = .ok (.ifCond .lt 16, 3) := by decide +kernel
theorem cd_P_putOneOf_4 : decode cb_P_putOneOf 4 = .ok (.iload_n 2, 1) := by decide +kernel
theorem cd_P_putOneOf_5 : decode cb_P_putOneOf 5 = .ok (.aload_n 1, 1) := by decide +kernel
theorem cd_P_putOneOf_6 : decode cb_P_putOneOf 6 = .ok (.arraylength, 1) := by decide +kernel
theorem cd_P_putOneOf_7 : decode cb_P_putOneOf 7 = .ok (.if_icmp .ge 10, 3) := by decide +kernel
theorem cd_P_putOneOf_10 : decode cb_P_putOneOf 10 = .ok (.aload_n 0, 1) := by decide +kernel
theorem cd_P_putOneOf_11 : decode cb_P_putOneOf 11 = .ok (.aload_n 1, 1) := by decide +kernel
theorem cd_P_putOneOf_12 : decode cb_P_putOneOf 12 = .ok (.iload_n 2, 1) := by decide +kernel
theorem cd_P_putOneOf_13 : decode cb_P_putOneOf 13 = .ok (.caload, 1) := by decide +kernel
theorem cd_P_putOneOf_14 : decode cb_P_putOneOf 14 = .ok (.invokevirtual 49, 3) := by decide +kernel
theorem cd_P_putOneOf_17 : decode cb_P_putOneOf 17 = .ok (.return_, 1) := by decide +kernel
theorem cd_P_put_0 : decode cb_P_put 0 = .ok (.aload_n 0, 1) := by decide +kernel
theorem cd_P_put_1 : decode cb_P_put 1 = .ok (.getfield 15, 3) := by decide +kernel
theorem cd_P_put_4 : decode cb_P_put 4 = .ok (.aload_n 0, 1) := by decide +kernel
theorem cd_P_put_5 : decode cb_P_put 5 = .ok (.getfield 9, 3) := by decide +kernel
theorem cd_P_put_8 : decode cb_P_put 8 = .ok (.arraylength, 1) := by decide +kernel
theorem cd_P_put_9 : decode cb_P_put 9 = .ok (.if_icmp .ge 23, 3) := by decide +kernel
theorem cd_P_put_12 : decode cb_P_put 12 = .ok (.aload_n 0, 1) := by decide +kernel
theorem cd_P_put_13 : decode cb_P_put 13 = .ok (.getfield 9, 3) := by decide +kernel
theorem cd_P_put_16 : decode cb_P_put 16 = .ok (.aload_n 0, 1) := by decide +kernel
theorem cd_P_put_17 : decode cb_P_put 17 = .ok (.getfield 15, 3) := by decide +kernel
theorem cd_P_put_20 : decode cb_P_put 20 = .ok (.iload_n 1, 1) := by decide +kernel
theorem cd_P_put_21 : decode cb_P_put 21 = .ok (.iastore, 1) := by decide +kernel
theorem cd_P_put_22 : decode cb_P_put 22 = .ok (.aload_n 0, 1) := by decide +kernel
theorem cd_P_put_23 : decode cb_P_put 23 = .ok (.dup, 1) := by decide +kernel
theorem cd_P_put_24 : decode cb_P_put 24 = .ok (.getfield 15, 3) := by decide +kernel
theorem cd_P_put_27 : decode cb_P_put 27 = .ok (.iconst 1, 1) := by decide +kernel
theorem cd_P_put_28 : decode cb_P_put 28 = .ok (.iadd, 1) := by decide +kernel
theorem cd_P_put_29 : decode cb_P_put 29 = .ok (.putfield 15, 3) := by decide +kernel
theorem cd_P_put_32 : decode cb_P_put 32 = .ok (.return_, 1) := by decide +kernel
theorem cd_S_init_0 : decode cb_S_init 0 = .ok (.aload_n 0, 1) := by decide +kernel
theorem cd_S_init_1 : decode cb_S_init 1 = .ok (.invokespecial 3, 3) := by decide +kernel
theorem cd_S_init_4 : decode cb_S_init 4 = .ok (.aload_n 0, 1) := by decide +kernel
theorem cd_S_init_5 : decode cb_S_init 5 = .ok (.sipush 300, 3) := by decide +kernel
theorem cd_S_init_8 : decode cb_S_init 8 = .ok (.newarray .int, 2) := by decide +kernel
theorem cd_S_init_10 : decode cb_S_init 10 = .ok (.putfield 9, 3) := by decide +kernel
theorem cd_S_init_13 : decode cb_S_init 13 = .ok (.aload_n 0, 1) := by decide +kernel
theorem cd_S_init_14 : decode cb_S_init 14 = .ok (.sipush 300, 3) := by decide +kernel
theorem cd_S_init_17 : decode cb_S_init 17 = .ok (.newarray .int, 2) := by decide +kernel
theorem cd_S_init_19 : decode cb_S_init 19 = .ok (.putfield 15, 3) := by decide +kernel
theorem cd_S_init_22 : decode cb_S_init 22 = .ok (.return_, 1) := by decide +kernel
theorem cd_S_weigh_0 : decode cb_S_weigh 0 = .ok (.aload_n 0, 1) := by decide +kernel
theorem cd_S_weigh_1 : decode cb_S_weigh 1 = .ok (.getfield 15, 3) := by decide +kernel
theorem cd_S_weigh_4 : decode cb_S_weigh 4 = .ok (.iconst 0, 1) := by decide +kernel
theorem cd_S_weigh_5 : decode cb_S_weigh 5 = .ok (.invokestatic 18, 3) := by decide +kernel
theorem cd_S_weigh_8 : decode cb_S_weigh 8 = .ok (.bipush 8, 2) := by decide +kernel
theorem cd_S_weigh_10 : decode cb_S_weigh 10 = .ok (.istore_n 2, 1) := by decide +kernel
theorem cd_S_weigh_11 : decode cb_S_weigh 11 = .ok (.iload_n 2, 1) := by decide +kernel
theorem cd_S_weigh_12 : decode cb_S_weigh 12 = .ok (.ifCond .lt 41, 3) := by decide +kernel
theorem cd_S_weigh_15 : decode cb_S_weigh 15 = .ok (.iconst 0, 1) := by decide +kernel
theorem cd_S_weigh_16 : decode cb_S_weigh 16 = .ok (.istore_n 3, 1) := by decide +kernel
theorem cd_S_weigh_17 : decode cb_S_weigh 17 = .ok (.iload_n 3, 1) := by decide +kernel
theorem cd_S_weigh_18 : decode cb_S_weigh 18 = .ok (.aload_n 1, 1) := by decide +kernel
theorem cd_S_weigh_19 : decode cb_S_weigh 19 = .ok (.getfield 24, 3) := by decide +kernel
theorem cd_S_weigh_22 : decode cb_S_weigh 22 = .ok (.if_icmp .ge 25, 3) := by decide +kernel
theorem cd_S_weigh_25 : decode cb_S_weigh 25 = .ok (.aload_n 1, 1) := by decide +kernel
theorem cd_S_weigh_26 : decode cb_S_weigh 26 = .ok (.getfield 30, 3) := by decide +kernel
theorem cd_S_weigh_29 : decode cb_S_weigh 29 = .ok (.iload_n 3, 1) := by decide +kernel
theorem cd_S_weigh_30 : decode cb_S_weigh 30 = .ok (.iaload, 1) := by decide +kernel
theorem cd_S_weigh_31 : decode cb_S_weigh 31 = .ok (.iload_n 2, 1) := by decide +kernel
theorem cd_S_weigh_32 : decode cb_S_weigh 32 = .ok (.if_icmp .ne 9, 3) := by decide +kernel
theorem cd_S_weigh_35 : decode cb_S_weigh 35 = .ok (.aload_n 0, 1) := by decide +kernel
theorem cd_S_weigh_36 : decode cb_S_weigh 36 = .ok (.aload_n 1, 1) := by decide +kernel
theorem cd_S_weigh_37 : decode cb_S_weigh 37 = .ok (.iload_n 3, 1) := by decide +kernel
theorem cd_S_weigh_38 : decode cb_S_weigh 38 = .ok (.invokevirtual 33, 3) := by decide +kernel
theorem cd_S_weigh_41 : decode cb_S_weigh 41 = .ok (.iinc 3 1, 3) := by decide +kernel
theorem cd_S_weigh_44 : decode cb_S_weigh 44 = .ok (.goto (-27), 3) := by decide +kernel
theorem cd_S_weigh_47 : decode cb_S_weigh 47 = .ok (.iinc 2 (-1), 3) := by decide +kernel
theorem cd_S_weigh_50 : decode cb_S_weigh 50 = .ok (.goto (-39), 3) := by decide +kernel
theorem cd_S_weigh_53 : decode cb_S_weigh 53 = .ok (.return_, 1) := by decide +kernel
theorem cd_S_weighOne_0 : decode cb_S_weighOne 0 = .ok (.aload_n 1, 1) := by decide +kernel
theorem cd_S_weighOne_1 : decode cb_S_weighOne 1 = .ok (.getfield 37, 3) := by decide +kernel
theorem cd_S_weighOne_4 : decode cb_S_weighOne 4 = .ok (.iload_n 2, 1) := by decide +kernel
theorem cd_S_weighOne_5 : decode cb_S_weighOne 5 = .ok (.iaload, 1) := by decide +kernel
theorem cd_S_weighOne_6 : decode cb_S_weighOne 6 = .ok (.istore_n 3, 1) := by decide +kernel
theorem cd_S_weighOne_7 : decode cb_S_weighOne 7 = .ok (.iconst 0, 1) := by decide +kernel
theorem cd_S_weighOne_8 : decode cb_S_weighOne 8 = .ok (.istore 4, 2) := by decide +kernel
theorem cd_S_weighOne_10 : decode cb_S_weighOne 10 = .ok (.iload 4, 2) := by decide +kernel
theorem cd_S_weighOne_12 : decode cb_S_weighOne 12 = .ok (.iconst 3, 1) := by decide +kernel
theorem cd_S_weighOne_13 : decode cb_S_weighOne 13 = .ok (.if_icmp .ge 83, 3) := by decide +kernel
theorem cd_S_weighOne_16 : decode cb_S_weighOne 16 = .ok (.iload 4, 2) := by decide +kernel
theorem cd_S_weighOne_18 : decode cb_S_weighOne 18 = .ok (.bipush 100, 2) := by decide +kernel
theorem cd_S_weighOne_20 : decode cb_S_weighOne 20 = .ok (.imul, 1) := by decide +kernel
theorem cd_S_weighOne_21 : decode cb_S_weighOne 21 = .ok (.istore 5, 2) := by decide +kernel
theorem cd_S_weighOne_23 : decode cb_S_weighOne 23 = .ok (.aload_n 0, 1) := by decide +kernel
theorem cd_S_weighOne_24 : decode cb_S_weighOne 24 = .ok (.getfield 9, 3) := by decide +kernel
theorem cd_S_weighOne_27 : decode cb_S_weighOne 27 = .ok (.iload 5, 2) := by decide +kernel
theorem cd_S_weighOne_29 : decode cb_S_weighOne 29 = .ok (.iload_n 2, 1) := by decide +kernel
theorem cd_S_weighOne_30 : decode cb_S_weighOne 30 = .ok (.iadd, 1) := by decide +kernel
theorem cd_S_weighOne_31 : decode cb_S_weighOne 31 = .ok (.aload_n 1, 1) := by decide +kernel
theorem cd_S_weighOne_32 : decode cb_S_weighOne 32 = .ok (.getfield 40, 3) := by decide +kernel
theorem cd_S_weighOne_35 : decode cb_S_weighOne 35 = .ok (.iload_n 2, 1) := by decide +kernel
theorem cd_S_weighOne_36 : decode cb_S_weighOne 36 = .ok (.iaload, 1) := by decide +kernel
theorem cd_S_weighOne_37 : decode cb_S_weighOne 37 = .ok (.iload 4, 2) := by decide +kernel
theorem cd_S_weighOne_39 : decode cb_S_weighOne 39 = .ok (.if_icmp .ne 12, 3) := by decide +kernel
theorem cd_S_weighOne_42 : decode cb_S_weighOne 42 = .ok (.aload_n 1, 1) := by decide +kernel
theorem cd_S_weighOne_43 : decode cb_S_weighOne 43 = .ok (.getfield 43, 3) := by decide +kernel
theorem cd_S_weighOne_46 : decode cb_S_weighOne 46 = .ok (.iload_n 2, 1) := by decide +kernel
theorem cd_S_weighOne_47 : decode cb_S_weighOne 47 = .ok (.iaload, 1) := by decide +kernel
theorem cd_S_weighOne_48 : decode cb_S_weighOne 48 = .ok (.goto 12, 3) := by decide +kernel
theorem cd_S_weighOne_51 : decode cb_S_weighOne 51 = .ok (.aload_n 0, 1) := by decide +kernel
theorem cd_S_weighOne_52 : decode cb_S_weighOne 52 = .ok (.getfield 15, 3) := by decide +kernel
theorem cd_S_weighOne_55 : decode cb_S_weighOne 55 = .ok (.iload 5, 2) := by decide +kernel
theorem cd_S_weighOne_57 : decode cb_S_weighOne 57 = .ok (.iload_n 2, 1) := by decide +kernel
theorem cd_S_weighOne_58 : decode cb_S_weighOne 58 = .ok (.iadd, 1) := by decide +kernel
theorem cd_S_weighOne_59 : decode cb_S_weighOne 59 = .ok (.iaload, 1) := by decide +kernel
theorem cd_S_weighOne_60 : decode cb_S_weighOne 60 = .ok (.iastore, 1) := by decide +kernel
theorem cd_S_weighOne_61 : decode cb_S_weighOne 61 = .ok (.aload_n 1, 1) := by decide +kernel
theorem cd_S_weighOne_62 : decode cb_S_weighOne 62 = .ok (.iload_n 3, 1) := by decide +kernel
theorem cd_S_weighOne_63 : decode cb_S_weighOne 63 = .ok (.invokevirtual 46, 3) := by decide +kernel
theorem cd_S_weighOne_66 : decode cb_S_weighOne 66 = .ok (.ifCond .eq 24, 3) := by decide +kernel
theorem cd_S_weighOne_69 : decode cb_S_weighOne 69 = .ok (.aload_n 0, 1) := by decide +kernel
theorem cd_S_weighOne_70 : decode cb_S_weighOne 70 = .ok (.getfield 15, 3) := by decide +kernel
theorem cd_S_weighOne_73 : decode cb_S_weighOne 73 = .ok (.iload 5, 2) := by decide +kernel
theorem cd_S_weighOne_75 : decode cb_S_weighOne 75 = .ok (.iload_n 3, 1) := by decide +kernel
theorem cd_S_weighOne_76 : decode cb_S_weighOne 76 = .ok (.iadd, 1) := by decide +kernel
theorem cd_S_weighOne_77 : decode cb_S_weighOne 77 = .ok (.dup2, 1) := by decide +kernel
theorem cd_S_weighOne_78 : decode cb_S_weighOne 78 = .ok (.iaload, 1) := by decide +kernel
theorem cd_S_weighOne_79 : decode cb_S_weighOne 79 = .ok (.aload_n 0, 1) := by decide +kernel
theorem cd_S_weighOne_80 : decode cb_S_weighOne 80 = .ok (.getfield 9, 3) := by decide +kernel
theorem cd_S_weighOne_83 : decode cb_S_weighOne 83 = .ok (.iload 5, 2) := by decide +kernel
theorem cd_S_weighOne_85 : decode cb_S_weighOne 85 = .ok (.iload_n 2, 1) := by decide +kernel
theorem cd_S_weighOne_86 : decode cb_S_weighOne 86 = .ok (.iadd, 1) := by decide +kernel
theorem cd_S_weighOne_87 : decode cb_S_weighOne 87 = .ok (.iaload, 1) := by decide +kernel
theorem cd_S_weighOne_88 : decode cb_S_weighOne 88 = .ok (.iadd, 1) := by decide +kernel
theorem cd_S_weighOne_89 : decode cb_S_weighOne 89 = .ok (.iastore, 1) := by decide +kernel
theorem cd_S_weighOne_90 : decode cb_S_weighOne 90 = .ok (.iinc 4 1, 3) := by decide +kernel
theorem cd_S_weighOne_93 : decode cb_S_weighOne 93 = .ok (.goto (-83), 3) := by decide +kernel
theorem cd_S_weighOne_96 : decode cb_S_weighOne 96 = .ok (.return_, 1) := by decide +kernel
theorem cd_S_wholeOf_0 : decode cb_S_wholeOf 0 = .ok (.aload_n 0, 1) := by decide +kernel
theorem cd_S_wholeOf_1 : decode cb_S_wholeOf 1 = .ok (.getfield 9, 3) := by decide +kernel
theorem cd_S_wholeOf_4 : decode cb_S_wholeOf 4 = .ok (.iload_n 2, 1) := by decide +kernel
theorem cd_S_wholeOf_5 : decode cb_S_wholeOf 5 = .ok (.bipush 100, 2) := by decide +kernel
theorem cd_S_wholeOf_7 : decode cb_S_wholeOf 7 = .ok (.imul, 1) := by decide +kernel
theorem cd_S_wholeOf_8 : decode cb_S_wholeOf 8 = .ok (.iload_n 1, 1) := by decide +kernel
theorem cd_S_wholeOf_9 : decode cb_S_wholeOf 9 = .ok (.iadd, 1) := by decide +kernel
theorem cd_S_wholeOf_10 : decode cb_S_wholeOf 10 = .ok (.iaload, 1) := by decide +kernel
theorem cd_S_wholeOf_11 : decode cb_S_wholeOf 11 = .ok (.ireturn, 1) := by decide +kernel
theorem cd_S_contradicts_0 : decode cb_S_contradicts 0 = .ok (.aload_n 1, 1) := by decide +kernel
theorem cd_S_contradicts_1 : decode cb_S_contradicts 1 = .ok (.getfield 40, 3) := by decide +kernel
theorem cd_S_contradicts_4 : decode cb_S_contradicts 4 = .ok (.iload_n 2, 1) := by decide +kernel
theorem cd_S_contradicts_5 : decode cb_S_contradicts 5 = .ok (.iaload, 1) := by decide +kernel
theorem cd_S_contradicts_6 : decode cb_S_contradicts 6 = .ok (.istore_n 3, 1) := by decide +kernel
theorem cd_S_contradicts_7 : decode cb_S_contradicts 7 = .ok (.iload_n 3, 1) := by decide +kernel
theorem cd_S_contradicts_8 : decode cb_S_contradicts 8 = .ok (.iconst (-1), 1) := by decide +kernel
theorem cd_S_contradicts_9 : decode cb_S_contradicts 9 = .ok (.if_icmp .ne 5, 3) := by decide +kernel
theorem cd_S_contradicts_12 : decode cb_S_contradicts 12 = .ok (.iconst 0, 1) := by decide +kernel
theorem cd_S_contradicts_13 : decode cb_S_contradicts 13 = .ok (.ireturn, 1) := by decide +kernel
theorem cd_S_contradicts_14 : decode cb_S_contradicts 14 = .ok (.aload_n 0, 1) := by decide +kernel
theorem cd_S_contradicts_15 : decode cb_S_contradicts 15 = .ok (.getfield 15, 3) := by decide +kernel
theorem cd_S_contradicts_18 : decode cb_S_contradicts 18 = .ok (.iload_n 3, 1) := by decide +kernel
theorem cd_S_contradicts_19 : decode cb_S_contradicts 19 = .ok (.bipush 100, 2) := by decide +kernel
theorem cd_S_contradicts_21 : decode cb_S_contradicts 21 = .ok (.imul, 1) := by decide +kernel
theorem cd_S_contradicts_22 : decode cb_S_contradicts 22 = .ok (.iload_n 2, 1) := by decide +kernel
theorem cd_S_contradicts_23 : decode cb_S_contradicts 23 = .ok (.iadd, 1) := by decide +kernel
theorem cd_S_contradicts_24 : decode cb_S_contradicts 24 = .ok (.iaload, 1) := by decide +kernel
theorem cd_S_contradicts_25 : decode cb_S_contradicts 25 = .ok (.istore 4, 2) := by decide +kernel
theorem cd_S_contradicts_27 : decode cb_S_contradicts 27 = .ok (.iload 4, 2) := by decide +kernel
theorem cd_S_contradicts_29 : decode cb_S_contradicts 29 = .ok (.ifCond .eq 18, 3) := by decide +kernel
theorem cd_S_contradicts_32 : decode cb_S_contradicts 32 = .ok (.iload 4, 2) := by decide +kernel
theorem cd_S_contradicts_34 : decode cb_S_contradicts 34 = .ok (.aload_n 1, 1) := by decide +kernel
theorem cd_S_contradicts_35 : decode cb_S_contradicts 35 = .ok (.getfield 43, 3) := by decide +kernel
theorem cd_S_contradicts_38 : decode cb_S_contradicts 38 = .ok (.iload_n 2, 1) := by decide +kernel
theorem cd_S_contradicts_39 : decode cb_S_contradicts 39 = .ok (.iaload, 1) := by decide +kernel
theorem cd_S_contradicts_40 : decode cb_S_contradicts 40 = .ok (.if_icmp .eq 7, 3) := by decide +kernel
theorem cd_S_contradicts_43 : decode cb_S_contradicts 43 = .ok (.iconst 1, 1) := by decide +kernel
theorem cd_S_contradicts_44 : decode cb_S_contradicts 44 = .ok (.goto 4, 3) := by decide +kernel
theorem cd_S_contradicts_47 : decode cb_S_contradicts 47 = .ok (.iconst 0, 1) := by decide +kernel
theorem cd_S_contradicts_48 : decode cb_S_contradicts 48 = .ok (.ireturn, 1) := by decide +kernel
theorem cd_JA_fill_0 : decode cb_JA_fill 0 = .ok (.iconst 0, 1) := by decide +kernel
theorem cd_JA_fill_1 : decode cb_JA_fill 1 = .ok (.istore_n 2, 1) := by decide +kernel
theorem cd_JA_fill_2 : decode cb_JA_fill 2 = .ok (.aload_n 0, 1) := by decide +kernel
theorem cd_JA_fill_3 : decode cb_JA_fill 3 = .ok (.arraylength, 1) := by decide +kernel
theorem cd_JA_fill_4 : decode cb_JA_fill 4 = .ok (.istore_n 3, 1) := by decide +kernel
theorem cd_JA_fill_5 : decode cb_JA_fill 5 = .ok (.iload_n 2, 1) := by decide +kernel
theorem cd_JA_fill_6 : decode cb_JA_fill 6 = .ok (.iload_n 3, 1) := by decide +kernel
theorem cd_JA_fill_7 : decode cb_JA_fill 7 = .ok (.if_icmp .ge 13, 3) := by decide +kernel
theorem cd_JA_fill_10 : decode cb_JA_fill 10 = .ok (.aload_n 0, 1) := by decide +kernel
theorem cd_JA_fill_11 : decode cb_JA_fill 11 = .ok (.iload_n 2, 1) := by decide +kernel
theorem cd_JA_fill_12 : decode cb_JA_fill 12 = .ok (.iload_n 1, 1) := by decide +kernel
theorem cd_JA_fill_13 : decode cb_JA_fill 13 = .ok (.iastore, 1) := by decide +kernel
theorem cd_JA_fill_14 : decode cb_JA_fill 14 = .ok (.iinc 2 1, 3) := by decide +kernel
theorem cd_JA_fill_17 : decode cb_JA_fill 17 = .ok (.goto (-12), 3) := by decide +kernel
theorem cd_JA_fill_20 : decode cb_JA_fill 20 = .ok (.return_, 1) := by decide +kernel
