theorem cd_M_init_0 : decode cb_M_init 0 = .ok (.aload_n 0, 1) := by decide +kernel
theorem cd_M_init_1 : decode cb_M_init 1 = .ok (.invokespecial 1, 3) := by decide +kernel
theorem cd_M_init_4 : decode cb_M_init 4 = .ok (.aload_n 0, 1) := by decide +kernel
theorem cd_M_init_5 : decode cb_M_init 5 = .ok (.sipush 3000, 3) := by decide +kernel
theorem cd_M_init_8 : decode cb_M_init 8 = .ok (.newarray .byte, 2) := by decide +kernel
theorem cd_M_init_10 : decode cb_M_init 10 = .ok (.putfield 7, 3) := by decide +kernel
theorem cd_M_init_13 : decode cb_M_init 13 = .ok (.aload_n 0, 1) := by decide +kernel
theorem cd_M_init_14 : decode cb_M_init 14 = .ok (.iconst (-1), 1) := by decide +kernel
theorem cd_M_init_15 : decode cb_M_init 15 = .ok (.putfield 13, 3) := by decide +kernel
theorem cd_M_init_18 : decode cb_M_init 18 = .ok (.aload_n 0, 1) := by decide +kernel
theorem cd_M_init_19 : decode cb_M_init 19 = .ok (.sipush 300, 3) := by decide +kernel
theorem cd_M_init_22 : decode cb_M_init 22 = .ok (.newarray .int, 2) := by decide +kernel
theorem cd_M_init_24 : decode cb_M_init 24 = .ok (.putfield 17, 3) := by decide +kernel
theorem cd_M_init_27 : decode cb_M_init 27 = .ok (.aload_n 0, 1) := by decide +kernel
theorem cd_M_init_28 : decode cb_M_init 28 = .ok (.sipush 300, 3) := by decide +kernel
theorem cd_M_init_31 : decode cb_M_init 31 = .ok (.newarray .int, 2) := by decide +kernel
theorem cd_M_init_33 : decode cb_M_init 33 = .ok (.putfield 21, 3) := by decide +kernel
theorem cd_M_init_36 : decode cb_M_init 36 = .ok (.aload_n 0, 1) := by decide +kernel
theorem cd_M_init_37 : decode cb_M_init 37 = .ok (.sipush 300, 3) := by decide +kernel
theorem cd_M_init_40 : decode cb_M_init 40 = .ok (.newarray .int, 2) := by decide +kernel
theorem cd_M_init_42 : decode cb_M_init 42 = .ok (.putfield 24, 3) := by decide +kernel
theorem cd_M_init_45 : decode cb_M_init 45 = .ok (.aload_n 0, 1) := by decide +kernel
theorem cd_M_init_46 : decode cb_M_init 46 = .ok (.sipush 300, 3) := by decide +kernel
theorem cd_M_init_49 : decode cb_M_init 49 = .ok (.newarray .int, 2) := by decide +kernel
theorem cd_M_init_51 : decode cb_M_init 51 = .ok (.putfield 27, 3) := by decide +kernel
theorem cd_M_init_54 : decode cb_M_init 54 = .ok (.aload_n 0, 1) := by decide +kernel
theorem cd_M_init_55 : decode cb_M_init 55 = .ok (.sipush 300, 3) := by decide +kernel
theorem cd_M_init_58 : decode cb_M_init 58 = .ok (.newarray .int, 2) := by decide +kernel
theorem cd_M_init_60 : decode cb_M_init 60 = .ok (.putfield 30, 3) := by decide +kernel
theorem cd_M_init_63 : decode cb_M_init 63 = .ok (.aload_n 0, 1) := by decide +kernel
theorem cd_M_init_64 : decode cb_M_init 64 = .ok (.sipush 300, 3) := by decide +kernel
theorem cd_M_init_67 : decode cb_M_init 67 = .ok (.newarray .int, 2) := by decide +kernel
theorem cd_M_init_69 : decode cb_M_init 69 = .ok (.putfield 33, 3) := by decide +kernel
theorem cd_M_init_72 : decode cb_M_init 72 = .ok (.aload_n 0, 1) := by decide +kernel
theorem cd_M_init_73 : decode cb_M_init 73 = .ok (.sipush 300, 3) := by decide +kernel
theorem cd_M_init_76 : decode cb_M_init 76 = .ok (.newarray .int, 2) := by decide +kernel
theorem cd_M_init_78 : decode cb_M_init 78 = .ok (.putfield 36, 3) := by decide +kernel
theorem cd_M_init_81 : decode cb_M_init 81 = .ok (.aload_n 0, 1) := by decide +kernel
theorem cd_M_init_82 : decode cb_M_init 82 = .ok (.sipush 300, 3) := by decide +kernel
theorem cd_M_init_85 : decode cb_M_init 85 = .ok (.newarray .int, 2) := by decide +kernel
theorem cd_M_init_87 : decode cb_M_init 87 = .ok (.putfield 39, 3) := by decide +kernel
theorem cd_M_init_90 : decode cb_M_init 90 = .ok (.aload_n 0, 1) := by decide +kernel
theorem cd_M_init_91 : decode cb_M_init 91 = .ok (.sipush 300, 3) := by decide +kernel
theorem cd_M_init_94 : decode cb_M_init 94 = .ok (.newarray .int, 2) := by decide +kernel
theorem cd_M_init_96 : decode cb_M_init 96 = .ok (.putfield 42, 3) := by decide +kernel
theorem cd_M_init_99 : decode cb_M_init 99 = .ok (.aload_n 0, 1) := by decide +kernel
theorem cd_M_init_100 : decode cb_M_init 100 = .ok (.sipush 4800, 3) := by decide +kernel
theorem cd_M_init_103 : decode cb_M_init 103 = .ok (.newarray .byte, 2) := by decide +kernel
theorem cd_M_init_105 : decode cb_M_init 105 = .ok (.putfield 45, 3) := by decide +kernel
theorem cd_M_init_108 : decode cb_M_init 108 = .ok (.aload_n 0, 1) := by decide +kernel
theorem cd_M_init_109 : decode cb_M_init 109 = .ok (.sipush 400, 3) := by decide +kernel
theorem cd_M_init_112 : decode cb_M_init 112 = .ok (.newarray .int, 2) := by decide +kernel
theorem cd_M_init_114 : decode cb_M_init 114 = .ok (.putfield 48, 3) := by decide +kernel
theorem cd_M_init_117 : decode cb_M_init 117 = .ok (.aload_n 0, 1) := by decide +kernel
theorem cd_M_init_118 : decode cb_M_init 118 = .ok (.sipush 400, 3) := by decide +kernel
theorem cd_M_init_121 : decode cb_M_init 121 = .ok (.newarray .int, 2) := by decide +kernel
theorem cd_M_init_123 : decode cb_M_init 123 = .ok (.putfield 51, 3) := by decide +kernel
theorem cd_M_init_126 : decode cb_M_init 126 = .ok (.aload_n 0, 1) := by decide +kernel
theorem cd_M_init_127 : decode cb_M_init 127 = .ok (.bipush 100, 2) := by decide +kernel
theorem cd_M_init_129 : decode cb_M_init 129 = .ok (.newarray .int, 2) := by decide +kernel
theorem cd_M_init_131 : decode cb_M_init 131 = .ok (.putfield 54, 3) := by decide +kernel
theorem cd_M_init_134 : decode cb_M_init 134 = .ok (.aload_n 0, 1) := by decide +kernel
theorem cd_M_init_135 : decode cb_M_init 135 = .ok (.sipush 500, 3) := by decide +kernel
theorem cd_M_init_138 : decode cb_M_init 138 = .ok (.newarray .int, 2) := by decide +kernel
theorem cd_M_init_140 : decode cb_M_init 140 = .ok (.putfield 57, 3) := by decide +kernel
theorem cd_M_init_143 : decode cb_M_init 143 = .ok (.aload_n 0, 1) := by decide +kernel
theorem cd_M_init_144 : decode cb_M_init 144 = .ok (.bipush 100, 2) := by decide +kernel
theorem cd_M_init_146 : decode cb_M_init 146 = .ok (.newarray .int, 2) := by decide +kernel
theorem cd_M_init_148 : decode cb_M_init 148 = .ok (.putfield 60, 3) := by decide +kernel
theorem cd_M_init_151 : decode cb_M_init 151 = .ok (.aload_n 0, 1) := by decide +kernel
theorem cd_M_init_152 : decode cb_M_init 152 = .ok (.bipush 100, 2) := by decide +kernel
theorem cd_M_init_154 : decode cb_M_init 154 = .ok (.newarray .boolean, 2) := by decide +kernel
theorem cd_M_init_156 : decode cb_M_init 156 = .ok (.putfield 63, 3) := by decide +kernel
theorem cd_M_init_159 : decode cb_M_init 159 = .ok (.aload_n 0, 1) := by decide +kernel
theorem cd_M_init_160 : decode cb_M_init 160 = .ok (.bipush 100, 2) := by decide +kernel
theorem cd_M_init_162 : decode cb_M_init 162 = .ok (.newarray .int, 2) := by decide +kernel
theorem cd_M_init_164 : decode cb_M_init 164 = .ok (.putfield 67, 3) := by decide +kernel
theorem cd_M_init_167 : decode cb_M_init 167 = .ok (.aload_n 0, 1) := by decide +kernel
theorem cd_M_init_168 : decode cb_M_init 168 = .ok (.bipush 100, 2) := by decide +kernel
theorem cd_M_init_170 : decode cb_M_init 170 = .ok (.newarray .int, 2) := by decide +kernel
theorem cd_M_init_172 : decode cb_M_init 172 = .ok (.putfield 70, 3) := by decide +kernel
theorem cd_M_init_175 : decode cb_M_init 175 = .ok (.aload_n 0, 1) := by decide +kernel
theorem cd_M_init_176 : decode cb_M_init 176 = .ok (.bipush 100, 2) := by decide +kernel
theorem cd_M_init_178 : decode cb_M_init 178 = .ok (.newarray .boolean, 2) := by decide +kernel
theorem cd_M_init_180 : decode cb_M_init 180 = .ok (.putfield 73, 3) := by decide +kernel
theorem cd_M_init_183 : decode cb_M_init 183 = .ok (.aload_n 0, 1) := by decide +kernel
theorem cd_M_init_184 : decode cb_M_init 184 = .ok (.sipush 6000, 3) := by decide +kernel
theorem cd_M_init_187 : decode cb_M_init 187 = .ok (.newarray .byte, 2) := by decide +kernel
theorem cd_M_init_189 : decode cb_M_init 189 = .ok (.putfield 76, 3) := by decide +kernel
theorem cd_M_init_192 : decode cb_M_init 192 = .ok (.return_, 1) := by decide +kernel
theorem cd_M_thrown_0 : decode cb_M_thrown 0 = .ok (.aload_n 0, 1) := by decide +kernel
theorem cd_M_thrown_1 : decode cb_M_thrown 1 = .ok (.getfield 79, 3) := by decide +kernel
theorem cd_M_thrown_4 : decode cb_M_thrown 4 = .ok (.ireturn, 1) := by decide +kernel
theorem cd_M_in_0 : decode cb_M_in 0 = .ok (.iload_n 0, 1) := by decide +kernel
theorem cd_M_in_1 : decode cb_M_in 1 = .ok (.iload_n 1, 1) := by decide +kernel
theorem cd_M_in_2 : decode cb_M_in 2 = .ok (.if_icmp .lt 12, 3) := by decide +kernel
theorem cd_M_in_5 : decode cb_M_in 5 = .ok (.iload_n 0, 1) := by decide +kernel
theorem cd_M_in_6 : decode cb_M_in 6 = .ok (.iload_n 2, 1) := by decide +kernel
theorem cd_M_in_7 : decode cb_M_in 7 = .ok (.if_icmp .gt 7, 3) := by decide +kernel
theorem cd_M_in_10 : decode cb_M_in 10 = .ok (.iconst 1, 1) := by decide +kernel
theorem cd_M_in_11 : decode cb_M_in 11 = .ok (.goto 4, 3) := by decide +kernel
theorem cd_M_in_14 : decode cb_M_in 14 = .ok (.iconst 0, 1) := by decide +kernel
theorem cd_M_in_15 : decode cb_M_in 15 = .ok (.ireturn, 1) := by decide +kernel
theorem cd_M_isLevel_0 : decode cb_M_isLevel 0 = .ok (.iload_n 1, 1) := by decide +kernel
theorem cd_M_isLevel_1 : decode cb_M_isLevel 1 = .ok (.iconst 0, 1) := by decide +kernel
theorem cd_M_isLevel_2 : decode cb_M_isLevel 2 = .ok (.aload_n 0, 1) := by decide +kernel
theorem cd_M_isLevel_3 : decode cb_M_isLevel 3 = .ok (.getfield 82, 3) := by decide +kernel
theorem cd_M_isLevel_6 : decode cb_M_isLevel 6 = .ok (.iconst 1, 1) := by decide +kernel
theorem cd_M_isLevel_7 : decode cb_M_isLevel 7 = .ok (.isub, 1) := by decide +kernel
theorem cd_M_isLevel_8 : decode cb_M_isLevel 8 = .ok (.invokestatic 85, 3) := by decide +kernel
theorem cd_M_isLevel_11 : decode cb_M_isLevel 11 = .ok (.ireturn, 1) := by decide +kernel
theorem cd_M_sign_0 : decode cb_M_sign 0 = .ok (.aload_n 0, 1) := by decide +kernel
theorem cd_M_sign_1 : decode cb_M_sign 1 = .ok (.iconst 0, 1) := by decide +kernel
theorem cd_M_sign_2 : decode cb_M_sign 2 = .ok (.putfield 79, 3) := by decide +kernel
theorem cd_M_sign_5 : decode cb_M_sign 5 = .ok (.aload_n 0, 1) := by decide +kernel
theorem cd_M_sign_6 : decode cb_M_sign 6 = .ok (.getfield 89, 3) := by decide +kernel
theorem cd_M_sign_9 : decode cb_M_sign 9 = .ok (.sipush 3000, 3) := by decide +kernel
theorem cd_M_sign_12 : decode cb_M_sign 12 = .ok (.if_icmp .ne 4, 3) := by decide +kernel
theorem cd_M_sign_15 : decode cb_M_sign 15 = .ok (.return_, 1) := by decide +kernel
theorem cd_M_sign_16 : decode cb_M_sign 16 = .ok (.aload_n 0, 1) := by decide +kernel
theorem cd_M_sign_17 : decode cb_M_sign 17 = .ok (.getfield 7, 3) := by decide +kernel
theorem cd_M_sign_20 : decode cb_M_sign 20 = .ok (.aload_n 0, 1) := by decide +kernel
theorem cd_M_sign_21 : decode cb_M_sign 21 = .ok (.getfield 89, 3) := by decide +kernel
theorem cd_M_sign_24 : decode cb_M_sign 24 = .ok (.iload_n 1, 1) := by decide +kernel
theorem cd_M_sign_25 : decode cb_M_sign 25 = .ok (.i2b, 1) := by decide +kernel
theorem cd_M_sign_26 : decode cb_M_sign 26 = .ok (.bastore, 1) := by decide +kernel
theorem cd_M_sign_27 : decode cb_M_sign 27 = .ok (.aload_n 0, 1) := by decide +kernel
theorem cd_M_sign_28 : decode cb_M_sign 28 = .ok (.dup, 1) := by decide +kernel
theorem cd_M_sign_29 : decode cb_M_sign 29 = .ok (.getfield 89, 3) := by decide +kernel
theorem cd_M_sign_32 : decode cb_M_sign 32 = .ok (.iconst 1, 1) := by decide +kernel
theorem cd_M_sign_33 : decode cb_M_sign 33 = .ok (.iadd, 1) := by decide +kernel
theorem cd_M_sign_34 : decode cb_M_sign 34 = .ok (.putfield 89, 3) := by decide +kernel
theorem cd_M_sign_37 : decode cb_M_sign 37 = .ok (.return_, 1) := by decide +kernel
theorem cd_M_look_0 : decode cb_M_look 0 = .ok (.aload_n 0, 1) := by decide +kernel
theorem cd_M_look_1 : decode cb_M_look 1 = .ok (.getfield 92, 3) := by decide +kernel
theorem cd_M_look_4 : decode cb_M_look 4 = .ok (.aload_n 0, 1) := by decide +kernel
theorem cd_M_look_5 : decode cb_M_look 5 = .ok (.getfield 89, 3) := by decide +kernel
theorem cd_M_look_8 : decode cb_M_look 8 = .ok (.if_icmp .ge 19, 3) := by decide +kernel
theorem cd_M_look_11 : decode cb_M_look 11 = .ok (.aload_n 0, 1) := by decide +kernel
theorem cd_M_look_12 : decode cb_M_look 12 = .ok (.getfield 7, 3) := by decide +kernel
theorem cd_M_look_15 : decode cb_M_look 15 = .ok (.aload_n 0, 1) := by decide +kernel
theorem cd_M_look_16 : decode cb_M_look 16 = .ok (.getfield 92, 3) := by decide +kernel
theorem cd_M_look_19 : decode cb_M_look 19 = .ok (.baload, 1) := by decide +kernel
theorem cd_M_look_20 : decode cb_M_look 20 = .ok (.sipush 255, 3) := by decide +kernel
theorem cd_M_look_23 : decode cb_M_look 23 = .ok (.iand, 1) := by decide +kernel
theorem cd_M_look_24 : decode cb_M_look 24 = .ok (.goto 4, 3) := by decide +kernel
theorem cd_M_look_27 : decode cb_M_look 27 = .ok (.iconst (-1), 1) := by decide +kernel
theorem cd_M_look_28 : decode cb_M_look 28 = .ok (.ireturn, 1) := by decide +kernel
theorem cd_M_isDigit_0 : decode cb_M_isDigit 0 = .ok (.aload_n 0, 1) := by decide +kernel
theorem cd_M_isDigit_1 : decode cb_M_isDigit 1 = .ok (.invokevirtual 95, 3) := by decide +kernel
theorem cd_M_isDigit_4 : decode cb_M_isDigit 4 = .ok (.bipush 48, 2) := by decide +kernel
theorem cd_M_isDigit_6 : decode cb_M_isDigit 6 = .ok (.bipush 57, 2) := by decide +kernel
theorem cd_M_isDigit_8 : decode cb_M_isDigit 8 = .ok (.invokestatic 85, 3) := by decide +kernel
theorem cd_M_isDigit_11 : decode cb_M_isDigit 11 = .ok (.ireturn, 1) := by decide +kernel
theorem cd_M_eat_0 : decode cb_M_eat 0 = .ok (.aload_n 0, 1) := by decide +kernel
theorem cd_M_eat_1 : decode cb_M_eat 1 = .ok (.invokevirtual 95, 3) := by decide +kernel
theorem cd_M_eat_4 : decode cb_M_eat 4 = .ok (.iload_n 1, 1) := by decide +kernel
theorem cd_M_eat_5 : decode cb_M_eat 5 = .ok (.if_icmp .eq 5, 3) := by decide +kernel
theorem cd_M_eat_8 : decode cb_M_eat 8 = .ok (.iconst 0, 1) := by decide +kernel
theorem cd_M_eat_9 : decode cb_M_eat 9 = .ok (.ireturn, 1) := by decide +kernel
theorem cd_M_eat_10 : decode cb_M_eat 10 = .ok (.aload_n 0, 1) := by decide +kernel
theorem cd_M_eat_11 : decode cb_M_eat 11 = .ok (.dup, 1) := by decide +kernel
theorem cd_M_eat_12 : decode cb_M_eat 12 = .ok (.getfield 92, 3) := by decide +kernel
theorem cd_M_eat_15 : decode cb_M_eat 15 = .ok (.iconst 1, 1) := by decide +kernel
theorem cd_M_eat_16 : decode cb_M_eat 16 = .ok (.iadd, 1) := by decide +kernel
theorem cd_M_eat_17 : decode cb_M_eat 17 = .ok (.putfield 92, 3) := by decide +kernel
theorem cd_M_eat_20 : decode cb_M_eat 20 = .ok (.iconst 1, 1) := by decide +kernel
theorem cd_M_eat_21 : decode cb_M_eat 21 = .ok (.ireturn, 1) := by decide +kernel
theorem cd_M_number_0 : decode cb_M_number 0 = .ok (.aload_n 0, 1) := by decide +kernel
theorem cd_M_number_1 : decode cb_M_number 1 = .ok (.invokevirtual 99, 3) := by decide +kernel
theorem cd_M_number_4 : decode cb_M_number 4 = .ok (.ifCond .eq 12, 3) := by decide +kernel
theorem cd_M_number_7 : decode cb_M_number 7 = .ok (.aload_n 0, 1) := by decide +kernel
theorem cd_M_number_8 : decode cb_M_number 8 = .ok (.invokevirtual 95, 3) := by decide +kernel
theorem cd_M_number_11 : decode cb_M_number 11 = .ok (.bipush 48, 2) := by decide +kernel
theorem cd_M_number_13 : decode cb_M_number 13 = .ok (.if_icmp .ne 5, 3) := by decide +kernel
theorem cd_M_number_16 : decode cb_M_number 16 = .ok (.iconst 0, 1) := by decide +kernel
theorem cd_M_number_17 : decode cb_M_number 17 = .ok (.ireturn, 1) := by decide +kernel
theorem cd_M_number_18 : decode cb_M_number 18 = .ok (.iconst 0, 1) := by decide +kernel
theorem cd_M_number_19 : decode cb_M_number 19 = .ok (.istore_n 3, 1) := by decide +kernel
theorem cd_M_number_20 : decode cb_M_number 20 = .ok (.iconst 0, 1) := by decide +kernel
theorem cd_M_number_21 : decode cb_M_number 21 = .ok (.istore 4, 2) := by decide +kernel
theorem cd_M_number_23 : decode cb_M_number 23 = .ok (.aload_n 0, 1) := by decide +kernel
theorem cd_M_number_24 : decode cb_M_number 24 = .ok (.invokevirtual 99, 3) := by decide +kernel
theorem cd_M_number_27 : decode cb_M_number 27 = .ok (.ifCond .eq 40, 3) := by decide +kernel
theorem cd_M_number_30 : decode cb_M_number 30 = .ok (.iload 4, 2) := by decide +kernel
theorem cd_M_number_32 : decode cb_M_number 32 = .ok (.iconst 4, 1) := by decide +kernel
theorem cd_M_number_33 : decode cb_M_number 33 = .ok (.if_icmp .ne 5, 3) := by decide +kernel
theorem cd_M_number_36 : decode cb_M_number 36 = .ok (.iconst 0, 1) := by decide +kernel
theorem cd_M_number_37 : decode cb_M_number 37 = .ok (.ireturn, 1) := by decide +kernel
theorem cd_M_number_38 : decode cb_M_number 38 = .ok (.bipush 10, 2) := by decide +kernel
theorem cd_M_number_40 : decode cb_M_number 40 = .ok (.iload_n 3, 1) := by decide +kernel
theorem cd_M_number_41 : decode cb_M_number 41 = .ok (.imul, 1) := by decide +kernel
theorem cd_M_number_42 : decode cb_M_number 42 = .ok (.aload_n 0, 1) := by decide +kernel
theorem cd_M_number_43 : decode cb_M_number 43 = .ok (.invokevirtual 95, 3) := by decide +kernel
theorem cd_M_number_46 : decode cb_M_number 46 = .ok (.iadd, 1) := by decide +kernel
theorem cd_M_number_47 : decode cb_M_number 47 = .ok (.bipush 48, 2) := by decide +kernel
theorem cd_M_number_49 : decode cb_M_number 49 = .ok (.isub, 1) := by decide +kernel
theorem cd_M_number_50 : decode cb_M_number 50 = .ok (.istore_n 3, 1) := by decide +kernel
theorem cd_M_number_51 : decode cb_M_number 51 = .ok (.iinc 4 1, 3) := by decide +kernel
theorem cd_M_number_54 : decode cb_M_number 54 = .ok (.aload_n 0, 1) := by decide +kernel
theorem cd_M_number_55 : decode cb_M_number 55 = .ok (.dup, 1) := by decide +kernel
theorem cd_M_number_56 : decode cb_M_number 56 = .ok (.getfield 92, 3) := by decide +kernel
theorem cd_M_number_59 : decode cb_M_number 59 = .ok (.iconst 1, 1) := by decide +kernel
theorem cd_M_number_60 : decode cb_M_number 60 = .ok (.iadd, 1) := by decide +kernel
theorem cd_M_number_61 : decode cb_M_number 61 = .ok (.putfield 92, 3) := by decide +kernel
theorem cd_M_number_64 : decode cb_M_number 64 = .ok (.goto (-41), 3) := by decide +kernel
theorem cd_M_number_67 : decode cb_M_number 67 = .ok (.aload_n 1, 1) := by decide +kernel
theorem cd_M_number_68 : decode cb_M_number 68 = .ok (.iload_n 2, 1) := by decide +kernel
theorem cd_M_number_69 : decode cb_M_number 69 = .ok (.iload_n 3, 1) := by decide +kernel
theorem cd_M_number_70 : decode cb_M_number 70 = .ok (.iastore, 1) := by decide +kernel
theorem cd_M_number_71 : decode cb_M_number 71 = .ok (.iconst 1, 1) := by decide +kernel
theorem cd_M_number_72 : decode cb_M_number 72 = .ok (.ireturn, 1) := by decide +kernel
theorem cd_M_year_0 : decode cb_M_year 0 = .ok (.aload_n 0, 1) := by decide +kernel
theorem cd_M_year_1 : decode cb_M_year 1 = .ok (.getfield 92, 3) := by decide +kernel
theorem cd_M_year_4 : decode cb_M_year 4 = .ok (.istore 4, 2) := by decide +kernel
theorem cd_M_year_6 : decode cb_M_year 6 = .ok (.iconst 0, 1) := by decide +kernel
theorem cd_M_year_7 : decode cb_M_year 7 = .ok (.istore 5, 2) := by decide +kernel
theorem cd_M_year_9 : decode cb_M_year 9 = .ok (.iconst 0, 1) := by decide +kernel
theorem cd_M_year_10 : decode cb_M_year 10 = .ok (.istore 6, 2) := by decide +kernel
theorem cd_M_year_12 : decode cb_M_year 12 = .ok (.iload 6, 2) := by decide +kernel
theorem cd_M_year_14 : decode cb_M_year 14 = .ok (.iconst 4, 1) := by decide +kernel
theorem cd_M_year_15 : decode cb_M_year 15 = .ok (.if_icmp .ge 43, 3) := by decide +kernel
theorem cd_M_year_18 : decode cb_M_year 18 = .ok (.aload_n 0, 1) := by decide +kernel
theorem cd_M_year_19 : decode cb_M_year 19 = .ok (.invokevirtual 99, 3) := by decide +kernel
theorem cd_M_year_22 : decode cb_M_year 22 = .ok (.ifCond .ne 5, 3) := by decide +kernel
theorem cd_M_year_25 : decode cb_M_year 25 = .ok (.iconst 0, 1) := by decide +kernel
theorem cd_M_year_26 : decode cb_M_year 26 = .ok (.ireturn, 1) := by decide +kernel
theorem cd_M_year_27 : decode cb_M_year 27 = .ok (.bipush 10, 2) := by decide +kernel
theorem cd_M_year_29 : decode cb_M_year 29 = .ok (.iload 5, 2) := by decide +kernel
theorem cd_M_year_31 : decode cb_M_year 31 = .ok (.imul, 1) := by decide +kernel
theorem cd_M_year_32 : decode cb_M_year 32 = .ok (.aload_n 0, 1) := by decide +kernel
theorem cd_M_year_33 : decode cb_M_year 33 = .ok (.invokevirtual 95, 3) := by decide +kernel
theorem cd_M_year_36 : decode cb_M_year 36 = .ok (.iadd, 1) := by decide +kernel
theorem cd_M_year_37 : decode cb_M_year 37 = .ok (.bipush 48, 2) := by decide +kernel
theorem cd_M_year_39 : decode cb_M_year 39 = .ok (.isub, 1) := by decide +kernel
theorem cd_M_year_40 : decode cb_M_year 40 = .ok (.istore 5, 2) := by decide +kernel
theorem cd_M_year_42 : decode cb_M_year 42 = .ok (.aload_n 0, 1) := by decide +kernel
theorem cd_M_year_43 : decode cb_M_year 43 = .ok (.dup, 1) := by decide +kernel
theorem cd_M_year_44 : decode cb_M_year 44 = .ok (.getfield 92, 3) := by decide +kernel
theorem cd_M_year_47 : decode cb_M_year 47 = .ok (.iconst 1, 1) := by decide +kernel
theorem cd_M_year_48 : decode cb_M_year 48 = .ok (.iadd, 1) := by decide +kernel
theorem cd_M_year_49 : decode cb_M_year 49 = .ok (.putfield 92, 3) := by decide +kernel
theorem cd_M_year_52 : decode cb_M_year 52 = .ok (.iinc 6 1, 3) := by decide +kernel
theorem cd_M_year_55 : decode cb_M_year 55 = .ok (.goto (-43), 3) := by decide +kernel
theorem cd_M_year_58 : decode cb_M_year 58 = .ok (.aload_n 1, 1) := by decide +kernel
theorem cd_M_year_59 : decode cb_M_year 59 = .ok (.iload_n 2, 1) := by decide +kernel
theorem cd_M_year_60 : decode cb_M_year 60 = .ok (.iload 5, 2) := by decide +kernel
theorem cd_M_year_62 : decode cb_M_year 62 = .ok (.iastore, 1) := by decide +kernel
theorem cd_M_year_63 : decode cb_M_year 63 = .ok (.iload 5, 2) := by decide +kernel
theorem cd_M_year_65 : decode cb_M_year 65 = .ok (.iload_n 3, 1) := by decide +kernel
theorem cd_M_year_66 : decode cb_M_year 66 = .ok (.sipush 2999, 3) := by decide +kernel
theorem cd_M_year_69 : decode cb_M_year 69 = .ok (.invokestatic 85, 3) := by decide +kernel
theorem cd_M_year_72 : decode cb_M_year 72 = .ok (.ifCond .eq 5, 3) := by decide +kernel
theorem cd_M_year_75 : decode cb_M_year 75 = .ok (.iconst 1, 1) := by decide +kernel
theorem cd_M_year_76 : decode cb_M_year 76 = .ok (.ireturn, 1) := by decide +kernel
theorem cd_M_year_77 : decode cb_M_year 77 = .ok (.aload_n 0, 1) := by decide +kernel
theorem cd_M_year_78 : decode cb_M_year 78 = .ok (.iload 4, 2) := by decide +kernel
theorem cd_M_year_80 : decode cb_M_year 80 = .ok (.putfield 92, 3) := by decide +kernel
theorem cd_M_year_83 : decode cb_M_year 83 = .ok (.iconst 0, 1) := by decide +kernel
theorem cd_M_year_84 : decode cb_M_year 84 = .ok (.ireturn, 1) := by decide +kernel
theorem cd_M_depth_0 : decode cb_M_depth 0 = .ok (.iconst 0, 1) := by decide +kernel
theorem cd_M_depth_1 : decode cb_M_depth 1 = .ok (.istore_n 2, 1) := by decide +kernel
theorem cd_M_depth_2 : decode cb_M_depth 2 = .ok (.aload_n 0, 1) := by decide +kernel
theorem cd_M_depth_3 : decode cb_M_depth 3 = .ok (.getfield 24, 3) := by decide +kernel
theorem cd_M_depth_6 : decode cb_M_depth 6 = .ok (.iload_n 1, 1) := by decide +kernel
theorem cd_M_depth_7 : decode cb_M_depth 7 = .ok (.iaload, 1) := by decide +kernel
theorem cd_M_depth_8 : decode cb_M_depth 8 = .ok (.istore_n 3, 1) := by decide +kernel
theorem cd_M_depth_9 : decode cb_M_depth 9 = .ok (.iload_n 3, 1) := by decide +kernel
theorem cd_M_depth_10 : decode cb_M_depth 10 = .ok (.ifCond .lt 16, 3) := by decide +kernel
theorem cd_M_depth_13 : decode cb_M_depth 13 = .ok (.iinc 2 1, 3) := by decide +kernel
theorem cd_M_depth_16 : decode cb_M_depth 16 = .ok (.aload_n 0, 1) := by decide +kernel
theorem cd_M_depth_17 : decode cb_M_depth 17 = .ok (.getfield 24, 3) := by decide +kernel
theorem cd_M_depth_20 : decode cb_M_depth 20 = .ok (.iload_n 3, 1) := by decide +kernel
theorem cd_M_depth_21 : decode cb_M_depth 21 = .ok (.iaload, 1) := by decide +kernel
theorem cd_M_depth_22 : decode cb_M_depth 22 = .ok (.istore_n 3, 1) := by decide +kernel
theorem cd_M_depth_23 : decode cb_M_depth 23 = .ok (.goto (-14), 3) := by decide +kernel
theorem cd_M_depth_26 : decode cb_M_depth 26 = .ok (.iload_n 2, 1) := by decide +kernel
theorem cd_M_depth_27 : decode cb_M_depth 27 = .ok (.ireturn, 1) := by decide +kernel
theorem cd_M_kindOf_0 : decode cb_M_kindOf 0 = .ok (.iload_n 0, 1) := by decide +kernel
theorem cd_M_kindOf_1 : decode cb_M_kindOf 1 = .ok (.bipush 102, 2) := by decide +kernel
theorem cd_M_kindOf_3 : decode cb_M_kindOf 3 = .ok (.if_icmp .ne 7, 3) := by decide +kernel
theorem cd_M_kindOf_6 : decode cb_M_kindOf 6 = .ok (.iconst 0, 1) := by decide +kernel
theorem cd_M_kindOf_7 : decode cb_M_kindOf 7 = .ok (.goto 34, 3) := by decide +kernel
theorem cd_M_kindOf_10 : decode cb_M_kindOf 10 = .ok (.iload_n 0, 1) := by decide +kernel
theorem cd_M_kindOf_11 : decode cb_M_kindOf 11 = .ok (.bipush 115, 2) := by decide +kernel
theorem cd_M_kindOf_13 : decode cb_M_kindOf 13 = .ok (.if_icmp .ne 7, 3) := by decide +kernel
theorem cd_M_kindOf_16 : decode cb_M_kindOf 16 = .ok (.iconst 1, 1) := by decide +kernel
theorem cd_M_kindOf_17 : decode cb_M_kindOf 17 = .ok (.goto 24, 3) := by decide +kernel
theorem cd_M_kindOf_20 : decode cb_M_kindOf 20 = .ok (.iload_n 0, 1) := by decide +kernel
theorem cd_M_kindOf_21 : decode cb_M_kindOf 21 = .ok (.bipush 117, 2) := by decide +kernel
theorem cd_M_kindOf_23 : decode cb_M_kindOf 23 = .ok (.if_icmp .ne 7, 3) := by decide +kernel
theorem cd_M_kindOf_26 : decode cb_M_kindOf 26 = .ok (.iconst 2, 1) := by decide +kernel
theorem cd_M_kindOf_27 : decode cb_M_kindOf 27 = .ok (.goto 14, 3) := by decide +kernel
theorem cd_M_kindOf_30 : decode cb_M_kindOf 30 = .ok (.iload_n 0, 1) := by decide +kernel
theorem cd_M_kindOf_31 : decode cb_M_kindOf 31 = .ok (.bipush 105, 2) := by decide +kernel
theorem cd_M_kindOf_33 : decode cb_M_kindOf 33 = .ok (.if_icmp .ne 7, 3) := by decide +kernel
theorem cd_M_kindOf_36 : decode cb_M_kindOf 36 = .ok (.iconst 3, 1) := by decide +kernel
theorem cd_M_kindOf_37 : decode cb_M_kindOf 37 = .ok (.goto 4, 3) := by decide +kernel
theorem cd_M_kindOf_40 : decode cb_M_kindOf 40 = .ok (.iconst (-1), 1) := by decide +kernel
theorem cd_M_kindOf_41 : decode cb_M_kindOf 41 = .ok (.ireturn, 1) := by decide +kernel
theorem cd_M_place_I_0 : decode cb_M_place_I 0 = .ok (.iload_n 1, 1) := by decide +kernel
theorem cd_M_place_I_1 : decode cb_M_place_I 1 = .ok (.iconst 1, 1) := by decide +kernel
theorem cd_M_place_I_2 : decode cb_M_place_I 2 = .ok (.isub, 1) := by decide +kernel
theorem cd_M_place_I_3 : decode cb_M_place_I 3 = .ok (.istore_n 2, 1) := by decide +kernel
theorem cd_M_place_I_4 : decode cb_M_place_I 4 = .ok (.iload_n 1, 1) := by decide +kernel
theorem cd_M_place_I_5 : decode cb_M_place_I 5 = .ok (.bipush 100, 2) := by decide +kernel
theorem cd_M_place_I_7 : decode cb_M_place_I 7 = .ok (.if_icmp .ne 7, 3) := by decide +kernel
theorem cd_M_place_I_10 : decode cb_M_place_I 10 = .ok (.iconst 0, 1) := by decide +kernel
theorem cd_M_place_I_11 : decode cb_M_place_I 11 = .ok (.goto 10, 3) := by decide +kernel
theorem cd_M_place_I_14 : decode cb_M_place_I 14 = .ok (.aload_n 0, 1) := by decide +kernel
theorem cd_M_place_I_15 : decode cb_M_place_I 15 = .ok (.iload_n 2, 1) := by decide +kernel
theorem cd_M_place_I_16 : decode cb_M_place_I 16 = .ok (.invokevirtual 103, 3) := by decide +kernel
theorem cd_M_place_I_19 : decode cb_M_place_I 19 = .ok (.iconst 1, 1) := by decide +kernel
theorem cd_M_place_I_20 : decode cb_M_place_I 20 = .ok (.iadd, 1) := by decide +kernel
theorem cd_M_place_I_21 : decode cb_M_place_I 21 = .ok (.istore_n 3, 1) := by decide +kernel
theorem cd_M_place_I_22 : decode cb_M_place_I 22 = .ok (.iload_n 3, 1) := by decide +kernel
theorem cd_M_place_I_23 : decode cb_M_place_I 23 = .ok (.bipush 8, 2) := by decide +kernel
theorem cd_M_place_I_25 : decode cb_M_place_I 25 = .ok (.if_icmp .le 8, 3) := by decide +kernel
theorem cd_M_place_I_28 : decode cb_M_place_I 28 = .ok (.bipush 8, 2) := by decide +kernel
theorem cd_M_place_I_30 : decode cb_M_place_I 30 = .ok (.goto 4, 3) := by decide +kernel
theorem cd_M_place_I_33 : decode cb_M_place_I 33 = .ok (.iload_n 3, 1) := by decide +kernel
theorem cd_M_place_I_34 : decode cb_M_place_I 34 = .ok (.istore_n 3, 1) := by decide +kernel
theorem cd_M_place_I_35 : decode cb_M_place_I 35 = .ok (.iconst 0, 1) := by decide +kernel
theorem cd_M_place_I_36 : decode cb_M_place_I 36 = .ok (.istore 4, 2) := by decide +kernel
theorem cd_M_place_I_38 : decode cb_M_place_I 38 = .ok (.aload_n 0, 1) := by decide +kernel
theorem cd_M_place_I_39 : decode cb_M_place_I 39 = .ok (.invokevirtual 95, 3) := by decide +kernel
theorem cd_M_place_I_42 : decode cb_M_place_I 42 = .ok (.bipush 43, 2) := by decide +kernel
theorem cd_M_place_I_44 : decode cb_M_place_I 44 = .ok (.if_icmp .ne 27, 3) := by decide +kernel
theorem cd_M_place_I_47 : decode cb_M_place_I 47 = .ok (.iload 4, 2) := by decide +kernel
theorem cd_M_place_I_49 : decode cb_M_place_I 49 = .ok (.iload_n 3, 1) := by decide +kernel
theorem cd_M_place_I_50 : decode cb_M_place_I 50 = .ok (.if_icmp .ne 5, 3) := by decide +kernel
theorem cd_M_place_I_53 : decode cb_M_place_I 53 = .ok (.iconst 0, 1) := by decide +kernel
theorem cd_M_place_I_54 : decode cb_M_place_I 54 = .ok (.ireturn, 1) := by decide +kernel
theorem cd_M_place_I_55 : decode cb_M_place_I 55 = .ok (.iinc 4 1, 3) := by decide +kernel
theorem cd_M_place_I_58 : decode cb_M_place_I 58 = .ok (.aload_n 0, 1) := by decide +kernel
theorem cd_M_place_I_59 : decode cb_M_place_I 59 = .ok (.dup, 1) := by decide +kernel
theorem cd_M_place_I_60 : decode cb_M_place_I 60 = .ok (.getfield 92, 3) := by decide +kernel
theorem cd_M_place_I_63 : decode cb_M_place_I 63 = .ok (.iconst 1, 1) := by decide +kernel
theorem cd_M_place_I_64 : decode cb_M_place_I 64 = .ok (.iadd, 1) := by decide +kernel
theorem cd_M_place_I_65 : decode cb_M_place_I 65 = .ok (.putfield 92, 3) := by decide +kernel
theorem cd_M_place_I_68 : decode cb_M_place_I 68 = .ok (.goto (-30), 3) := by decide +kernel
theorem cd_M_place_I_71 : decode cb_M_place_I 71 = .ok (.iload_n 1, 1) := by decide +kernel
theorem cd_M_place_I_72 : decode cb_M_place_I 72 = .ok (.bipush 100, 2) := by decide +kernel
theorem cd_M_place_I_74 : decode cb_M_place_I 74 = .ok (.if_icmp .le 10, 3) := by decide +kernel
theorem cd_M_place_I_77 : decode cb_M_place_I 77 = .ok (.iload 4, 2) := by decide +kernel
theorem cd_M_place_I_79 : decode cb_M_place_I 79 = .ok (.ifCond .ne 5, 3) := by decide +kernel
theorem cd_M_place_I_82 : decode cb_M_place_I 82 = .ok (.iconst 0, 1) := by decide +kernel
theorem cd_M_place_I_83 : decode cb_M_place_I 83 = .ok (.ireturn, 1) := by decide +kernel
theorem cd_M_place_I_84 : decode cb_M_place_I 84 = .ok (.iconst (-1), 1) := by decide +kernel
theorem cd_M_place_I_85 : decode cb_M_place_I 85 = .ok (.istore 5, 2) := by decide +kernel
theorem cd_M_place_I_87 : decode cb_M_place_I 87 = .ok (.iload_n 1, 1) := by decide +kernel
theorem cd_M_place_I_88 : decode cb_M_place_I 88 = .ok (.bipush 100, 2) := by decide +kernel
theorem cd_M_place_I_90 : decode cb_M_place_I 90 = .ok (.if_icmp .le 29, 3) := by decide +kernel
theorem cd_M_place_I_93 : decode cb_M_place_I 93 = .ok (.iload_n 2, 1) := by decide +kernel
theorem cd_M_place_I_94 : decode cb_M_place_I 94 = .ok (.istore 5, 2) := by decide +kernel
theorem cd_M_place_I_96 : decode cb_M_place_I 96 = .ok (.aload_n 0, 1) := by decide +kernel
theorem cd_M_place_I_97 : decode cb_M_place_I 97 = .ok (.iload 5, 2) := by decide +kernel
theorem cd_M_place_I_99 : decode cb_M_place_I 99 = .ok (.invokevirtual 103, 3) := by decide +kernel
theorem cd_M_place_I_102 : decode cb_M_place_I 102 = .ok (.iload 4, 2) := by decide +kernel
theorem cd_M_place_I_104 : decode cb_M_place_I 104 = .ok (.if_icmp .lt 15, 3) := by decide +kernel
theorem cd_M_place_I_107 : decode cb_M_place_I 107 = .ok (.aload_n 0, 1) := by decide +kernel
theorem cd_M_place_I_108 : decode cb_M_place_I 108 = .ok (.getfield 24, 3) := by decide +kernel
theorem cd_M_place_I_111 : decode cb_M_place_I 111 = .ok (.iload 5, 2) := by decide +kernel
theorem cd_M_place_I_113 : decode cb_M_place_I 113 = .ok (.iaload, 1) := by decide +kernel
theorem cd_M_place_I_114 : decode cb_M_place_I 114 = .ok (.istore 5, 2) := by decide +kernel
theorem cd_M_place_I_116 : decode cb_M_place_I 116 = .ok (.goto (-20), 3) := by decide +kernel
theorem cd_M_place_I_119 : decode cb_M_place_I 119 = .ok (.aload_n 0, 1) := by decide +kernel
theorem cd_M_place_I_120 : decode cb_M_place_I 120 = .ok (.invokevirtual 95, 3) := by decide +kernel
theorem cd_M_place_I_123 : decode cb_M_place_I 123 = .ok (.invokestatic 107, 3) := by decide +kernel
theorem cd_M_place_I_126 : decode cb_M_place_I 126 = .ok (.istore 6, 2) := by decide +kernel
theorem cd_M_place_I_128 : decode cb_M_place_I 128 = .ok (.iload 6, 2) := by decide +kernel
theorem cd_M_place_I_130 : decode cb_M_place_I 130 = .ok (.ifCond .lt 31, 3) := by decide +kernel
theorem cd_M_place_I_133 : decode cb_M_place_I 133 = .ok (.iload 5, 2) := by decide +kernel
theorem cd_M_place_I_135 : decode cb_M_place_I 135 = .ok (.ifCond .lt 28, 3) := by decide +kernel
theorem cd_M_place_I_138 : decode cb_M_place_I 138 = .ok (.aload_n 0, 1) := by decide +kernel
theorem cd_M_place_I_139 : decode cb_M_place_I 139 = .ok (.getfield 17, 3) := by decide +kernel
theorem cd_M_place_I_142 : decode cb_M_place_I 142 = .ok (.iload 5, 2) := by decide +kernel
theorem cd_M_place_I_144 : decode cb_M_place_I 144 = .ok (.iaload, 1) := by decide +kernel
theorem cd_M_place_I_145 : decode cb_M_place_I 145 = .ok (.iconst 3, 1) := by decide +kernel
theorem cd_M_place_I_146 : decode cb_M_place_I 146 = .ok (.if_icmp .eq 15, 3) := by decide +kernel
theorem cd_M_place_I_149 : decode cb_M_place_I 149 = .ok (.iload 6, 2) := by decide +kernel
theorem cd_M_place_I_151 : decode cb_M_place_I 151 = .ok (.aload_n 0, 1) := by decide +kernel
theorem cd_M_place_I_152 : decode cb_M_place_I 152 = .ok (.getfield 17, 3) := by decide +kernel
theorem cd_M_place_I_155 : decode cb_M_place_I 155 = .ok (.iload 5, 2) := by decide +kernel
theorem cd_M_place_I_157 : decode cb_M_place_I 157 = .ok (.iaload, 1) := by decide +kernel
theorem cd_M_place_I_158 : decode cb_M_place_I 158 = .ok (.if_icmp .ge 5, 3) := by decide +kernel
theorem cd_M_place_I_161 : decode cb_M_place_I 161 = .ok (.iconst 0, 1) := by decide +kernel
theorem cd_M_place_I_162 : decode cb_M_place_I 162 = .ok (.ireturn, 1) := by decide +kernel
theorem cd_M_place_I_163 : decode cb_M_place_I 163 = .ok (.aload_n 0, 1) := by decide +kernel
theorem cd_M_place_I_164 : decode cb_M_place_I 164 = .ok (.dup, 1) := by decide +kernel
theorem cd_M_place_I_165 : decode cb_M_place_I 165 = .ok (.getfield 92, 3) := by decide +kernel
theorem cd_M_place_I_168 : decode cb_M_place_I 168 = .ok (.iconst 1, 1) := by decide +kernel
theorem cd_M_place_I_169 : decode cb_M_place_I 169 = .ok (.iadd, 1) := by decide +kernel
theorem cd_M_place_I_170 : decode cb_M_place_I 170 = .ok (.putfield 92, 3) := by decide +kernel
theorem cd_M_place_I_173 : decode cb_M_place_I 173 = .ok (.aload_n 0, 1) := by decide +kernel
theorem cd_M_place_I_174 : decode cb_M_place_I 174 = .ok (.getfield 17, 3) := by decide +kernel
theorem cd_M_place_I_177 : decode cb_M_place_I 177 = .ok (.iload_n 1, 1) := by decide +kernel
theorem cd_M_place_I_178 : decode cb_M_place_I 178 = .ok (.iload 6, 2) := by decide +kernel
theorem cd_M_place_I_180 : decode cb_M_place_I 180 = .ok (.iastore, 1) := by decide +kernel
theorem cd_M_place_I_181 : decode cb_M_place_I 181 = .ok (.aload_n 0, 1) := by decide +kernel
theorem cd_M_place_I_182 : decode cb_M_place_I 182 = .ok (.getfield 24, 3) := by decide +kernel
theorem cd_M_place_I_185 : decode cb_M_place_I 185 = .ok (.iload_n 1, 1) := by decide +kernel
theorem cd_M_place_I_186 : decode cb_M_place_I 186 = .ok (.iload 5, 2) := by decide +kernel
theorem cd_M_place_I_188 : decode cb_M_place_I 188 = .ok (.iastore, 1) := by decide +kernel
theorem cd_M_place_I_189 : decode cb_M_place_I 189 = .ok (.iconst 1, 1) := by decide +kernel
theorem cd_M_place_I_190 : decode cb_M_place_I 190 = .ok (.ireturn, 1) := by decide +kernel
theorem cd_M_titled_0 : decode cb_M_titled 0 = .ok (.iconst 0, 1) := by decide +kernel
theorem cd_M_titled_1 : decode cb_M_titled 1 = .ok (.istore_n 2, 1) := by decide +kernel
theorem cd_M_titled_2 : decode cb_M_titled 2 = .ok (.aload_n 0, 1) := by decide +kernel
theorem cd_M_titled_3 : decode cb_M_titled 3 = .ok (.invokevirtual 95, 3) := by decide +kernel
theorem cd_M_titled_6 : decode cb_M_titled 6 = .ok (.bipush 97, 2) := by decide +kernel
theorem cd_M_titled_8 : decode cb_M_titled 8 = .ok (.bipush 122, 2) := by decide +kernel
theorem cd_M_titled_10 : decode cb_M_titled 10 = .ok (.invokestatic 85, 3) := by decide +kernel
theorem cd_M_titled_13 : decode cb_M_titled 13 = .ok (.ifCond .eq 43, 3) := by decide +kernel
theorem cd_M_titled_16 : decode cb_M_titled 16 = .ok (.iload_n 2, 1) := by decide +kernel
theorem cd_M_titled_17 : decode cb_M_titled 17 = .ok (.bipush 16, 2) := by decide +kernel
theorem cd_M_titled_19 : decode cb_M_titled 19 = .ok (.if_icmp .ne 5, 3) := by decide +kernel
theorem cd_M_titled_22 : decode cb_M_titled 22 = .ok (.iconst 0, 1) := by decide +kernel
theorem cd_M_titled_23 : decode cb_M_titled 23 = .ok (.ireturn, 1) := by decide +kernel
theorem cd_M_titled_24 : decode cb_M_titled 24 = .ok (.aload_n 0, 1) := by decide +kernel
theorem cd_M_titled_25 : decode cb_M_titled 25 = .ok (.getfield 45, 3) := by decide +kernel
theorem cd_M_titled_28 : decode cb_M_titled 28 = .ok (.bipush 16, 2) := by decide +kernel
theorem cd_M_titled_30 : decode cb_M_titled 30 = .ok (.iload_n 1, 1) := by decide +kernel
theorem cd_M_titled_31 : decode cb_M_titled 31 = .ok (.imul, 1) := by decide +kernel
theorem cd_M_titled_32 : decode cb_M_titled 32 = .ok (.iload_n 2, 1) := by decide +kernel
theorem cd_M_titled_33 : decode cb_M_titled 33 = .ok (.iadd, 1) := by decide +kernel
theorem cd_M_titled_34 : decode cb_M_titled 34 = .ok (.aload_n 0, 1) := by decide +kernel
theorem cd_M_titled_35 : decode cb_M_titled 35 = .ok (.invokevirtual 95, 3) := by decide +kernel
theorem cd_M_titled_38 : decode cb_M_titled 38 = .ok (.i2b, 1) := by decide +kernel
theorem cd_M_titled_39 : decode cb_M_titled 39 = .ok (.bastore, 1) := by decide +kernel
theorem cd_M_titled_40 : decode cb_M_titled 40 = .ok (.iinc 2 1, 3) := by decide +kernel
theorem cd_M_titled_43 : decode cb_M_titled 43 = .ok (.aload_n 0, 1) := by decide +kernel
theorem cd_M_titled_44 : decode cb_M_titled 44 = .ok (.dup, 1) := by decide +kernel
theorem cd_M_titled_45 : decode cb_M_titled 45 = .ok (.getfield 92, 3) := by decide +kernel
theorem cd_M_titled_48 : decode cb_M_titled 48 = .ok (.iconst 1, 1) := by decide +kernel
theorem cd_M_titled_49 : decode cb_M_titled 49 = .ok (.iadd, 1) := by decide +kernel
theorem cd_M_titled_50 : decode cb_M_titled 50 = .ok (.putfield 92, 3) := by decide +kernel
theorem cd_M_titled_53 : decode cb_M_titled 53 = .ok (.goto (-51), 3) := by decide +kernel
theorem cd_M_titled_56 : decode cb_M_titled 56 = .ok (.aload_n 0, 1) := by decide +kernel
theorem cd_M_titled_57 : decode cb_M_titled 57 = .ok (.getfield 42, 3) := by decide +kernel
theorem cd_M_titled_60 : decode cb_M_titled 60 = .ok (.iload_n 1, 1) := by decide +kernel
theorem cd_M_titled_61 : decode cb_M_titled 61 = .ok (.iload_n 2, 1) := by decide +kernel
theorem cd_M_titled_62 : decode cb_M_titled 62 = .ok (.iastore, 1) := by decide +kernel
theorem cd_M_titled_63 : decode cb_M_titled 63 = .ok (.iload_n 2, 1) := by decide +kernel
theorem cd_M_titled_64 : decode cb_M_titled 64 = .ok (.ifCond .le 7, 3) := by decide +kernel
theorem cd_M_titled_67 : decode cb_M_titled 67 = .ok (.iconst 1, 1) := by decide +kernel
theorem cd_M_titled_68 : decode cb_M_titled 68 = .ok (.goto 4, 3) := by decide +kernel
theorem cd_M_titled_71 : decode cb_M_titled 71 = .ok (.iconst 0, 1) := by decide +kernel
theorem cd_M_titled_72 : decode cb_M_titled 72 = .ok (.ireturn, 1) := by decide +kernel
theorem cd_M_dated_0 : decode cb_M_dated 0 = .ok (.aload_n 0, 1) := by decide +kernel
theorem cd_M_dated_1 : decode cb_M_dated 1 = .ok (.aload_n 0, 1) := by decide +kernel
theorem cd_M_dated_2 : decode cb_M_dated 2 = .ok (.getfield 27, 3) := by decide +kernel
theorem cd_M_dated_5 : decode cb_M_dated 5 = .ok (.iload_n 1, 1) := by decide +kernel
theorem cd_M_dated_6 : decode cb_M_dated 6 = .ok (.sipush 1000, 3) := by decide +kernel
theorem cd_M_dated_9 : decode cb_M_dated 9 = .ok (.invokevirtual 110, 3) := by decide +kernel
theorem cd_M_dated_12 : decode cb_M_dated 12 = .ok (.ifCond .ne 5, 3) := by decide +kernel
theorem cd_M_dated_15 : decode cb_M_dated 15 = .ok (.iconst 0, 1) := by decide +kernel
theorem cd_M_dated_16 : decode cb_M_dated 16 = .ok (.ireturn, 1) := by decide +kernel
theorem cd_M_dated_17 : decode cb_M_dated 17 = .ok (.aload_n 0, 1) := by decide +kernel
theorem cd_M_dated_18 : decode cb_M_dated 18 = .ok (.getfield 30, 3) := by decide +kernel
theorem cd_M_dated_21 : decode cb_M_dated 21 = .ok (.iload_n 1, 1) := by decide +kernel
theorem cd_M_dated_22 : decode cb_M_dated 22 = .ok (.aload_n 0, 1) := by decide +kernel
theorem cd_M_dated_23 : decode cb_M_dated 23 = .ok (.getfield 27, 3) := by decide +kernel
theorem cd_M_dated_26 : decode cb_M_dated 26 = .ok (.iload_n 1, 1) := by decide +kernel
theorem cd_M_dated_27 : decode cb_M_dated 27 = .ok (.iaload, 1) := by decide +kernel
theorem cd_M_dated_28 : decode cb_M_dated 28 = .ok (.iastore, 1) := by decide +kernel
theorem cd_M_dated_29 : decode cb_M_dated 29 = .ok (.aload_n 0, 1) := by decide +kernel
theorem cd_M_dated_30 : decode cb_M_dated 30 = .ok (.bipush 45, 2) := by decide +kernel
theorem cd_M_dated_32 : decode cb_M_dated 32 = .ok (.invokevirtual 114, 3) := by decide +kernel
theorem cd_M_dated_35 : decode cb_M_dated 35 = .ok (.ifCond .eq 23, 3) := by decide +kernel
theorem cd_M_dated_38 : decode cb_M_dated 38 = .ok (.aload_n 0, 1) := by decide +kernel
theorem cd_M_dated_39 : decode cb_M_dated 39 = .ok (.aload_n 0, 1) := by decide +kernel
theorem cd_M_dated_40 : decode cb_M_dated 40 = .ok (.getfield 30, 3) := by decide +kernel
theorem cd_M_dated_43 : decode cb_M_dated 43 = .ok (.iload_n 1, 1) := by decide +kernel
theorem cd_M_dated_44 : decode cb_M_dated 44 = .ok (.aload_n 0, 1) := by decide +kernel
theorem cd_M_dated_45 : decode cb_M_dated 45 = .ok (.getfield 27, 3) := by decide +kernel
theorem cd_M_dated_48 : decode cb_M_dated 48 = .ok (.iload_n 1, 1) := by decide +kernel
theorem cd_M_dated_49 : decode cb_M_dated 49 = .ok (.iaload, 1) := by decide +kernel
theorem cd_M_dated_50 : decode cb_M_dated 50 = .ok (.invokevirtual 110, 3) := by decide +kernel
theorem cd_M_dated_53 : decode cb_M_dated 53 = .ok (.ifCond .ne 5, 3) := by decide +kernel
theorem cd_M_dated_56 : decode cb_M_dated 56 = .ok (.iconst 0, 1) := by decide +kernel
theorem cd_M_dated_57 : decode cb_M_dated 57 = .ok (.ireturn, 1) := by decide +kernel
theorem cd_M_dated_58 : decode cb_M_dated 58 = .ok (.aload_n 0, 1) := by decide +kernel
theorem cd_M_dated_59 : decode cb_M_dated 59 = .ok (.getfield 33, 3) := by decide +kernel
theorem cd_M_dated_62 : decode cb_M_dated 62 = .ok (.iload_n 1, 1) := by decide +kernel
theorem cd_M_dated_63 : decode cb_M_dated 63 = .ok (.aload_n 0, 1) := by decide +kernel
theorem cd_M_dated_64 : decode cb_M_dated 64 = .ok (.bipush 63, 2) := by decide +kernel
theorem cd_M_dated_66 : decode cb_M_dated 66 = .ok (.invokevirtual 114, 3) := by decide +kernel
theorem cd_M_dated_69 : decode cb_M_dated 69 = .ok (.ifCond .eq 7, 3) := by decide +kernel
theorem cd_M_dated_72 : decode cb_M_dated 72 = .ok (.iconst 1, 1) := by decide +kernel
theorem cd_M_dated_73 : decode cb_M_dated 73 = .ok (.goto 4, 3) := by decide +kernel
theorem cd_M_dated_76 : decode cb_M_dated 76 = .ok (.iconst 0, 1) := by decide +kernel
theorem cd_M_dated_77 : decode cb_M_dated 77 = .ok (.iastore, 1) := by decide +kernel
theorem cd_M_dated_78 : decode cb_M_dated 78 = .ok (.iconst 1, 1) := by decide +kernel
theorem cd_M_dated_79 : decode cb_M_dated 79 = .ok (.ireturn, 1) := by decide +kernel
theorem cd_M_extended_0 : decode cb_M_extended 0 = .ok (.aload_n 0, 1) := by decide +kernel
theorem cd_M_extended_1 : decode cb_M_extended 1 = .ok (.aload_n 0, 1) := by decide +kernel
theorem cd_M_extended_2 : decode cb_M_extended 2 = .ok (.getfield 36, 3) := by decide +kernel
theorem cd_M_extended_5 : decode cb_M_extended 5 = .ok (.iload_n 1, 1) := by decide +kernel
theorem cd_M_extended_6 : decode cb_M_extended 6 = .ok (.invokevirtual 118, 3) := by decide +kernel
theorem cd_M_extended_9 : decode cb_M_extended 9 = .ok (.ifCond .ne 5, 3) := by decide +kernel
theorem cd_M_extended_12 : decode cb_M_extended 12 = .ok (.iconst 0, 1) := by decide +kernel
theorem cd_M_extended_13 : decode cb_M_extended 13 = .ok (.ireturn, 1) := by decide +kernel
theorem cd_M_extended_14 : decode cb_M_extended 14 = .ok (.aload_n 0, 1) := by decide +kernel
theorem cd_M_extended_15 : decode cb_M_extended 15 = .ok (.getfield 39, 3) := by decide +kernel
theorem cd_M_extended_18 : decode cb_M_extended 18 = .ok (.iload_n 1, 1) := by decide +kernel
theorem cd_M_extended_19 : decode cb_M_extended 19 = .ok (.aload_n 0, 1) := by decide +kernel
theorem cd_M_extended_20 : decode cb_M_extended 20 = .ok (.invokevirtual 95, 3) := by decide +kernel
theorem cd_M_extended_23 : decode cb_M_extended 23 = .ok (.bipush 98, 2) := by decide +kernel
theorem cd_M_extended_25 : decode cb_M_extended 25 = .ok (.if_icmp .ne 7, 3) := by decide +kernel
theorem cd_M_extended_28 : decode cb_M_extended 28 = .ok (.iconst 0, 1) := by decide +kernel
theorem cd_M_extended_29 : decode cb_M_extended 29 = .ok (.goto 30, 3) := by decide +kernel
theorem cd_M_extended_32 : decode cb_M_extended 32 = .ok (.aload_n 0, 1) := by decide +kernel
theorem cd_M_extended_33 : decode cb_M_extended 33 = .ok (.invokevirtual 95, 3) := by decide +kernel
theorem cd_M_extended_36 : decode cb_M_extended 36 = .ok (.bipush 109, 2) := by decide +kernel
theorem cd_M_extended_38 : decode cb_M_extended 38 = .ok (.if_icmp .ne 7, 3) := by decide +kernel
theorem cd_M_extended_41 : decode cb_M_extended 41 = .ok (.iconst 1, 1) := by decide +kernel
theorem cd_M_extended_42 : decode cb_M_extended 42 = .ok (.goto 17, 3) := by decide +kernel
theorem cd_M_extended_45 : decode cb_M_extended 45 = .ok (.aload_n 0, 1) := by decide +kernel
theorem cd_M_extended_46 : decode cb_M_extended 46 = .ok (.invokevirtual 95, 3) := by decide +kernel
theorem cd_M_extended_49 : decode cb_M_extended 49 = .ok (.bipush 112, 2) := by decide +kernel
theorem cd_M_extended_51 : decode cb_M_extended 51 = .ok (.if_icmp .ne 7, 3) := by decide +kernel
theorem cd_M_extended_54 : decode cb_M_extended 54 = .ok (.iconst 2, 1) := by decide +kernel
theorem cd_M_extended_55 : decode cb_M_extended 55 = .ok (.goto 4, 3) := by decide +kernel
theorem cd_M_extended_58 : decode cb_M_extended 58 = .ok (.iconst (-1), 1) := by decide +kernel
theorem cd_M_extended_59 : decode cb_M_extended 59 = .ok (.iastore, 1) := by decide +kernel
theorem cd_M_extended_60 : decode cb_M_extended 60 = .ok (.aload_n 0, 1) := by decide +kernel
theorem cd_M_extended_61 : decode cb_M_extended 61 = .ok (.getfield 39, 3) := by decide +kernel
theorem cd_M_extended_64 : decode cb_M_extended 64 = .ok (.iload_n 1, 1) := by decide +kernel
theorem cd_M_extended_65 : decode cb_M_extended 65 = .ok (.iaload, 1) := by decide +kernel
theorem cd_M_extended_66 : decode cb_M_extended 66 = .ok (.ifCond .ge 5, 3) := by decide +kernel
theorem cd_M_extended_69 : decode cb_M_extended 69 = .ok (.iconst 0, 1) := by decide +kernel
theorem cd_M_extended_70 : decode cb_M_extended 70 = .ok (.ireturn, 1) := by decide +kernel
theorem cd_M_extended_71 : decode cb_M_extended 71 = .ok (.aload_n 0, 1) := by decide +kernel
theorem cd_M_extended_72 : decode cb_M_extended 72 = .ok (.dup, 1) := by decide +kernel
theorem cd_M_extended_73 : decode cb_M_extended 73 = .ok (.getfield 92, 3) := by decide +kernel
theorem cd_M_extended_76 : decode cb_M_extended 76 = .ok (.iconst 1, 1) := by decide +kernel
theorem cd_M_extended_77 : decode cb_M_extended 77 = .ok (.iadd, 1) := by decide +kernel
theorem cd_M_extended_78 : decode cb_M_extended 78 = .ok (.putfield 92, 3) := by decide +kernel
theorem cd_M_extended_81 : decode cb_M_extended 81 = .ok (.iconst 1, 1) := by decide +kernel
theorem cd_M_extended_82 : decode cb_M_extended 82 = .ok (.ireturn, 1) := by decide +kernel
theorem cd_M_line_0 : decode cb_M_line 0 = .ok (.iload_n 1, 1) := by decide +kernel
theorem cd_M_line_1 : decode cb_M_line 1 = .ok (.sipush 200, 3) := by decide +kernel
theorem cd_M_line_4 : decode cb_M_line 4 = .ok (.if_icmp .ne 5, 3) := by decide +kernel
theorem cd_M_line_7 : decode cb_M_line 7 = .ok (.iconst 0, 1) := by decide +kernel
theorem cd_M_line_8 : decode cb_M_line 8 = .ok (.ireturn, 1) := by decide +kernel
theorem cd_M_line_9 : decode cb_M_line 9 = .ok (.aload_n 0, 1) := by decide +kernel
theorem cd_M_line_10 : decode cb_M_line 10 = .ok (.getfield 27, 3) := by decide +kernel
theorem cd_M_line_13 : decode cb_M_line 13 = .ok (.iload_n 1, 1) := by decide +kernel
theorem cd_M_line_14 : decode cb_M_line 14 = .ok (.iconst (-1), 1) := by decide +kernel
theorem cd_M_line_15 : decode cb_M_line 15 = .ok (.iastore, 1) := by decide +kernel
theorem cd_M_line_16 : decode cb_M_line 16 = .ok (.aload_n 0, 1) := by decide +kernel
theorem cd_M_line_17 : decode cb_M_line 17 = .ok (.getfield 30, 3) := by decide +kernel
theorem cd_M_line_20 : decode cb_M_line 20 = .ok (.iload_n 1, 1) := by decide +kernel
theorem cd_M_line_21 : decode cb_M_line 21 = .ok (.iconst (-1), 1) := by decide +kernel
theorem cd_M_line_22 : decode cb_M_line 22 = .ok (.iastore, 1) := by decide +kernel
theorem cd_M_line_23 : decode cb_M_line 23 = .ok (.aload_n 0, 1) := by decide +kernel
theorem cd_M_line_24 : decode cb_M_line 24 = .ok (.getfield 33, 3) := by decide +kernel
theorem cd_M_line_27 : decode cb_M_line 27 = .ok (.iload_n 1, 1) := by decide +kernel
theorem cd_M_line_28 : decode cb_M_line 28 = .ok (.iconst 0, 1) := by decide +kernel
theorem cd_M_line_29 : decode cb_M_line 29 = .ok (.iastore, 1) := by decide +kernel
theorem cd_M_line_30 : decode cb_M_line 30 = .ok (.aload_n 0, 1) := by decide +kernel
theorem cd_M_line_31 : decode cb_M_line 31 = .ok (.getfield 36, 3) := by decide +kernel
theorem cd_M_line_34 : decode cb_M_line 34 = .ok (.iload_n 1, 1) := by decide +kernel
theorem cd_M_line_35 : decode cb_M_line 35 = .ok (.iconst (-1), 1) := by decide +kernel
theorem cd_M_line_36 : decode cb_M_line 36 = .ok (.iastore, 1) := by decide +kernel
theorem cd_M_line_37 : decode cb_M_line 37 = .ok (.aload_n 0, 1) := by decide +kernel
theorem cd_M_line_38 : decode cb_M_line 38 = .ok (.getfield 39, 3) := by decide +kernel
theorem cd_M_line_41 : decode cb_M_line 41 = .ok (.iload_n 1, 1) := by decide +kernel
theorem cd_M_line_42 : decode cb_M_line 42 = .ok (.iconst (-1), 1) := by decide +kernel
theorem cd_M_line_43 : decode cb_M_line 43 = .ok (.iastore, 1) := by decide +kernel
theorem cd_M_line_44 : decode cb_M_line 44 = .ok (.aload_n 0, 1) := by decide +kernel
theorem cd_M_line_45 : decode cb_M_line 45 = .ok (.iload_n 1, 1) := by decide +kernel
theorem cd_M_line_46 : decode cb_M_line 46 = .ok (.invokevirtual 121, 3) := by decide +kernel
theorem cd_M_line_49 : decode cb_M_line 49 = .ok (.ifCond .eq 32, 3) := by decide +kernel
theorem cd_M_line_52 : decode cb_M_line 52 = .ok (.aload_n 0, 1) := by decide +kernel
theorem cd_M_line_53 : decode cb_M_line 53 = .ok (.aload_n 0, 1) := by decide +kernel
theorem cd_M_line_54 : decode cb_M_line 54 = .ok (.getfield 21, 3) := by decide +kernel
theorem cd_M_line_57 : decode cb_M_line 57 = .ok (.iload_n 1, 1) := by decide +kernel
theorem cd_M_line_58 : decode cb_M_line 58 = .ok (.invokevirtual 118, 3) := by decide +kernel
theorem cd_M_line_61 : decode cb_M_line 61 = .ok (.ifCond .eq 20, 3) := by decide +kernel
theorem cd_M_line_64 : decode cb_M_line 64 = .ok (.aload_n 0, 1) := by decide +kernel
theorem cd_M_line_65 : decode cb_M_line 65 = .ok (.bipush 32, 2) := by decide +kernel
theorem cd_M_line_67 : decode cb_M_line 67 = .ok (.invokevirtual 114, 3) := by decide +kernel
theorem cd_M_line_70 : decode cb_M_line 70 = .ok (.ifCond .eq 11, 3) := by decide +kernel
theorem cd_M_line_73 : decode cb_M_line 73 = .ok (.aload_n 0, 1) := by decide +kernel
theorem cd_M_line_74 : decode cb_M_line 74 = .ok (.iload_n 1, 1) := by decide +kernel
theorem cd_M_line_75 : decode cb_M_line 75 = .ok (.invokevirtual 124, 3) := by decide +kernel
theorem cd_M_line_78 : decode cb_M_line 78 = .ok (.ifCond .ne 5, 3) := by decide +kernel
theorem cd_M_line_81 : decode cb_M_line 81 = .ok (.iconst 0, 1) := by decide +kernel
theorem cd_M_line_82 : decode cb_M_line 82 = .ok (.ireturn, 1) := by decide +kernel
theorem cd_M_line_83 : decode cb_M_line 83 = .ok (.aload_n 0, 1) := by decide +kernel
theorem cd_M_line_84 : decode cb_M_line 84 = .ok (.bipush 32, 2) := by decide +kernel
theorem cd_M_line_86 : decode cb_M_line 86 = .ok (.invokevirtual 114, 3) := by decide +kernel
theorem cd_M_line_89 : decode cb_M_line 89 = .ok (.istore_n 2, 1) := by decide +kernel
theorem cd_M_line_90 : decode cb_M_line 90 = .ok (.iload_n 2, 1) := by decide +kernel
theorem cd_M_line_91 : decode cb_M_line 91 = .ok (.ifCond .eq 39, 3) := by decide +kernel
theorem cd_M_line_94 : decode cb_M_line 94 = .ok (.aload_n 0, 1) := by decide +kernel
theorem cd_M_line_95 : decode cb_M_line 95 = .ok (.invokevirtual 95, 3) := by decide +kernel
theorem cd_M_line_98 : decode cb_M_line 98 = .ok (.bipush 100, 2) := by decide +kernel
theorem cd_M_line_100 : decode cb_M_line 100 = .ok (.if_icmp .ne 30, 3) := by decide +kernel
theorem cd_M_line_103 : decode cb_M_line 103 = .ok (.aload_n 0, 1) := by decide +kernel
theorem cd_M_line_104 : decode cb_M_line 104 = .ok (.dup, 1) := by decide +kernel
theorem cd_M_line_105 : decode cb_M_line 105 = .ok (.getfield 92, 3) := by decide +kernel
theorem cd_M_line_108 : decode cb_M_line 108 = .ok (.iconst 1, 1) := by decide +kernel
theorem cd_M_line_109 : decode cb_M_line 109 = .ok (.iadd, 1) := by decide +kernel
theorem cd_M_line_110 : decode cb_M_line 110 = .ok (.putfield 92, 3) := by decide +kernel
theorem cd_M_line_113 : decode cb_M_line 113 = .ok (.aload_n 0, 1) := by decide +kernel
theorem cd_M_line_114 : decode cb_M_line 114 = .ok (.iload_n 1, 1) := by decide +kernel
theorem cd_M_line_115 : decode cb_M_line 115 = .ok (.invokevirtual 127, 3) := by decide +kernel
theorem cd_M_line_118 : decode cb_M_line 118 = .ok (.ifCond .ne 5, 3) := by decide +kernel
theorem cd_M_line_121 : decode cb_M_line 121 = .ok (.iconst 0, 1) := by decide +kernel
theorem cd_M_line_122 : decode cb_M_line 122 = .ok (.ireturn, 1) := by decide +kernel
theorem cd_M_line_123 : decode cb_M_line 123 = .ok (.aload_n 0, 1) := by decide +kernel
theorem cd_M_line_124 : decode cb_M_line 124 = .ok (.bipush 32, 2) := by decide +kernel
theorem cd_M_line_126 : decode cb_M_line 126 = .ok (.invokevirtual 114, 3) := by decide +kernel
theorem cd_M_line_129 : decode cb_M_line 129 = .ok (.istore_n 2, 1) := by decide +kernel
theorem cd_M_line_130 : decode cb_M_line 130 = .ok (.iload_n 2, 1) := by decide +kernel
theorem cd_M_line_131 : decode cb_M_line 131 = .ok (.ifCond .eq 22, 3) := by decide +kernel
theorem cd_M_line_134 : decode cb_M_line 134 = .ok (.aload_n 0, 1) := by decide +kernel
theorem cd_M_line_135 : decode cb_M_line 135 = .ok (.bipush 101, 2) := by decide +kernel
theorem cd_M_line_137 : decode cb_M_line 137 = .ok (.invokevirtual 114, 3) := by decide +kernel
theorem cd_M_line_140 : decode cb_M_line 140 = .ok (.ifCond .eq 11, 3) := by decide +kernel
theorem cd_M_line_143 : decode cb_M_line 143 = .ok (.aload_n 0, 1) := by decide +kernel
theorem cd_M_line_144 : decode cb_M_line 144 = .ok (.iload_n 1, 1) := by decide +kernel
theorem cd_M_line_145 : decode cb_M_line 145 = .ok (.invokevirtual 130, 3) := by decide +kernel
theorem cd_M_line_148 : decode cb_M_line 148 = .ok (.ifCond .ne 5, 3) := by decide +kernel
theorem cd_M_line_151 : decode cb_M_line 151 = .ok (.iconst 0, 1) := by decide +kernel
theorem cd_M_line_152 : decode cb_M_line 152 = .ok (.ireturn, 1) := by decide +kernel
theorem cd_M_line_153 : decode cb_M_line 153 = .ok (.aload_n 0, 1) := by decide +kernel
theorem cd_M_line_154 : decode cb_M_line 154 = .ok (.bipush 10, 2) := by decide +kernel
theorem cd_M_line_156 : decode cb_M_line 156 = .ok (.invokevirtual 114, 3) := by decide +kernel
theorem cd_M_line_159 : decode cb_M_line 159 = .ok (.ireturn, 1) := by decide +kernel
theorem cd_M_reads_0 : decode cb_M_reads 0 = .ok (.aload_n 0, 1) := by decide +kernel
theorem cd_M_reads_1 : decode cb_M_reads 1 = .ok (.iconst 0, 1) := by decide +kernel
theorem cd_M_reads_2 : decode cb_M_reads 2 = .ok (.putfield 133, 3) := by decide +kernel
theorem cd_M_reads_5 : decode cb_M_reads 5 = .ok (.aload_n 0, 1) := by decide +kernel
theorem cd_M_reads_6 : decode cb_M_reads 6 = .ok (.iconst 0, 1) := by decide +kernel
theorem cd_M_reads_7 : decode cb_M_reads 7 = .ok (.putfield 92, 3) := by decide +kernel
theorem cd_M_reads_10 : decode cb_M_reads 10 = .ok (.iconst 1, 1) := by decide +kernel
theorem cd_M_reads_11 : decode cb_M_reads 11 = .ok (.istore_n 1, 1) := by decide +kernel
theorem cd_M_reads_12 : decode cb_M_reads 12 = .ok (.iload_n 1, 1) := by decide +kernel
theorem cd_M_reads_13 : decode cb_M_reads 13 = .ok (.ifCond .eq 54, 3) := by decide +kernel
theorem cd_M_reads_16 : decode cb_M_reads 16 = .ok (.aload_n 0, 1) := by decide +kernel
theorem cd_M_reads_17 : decode cb_M_reads 17 = .ok (.getfield 92, 3) := by decide +kernel
theorem cd_M_reads_20 : decode cb_M_reads 20 = .ok (.aload_n 0, 1) := by decide +kernel
theorem cd_M_reads_21 : decode cb_M_reads 21 = .ok (.getfield 89, 3) := by decide +kernel
theorem cd_M_reads_24 : decode cb_M_reads 24 = .ok (.if_icmp .lt 10, 3) := by decide +kernel
theorem cd_M_reads_27 : decode cb_M_reads 27 = .ok (.aload_n 0, 1) := by decide +kernel
theorem cd_M_reads_28 : decode cb_M_reads 28 = .ok (.getfield 133, 3) := by decide +kernel
theorem cd_M_reads_31 : decode cb_M_reads 31 = .ok (.ifCond .ne 36, 3) := by decide +kernel
theorem cd_M_reads_34 : decode cb_M_reads 34 = .ok (.aload_n 0, 1) := by decide +kernel
theorem cd_M_reads_35 : decode cb_M_reads 35 = .ok (.bipush 100, 2) := by decide +kernel
theorem cd_M_reads_37 : decode cb_M_reads 37 = .ok (.aload_n 0, 1) := by decide +kernel
theorem cd_M_reads_38 : decode cb_M_reads 38 = .ok (.getfield 133, 3) := by decide +kernel
theorem cd_M_reads_41 : decode cb_M_reads 41 = .ok (.iadd, 1) := by decide +kernel
theorem cd_M_reads_42 : decode cb_M_reads 42 = .ok (.invokevirtual 136, 3) := by decide +kernel
theorem cd_M_reads_45 : decode cb_M_reads 45 = .ok (.istore_n 1, 1) := by decide +kernel
theorem cd_M_reads_46 : decode cb_M_reads 46 = .ok (.aload_n 0, 1) := by decide +kernel
theorem cd_M_reads_47 : decode cb_M_reads 47 = .ok (.dup, 1) := by decide +kernel
theorem cd_M_reads_48 : decode cb_M_reads 48 = .ok (.getfield 133, 3) := by decide +kernel
theorem cd_M_reads_51 : decode cb_M_reads 51 = .ok (.iload_n 1, 1) := by decide +kernel
theorem cd_M_reads_52 : decode cb_M_reads 52 = .ok (.ifCond .eq 7, 3) := by decide +kernel
theorem cd_M_reads_55 : decode cb_M_reads 55 = .ok (.iconst 1, 1) := by decide +kernel
theorem cd_M_reads_56 : decode cb_M_reads 56 = .ok (.goto 4, 3) := by decide +kernel
theorem cd_M_reads_59 : decode cb_M_reads 59 = .ok (.iconst 0, 1) := by decide +kernel
theorem cd_M_reads_60 : decode cb_M_reads 60 = .ok (.iadd, 1) := by decide +kernel
theorem cd_M_reads_61 : decode cb_M_reads 61 = .ok (.putfield 133, 3) := by decide +kernel
theorem cd_M_reads_64 : decode cb_M_reads 64 = .ok (.goto (-52), 3) := by decide +kernel
theorem cd_M_reads_67 : decode cb_M_reads 67 = .ok (.aload_n 0, 1) := by decide +kernel
theorem cd_M_reads_68 : decode cb_M_reads 68 = .ok (.iload_n 1, 1) := by decide +kernel
theorem cd_M_reads_69 : decode cb_M_reads 69 = .ok (.ifCond .eq 7, 3) := by decide +kernel
theorem cd_M_reads_72 : decode cb_M_reads 72 = .ok (.iconst (-1), 1) := by decide +kernel
theorem cd_M_reads_73 : decode cb_M_reads 73 = .ok (.goto 7, 3) := by decide +kernel
theorem cd_M_reads_76 : decode cb_M_reads 76 = .ok (.aload_n 0, 1) := by decide +kernel
theorem cd_M_reads_77 : decode cb_M_reads 77 = .ok (.getfield 92, 3) := by decide +kernel
theorem cd_M_reads_80 : decode cb_M_reads 80 = .ok (.putfield 13, 3) := by decide +kernel
theorem cd_M_reads_83 : decode cb_M_reads 83 = .ok (.aload_n 0, 1) := by decide +kernel
theorem cd_M_reads_84 : decode cb_M_reads 84 = .ok (.iconst 0, 1) := by decide +kernel
theorem cd_M_reads_85 : decode cb_M_reads 85 = .ok (.putfield 89, 3) := by decide +kernel
theorem cd_M_reads_88 : decode cb_M_reads 88 = .ok (.iload_n 1, 1) := by decide +kernel
theorem cd_M_reads_89 : decode cb_M_reads 89 = .ok (.ireturn, 1) := by decide +kernel
theorem cd_M_copy_0 : decode cb_M_copy 0 = .ok (.aload_n 0, 1) := by decide +kernel
theorem cd_M_copy_1 : decode cb_M_copy 1 = .ok (.getfield 27, 3) := by decide +kernel
theorem cd_M_copy_4 : decode cb_M_copy 4 = .ok (.iload_n 1, 1) := by decide +kernel
theorem cd_M_copy_5 : decode cb_M_copy 5 = .ok (.aload_n 0, 1) := by decide +kernel
theorem cd_M_copy_6 : decode cb_M_copy 6 = .ok (.getfield 27, 3) := by decide +kernel
theorem cd_M_copy_9 : decode cb_M_copy 9 = .ok (.iload_n 2, 1) := by decide +kernel
theorem cd_M_copy_10 : decode cb_M_copy 10 = .ok (.iaload, 1) := by decide +kernel
theorem cd_M_copy_11 : decode cb_M_copy 11 = .ok (.iastore, 1) := by decide +kernel
theorem cd_M_copy_12 : decode cb_M_copy 12 = .ok (.aload_n 0, 1) := by decide +kernel
theorem cd_M_copy_13 : decode cb_M_copy 13 = .ok (.getfield 30, 3) := by decide +kernel
theorem cd_M_copy_16 : decode cb_M_copy 16 = .ok (.iload_n 1, 1) := by decide +kernel
theorem cd_M_copy_17 : decode cb_M_copy 17 = .ok (.aload_n 0, 1) := by decide +kernel
theorem cd_M_copy_18 : decode cb_M_copy 18 = .ok (.getfield 30, 3) := by decide +kernel
theorem cd_M_copy_21 : decode cb_M_copy 21 = .ok (.iload_n 2, 1) := by decide +kernel
theorem cd_M_copy_22 : decode cb_M_copy 22 = .ok (.iaload, 1) := by decide +kernel
theorem cd_M_copy_23 : decode cb_M_copy 23 = .ok (.iastore, 1) := by decide +kernel
theorem cd_M_copy_24 : decode cb_M_copy 24 = .ok (.aload_n 0, 1) := by decide +kernel
theorem cd_M_copy_25 : decode cb_M_copy 25 = .ok (.getfield 33, 3) := by decide +kernel
theorem cd_M_copy_28 : decode cb_M_copy 28 = .ok (.iload_n 1, 1) := by decide +kernel
theorem cd_M_copy_29 : decode cb_M_copy 29 = .ok (.aload_n 0, 1) := by decide +kernel
theorem cd_M_copy_30 : decode cb_M_copy 30 = .ok (.getfield 33, 3) := by decide +kernel
theorem cd_M_copy_33 : decode cb_M_copy 33 = .ok (.iload_n 2, 1) := by decide +kernel
theorem cd_M_copy_34 : decode cb_M_copy 34 = .ok (.iaload, 1) := by decide +kernel
theorem cd_M_copy_35 : decode cb_M_copy 35 = .ok (.iastore, 1) := by decide +kernel
theorem cd_M_copy_36 : decode cb_M_copy 36 = .ok (.aload_n 0, 1) := by decide +kernel
theorem cd_M_copy_37 : decode cb_M_copy 37 = .ok (.getfield 36, 3) := by decide +kernel
theorem cd_M_copy_40 : decode cb_M_copy 40 = .ok (.iload_n 1, 1) := by decide +kernel
theorem cd_M_copy_41 : decode cb_M_copy 41 = .ok (.aload_n 0, 1) := by decide +kernel
theorem cd_M_copy_42 : decode cb_M_copy 42 = .ok (.getfield 36, 3) := by decide +kernel
theorem cd_M_copy_45 : decode cb_M_copy 45 = .ok (.iload_n 2, 1) := by decide +kernel
theorem cd_M_copy_46 : decode cb_M_copy 46 = .ok (.iaload, 1) := by decide +kernel
theorem cd_M_copy_47 : decode cb_M_copy 47 = .ok (.iastore, 1) := by decide +kernel
theorem cd_M_copy_48 : decode cb_M_copy 48 = .ok (.aload_n 0, 1) := by decide +kernel
theorem cd_M_copy_49 : decode cb_M_copy 49 = .ok (.getfield 39, 3) := by decide +kernel
theorem cd_M_copy_52 : decode cb_M_copy 52 = .ok (.iload_n 1, 1) := by decide +kernel
theorem cd_M_copy_53 : decode cb_M_copy 53 = .ok (.aload_n 0, 1) := by decide +kernel
theorem cd_M_copy_54 : decode cb_M_copy 54 = .ok (.getfield 39, 3) := by decide +kernel
theorem cd_M_copy_57 : decode cb_M_copy 57 = .ok (.iload_n 2, 1) := by decide +kernel
theorem cd_M_copy_58 : decode cb_M_copy 58 = .ok (.iaload, 1) := by decide +kernel
theorem cd_M_copy_59 : decode cb_M_copy 59 = .ok (.iastore, 1) := by decide +kernel
theorem cd_M_copy_60 : decode cb_M_copy 60 = .ok (.aload_n 0, 1) := by decide +kernel
theorem cd_M_copy_61 : decode cb_M_copy 61 = .ok (.getfield 42, 3) := by decide +kernel
theorem cd_M_copy_64 : decode cb_M_copy 64 = .ok (.iload_n 1, 1) := by decide +kernel
theorem cd_M_copy_65 : decode cb_M_copy 65 = .ok (.aload_n 0, 1) := by decide +kernel
theorem cd_M_copy_66 : decode cb_M_copy 66 = .ok (.getfield 42, 3) := by decide +kernel
theorem cd_M_copy_69 : decode cb_M_copy 69 = .ok (.iload_n 2, 1) := by decide +kernel
theorem cd_M_copy_70 : decode cb_M_copy 70 = .ok (.iaload, 1) := by decide +kernel
theorem cd_M_copy_71 : decode cb_M_copy 71 = .ok (.iastore, 1) := by decide +kernel
theorem cd_M_copy_72 : decode cb_M_copy 72 = .ok (.iconst 0, 1) := by decide +kernel
theorem cd_M_copy_73 : decode cb_M_copy 73 = .ok (.istore 4, 2) := by decide +kernel
theorem cd_M_copy_75 : decode cb_M_copy 75 = .ok (.iload 4, 2) := by decide +kernel
theorem cd_M_copy_77 : decode cb_M_copy 77 = .ok (.bipush 16, 2) := by decide +kernel
theorem cd_M_copy_79 : decode cb_M_copy 79 = .ok (.if_icmp .ge 33, 3) := by decide +kernel
theorem cd_M_copy_82 : decode cb_M_copy 82 = .ok (.aload_n 0, 1) := by decide +kernel
theorem cd_M_copy_83 : decode cb_M_copy 83 = .ok (.getfield 45, 3) := by decide +kernel
theorem cd_M_copy_86 : decode cb_M_copy 86 = .ok (.bipush 16, 2) := by decide +kernel
theorem cd_M_copy_88 : decode cb_M_copy 88 = .ok (.iload_n 1, 1) := by decide +kernel
theorem cd_M_copy_89 : decode cb_M_copy 89 = .ok (.imul, 1) := by decide +kernel
theorem cd_M_copy_90 : decode cb_M_copy 90 = .ok (.iload 4, 2) := by decide +kernel
theorem cd_M_copy_92 : decode cb_M_copy 92 = .ok (.iadd, 1) := by decide +kernel
theorem cd_M_copy_93 : decode cb_M_copy 93 = .ok (.aload_n 0, 1) := by decide +kernel
theorem cd_M_copy_94 : decode cb_M_copy 94 = .ok (.getfield 45, 3) := by decide +kernel
theorem cd_M_copy_97 : decode cb_M_copy 97 = .ok (.bipush 16, 2) := by decide +kernel
theorem cd_M_copy_99 : decode cb_M_copy 99 = .ok (.iload_n 2, 1) := by decide +kernel
theorem cd_M_copy_100 : decode cb_M_copy 100 = .ok (.imul, 1) := by decide +kernel
theorem cd_M_copy_101 : decode cb_M_copy 101 = .ok (.iload 4, 2) := by decide +kernel
theorem cd_M_copy_103 : decode cb_M_copy 103 = .ok (.iadd, 1) := by decide +kernel
theorem cd_M_copy_104 : decode cb_M_copy 104 = .ok (.baload, 1) := by decide +kernel
theorem cd_M_copy_105 : decode cb_M_copy 105 = .ok (.bastore, 1) := by decide +kernel
theorem cd_M_copy_106 : decode cb_M_copy 106 = .ok (.iinc 4 1, 3) := by decide +kernel
theorem cd_M_copy_109 : decode cb_M_copy 109 = .ok (.goto (-34), 3) := by decide +kernel
theorem cd_M_copy_112 : decode cb_M_copy 112 = .ok (.iload_n 3, 1) := by decide +kernel
theorem cd_M_copy_113 : decode cb_M_copy 113 = .ok (.ifCond .ne 4, 3) := by decide +kernel
theorem cd_M_copy_116 : decode cb_M_copy 116 = .ok (.return_, 1) := by decide +kernel
theorem cd_M_copy_117 : decode cb_M_copy 117 = .ok (.aload_n 0, 1) := by decide +kernel
theorem cd_M_copy_118 : decode cb_M_copy 118 = .ok (.getfield 17, 3) := by decide +kernel
theorem cd_M_copy_121 : decode cb_M_copy 121 = .ok (.iload_n 1, 1) := by decide +kernel
theorem cd_M_copy_122 : decode cb_M_copy 122 = .ok (.aload_n 0, 1) := by decide +kernel
theorem cd_M_copy_123 : decode cb_M_copy 123 = .ok (.getfield 17, 3) := by decide +kernel
theorem cd_M_copy_126 : decode cb_M_copy 126 = .ok (.iload_n 2, 1) := by decide +kernel
theorem cd_M_copy_127 : decode cb_M_copy 127 = .ok (.iaload, 1) := by decide +kernel
theorem cd_M_copy_128 : decode cb_M_copy 128 = .ok (.iastore, 1) := by decide +kernel
theorem cd_M_copy_129 : decode cb_M_copy 129 = .ok (.aload_n 0, 1) := by decide +kernel
theorem cd_M_copy_130 : decode cb_M_copy 130 = .ok (.getfield 21, 3) := by decide +kernel
theorem cd_M_copy_133 : decode cb_M_copy 133 = .ok (.iload_n 1, 1) := by decide +kernel
theorem cd_M_copy_134 : decode cb_M_copy 134 = .ok (.aload_n 0, 1) := by decide +kernel
theorem cd_M_copy_135 : decode cb_M_copy 135 = .ok (.getfield 21, 3) := by decide +kernel
theorem cd_M_copy_138 : decode cb_M_copy 138 = .ok (.iload_n 2, 1) := by decide +kernel
theorem cd_M_copy_139 : decode cb_M_copy 139 = .ok (.iaload, 1) := by decide +kernel
theorem cd_M_copy_140 : decode cb_M_copy 140 = .ok (.iastore, 1) := by decide +kernel
theorem cd_M_copy_141 : decode cb_M_copy 141 = .ok (.aload_n 0, 1) := by decide +kernel
theorem cd_M_copy_142 : decode cb_M_copy 142 = .ok (.getfield 24, 3) := by decide +kernel
theorem cd_M_copy_145 : decode cb_M_copy 145 = .ok (.iload_n 1, 1) := by decide +kernel
theorem cd_M_copy_146 : decode cb_M_copy 146 = .ok (.aload_n 0, 1) := by decide +kernel
theorem cd_M_copy_147 : decode cb_M_copy 147 = .ok (.getfield 24, 3) := by decide +kernel
theorem cd_M_copy_150 : decode cb_M_copy 150 = .ok (.iload_n 2, 1) := by decide +kernel
theorem cd_M_copy_151 : decode cb_M_copy 151 = .ok (.iaload, 1) := by decide +kernel
theorem cd_M_copy_152 : decode cb_M_copy 152 = .ok (.ifCond .ge 7, 3) := by decide +kernel
theorem cd_M_copy_155 : decode cb_M_copy 155 = .ok (.iconst (-1), 1) := by decide +kernel
theorem cd_M_copy_156 : decode cb_M_copy 156 = .ok (.goto 12, 3) := by decide +kernel
theorem cd_M_copy_159 : decode cb_M_copy 159 = .ok (.aload_n 0, 1) := by decide +kernel
theorem cd_M_copy_160 : decode cb_M_copy 160 = .ok (.getfield 24, 3) := by decide +kernel
theorem cd_M_copy_163 : decode cb_M_copy 163 = .ok (.iload_n 2, 1) := by decide +kernel
theorem cd_M_copy_164 : decode cb_M_copy 164 = .ok (.iaload, 1) := by decide +kernel
theorem cd_M_copy_165 : decode cb_M_copy 165 = .ok (.bipush 100, 2) := by decide +kernel
theorem cd_M_copy_167 : decode cb_M_copy 167 = .ok (.isub, 1) := by decide +kernel
theorem cd_M_copy_168 : decode cb_M_copy 168 = .ok (.iastore, 1) := by decide +kernel
theorem cd_M_copy_169 : decode cb_M_copy 169 = .ok (.return_, 1) := by decide +kernel
theorem cd_M_read_0 : decode cb_M_read 0 = .ok (.aload_n 0, 1) := by decide +kernel
theorem cd_M_read_1 : decode cb_M_read 1 = .ok (.aload_n 0, 1) := by decide +kernel
theorem cd_M_read_2 : decode cb_M_read 2 = .ok (.invokevirtual 139, 3) := by decide +kernel
theorem cd_M_read_5 : decode cb_M_read 5 = .ok (.ifCond .eq 7, 3) := by decide +kernel
theorem cd_M_read_8 : decode cb_M_read 8 = .ok (.iconst 0, 1) := by decide +kernel
theorem cd_M_read_9 : decode cb_M_read 9 = .ok (.goto 4, 3) := by decide +kernel
theorem cd_M_read_12 : decode cb_M_read 12 = .ok (.iconst 1, 1) := by decide +kernel
theorem cd_M_read_13 : decode cb_M_read 13 = .ok (.putfield 79, 3) := by decide +kernel
theorem cd_M_read_16 : decode cb_M_read 16 = .ok (.aload_n 0, 1) := by decide +kernel
theorem cd_M_read_17 : decode cb_M_read 17 = .ok (.getfield 79, 3) := by decide +kernel
theorem cd_M_read_20 : decode cb_M_read 20 = .ok (.ifCond .le 5, 3) := by decide +kernel
theorem cd_M_read_23 : decode cb_M_read 23 = .ok (.iconst 0, 1) := by decide +kernel
theorem cd_M_read_24 : decode cb_M_read 24 = .ok (.ireturn, 1) := by decide +kernel
theorem cd_M_read_25 : decode cb_M_read 25 = .ok (.aload_n 0, 1) := by decide +kernel
theorem cd_M_read_26 : decode cb_M_read 26 = .ok (.aload_n 0, 1) := by decide +kernel
theorem cd_M_read_27 : decode cb_M_read 27 = .ok (.getfield 133, 3) := by decide +kernel
theorem cd_M_read_30 : decode cb_M_read 30 = .ok (.putfield 82, 3) := by decide +kernel
theorem cd_M_read_33 : decode cb_M_read 33 = .ok (.aload_n 0, 1) := by decide +kernel
theorem cd_M_read_34 : decode cb_M_read 34 = .ok (.iconst 0, 1) := by decide +kernel
theorem cd_M_read_35 : decode cb_M_read 35 = .ok (.putfield 142, 3) := by decide +kernel
theorem cd_M_read_38 : decode cb_M_read 38 = .ok (.iconst 0, 1) := by decide +kernel
theorem cd_M_read_39 : decode cb_M_read 39 = .ok (.istore_n 1, 1) := by decide +kernel
theorem cd_M_read_40 : decode cb_M_read 40 = .ok (.iload_n 1, 1) := by decide +kernel
theorem cd_M_read_41 : decode cb_M_read 41 = .ok (.bipush 100, 2) := by decide +kernel
theorem cd_M_read_43 : decode cb_M_read 43 = .ok (.if_icmp .ge 64, 3) := by decide +kernel
theorem cd_M_read_46 : decode cb_M_read 46 = .ok (.aload_n 0, 1) := by decide +kernel
theorem cd_M_read_47 : decode cb_M_read 47 = .ok (.iload_n 1, 1) := by decide +kernel
theorem cd_M_read_48 : decode cb_M_read 48 = .ok (.bipush 100, 2) := by decide +kernel
theorem cd_M_read_50 : decode cb_M_read 50 = .ok (.iload_n 1, 1) := by decide +kernel
theorem cd_M_read_51 : decode cb_M_read 51 = .ok (.iadd, 1) := by decide +kernel
theorem cd_M_read_52 : decode cb_M_read 52 = .ok (.iconst 1, 1) := by decide +kernel
theorem cd_M_read_53 : decode cb_M_read 53 = .ok (.invokevirtual 146, 3) := by decide +kernel
theorem cd_M_read_56 : decode cb_M_read 56 = .ok (.iconst 0, 1) := by decide +kernel
theorem cd_M_read_57 : decode cb_M_read 57 = .ok (.istore_n 2, 1) := by decide +kernel
theorem cd_M_read_58 : decode cb_M_read 58 = .ok (.iload_n 2, 1) := by decide +kernel
theorem cd_M_read_59 : decode cb_M_read 59 = .ok (.iconst 4, 1) := by decide +kernel
theorem cd_M_read_60 : decode cb_M_read 60 = .ok (.if_icmp .ge 20, 3) := by decide +kernel
theorem cd_M_read_63 : decode cb_M_read 63 = .ok (.aload_n 0, 1) := by decide +kernel
theorem cd_M_read_64 : decode cb_M_read 64 = .ok (.getfield 48, 3) := by decide +kernel
theorem cd_M_read_67 : decode cb_M_read 67 = .ok (.iconst 4, 1) := by decide +kernel
theorem cd_M_read_68 : decode cb_M_read 68 = .ok (.iload_n 1, 1) := by decide +kernel
theorem cd_M_read_69 : decode cb_M_read 69 = .ok (.imul, 1) := by decide +kernel
theorem cd_M_read_70 : decode cb_M_read 70 = .ok (.iload_n 2, 1) := by decide +kernel
theorem cd_M_read_71 : decode cb_M_read 71 = .ok (.iadd, 1) := by decide +kernel
theorem cd_M_read_72 : decode cb_M_read 72 = .ok (.iconst 0, 1) := by decide +kernel
theorem cd_M_read_73 : decode cb_M_read 73 = .ok (.iastore, 1) := by decide +kernel
theorem cd_M_read_74 : decode cb_M_read 74 = .ok (.iinc 2 1, 3) := by decide +kernel
theorem cd_M_read_77 : decode cb_M_read 77 = .ok (.goto (-19), 3) := by decide +kernel
theorem cd_M_read_80 : decode cb_M_read 80 = .ok (.aload_n 0, 1) := by decide +kernel
theorem cd_M_read_81 : decode cb_M_read 81 = .ok (.getfield 54, 3) := by decide +kernel
theorem cd_M_read_84 : decode cb_M_read 84 = .ok (.iload_n 1, 1) := by decide +kernel
theorem cd_M_read_85 : decode cb_M_read 85 = .ok (.iconst 0, 1) := by decide +kernel
theorem cd_M_read_86 : decode cb_M_read 86 = .ok (.iastore, 1) := by decide +kernel
theorem cd_M_read_87 : decode cb_M_read 87 = .ok (.aload_n 0, 1) := by decide +kernel
theorem cd_M_read_88 : decode cb_M_read 88 = .ok (.getfield 60, 3) := by decide +kernel
theorem cd_M_read_91 : decode cb_M_read 91 = .ok (.iload_n 1, 1) := by decide +kernel
theorem cd_M_read_92 : decode cb_M_read 92 = .ok (.iconst 0, 1) := by decide +kernel
theorem cd_M_read_93 : decode cb_M_read 93 = .ok (.iastore, 1) := by decide +kernel
theorem cd_M_read_94 : decode cb_M_read 94 = .ok (.aload_n 0, 1) := by decide +kernel
theorem cd_M_read_95 : decode cb_M_read 95 = .ok (.getfield 63, 3) := by decide +kernel
theorem cd_M_read_98 : decode cb_M_read 98 = .ok (.iload_n 1, 1) := by decide +kernel
theorem cd_M_read_99 : decode cb_M_read 99 = .ok (.iconst 0, 1) := by decide +kernel
theorem cd_M_read_100 : decode cb_M_read 100 = .ok (.bastore, 1) := by decide +kernel
theorem cd_M_read_101 : decode cb_M_read 101 = .ok (.iinc 1 1, 3) := by decide +kernel
theorem cd_M_read_104 : decode cb_M_read 104 = .ok (.goto (-64), 3) := by decide +kernel
theorem cd_M_read_107 : decode cb_M_read 107 = .ok (.aload_n 0, 1) := by decide +kernel
theorem cd_M_read_108 : decode cb_M_read 108 = .ok (.getfield 82, 3) := by decide +kernel
theorem cd_M_read_111 : decode cb_M_read 111 = .ok (.ireturn, 1) := by decide +kernel
theorem cd_M_place__0 : decode cb_M_place_ 0 = .ok (.aload_n 0, 1) := by decide +kernel
theorem cd_M_place__1 : decode cb_M_place_ 1 = .ok (.iconst 0, 1) := by decide +kernel
theorem cd_M_place__2 : decode cb_M_place_ 2 = .ok (.putfield 79, 3) := by decide +kernel
theorem cd_M_place__5 : decode cb_M_place_ 5 = .ok (.aload_n 0, 1) := by decide +kernel
theorem cd_M_place__6 : decode cb_M_place_ 6 = .ok (.getfield 13, 3) := by decide +kernel
theorem cd_M_place__9 : decode cb_M_place_ 9 = .ok (.ireturn, 1) := by decide +kernel
theorem cd_M_level_0 : decode cb_M_level 0 = .ok (.aload_n 0, 1) := by decide +kernel
theorem cd_M_level_1 : decode cb_M_level 1 = .ok (.iconst 0, 1) := by decide +kernel
theorem cd_M_level_2 : decode cb_M_level 2 = .ok (.putfield 79, 3) := by decide +kernel
theorem cd_M_level_5 : decode cb_M_level 5 = .ok (.aload_n 0, 1) := by decide +kernel
theorem cd_M_level_6 : decode cb_M_level 6 = .ok (.iload_n 1, 1) := by decide +kernel
theorem cd_M_level_7 : decode cb_M_level 7 = .ok (.invokevirtual 150, 3) := by decide +kernel
theorem cd_M_level_10 : decode cb_M_level 10 = .ok (.ifCond .ne 5, 3) := by decide +kernel
theorem cd_M_level_13 : decode cb_M_level 13 = .ok (.iconst (-1), 1) := by decide +kernel
theorem cd_M_level_14 : decode cb_M_level 14 = .ok (.ireturn, 1) := by decide +kernel
theorem cd_M_level_15 : decode cb_M_level 15 = .ok (.iload_n 2, 1) := by decide +kernel
theorem cd_M_level_16 : decode cb_M_level 16 = .ok (.tableswitch 125 0 9 #[56, 63, 70, 77, 83, 90, 97, 104, 111, 118], 56) := by decide +kernel
theorem cd_M_level_72 : decode cb_M_level 72 = .ok (.aload_n 0, 1) := by decide +kernel
theorem cd_M_level_73 : decode cb_M_level 73 = .ok (.getfield 17, 3) := by decide +kernel
theorem cd_M_level_76 : decode cb_M_level 76 = .ok (.iload_n 1, 1) := by decide +kernel
theorem cd_M_level_77 : decode cb_M_level 77 = .ok (.iaload, 1) := by decide +kernel
theorem cd_M_level_78 : decode cb_M_level 78 = .ok (.ireturn, 1) := by decide +kernel
theorem cd_M_level_79 : decode cb_M_level 79 = .ok (.aload_n 0, 1) := by decide +kernel
theorem cd_M_level_80 : decode cb_M_level 80 = .ok (.getfield 21, 3) := by decide +kernel
theorem cd_M_level_83 : decode cb_M_level 83 = .ok (.iload_n 1, 1) := by decide +kernel
theorem cd_M_level_84 : decode cb_M_level 84 = .ok (.iaload, 1) := by decide +kernel
theorem cd_M_level_85 : decode cb_M_level 85 = .ok (.ireturn, 1) := by decide +kernel
theorem cd_M_level_86 : decode cb_M_level 86 = .ok (.aload_n 0, 1) := by decide +kernel
theorem cd_M_level_87 : decode cb_M_level 87 = .ok (.getfield 24, 3) := by decide +kernel
theorem cd_M_level_90 : decode cb_M_level 90 = .ok (.iload_n 1, 1) := by decide +kernel
theorem cd_M_level_91 : decode cb_M_level 91 = .ok (.iaload, 1) := by decide +kernel
theorem cd_M_level_92 : decode cb_M_level 92 = .ok (.ireturn, 1) := by decide +kernel
theorem cd_M_level_93 : decode cb_M_level 93 = .ok (.aload_n 0, 1) := by decide +kernel
theorem cd_M_level_94 : decode cb_M_level 94 = .ok (.iload_n 1, 1) := by decide +kernel
theorem cd_M_level_95 : decode cb_M_level 95 = .ok (.invokevirtual 103, 3) := by decide +kernel
theorem cd_M_level_98 : decode cb_M_level 98 = .ok (.ireturn, 1) := by decide +kernel
theorem cd_M_level_99 : decode cb_M_level 99 = .ok (.aload_n 0, 1) := by decide +kernel
theorem cd_M_level_100 : decode cb_M_level 100 = .ok (.getfield 27, 3) := by decide +kernel
theorem cd_M_level_103 : decode cb_M_level 103 = .ok (.iload_n 1, 1) := by decide +kernel
theorem cd_M_level_104 : decode cb_M_level 104 = .ok (.iaload, 1) := by decide +kernel
theorem cd_M_level_105 : decode cb_M_level 105 = .ok (.ireturn, 1) := by decide +kernel
theorem cd_M_level_106 : decode cb_M_level 106 = .ok (.aload_n 0, 1) := by decide +kernel
theorem cd_M_level_107 : decode cb_M_level 107 = .ok (.getfield 30, 3) := by decide +kernel
theorem cd_M_level_110 : decode cb_M_level 110 = .ok (.iload_n 1, 1) := by decide +kernel
theorem cd_M_level_111 : decode cb_M_level 111 = .ok (.iaload, 1) := by decide +kernel
theorem cd_M_level_112 : decode cb_M_level 112 = .ok (.ireturn, 1) := by decide +kernel
theorem cd_M_level_113 : decode cb_M_level 113 = .ok (.aload_n 0, 1) := by decide +kernel
theorem cd_M_level_114 : decode cb_M_level 114 = .ok (.getfield 33, 3) := by decide +kernel
theorem cd_M_level_117 : decode cb_M_level 117 = .ok (.iload_n 1, 1) := by decide +kernel
theorem cd_M_level_118 : decode cb_M_level 118 = .ok (.iaload, 1) := by decide +kernel
theorem cd_M_level_119 : decode cb_M_level 119 = .ok (.ireturn, 1) := by decide +kernel
theorem cd_M_level_120 : decode cb_M_level 120 = .ok (.aload_n 0, 1) := by decide +kernel
theorem cd_M_level_121 : decode cb_M_level 121 = .ok (.getfield 36, 3) := by decide +kernel
theorem cd_M_level_124 : decode cb_M_level 124 = .ok (.iload_n 1, 1) := by decide +kernel
theorem cd_M_level_125 : decode cb_M_level 125 = .ok (.iaload, 1) := by decide +kernel
theorem cd_M_level_126 : decode cb_M_level 126 = .ok (.ireturn, 1) := by decide +kernel
theorem cd_M_level_127 : decode cb_M_level 127 = .ok (.aload_n 0, 1) := by decide +kernel
theorem cd_M_level_128 : decode cb_M_level 128 = .ok (.getfield 39, 3) := by decide +kernel
theorem cd_M_level_131 : decode cb_M_level 131 = .ok (.iload_n 1, 1) := by decide +kernel
theorem cd_M_level_132 : decode cb_M_level 132 = .ok (.iaload, 1) := by decide +kernel
theorem cd_M_level_133 : decode cb_M_level 133 = .ok (.ireturn, 1) := by decide +kernel
theorem cd_M_level_134 : decode cb_M_level 134 = .ok (.aload_n 0, 1) := by decide +kernel
theorem cd_M_level_135 : decode cb_M_level 135 = .ok (.getfield 42, 3) := by decide +kernel
theorem cd_M_level_138 : decode cb_M_level 138 = .ok (.iload_n 1, 1) := by decide +kernel
theorem cd_M_level_139 : decode cb_M_level 139 = .ok (.iaload, 1) := by decide +kernel
theorem cd_M_level_140 : decode cb_M_level 140 = .ok (.ireturn, 1) := by decide +kernel
theorem cd_M_level_141 : decode cb_M_level 141 = .ok (.iconst (-1), 1) := by decide +kernel
theorem cd_M_level_142 : decode cb_M_level 142 = .ok (.ireturn, 1) := by decide +kernel
theorem cd_M_letter_0 : decode cb_M_letter 0 = .ok (.aload_n 0, 1) := by decide +kernel
theorem cd_M_letter_1 : decode cb_M_letter 1 = .ok (.iconst 0, 1) := by decide +kernel
theorem cd_M_letter_2 : decode cb_M_letter 2 = .ok (.putfield 79, 3) := by decide +kernel
theorem cd_M_letter_5 : decode cb_M_letter 5 = .ok (.aload_n 0, 1) := by decide +kernel
theorem cd_M_letter_6 : decode cb_M_letter 6 = .ok (.iload_n 1, 1) := by decide +kernel
theorem cd_M_letter_7 : decode cb_M_letter 7 = .ok (.invokevirtual 150, 3) := by decide +kernel
theorem cd_M_letter_10 : decode cb_M_letter 10 = .ok (.ifCond .eq 33, 3) := by decide +kernel
theorem cd_M_letter_13 : decode cb_M_letter 13 = .ok (.iload_n 2, 1) := by decide +kernel
theorem cd_M_letter_14 : decode cb_M_letter 14 = .ok (.iconst 0, 1) := by decide +kernel
theorem cd_M_letter_15 : decode cb_M_letter 15 = .ok (.aload_n 0, 1) := by decide +kernel
theorem cd_M_letter_16 : decode cb_M_letter 16 = .ok (.getfield 42, 3) := by decide +kernel
theorem cd_M_letter_19 : decode cb_M_letter 19 = .ok (.iload_n 1, 1) := by decide +kernel
theorem cd_M_letter_20 : decode cb_M_letter 20 = .ok (.iaload, 1) := by decide +kernel
theorem cd_M_letter_21 : decode cb_M_letter 21 = .ok (.iconst 1, 1) := by decide +kernel
theorem cd_M_letter_22 : decode cb_M_letter 22 = .ok (.isub, 1) := by decide +kernel
theorem cd_M_letter_23 : decode cb_M_letter 23 = .ok (.invokestatic 85, 3) := by decide +kernel
theorem cd_M_letter_26 : decode cb_M_letter 26 = .ok (.ifCond .eq 17, 3) := by decide +kernel
theorem cd_M_letter_29 : decode cb_M_letter 29 = .ok (.aload_n 0, 1) := by decide +kernel
theorem cd_M_letter_30 : decode cb_M_letter 30 = .ok (.getfield 45, 3) := by decide +kernel
theorem cd_M_letter_33 : decode cb_M_letter 33 = .ok (.bipush 16, 2) := by decide +kernel
theorem cd_M_letter_35 : decode cb_M_letter 35 = .ok (.iload_n 1, 1) := by decide +kernel
theorem cd_M_letter_36 : decode cb_M_letter 36 = .ok (.imul, 1) := by decide +kernel
theorem cd_M_letter_37 : decode cb_M_letter 37 = .ok (.iload_n 2, 1) := by decide +kernel
theorem cd_M_letter_38 : decode cb_M_letter 38 = .ok (.iadd, 1) := by decide +kernel
theorem cd_M_letter_39 : decode cb_M_letter 39 = .ok (.baload, 1) := by decide +kernel
theorem cd_M_letter_40 : decode cb_M_letter 40 = .ok (.goto 4, 3) := by decide +kernel
theorem cd_M_letter_43 : decode cb_M_letter 43 = .ok (.iconst (-1), 1) := by decide +kernel
theorem cd_M_letter_44 : decode cb_M_letter 44 = .ok (.ireturn, 1) := by decide +kernel
theorem cd_M_compare_0 : decode cb_M_compare 0 = .ok (.aload_n 0, 1) := by decide +kernel
theorem cd_M_compare_1 : decode cb_M_compare 1 = .ok (.iconst 0, 1) := by decide +kernel
theorem cd_M_compare_2 : decode cb_M_compare 2 = .ok (.putfield 79, 3) := by decide +kernel
theorem cd_M_compare_5 : decode cb_M_compare 5 = .ok (.aload_n 0, 1) := by decide +kernel
theorem cd_M_compare_6 : decode cb_M_compare 6 = .ok (.iload_n 1, 1) := by decide +kernel
theorem cd_M_compare_7 : decode cb_M_compare 7 = .ok (.invokevirtual 150, 3) := by decide +kernel
theorem cd_M_compare_10 : decode cb_M_compare 10 = .ok (.ifCond .eq 11, 3) := by decide +kernel
theorem cd_M_compare_13 : decode cb_M_compare 13 = .ok (.aload_n 0, 1) := by decide +kernel
theorem cd_M_compare_14 : decode cb_M_compare 14 = .ok (.iload_n 2, 1) := by decide +kernel
theorem cd_M_compare_15 : decode cb_M_compare 15 = .ok (.invokevirtual 150, 3) := by decide +kernel
theorem cd_M_compare_18 : decode cb_M_compare 18 = .ok (.ifCond .ne 6, 3) := by decide +kernel
theorem cd_M_compare_21 : decode cb_M_compare 21 = .ok (.bipush (-2), 2) := by decide +kernel
theorem cd_M_compare_23 : decode cb_M_compare 23 = .ok (.ireturn, 1) := by decide +kernel
theorem cd_M_compare_24 : decode cb_M_compare 24 = .ok (.aload_n 0, 1) := by decide +kernel
theorem cd_M_compare_25 : decode cb_M_compare 25 = .ok (.getfield 27, 3) := by decide +kernel
theorem cd_M_compare_28 : decode cb_M_compare 28 = .ok (.iload_n 1, 1) := by decide +kernel
theorem cd_M_compare_29 : decode cb_M_compare 29 = .ok (.iaload, 1) := by decide +kernel
theorem cd_M_compare_30 : decode cb_M_compare 30 = .ok (.ifCond .lt 12, 3) := by decide +kernel
theorem cd_M_compare_33 : decode cb_M_compare 33 = .ok (.aload_n 0, 1) := by decide +kernel
theorem cd_M_compare_34 : decode cb_M_compare 34 = .ok (.getfield 27, 3) := by decide +kernel
theorem cd_M_compare_37 : decode cb_M_compare 37 = .ok (.iload_n 2, 1) := by decide +kernel
theorem cd_M_compare_38 : decode cb_M_compare 38 = .ok (.iaload, 1) := by decide +kernel
theorem cd_M_compare_39 : decode cb_M_compare 39 = .ok (.ifCond .ge 31, 3) := by decide +kernel
theorem cd_M_compare_42 : decode cb_M_compare 42 = .ok (.aload_n 0, 1) := by decide +kernel
theorem cd_M_compare_43 : decode cb_M_compare 43 = .ok (.getfield 27, 3) := by decide +kernel
theorem cd_M_compare_46 : decode cb_M_compare 46 = .ok (.iload_n 1, 1) := by decide +kernel
theorem cd_M_compare_47 : decode cb_M_compare 47 = .ok (.iaload, 1) := by decide +kernel
theorem cd_M_compare_48 : decode cb_M_compare 48 = .ok (.ifCond .lt 7, 3) := by decide +kernel
theorem cd_M_compare_51 : decode cb_M_compare 51 = .ok (.iconst (-1), 1) := by decide +kernel
theorem cd_M_compare_52 : decode cb_M_compare 52 = .ok (.goto 17, 3) := by decide +kernel
theorem cd_M_compare_55 : decode cb_M_compare 55 = .ok (.aload_n 0, 1) := by decide +kernel
theorem cd_M_compare_56 : decode cb_M_compare 56 = .ok (.getfield 27, 3) := by decide +kernel
theorem cd_M_compare_59 : decode cb_M_compare 59 = .ok (.iload_n 2, 1) := by decide +kernel
theorem cd_M_compare_60 : decode cb_M_compare 60 = .ok (.iaload, 1) := by decide +kernel
theorem cd_M_compare_61 : decode cb_M_compare 61 = .ok (.ifCond .lt 7, 3) := by decide +kernel
theorem cd_M_compare_64 : decode cb_M_compare 64 = .ok (.iconst 1, 1) := by decide +kernel
theorem cd_M_compare_65 : decode cb_M_compare 65 = .ok (.goto 4, 3) := by decide +kernel
theorem cd_M_compare_68 : decode cb_M_compare 68 = .ok (.iconst 0, 1) := by decide +kernel
theorem cd_M_compare_69 : decode cb_M_compare 69 = .ok (.ireturn, 1) := by decide +kernel
theorem cd_M_compare_70 : decode cb_M_compare 70 = .ok (.aload_n 0, 1) := by decide +kernel
theorem cd_M_compare_71 : decode cb_M_compare 71 = .ok (.getfield 27, 3) := by decide +kernel
theorem cd_M_compare_74 : decode cb_M_compare 74 = .ok (.iload_n 1, 1) := by decide +kernel
theorem cd_M_compare_75 : decode cb_M_compare 75 = .ok (.iaload, 1) := by decide +kernel
theorem cd_M_compare_76 : decode cb_M_compare 76 = .ok (.aload_n 0, 1) := by decide +kernel
theorem cd_M_compare_77 : decode cb_M_compare 77 = .ok (.getfield 27, 3) := by decide +kernel
theorem cd_M_compare_80 : decode cb_M_compare 80 = .ok (.iload_n 2, 1) := by decide +kernel
theorem cd_M_compare_81 : decode cb_M_compare 81 = .ok (.iaload, 1) := by decide +kernel
theorem cd_M_compare_82 : decode cb_M_compare 82 = .ok (.if_icmp .eq 19, 3) := by decide +kernel
theorem cd_M_compare_85 : decode cb_M_compare 85 = .ok (.aload_n 0, 1) := by decide +kernel
theorem cd_M_compare_86 : decode cb_M_compare 86 = .ok (.getfield 27, 3) := by decide +kernel
theorem cd_M_compare_89 : decode cb_M_compare 89 = .ok (.iload_n 1, 1) := by decide +kernel
theorem cd_M_compare_90 : decode cb_M_compare 90 = .ok (.iaload, 1) := by decide +kernel
theorem cd_M_compare_91 : decode cb_M_compare 91 = .ok (.aload_n 0, 1) := by decide +kernel
theorem cd_M_compare_92 : decode cb_M_compare 92 = .ok (.getfield 27, 3) := by decide +kernel
theorem cd_M_compare_95 : decode cb_M_compare 95 = .ok (.iload_n 2, 1) := by decide +kernel
theorem cd_M_compare_96 : decode cb_M_compare 96 = .ok (.iaload, 1) := by decide +kernel
theorem cd_M_compare_97 : decode cb_M_compare 97 = .ok (.isub, 1) := by decide +kernel
theorem cd_M_compare_98 : decode cb_M_compare 98 = .ok (.goto 47, 3) := by decide +kernel
theorem cd_M_compare_101 : decode cb_M_compare 101 = .ok (.aload_n 0, 1) := by decide +kernel
theorem cd_M_compare_102 : decode cb_M_compare 102 = .ok (.getfield 30, 3) := by decide +kernel
theorem cd_M_compare_105 : decode cb_M_compare 105 = .ok (.iload_n 1, 1) := by decide +kernel
theorem cd_M_compare_106 : decode cb_M_compare 106 = .ok (.iaload, 1) := by decide +kernel
theorem cd_M_compare_107 : decode cb_M_compare 107 = .ok (.aload_n 0, 1) := by decide +kernel
theorem cd_M_compare_108 : decode cb_M_compare 108 = .ok (.getfield 30, 3) := by decide +kernel
theorem cd_M_compare_111 : decode cb_M_compare 111 = .ok (.iload_n 2, 1) := by decide +kernel
theorem cd_M_compare_112 : decode cb_M_compare 112 = .ok (.iaload, 1) := by decide +kernel
theorem cd_M_compare_113 : decode cb_M_compare 113 = .ok (.if_icmp .eq 19, 3) := by decide +kernel
theorem cd_M_compare_116 : decode cb_M_compare 116 = .ok (.aload_n 0, 1) := by decide +kernel
theorem cd_M_compare_117 : decode cb_M_compare 117 = .ok (.getfield 30, 3) := by decide +kernel
theorem cd_M_compare_120 : decode cb_M_compare 120 = .ok (.iload_n 1, 1) := by decide +kernel
theorem cd_M_compare_121 : decode cb_M_compare 121 = .ok (.iaload, 1) := by decide +kernel
theorem cd_M_compare_122 : decode cb_M_compare 122 = .ok (.aload_n 0, 1) := by decide +kernel
theorem cd_M_compare_123 : decode cb_M_compare 123 = .ok (.getfield 30, 3) := by decide +kernel
theorem cd_M_compare_126 : decode cb_M_compare 126 = .ok (.iload_n 2, 1) := by decide +kernel
theorem cd_M_compare_127 : decode cb_M_compare 127 = .ok (.iaload, 1) := by decide +kernel
theorem cd_M_compare_128 : decode cb_M_compare 128 = .ok (.isub, 1) := by decide +kernel
theorem cd_M_compare_129 : decode cb_M_compare 129 = .ok (.goto 16, 3) := by decide +kernel
theorem cd_M_compare_132 : decode cb_M_compare 132 = .ok (.aload_n 0, 1) := by decide +kernel
theorem cd_M_compare_133 : decode cb_M_compare 133 = .ok (.getfield 33, 3) := by decide +kernel
theorem cd_M_compare_136 : decode cb_M_compare 136 = .ok (.iload_n 1, 1) := by decide +kernel
theorem cd_M_compare_137 : decode cb_M_compare 137 = .ok (.iaload, 1) := by decide +kernel
theorem cd_M_compare_138 : decode cb_M_compare 138 = .ok (.aload_n 0, 1) := by decide +kernel
theorem cd_M_compare_139 : decode cb_M_compare 139 = .ok (.getfield 33, 3) := by decide +kernel
theorem cd_M_compare_142 : decode cb_M_compare 142 = .ok (.iload_n 2, 1) := by decide +kernel
theorem cd_M_compare_143 : decode cb_M_compare 143 = .ok (.iaload, 1) := by decide +kernel
theorem cd_M_compare_144 : decode cb_M_compare 144 = .ok (.isub, 1) := by decide +kernel
theorem cd_M_compare_145 : decode cb_M_compare 145 = .ok (.istore_n 3, 1) := by decide +kernel
theorem cd_M_compare_146 : decode cb_M_compare 146 = .ok (.iload_n 3, 1) := by decide +kernel
theorem cd_M_compare_147 : decode cb_M_compare 147 = .ok (.ifCond .ge 7, 3) := by decide +kernel
theorem cd_M_compare_150 : decode cb_M_compare 150 = .ok (.iconst (-1), 1) := by decide +kernel
theorem cd_M_compare_151 : decode cb_M_compare 151 = .ok (.goto 12, 3) := by decide +kernel
theorem cd_M_compare_154 : decode cb_M_compare 154 = .ok (.iload_n 3, 1) := by decide +kernel
theorem cd_M_compare_155 : decode cb_M_compare 155 = .ok (.ifCond .le 7, 3) := by decide +kernel
theorem cd_M_compare_158 : decode cb_M_compare 158 = .ok (.iconst 1, 1) := by decide +kernel
theorem cd_M_compare_159 : decode cb_M_compare 159 = .ok (.goto 4, 3) := by decide +kernel
theorem cd_M_compare_162 : decode cb_M_compare 162 = .ok (.iconst 0, 1) := by decide +kernel
theorem cd_M_compare_163 : decode cb_M_compare 163 = .ok (.ireturn, 1) := by decide +kernel
theorem cd_M_lies_0 : decode cb_M_lies 0 = .ok (.iload_n 1, 1) := by decide +kernel
theorem cd_M_lies_1 : decode cb_M_lies 1 = .ok (.istore_n 3, 1) := by decide +kernel
theorem cd_M_lies_2 : decode cb_M_lies 2 = .ok (.iload_n 3, 1) := by decide +kernel
theorem cd_M_lies_3 : decode cb_M_lies 3 = .ok (.ifCond .lt 18, 3) := by decide +kernel
theorem cd_M_lies_6 : decode cb_M_lies 6 = .ok (.iload_n 3, 1) := by decide +kernel
theorem cd_M_lies_7 : decode cb_M_lies 7 = .ok (.iload_n 2, 1) := by decide +kernel
theorem cd_M_lies_8 : decode cb_M_lies 8 = .ok (.if_icmp .eq 13, 3) := by decide +kernel
theorem cd_M_lies_11 : decode cb_M_lies 11 = .ok (.aload_n 0, 1) := by decide +kernel
theorem cd_M_lies_12 : decode cb_M_lies 12 = .ok (.getfield 24, 3) := by decide +kernel
theorem cd_M_lies_15 : decode cb_M_lies 15 = .ok (.iload_n 3, 1) := by decide +kernel
theorem cd_M_lies_16 : decode cb_M_lies 16 = .ok (.iaload, 1) := by decide +kernel
theorem cd_M_lies_17 : decode cb_M_lies 17 = .ok (.istore_n 3, 1) := by decide +kernel
theorem cd_M_lies_18 : decode cb_M_lies 18 = .ok (.goto (-16), 3) := by decide +kernel
theorem cd_M_lies_21 : decode cb_M_lies 21 = .ok (.iload_n 3, 1) := by decide +kernel
theorem cd_M_lies_22 : decode cb_M_lies 22 = .ok (.iload_n 2, 1) := by decide +kernel
theorem cd_M_lies_23 : decode cb_M_lies 23 = .ok (.if_icmp .ne 7, 3) := by decide +kernel
theorem cd_M_lies_26 : decode cb_M_lies 26 = .ok (.iconst 1, 1) := by decide +kernel
theorem cd_M_lies_27 : decode cb_M_lies 27 = .ok (.goto 4, 3) := by decide +kernel
theorem cd_M_lies_30 : decode cb_M_lies 30 = .ok (.iconst 0, 1) := by decide +kernel
theorem cd_M_lies_31 : decode cb_M_lies 31 = .ok (.ireturn, 1) := by decide +kernel
theorem cd_M_counts_0 : decode cb_M_counts 0 = .ok (.aload_n 0, 1) := by decide +kernel
theorem cd_M_counts_1 : decode cb_M_counts 1 = .ok (.getfield 39, 3) := by decide +kernel
theorem cd_M_counts_4 : decode cb_M_counts 4 = .ok (.iload_n 1, 1) := by decide +kernel
theorem cd_M_counts_5 : decode cb_M_counts 5 = .ok (.iaload, 1) := by decide +kernel
theorem cd_M_counts_6 : decode cb_M_counts 6 = .ok (.iload_n 3, 1) := by decide +kernel
theorem cd_M_counts_7 : decode cb_M_counts 7 = .ok (.if_icmp .eq 5, 3) := by decide +kernel
theorem cd_M_counts_10 : decode cb_M_counts 10 = .ok (.iconst 0, 1) := by decide +kernel
theorem cd_M_counts_11 : decode cb_M_counts 11 = .ok (.ireturn, 1) := by decide +kernel
theorem cd_M_counts_12 : decode cb_M_counts 12 = .ok (.iload_n 1, 1) := by decide +kernel
theorem cd_M_counts_13 : decode cb_M_counts 13 = .ok (.iload_n 2, 1) := by decide +kernel
theorem cd_M_counts_14 : decode cb_M_counts 14 = .ok (.if_icmp .ne 6, 3) := by decide +kernel
theorem cd_M_counts_17 : decode cb_M_counts 17 = .ok (.iload 4, 2) := by decide +kernel
theorem cd_M_counts_19 : decode cb_M_counts 19 = .ok (.ireturn, 1) := by decide +kernel
theorem cd_M_counts_20 : decode cb_M_counts 20 = .ok (.aload_n 0, 1) := by decide +kernel
theorem cd_M_counts_21 : decode cb_M_counts 21 = .ok (.getfield 24, 3) := by decide +kernel
theorem cd_M_counts_24 : decode cb_M_counts 24 = .ok (.iload_n 1, 1) := by decide +kernel
theorem cd_M_counts_25 : decode cb_M_counts 25 = .ok (.iaload, 1) := by decide +kernel
theorem cd_M_counts_26 : decode cb_M_counts 26 = .ok (.istore 5, 2) := by decide +kernel
theorem cd_M_counts_28 : decode cb_M_counts 28 = .ok (.iconst 1, 1) := by decide +kernel
theorem cd_M_counts_29 : decode cb_M_counts 29 = .ok (.istore 6, 2) := by decide +kernel
theorem cd_M_counts_31 : decode cb_M_counts 31 = .ok (.iload 5, 2) := by decide +kernel
theorem cd_M_counts_33 : decode cb_M_counts 33 = .ok (.ifCond .lt 44, 3) := by decide +kernel
theorem cd_M_counts_36 : decode cb_M_counts 36 = .ok (.iload 5, 2) := by decide +kernel
theorem cd_M_counts_38 : decode cb_M_counts 38 = .ok (.iload_n 2, 1) := by decide +kernel
theorem cd_M_counts_39 : decode cb_M_counts 39 = .ok (.if_icmp .eq 38, 3) := by decide +kernel
theorem cd_M_counts_42 : decode cb_M_counts 42 = .ok (.iload 6, 2) := by decide +kernel
theorem cd_M_counts_44 : decode cb_M_counts 44 = .ok (.ifCond .eq 18, 3) := by decide +kernel
theorem cd_M_counts_47 : decode cb_M_counts 47 = .ok (.aload_n 0, 1) := by decide +kernel
theorem cd_M_counts_48 : decode cb_M_counts 48 = .ok (.getfield 39, 3) := by decide +kernel
theorem cd_M_counts_51 : decode cb_M_counts 51 = .ok (.iload 5, 2) := by decide +kernel
theorem cd_M_counts_53 : decode cb_M_counts 53 = .ok (.iaload, 1) := by decide +kernel
theorem cd_M_counts_54 : decode cb_M_counts 54 = .ok (.iload_n 3, 1) := by decide +kernel
theorem cd_M_counts_55 : decode cb_M_counts 55 = .ok (.if_icmp .eq 7, 3) := by decide +kernel
theorem cd_M_counts_58 : decode cb_M_counts 58 = .ok (.iconst 1, 1) := by decide +kernel
theorem cd_M_counts_59 : decode cb_M_counts 59 = .ok (.goto 4, 3) := by decide +kernel
theorem cd_M_counts_62 : decode cb_M_counts 62 = .ok (.iconst 0, 1) := by decide +kernel
theorem cd_M_counts_63 : decode cb_M_counts 63 = .ok (.istore 6, 2) := by decide +kernel
theorem cd_M_counts_65 : decode cb_M_counts 65 = .ok (.aload_n 0, 1) := by decide +kernel
theorem cd_M_counts_66 : decode cb_M_counts 66 = .ok (.getfield 24, 3) := by decide +kernel
theorem cd_M_counts_69 : decode cb_M_counts 69 = .ok (.iload 5, 2) := by decide +kernel
theorem cd_M_counts_71 : decode cb_M_counts 71 = .ok (.iaload, 1) := by decide +kernel
theorem cd_M_counts_72 : decode cb_M_counts 72 = .ok (.istore 5, 2) := by decide +kernel
theorem cd_M_counts_74 : decode cb_M_counts 74 = .ok (.goto (-43), 3) := by decide +kernel
theorem cd_M_counts_77 : decode cb_M_counts 77 = .ok (.iload 6, 2) := by decide +kernel
theorem cd_M_counts_79 : decode cb_M_counts 79 = .ok (.ifCond .eq 28, 3) := by decide +kernel
theorem cd_M_counts_82 : decode cb_M_counts 82 = .ok (.iload 5, 2) := by decide +kernel
theorem cd_M_counts_84 : decode cb_M_counts 84 = .ok (.iload_n 2, 1) := by decide +kernel
theorem cd_M_counts_85 : decode cb_M_counts 85 = .ok (.if_icmp .ne 22, 3) := by decide +kernel
theorem cd_M_counts_88 : decode cb_M_counts 88 = .ok (.iload 4, 2) := by decide +kernel
theorem cd_M_counts_90 : decode cb_M_counts 90 = .ok (.ifCond .eq 13, 3) := by decide +kernel
theorem cd_M_counts_93 : decode cb_M_counts 93 = .ok (.aload_n 0, 1) := by decide +kernel
theorem cd_M_counts_94 : decode cb_M_counts 94 = .ok (.getfield 39, 3) := by decide +kernel
theorem cd_M_counts_97 : decode cb_M_counts 97 = .ok (.iload_n 2, 1) := by decide +kernel
theorem cd_M_counts_98 : decode cb_M_counts 98 = .ok (.iaload, 1) := by decide +kernel
theorem cd_M_counts_99 : decode cb_M_counts 99 = .ok (.iload_n 3, 1) := by decide +kernel
theorem cd_M_counts_100 : decode cb_M_counts 100 = .ok (.if_icmp .eq 7, 3) := by decide +kernel
theorem cd_M_counts_103 : decode cb_M_counts 103 = .ok (.iconst 1, 1) := by decide +kernel
theorem cd_M_counts_104 : decode cb_M_counts 104 = .ok (.goto 4, 3) := by decide +kernel
theorem cd_M_counts_107 : decode cb_M_counts 107 = .ok (.iconst 0, 1) := by decide +kernel
theorem cd_M_counts_108 : decode cb_M_counts 108 = .ok (.ireturn, 1) := by decide +kernel
theorem cd_M_sum_0 : decode cb_M_sum 0 = .ok (.iconst 0, 1) := by decide +kernel
theorem cd_M_sum_1 : decode cb_M_sum 1 = .ok (.istore 4, 2) := by decide +kernel
theorem cd_M_sum_3 : decode cb_M_sum 3 = .ok (.iconst 0, 1) := by decide +kernel
theorem cd_M_sum_4 : decode cb_M_sum 4 = .ok (.istore 5, 2) := by decide +kernel
theorem cd_M_sum_6 : decode cb_M_sum 6 = .ok (.iload 5, 2) := by decide +kernel
theorem cd_M_sum_8 : decode cb_M_sum 8 = .ok (.aload_n 0, 1) := by decide +kernel
theorem cd_M_sum_9 : decode cb_M_sum 9 = .ok (.getfield 82, 3) := by decide +kernel
theorem cd_M_sum_12 : decode cb_M_sum 12 = .ok (.if_icmp .ge 37, 3) := by decide +kernel
theorem cd_M_sum_15 : decode cb_M_sum 15 = .ok (.iload 4, 2) := by decide +kernel
theorem cd_M_sum_17 : decode cb_M_sum 17 = .ok (.aload_n 0, 1) := by decide +kernel
theorem cd_M_sum_18 : decode cb_M_sum 18 = .ok (.iload 5, 2) := by decide +kernel
theorem cd_M_sum_20 : decode cb_M_sum 20 = .ok (.iload_n 1, 1) := by decide +kernel
theorem cd_M_sum_21 : decode cb_M_sum 21 = .ok (.iload_n 2, 1) := by decide +kernel
theorem cd_M_sum_22 : decode cb_M_sum 22 = .ok (.iload_n 3, 1) := by decide +kernel
theorem cd_M_sum_23 : decode cb_M_sum 23 = .ok (.invokevirtual 153, 3) := by decide +kernel
theorem cd_M_sum_26 : decode cb_M_sum 26 = .ok (.ifCond .eq 13, 3) := by decide +kernel
theorem cd_M_sum_29 : decode cb_M_sum 29 = .ok (.aload_n 0, 1) := by decide +kernel
theorem cd_M_sum_30 : decode cb_M_sum 30 = .ok (.getfield 36, 3) := by decide +kernel
theorem cd_M_sum_33 : decode cb_M_sum 33 = .ok (.iload 5, 2) := by decide +kernel
theorem cd_M_sum_35 : decode cb_M_sum 35 = .ok (.iaload, 1) := by decide +kernel
theorem cd_M_sum_36 : decode cb_M_sum 36 = .ok (.goto 4, 3) := by decide +kernel
theorem cd_M_sum_39 : decode cb_M_sum 39 = .ok (.iconst 0, 1) := by decide +kernel
theorem cd_M_sum_40 : decode cb_M_sum 40 = .ok (.iadd, 1) := by decide +kernel
theorem cd_M_sum_41 : decode cb_M_sum 41 = .ok (.istore 4, 2) := by decide +kernel
theorem cd_M_sum_43 : decode cb_M_sum 43 = .ok (.iinc 5 1, 3) := by decide +kernel
theorem cd_M_sum_46 : decode cb_M_sum 46 = .ok (.goto (-40), 3) := by decide +kernel
theorem cd_M_sum_49 : decode cb_M_sum 49 = .ok (.iload 4, 2) := by decide +kernel
theorem cd_M_sum_51 : decode cb_M_sum 51 = .ok (.ireturn, 1) := by decide +kernel
theorem cd_M_extent_0 : decode cb_M_extent 0 = .ok (.aload_n 0, 1) := by decide +kernel
theorem cd_M_extent_1 : decode cb_M_extent 1 = .ok (.iconst 0, 1) := by decide +kernel
theorem cd_M_extent_2 : decode cb_M_extent 2 = .ok (.putfield 79, 3) := by decide +kernel
theorem cd_M_extent_5 : decode cb_M_extent 5 = .ok (.aload_n 0, 1) := by decide +kernel
theorem cd_M_extent_6 : decode cb_M_extent 6 = .ok (.iload_n 1, 1) := by decide +kernel
theorem cd_M_extent_7 : decode cb_M_extent 7 = .ok (.invokevirtual 150, 3) := by decide +kernel
theorem cd_M_extent_10 : decode cb_M_extent 10 = .ok (.ifCond .ne 5, 3) := by decide +kernel
theorem cd_M_extent_13 : decode cb_M_extent 13 = .ok (.iconst (-1), 1) := by decide +kernel
theorem cd_M_extent_14 : decode cb_M_extent 14 = .ok (.ireturn, 1) := by decide +kernel
theorem cd_M_extent_15 : decode cb_M_extent 15 = .ok (.iload_n 2, 1) := by decide +kernel
theorem cd_M_extent_16 : decode cb_M_extent 16 = .ok (.iconst 0, 1) := by decide +kernel
theorem cd_M_extent_17 : decode cb_M_extent 17 = .ok (.iconst 2, 1) := by decide +kernel
theorem cd_M_extent_18 : decode cb_M_extent 18 = .ok (.invokestatic 85, 3) := by decide +kernel
theorem cd_M_extent_21 : decode cb_M_extent 21 = .ok (.ifCond .eq 13, 3) := by decide +kernel
theorem cd_M_extent_24 : decode cb_M_extent 24 = .ok (.aload_n 0, 1) := by decide +kernel
theorem cd_M_extent_25 : decode cb_M_extent 25 = .ok (.iload_n 1, 1) := by decide +kernel
theorem cd_M_extent_26 : decode cb_M_extent 26 = .ok (.iload_n 2, 1) := by decide +kernel
theorem cd_M_extent_27 : decode cb_M_extent 27 = .ok (.iconst 1, 1) := by decide +kernel
theorem cd_M_extent_28 : decode cb_M_extent 28 = .ok (.invokevirtual 157, 3) := by decide +kernel
theorem cd_M_extent_31 : decode cb_M_extent 31 = .ok (.goto 5, 3) := by decide +kernel
theorem cd_M_extent_34 : decode cb_M_extent 34 = .ok (.bipush (-2), 2) := by decide +kernel
theorem cd_M_extent_36 : decode cb_M_extent 36 = .ok (.ireturn, 1) := by decide +kernel
theorem cd_M_differ_0 : decode cb_M_differ 0 = .ok (.aload_n 0, 1) := by decide +kernel
theorem cd_M_differ_1 : decode cb_M_differ 1 = .ok (.iconst 0, 1) := by decide +kernel
theorem cd_M_differ_2 : decode cb_M_differ 2 = .ok (.putfield 79, 3) := by decide +kernel
theorem cd_M_differ_5 : decode cb_M_differ 5 = .ok (.iconst 0, 1) := by decide +kernel
theorem cd_M_differ_6 : decode cb_M_differ 6 = .ok (.istore_n 2, 1) := by decide +kernel
theorem cd_M_differ_7 : decode cb_M_differ 7 = .ok (.iconst 0, 1) := by decide +kernel
theorem cd_M_differ_8 : decode cb_M_differ 8 = .ok (.istore_n 3, 1) := by decide +kernel
theorem cd_M_differ_9 : decode cb_M_differ 9 = .ok (.iload_n 3, 1) := by decide +kernel
theorem cd_M_differ_10 : decode cb_M_differ 10 = .ok (.aload_n 0, 1) := by decide +kernel
theorem cd_M_differ_11 : decode cb_M_differ 11 = .ok (.getfield 82, 3) := by decide +kernel
theorem cd_M_differ_14 : decode cb_M_differ 14 = .ok (.if_icmp .ge 65, 3) := by decide +kernel
theorem cd_M_differ_17 : decode cb_M_differ 17 = .ok (.aload_n 0, 1) := by decide +kernel
theorem cd_M_differ_18 : decode cb_M_differ 18 = .ok (.getfield 39, 3) := by decide +kernel
theorem cd_M_differ_21 : decode cb_M_differ 21 = .ok (.iload_n 3, 1) := by decide +kernel
theorem cd_M_differ_22 : decode cb_M_differ 22 = .ok (.iaload, 1) := by decide +kernel
theorem cd_M_differ_23 : decode cb_M_differ 23 = .ok (.ifCond .ge 7, 3) := by decide +kernel
theorem cd_M_differ_26 : decode cb_M_differ 26 = .ok (.iconst 0, 1) := by decide +kernel
theorem cd_M_differ_27 : decode cb_M_differ 27 = .ok (.goto 15, 3) := by decide +kernel
theorem cd_M_differ_30 : decode cb_M_differ 30 = .ok (.aload_n 0, 1) := by decide +kernel
theorem cd_M_differ_31 : decode cb_M_differ 31 = .ok (.iload_n 3, 1) := by decide +kernel
theorem cd_M_differ_32 : decode cb_M_differ 32 = .ok (.aload_n 0, 1) := by decide +kernel
theorem cd_M_differ_33 : decode cb_M_differ 33 = .ok (.getfield 39, 3) := by decide +kernel
theorem cd_M_differ_36 : decode cb_M_differ 36 = .ok (.iload_n 3, 1) := by decide +kernel
theorem cd_M_differ_37 : decode cb_M_differ 37 = .ok (.iaload, 1) := by decide +kernel
theorem cd_M_differ_38 : decode cb_M_differ 38 = .ok (.iconst 0, 1) := by decide +kernel
theorem cd_M_differ_39 : decode cb_M_differ 39 = .ok (.invokevirtual 157, 3) := by decide +kernel
theorem cd_M_differ_42 : decode cb_M_differ 42 = .ok (.istore 4, 2) := by decide +kernel
theorem cd_M_differ_44 : decode cb_M_differ 44 = .ok (.iload 4, 2) := by decide +kernel
theorem cd_M_differ_46 : decode cb_M_differ 46 = .ok (.ifCond .eq 27, 3) := by decide +kernel
theorem cd_M_differ_49 : decode cb_M_differ 49 = .ok (.iload 4, 2) := by decide +kernel
theorem cd_M_differ_51 : decode cb_M_differ 51 = .ok (.aload_n 0, 1) := by decide +kernel
theorem cd_M_differ_52 : decode cb_M_differ 52 = .ok (.getfield 36, 3) := by decide +kernel
theorem cd_M_differ_55 : decode cb_M_differ 55 = .ok (.iload_n 3, 1) := by decide +kernel
theorem cd_M_differ_56 : decode cb_M_differ 56 = .ok (.iaload, 1) := by decide +kernel
theorem cd_M_differ_57 : decode cb_M_differ 57 = .ok (.if_icmp .ne 6, 3) := by decide +kernel
theorem cd_M_differ_60 : decode cb_M_differ 60 = .ok (.goto 13, 3) := by decide +kernel
theorem cd_M_differ_63 : decode cb_M_differ 63 = .ok (.iload_n 2, 1) := by decide +kernel
theorem cd_M_differ_64 : decode cb_M_differ 64 = .ok (.iload_n 1, 1) := by decide +kernel
theorem cd_M_differ_65 : decode cb_M_differ 65 = .ok (.if_icmp .ne 5, 3) := by decide +kernel
theorem cd_M_differ_68 : decode cb_M_differ 68 = .ok (.iload_n 3, 1) := by decide +kernel
theorem cd_M_differ_69 : decode cb_M_differ 69 = .ok (.ireturn, 1) := by decide +kernel
theorem cd_M_differ_70 : decode cb_M_differ 70 = .ok (.iinc 2 1, 3) := by decide +kernel
theorem cd_M_differ_73 : decode cb_M_differ 73 = .ok (.iinc 3 1, 3) := by decide +kernel
theorem cd_M_differ_76 : decode cb_M_differ 76 = .ok (.goto (-67), 3) := by decide +kernel
theorem cd_M_differ_79 : decode cb_M_differ 79 = .ok (.iconst (-1), 1) := by decide +kernel
theorem cd_M_differ_80 : decode cb_M_differ 80 = .ok (.ireturn, 1) := by decide +kernel
theorem cd_M_twice_0 : decode cb_M_twice 0 = .ok (.aload_n 0, 1) := by decide +kernel
theorem cd_M_twice_1 : decode cb_M_twice 1 = .ok (.iconst 0, 1) := by decide +kernel
theorem cd_M_twice_2 : decode cb_M_twice 2 = .ok (.putfield 79, 3) := by decide +kernel
theorem cd_M_twice_5 : decode cb_M_twice 5 = .ok (.iconst 0, 1) := by decide +kernel
theorem cd_M_twice_6 : decode cb_M_twice 6 = .ok (.istore_n 2, 1) := by decide +kernel
theorem cd_M_twice_7 : decode cb_M_twice 7 = .ok (.iconst 0, 1) := by decide +kernel
theorem cd_M_twice_8 : decode cb_M_twice 8 = .ok (.istore_n 3, 1) := by decide +kernel
theorem cd_M_twice_9 : decode cb_M_twice 9 = .ok (.iload_n 3, 1) := by decide +kernel
theorem cd_M_twice_10 : decode cb_M_twice 10 = .ok (.aload_n 0, 1) := by decide +kernel
theorem cd_M_twice_11 : decode cb_M_twice 11 = .ok (.getfield 82, 3) := by decide +kernel
theorem cd_M_twice_14 : decode cb_M_twice 14 = .ok (.if_icmp .ge 89, 3) := by decide +kernel
theorem cd_M_twice_17 : decode cb_M_twice 17 = .ok (.iconst 0, 1) := by decide +kernel
theorem cd_M_twice_18 : decode cb_M_twice 18 = .ok (.istore 4, 2) := by decide +kernel
theorem cd_M_twice_20 : decode cb_M_twice 20 = .ok (.iconst 0, 1) := by decide +kernel
theorem cd_M_twice_21 : decode cb_M_twice 21 = .ok (.istore 5, 2) := by decide +kernel
theorem cd_M_twice_23 : decode cb_M_twice 23 = .ok (.iload 5, 2) := by decide +kernel
theorem cd_M_twice_25 : decode cb_M_twice 25 = .ok (.iload_n 3, 1) := by decide +kernel
theorem cd_M_twice_26 : decode cb_M_twice 26 = .ok (.if_icmp .ge 53, 3) := by decide +kernel
theorem cd_M_twice_29 : decode cb_M_twice 29 = .ok (.iload 4, 2) := by decide +kernel
theorem cd_M_twice_31 : decode cb_M_twice 31 = .ok (.ifCond .ne 35, 3) := by decide +kernel
theorem cd_M_twice_34 : decode cb_M_twice 34 = .ok (.aload_n 0, 1) := by decide +kernel
theorem cd_M_twice_35 : decode cb_M_twice 35 = .ok (.getfield 24, 3) := by decide +kernel
theorem cd_M_twice_38 : decode cb_M_twice 38 = .ok (.iload 5, 2) := by decide +kernel
theorem cd_M_twice_40 : decode cb_M_twice 40 = .ok (.iaload, 1) := by decide +kernel
theorem cd_M_twice_41 : decode cb_M_twice 41 = .ok (.aload_n 0, 1) := by decide +kernel
theorem cd_M_twice_42 : decode cb_M_twice 42 = .ok (.getfield 24, 3) := by decide +kernel
theorem cd_M_twice_45 : decode cb_M_twice 45 = .ok (.iload_n 3, 1) := by decide +kernel
theorem cd_M_twice_46 : decode cb_M_twice 46 = .ok (.iaload, 1) := by decide +kernel
theorem cd_M_twice_47 : decode cb_M_twice 47 = .ok (.if_icmp .ne 23, 3) := by decide +kernel
theorem cd_M_twice_50 : decode cb_M_twice 50 = .ok (.aload_n 0, 1) := by decide +kernel
theorem cd_M_twice_51 : decode cb_M_twice 51 = .ok (.getfield 21, 3) := by decide +kernel
theorem cd_M_twice_54 : decode cb_M_twice 54 = .ok (.iload 5, 2) := by decide +kernel
theorem cd_M_twice_56 : decode cb_M_twice 56 = .ok (.iaload, 1) := by decide +kernel
theorem cd_M_twice_57 : decode cb_M_twice 57 = .ok (.aload_n 0, 1) := by decide +kernel
theorem cd_M_twice_58 : decode cb_M_twice 58 = .ok (.getfield 21, 3) := by decide +kernel
theorem cd_M_twice_61 : decode cb_M_twice 61 = .ok (.iload_n 3, 1) := by decide +kernel
theorem cd_M_twice_62 : decode cb_M_twice 62 = .ok (.iaload, 1) := by decide +kernel
theorem cd_M_twice_63 : decode cb_M_twice 63 = .ok (.if_icmp .ne 7, 3) := by decide +kernel
theorem cd_M_twice_66 : decode cb_M_twice 66 = .ok (.iconst 1, 1) := by decide +kernel
theorem cd_M_twice_67 : decode cb_M_twice 67 = .ok (.goto 4, 3) := by decide +kernel
theorem cd_M_twice_70 : decode cb_M_twice 70 = .ok (.iconst 0, 1) := by decide +kernel
theorem cd_M_twice_71 : decode cb_M_twice 71 = .ok (.istore 4, 2) := by decide +kernel
theorem cd_M_twice_73 : decode cb_M_twice 73 = .ok (.iinc 5 1, 3) := by decide +kernel
theorem cd_M_twice_76 : decode cb_M_twice 76 = .ok (.goto (-53), 3) := by decide +kernel
theorem cd_M_twice_79 : decode cb_M_twice 79 = .ok (.iload 4, 2) := by decide +kernel
theorem cd_M_twice_81 : decode cb_M_twice 81 = .ok (.ifCond .ne 6, 3) := by decide +kernel
theorem cd_M_twice_84 : decode cb_M_twice 84 = .ok (.goto 13, 3) := by decide +kernel
theorem cd_M_twice_87 : decode cb_M_twice 87 = .ok (.iload_n 2, 1) := by decide +kernel
theorem cd_M_twice_88 : decode cb_M_twice 88 = .ok (.iload_n 1, 1) := by decide +kernel
theorem cd_M_twice_89 : decode cb_M_twice 89 = .ok (.if_icmp .ne 5, 3) := by decide +kernel
theorem cd_M_twice_92 : decode cb_M_twice 92 = .ok (.iload_n 3, 1) := by decide +kernel
theorem cd_M_twice_93 : decode cb_M_twice 93 = .ok (.ireturn, 1) := by decide +kernel
theorem cd_M_twice_94 : decode cb_M_twice 94 = .ok (.iinc 2 1, 3) := by decide +kernel
theorem cd_M_twice_97 : decode cb_M_twice 97 = .ok (.iinc 3 1, 3) := by decide +kernel
theorem cd_M_twice_100 : decode cb_M_twice 100 = .ok (.goto (-91), 3) := by decide +kernel
theorem cd_M_twice_103 : decode cb_M_twice 103 = .ok (.iconst (-1), 1) := by decide +kernel
theorem cd_M_twice_104 : decode cb_M_twice 104 = .ok (.ireturn, 1) := by decide +kernel
theorem cd_M_restrict_0 : decode cb_M_restrict 0 = .ok (.aload_n 0, 1) := by decide +kernel
theorem cd_M_restrict_1 : decode cb_M_restrict 1 = .ok (.iconst 0, 1) := by decide +kernel
theorem cd_M_restrict_2 : decode cb_M_restrict 2 = .ok (.putfield 79, 3) := by decide +kernel
theorem cd_M_restrict_5 : decode cb_M_restrict 5 = .ok (.aload_n 0, 1) := by decide +kernel
theorem cd_M_restrict_6 : decode cb_M_restrict 6 = .ok (.iload_n 1, 1) := by decide +kernel
theorem cd_M_restrict_7 : decode cb_M_restrict 7 = .ok (.invokevirtual 150, 3) := by decide +kernel
theorem cd_M_restrict_10 : decode cb_M_restrict 10 = .ok (.ifCond .ne 5, 3) := by decide +kernel
theorem cd_M_restrict_13 : decode cb_M_restrict 13 = .ok (.iconst (-1), 1) := by decide +kernel
theorem cd_M_restrict_14 : decode cb_M_restrict 14 = .ok (.ireturn, 1) := by decide +kernel
theorem cd_M_restrict_15 : decode cb_M_restrict 15 = .ok (.iload_n 2, 1) := by decide +kernel
theorem cd_M_restrict_16 : decode cb_M_restrict 16 = .ok (.iconst 0, 1) := by decide +kernel
theorem cd_M_restrict_17 : decode cb_M_restrict 17 = .ok (.iconst 3, 1) := by decide +kernel
theorem cd_M_restrict_18 : decode cb_M_restrict 18 = .ok (.invokestatic 85, 3) := by decide +kernel
theorem cd_M_restrict_21 : decode cb_M_restrict 21 = .ok (.ifCond .eq 13, 3) := by decide +kernel
theorem cd_M_restrict_24 : decode cb_M_restrict 24 = .ok (.iload_n 3, 1) := by decide +kernel
theorem cd_M_restrict_25 : decode cb_M_restrict 25 = .ok (.iconst 0, 1) := by decide +kernel
theorem cd_M_restrict_26 : decode cb_M_restrict 26 = .ok (.bipush 99, 2) := by decide +kernel
theorem cd_M_restrict_28 : decode cb_M_restrict 28 = .ok (.invokestatic 85, 3) := by decide +kernel
theorem cd_M_restrict_31 : decode cb_M_restrict 31 = .ok (.ifCond .ne 6, 3) := by decide +kernel
theorem cd_M_restrict_34 : decode cb_M_restrict 34 = .ok (.bipush (-2), 2) := by decide +kernel
theorem cd_M_restrict_36 : decode cb_M_restrict 36 = .ok (.ireturn, 1) := by decide +kernel
theorem cd_M_restrict_37 : decode cb_M_restrict 37 = .ok (.aload_n 0, 1) := by decide +kernel
theorem cd_M_restrict_38 : decode cb_M_restrict 38 = .ok (.getfield 48, 3) := by decide +kernel
theorem cd_M_restrict_41 : decode cb_M_restrict 41 = .ok (.iconst 4, 1) := by decide +kernel
theorem cd_M_restrict_42 : decode cb_M_restrict 42 = .ok (.iload_n 1, 1) := by decide +kernel
theorem cd_M_restrict_43 : decode cb_M_restrict 43 = .ok (.imul, 1) := by decide +kernel
theorem cd_M_restrict_44 : decode cb_M_restrict 44 = .ok (.iload_n 2, 1) := by decide +kernel
theorem cd_M_restrict_45 : decode cb_M_restrict 45 = .ok (.iadd, 1) := by decide +kernel
theorem cd_M_restrict_46 : decode cb_M_restrict 46 = .ok (.iload_n 3, 1) := by decide +kernel
theorem cd_M_restrict_47 : decode cb_M_restrict 47 = .ok (.iastore, 1) := by decide +kernel
theorem cd_M_restrict_48 : decode cb_M_restrict 48 = .ok (.iconst 1, 1) := by decide +kernel
theorem cd_M_restrict_49 : decode cb_M_restrict 49 = .ok (.ireturn, 1) := by decide +kernel
theorem cd_M_restricted_0 : decode cb_M_restricted 0 = .ok (.aload_n 0, 1) := by decide +kernel
theorem cd_M_restricted_1 : decode cb_M_restricted 1 = .ok (.iconst 0, 1) := by decide +kernel
theorem cd_M_restricted_2 : decode cb_M_restricted 2 = .ok (.putfield 79, 3) := by decide +kernel
theorem cd_M_restricted_5 : decode cb_M_restricted 5 = .ok (.aload_n 0, 1) := by decide +kernel
theorem cd_M_restricted_6 : decode cb_M_restricted 6 = .ok (.iload_n 1, 1) := by decide +kernel
theorem cd_M_restricted_7 : decode cb_M_restricted 7 = .ok (.invokevirtual 150, 3) := by decide +kernel
theorem cd_M_restricted_10 : decode cb_M_restricted 10 = .ok (.ifCond .ne 5, 3) := by decide +kernel
theorem cd_M_restricted_13 : decode cb_M_restricted 13 = .ok (.iconst (-1), 1) := by decide +kernel
theorem cd_M_restricted_14 : decode cb_M_restricted 14 = .ok (.ireturn, 1) := by decide +kernel
theorem cd_M_restricted_15 : decode cb_M_restricted 15 = .ok (.iload_n 2, 1) := by decide +kernel
theorem cd_M_restricted_16 : decode cb_M_restricted 16 = .ok (.iconst 0, 1) := by decide +kernel
theorem cd_M_restricted_17 : decode cb_M_restricted 17 = .ok (.iconst 3, 1) := by decide +kernel
theorem cd_M_restricted_18 : decode cb_M_restricted 18 = .ok (.invokestatic 85, 3) := by decide +kernel
theorem cd_M_restricted_21 : decode cb_M_restricted 21 = .ok (.ifCond .ne 6, 3) := by decide +kernel
theorem cd_M_restricted_24 : decode cb_M_restricted 24 = .ok (.bipush (-2), 2) := by decide +kernel
theorem cd_M_restricted_26 : decode cb_M_restricted 26 = .ok (.ireturn, 1) := by decide +kernel
theorem cd_M_restricted_27 : decode cb_M_restricted 27 = .ok (.iload_n 1, 1) := by decide +kernel
theorem cd_M_restricted_28 : decode cb_M_restricted 28 = .ok (.istore_n 3, 1) := by decide +kernel
theorem cd_M_restricted_29 : decode cb_M_restricted 29 = .ok (.iload_n 3, 1) := by decide +kernel
theorem cd_M_restricted_30 : decode cb_M_restricted 30 = .ok (.ifCond .lt 26, 3) := by decide +kernel
theorem cd_M_restricted_33 : decode cb_M_restricted 33 = .ok (.aload_n 0, 1) := by decide +kernel
theorem cd_M_restricted_34 : decode cb_M_restricted 34 = .ok (.getfield 48, 3) := by decide +kernel
theorem cd_M_restricted_37 : decode cb_M_restricted 37 = .ok (.iconst 4, 1) := by decide +kernel
theorem cd_M_restricted_38 : decode cb_M_restricted 38 = .ok (.iload_n 3, 1) := by decide +kernel
theorem cd_M_restricted_39 : decode cb_M_restricted 39 = .ok (.imul, 1) := by decide +kernel
theorem cd_M_restricted_40 : decode cb_M_restricted 40 = .ok (.iload_n 2, 1) := by decide +kernel
theorem cd_M_restricted_41 : decode cb_M_restricted 41 = .ok (.iadd, 1) := by decide +kernel
theorem cd_M_restricted_42 : decode cb_M_restricted 42 = .ok (.iaload, 1) := by decide +kernel
theorem cd_M_restricted_43 : decode cb_M_restricted 43 = .ok (.ifCond .ne 13, 3) := by decide +kernel
theorem cd_M_restricted_46 : decode cb_M_restricted 46 = .ok (.aload_n 0, 1) := by decide +kernel
theorem cd_M_restricted_47 : decode cb_M_restricted 47 = .ok (.getfield 24, 3) := by decide +kernel
theorem cd_M_restricted_50 : decode cb_M_restricted 50 = .ok (.iload_n 3, 1) := by decide +kernel
theorem cd_M_restricted_51 : decode cb_M_restricted 51 = .ok (.iaload, 1) := by decide +kernel
theorem cd_M_restricted_52 : decode cb_M_restricted 52 = .ok (.istore_n 3, 1) := by decide +kernel
theorem cd_M_restricted_53 : decode cb_M_restricted 53 = .ok (.goto (-24), 3) := by decide +kernel
theorem cd_M_restricted_56 : decode cb_M_restricted 56 = .ok (.iload_n 3, 1) := by decide +kernel
theorem cd_M_restricted_57 : decode cb_M_restricted 57 = .ok (.ifCond .ge 7, 3) := by decide +kernel
theorem cd_M_restricted_60 : decode cb_M_restricted 60 = .ok (.iconst 0, 1) := by decide +kernel
theorem cd_M_restricted_61 : decode cb_M_restricted 61 = .ok (.goto 13, 3) := by decide +kernel
theorem cd_M_restricted_64 : decode cb_M_restricted 64 = .ok (.aload_n 0, 1) := by decide +kernel
theorem cd_M_restricted_65 : decode cb_M_restricted 65 = .ok (.getfield 48, 3) := by decide +kernel
theorem cd_M_restricted_68 : decode cb_M_restricted 68 = .ok (.iconst 4, 1) := by decide +kernel
theorem cd_M_restricted_69 : decode cb_M_restricted 69 = .ok (.iload_n 3, 1) := by decide +kernel
theorem cd_M_restricted_70 : decode cb_M_restricted 70 = .ok (.imul, 1) := by decide +kernel
theorem cd_M_restricted_71 : decode cb_M_restricted 71 = .ok (.iload_n 2, 1) := by decide +kernel
theorem cd_M_restricted_72 : decode cb_M_restricted 72 = .ok (.iadd, 1) := by decide +kernel
theorem cd_M_restricted_73 : decode cb_M_restricted 73 = .ok (.iaload, 1) := by decide +kernel
theorem cd_M_restricted_74 : decode cb_M_restricted 74 = .ok (.ireturn, 1) := by decide +kernel
theorem cd_M_hasName_0 : decode cb_M_hasName 0 = .ok (.iconst 0, 1) := by decide +kernel
theorem cd_M_hasName_1 : decode cb_M_hasName 1 = .ok (.istore_n 3, 1) := by decide +kernel
theorem cd_M_hasName_2 : decode cb_M_hasName 2 = .ok (.iconst 0, 1) := by decide +kernel
theorem cd_M_hasName_3 : decode cb_M_hasName 3 = .ok (.istore 4, 2) := by decide +kernel
theorem cd_M_hasName_5 : decode cb_M_hasName 5 = .ok (.iload 4, 2) := by decide +kernel
theorem cd_M_hasName_7 : decode cb_M_hasName 7 = .ok (.aload_n 0, 1) := by decide +kernel
theorem cd_M_hasName_8 : decode cb_M_hasName 8 = .ok (.getfield 54, 3) := by decide +kernel
theorem cd_M_hasName_11 : decode cb_M_hasName 11 = .ok (.iload_n 1, 1) := by decide +kernel
theorem cd_M_hasName_12 : decode cb_M_hasName 12 = .ok (.iaload, 1) := by decide +kernel
theorem cd_M_hasName_13 : decode cb_M_hasName 13 = .ok (.if_icmp .ge 34, 3) := by decide +kernel
theorem cd_M_hasName_16 : decode cb_M_hasName 16 = .ok (.iload_n 3, 1) := by decide +kernel
theorem cd_M_hasName_17 : decode cb_M_hasName 17 = .ok (.ifCond .ne 18, 3) := by decide +kernel
theorem cd_M_hasName_20 : decode cb_M_hasName 20 = .ok (.aload_n 0, 1) := by decide +kernel
theorem cd_M_hasName_21 : decode cb_M_hasName 21 = .ok (.getfield 51, 3) := by decide +kernel
theorem cd_M_hasName_24 : decode cb_M_hasName 24 = .ok (.iconst 4, 1) := by decide +kernel
theorem cd_M_hasName_25 : decode cb_M_hasName 25 = .ok (.iload_n 1, 1) := by decide +kernel
theorem cd_M_hasName_26 : decode cb_M_hasName 26 = .ok (.imul, 1) := by decide +kernel
theorem cd_M_hasName_27 : decode cb_M_hasName 27 = .ok (.iload 4, 2) := by decide +kernel
theorem cd_M_hasName_29 : decode cb_M_hasName 29 = .ok (.iadd, 1) := by decide +kernel
theorem cd_M_hasName_30 : decode cb_M_hasName 30 = .ok (.iaload, 1) := by decide +kernel
theorem cd_M_hasName_31 : decode cb_M_hasName 31 = .ok (.iload_n 2, 1) := by decide +kernel
theorem cd_M_hasName_32 : decode cb_M_hasName 32 = .ok (.if_icmp .ne 7, 3) := by decide +kernel
theorem cd_M_hasName_35 : decode cb_M_hasName 35 = .ok (.iconst 1, 1) := by decide +kernel
theorem cd_M_hasName_36 : decode cb_M_hasName 36 = .ok (.goto 4, 3) := by decide +kernel
theorem cd_M_hasName_39 : decode cb_M_hasName 39 = .ok (.iconst 0, 1) := by decide +kernel
theorem cd_M_hasName_40 : decode cb_M_hasName 40 = .ok (.istore_n 3, 1) := by decide +kernel
theorem cd_M_hasName_41 : decode cb_M_hasName 41 = .ok (.iinc 4 1, 3) := by decide +kernel
theorem cd_M_hasName_44 : decode cb_M_hasName 44 = .ok (.goto (-39), 3) := by decide +kernel
theorem cd_M_hasName_47 : decode cb_M_hasName 47 = .ok (.iload_n 3, 1) := by decide +kernel
theorem cd_M_hasName_48 : decode cb_M_hasName 48 = .ok (.ireturn, 1) := by decide +kernel
theorem cd_M_name_0 : decode cb_M_name 0 = .ok (.aload_n 0, 1) := by decide +kernel
theorem cd_M_name_1 : decode cb_M_name 1 = .ok (.iconst 0, 1) := by decide +kernel
theorem cd_M_name_2 : decode cb_M_name 2 = .ok (.putfield 79, 3) := by decide +kernel
theorem cd_M_name_5 : decode cb_M_name 5 = .ok (.aload_n 0, 1) := by decide +kernel
theorem cd_M_name_6 : decode cb_M_name 6 = .ok (.iload_n 1, 1) := by decide +kernel
theorem cd_M_name_7 : decode cb_M_name 7 = .ok (.invokevirtual 150, 3) := by decide +kernel
theorem cd_M_name_10 : decode cb_M_name 10 = .ok (.ifCond .ne 5, 3) := by decide +kernel
theorem cd_M_name_13 : decode cb_M_name 13 = .ok (.iconst (-1), 1) := by decide +kernel
theorem cd_M_name_14 : decode cb_M_name 14 = .ok (.ireturn, 1) := by decide +kernel
theorem cd_M_name_15 : decode cb_M_name 15 = .ok (.iload_n 2, 1) := by decide +kernel
theorem cd_M_name_16 : decode cb_M_name 16 = .ok (.iconst 1, 1) := by decide +kernel
theorem cd_M_name_17 : decode cb_M_name 17 = .ok (.sipush 999, 3) := by decide +kernel
theorem cd_M_name_20 : decode cb_M_name 20 = .ok (.invokestatic 85, 3) := by decide +kernel
theorem cd_M_name_23 : decode cb_M_name 23 = .ok (.ifCond .ne 6, 3) := by decide +kernel
theorem cd_M_name_26 : decode cb_M_name 26 = .ok (.bipush (-2), 2) := by decide +kernel
theorem cd_M_name_28 : decode cb_M_name 28 = .ok (.ireturn, 1) := by decide +kernel
theorem cd_M_name_29 : decode cb_M_name 29 = .ok (.aload_n 0, 1) := by decide +kernel
theorem cd_M_name_30 : decode cb_M_name 30 = .ok (.iload_n 1, 1) := by decide +kernel
theorem cd_M_name_31 : decode cb_M_name 31 = .ok (.iload_n 2, 1) := by decide +kernel
theorem cd_M_name_32 : decode cb_M_name 32 = .ok (.invokevirtual 161, 3) := by decide +kernel
theorem cd_M_name_35 : decode cb_M_name 35 = .ok (.ifCond .eq 6, 3) := by decide +kernel
theorem cd_M_name_38 : decode cb_M_name 38 = .ok (.bipush (-3), 2) := by decide +kernel
theorem cd_M_name_40 : decode cb_M_name 40 = .ok (.ireturn, 1) := by decide +kernel
theorem cd_M_name_41 : decode cb_M_name 41 = .ok (.aload_n 0, 1) := by decide +kernel
theorem cd_M_name_42 : decode cb_M_name 42 = .ok (.getfield 54, 3) := by decide +kernel
theorem cd_M_name_45 : decode cb_M_name 45 = .ok (.iload_n 1, 1) := by decide +kernel
theorem cd_M_name_46 : decode cb_M_name 46 = .ok (.iaload, 1) := by decide +kernel
theorem cd_M_name_47 : decode cb_M_name 47 = .ok (.iconst 4, 1) := by decide +kernel
theorem cd_M_name_48 : decode cb_M_name 48 = .ok (.if_icmp .ne 6, 3) := by decide +kernel
theorem cd_M_name_51 : decode cb_M_name 51 = .ok (.bipush (-4), 2) := by decide +kernel
theorem cd_M_name_53 : decode cb_M_name 53 = .ok (.ireturn, 1) := by decide +kernel
theorem cd_M_name_54 : decode cb_M_name 54 = .ok (.aload_n 0, 1) := by decide +kernel
theorem cd_M_name_55 : decode cb_M_name 55 = .ok (.getfield 51, 3) := by decide +kernel
theorem cd_M_name_58 : decode cb_M_name 58 = .ok (.iconst 4, 1) := by decide +kernel
theorem cd_M_name_59 : decode cb_M_name 59 = .ok (.iload_n 1, 1) := by decide +kernel
theorem cd_M_name_60 : decode cb_M_name 60 = .ok (.imul, 1) := by decide +kernel
theorem cd_M_name_61 : decode cb_M_name 61 = .ok (.aload_n 0, 1) := by decide +kernel
theorem cd_M_name_62 : decode cb_M_name 62 = .ok (.getfield 54, 3) := by decide +kernel
theorem cd_M_name_65 : decode cb_M_name 65 = .ok (.iload_n 1, 1) := by decide +kernel
theorem cd_M_name_66 : decode cb_M_name 66 = .ok (.iaload, 1) := by decide +kernel
theorem cd_M_name_67 : decode cb_M_name 67 = .ok (.iadd, 1) := by decide +kernel
theorem cd_M_name_68 : decode cb_M_name 68 = .ok (.iload_n 2, 1) := by decide +kernel
theorem cd_M_name_69 : decode cb_M_name 69 = .ok (.iastore, 1) := by decide +kernel
theorem cd_M_name_70 : decode cb_M_name 70 = .ok (.aload_n 0, 1) := by decide +kernel
theorem cd_M_name_71 : decode cb_M_name 71 = .ok (.getfield 54, 3) := by decide +kernel
theorem cd_M_name_74 : decode cb_M_name 74 = .ok (.iload_n 1, 1) := by decide +kernel
theorem cd_M_name_75 : decode cb_M_name 75 = .ok (.dup2, 1) := by decide +kernel
theorem cd_M_name_76 : decode cb_M_name 76 = .ok (.iaload, 1) := by decide +kernel
theorem cd_M_name_77 : decode cb_M_name 77 = .ok (.iconst 1, 1) := by decide +kernel
theorem cd_M_name_78 : decode cb_M_name 78 = .ok (.iadd, 1) := by decide +kernel
theorem cd_M_name_79 : decode cb_M_name 79 = .ok (.iastore, 1) := by decide +kernel
theorem cd_M_name_80 : decode cb_M_name 80 = .ok (.aload_n 0, 1) := by decide +kernel
theorem cd_M_name_81 : decode cb_M_name 81 = .ok (.getfield 54, 3) := by decide +kernel
theorem cd_M_name_84 : decode cb_M_name 84 = .ok (.iload_n 1, 1) := by decide +kernel
theorem cd_M_name_85 : decode cb_M_name 85 = .ok (.iaload, 1) := by decide +kernel
theorem cd_M_name_86 : decode cb_M_name 86 = .ok (.ireturn, 1) := by decide +kernel
theorem cd_M_named_0 : decode cb_M_named 0 = .ok (.aload_n 0, 1) := by decide +kernel
theorem cd_M_named_1 : decode cb_M_named 1 = .ok (.iconst 0, 1) := by decide +kernel
theorem cd_M_named_2 : decode cb_M_named 2 = .ok (.putfield 79, 3) := by decide +kernel
theorem cd_M_named_5 : decode cb_M_named 5 = .ok (.iconst 0, 1) := by decide +kernel
theorem cd_M_named_6 : decode cb_M_named 6 = .ok (.istore_n 3, 1) := by decide +kernel
theorem cd_M_named_7 : decode cb_M_named 7 = .ok (.iconst 0, 1) := by decide +kernel
theorem cd_M_named_8 : decode cb_M_named 8 = .ok (.istore 4, 2) := by decide +kernel
theorem cd_M_named_10 : decode cb_M_named 10 = .ok (.iload 4, 2) := by decide +kernel
theorem cd_M_named_12 : decode cb_M_named 12 = .ok (.aload_n 0, 1) := by decide +kernel
theorem cd_M_named_13 : decode cb_M_named 13 = .ok (.getfield 82, 3) := by decide +kernel
theorem cd_M_named_16 : decode cb_M_named 16 = .ok (.if_icmp .ge 33, 3) := by decide +kernel
theorem cd_M_named_19 : decode cb_M_named 19 = .ok (.aload_n 0, 1) := by decide +kernel
theorem cd_M_named_20 : decode cb_M_named 20 = .ok (.iload 4, 2) := by decide +kernel
theorem cd_M_named_22 : decode cb_M_named 22 = .ok (.iload_n 1, 1) := by decide +kernel
theorem cd_M_named_23 : decode cb_M_named 23 = .ok (.invokevirtual 161, 3) := by decide +kernel
theorem cd_M_named_26 : decode cb_M_named 26 = .ok (.ifCond .ne 6, 3) := by decide +kernel
theorem cd_M_named_29 : decode cb_M_named 29 = .ok (.goto 14, 3) := by decide +kernel
theorem cd_M_named_32 : decode cb_M_named 32 = .ok (.iload_n 3, 1) := by decide +kernel
theorem cd_M_named_33 : decode cb_M_named 33 = .ok (.iload_n 2, 1) := by decide +kernel
theorem cd_M_named_34 : decode cb_M_named 34 = .ok (.if_icmp .ne 6, 3) := by decide +kernel
theorem cd_M_named_37 : decode cb_M_named 37 = .ok (.iload 4, 2) := by decide +kernel
theorem cd_M_named_39 : decode cb_M_named 39 = .ok (.ireturn, 1) := by decide +kernel
theorem cd_M_named_40 : decode cb_M_named 40 = .ok (.iinc 3 1, 3) := by decide +kernel
theorem cd_M_named_43 : decode cb_M_named 43 = .ok (.iinc 4 1, 3) := by decide +kernel
theorem cd_M_named_46 : decode cb_M_named 46 = .ok (.goto (-36), 3) := by decide +kernel
theorem cd_M_named_49 : decode cb_M_named 49 = .ok (.iconst (-1), 1) := by decide +kernel
theorem cd_M_named_50 : decode cb_M_named 50 = .ok (.ireturn, 1) := by decide +kernel
theorem cd_M_move_0 : decode cb_M_move 0 = .ok (.aload_n 0, 1) := by decide +kernel
theorem cd_M_move_1 : decode cb_M_move 1 = .ok (.iconst 0, 1) := by decide +kernel
theorem cd_M_move_2 : decode cb_M_move 2 = .ok (.putfield 79, 3) := by decide +kernel
theorem cd_M_move_5 : decode cb_M_move 5 = .ok (.aload_n 0, 1) := by decide +kernel
theorem cd_M_move_6 : decode cb_M_move 6 = .ok (.iload_n 1, 1) := by decide +kernel
theorem cd_M_move_7 : decode cb_M_move 7 = .ok (.invokevirtual 150, 3) := by decide +kernel
theorem cd_M_move_10 : decode cb_M_move 10 = .ok (.ifCond .eq 11, 3) := by decide +kernel
theorem cd_M_move_13 : decode cb_M_move 13 = .ok (.aload_n 0, 1) := by decide +kernel
theorem cd_M_move_14 : decode cb_M_move 14 = .ok (.iload_n 2, 1) := by decide +kernel
theorem cd_M_move_15 : decode cb_M_move 15 = .ok (.invokevirtual 150, 3) := by decide +kernel
theorem cd_M_move_18 : decode cb_M_move 18 = .ok (.ifCond .ne 5, 3) := by decide +kernel
theorem cd_M_move_21 : decode cb_M_move 21 = .ok (.iconst (-1), 1) := by decide +kernel
theorem cd_M_move_22 : decode cb_M_move 22 = .ok (.ireturn, 1) := by decide +kernel
theorem cd_M_move_23 : decode cb_M_move 23 = .ok (.iload_n 1, 1) := by decide +kernel
theorem cd_M_move_24 : decode cb_M_move 24 = .ok (.ifCond .eq 37, 3) := by decide +kernel
theorem cd_M_move_27 : decode cb_M_move 27 = .ok (.aload_n 0, 1) := by decide +kernel
theorem cd_M_move_28 : decode cb_M_move 28 = .ok (.iload_n 2, 1) := by decide +kernel
theorem cd_M_move_29 : decode cb_M_move 29 = .ok (.iload_n 1, 1) := by decide +kernel
theorem cd_M_move_30 : decode cb_M_move 30 = .ok (.invokevirtual 165, 3) := by decide +kernel
theorem cd_M_move_33 : decode cb_M_move 33 = .ok (.ifCond .ne 28, 3) := by decide +kernel
theorem cd_M_move_36 : decode cb_M_move 36 = .ok (.aload_n 0, 1) := by decide +kernel
theorem cd_M_move_37 : decode cb_M_move 37 = .ok (.getfield 17, 3) := by decide +kernel
theorem cd_M_move_40 : decode cb_M_move 40 = .ok (.iload_n 2, 1) := by decide +kernel
theorem cd_M_move_41 : decode cb_M_move 41 = .ok (.iaload, 1) := by decide +kernel
theorem cd_M_move_42 : decode cb_M_move 42 = .ok (.aload_n 0, 1) := by decide +kernel
theorem cd_M_move_43 : decode cb_M_move 43 = .ok (.getfield 17, 3) := by decide +kernel
theorem cd_M_move_46 : decode cb_M_move 46 = .ok (.iload_n 1, 1) := by decide +kernel
theorem cd_M_move_47 : decode cb_M_move 47 = .ok (.iaload, 1) := by decide +kernel
theorem cd_M_move_48 : decode cb_M_move 48 = .ok (.if_icmp .gt 13, 3) := by decide +kernel
theorem cd_M_move_51 : decode cb_M_move 51 = .ok (.aload_n 0, 1) := by decide +kernel
theorem cd_M_move_52 : decode cb_M_move 52 = .ok (.getfield 17, 3) := by decide +kernel
theorem cd_M_move_55 : decode cb_M_move 55 = .ok (.iload_n 2, 1) := by decide +kernel
theorem cd_M_move_56 : decode cb_M_move 56 = .ok (.iaload, 1) := by decide +kernel
theorem cd_M_move_57 : decode cb_M_move 57 = .ok (.iconst 3, 1) := by decide +kernel
theorem cd_M_move_58 : decode cb_M_move 58 = .ok (.if_icmp .ne 6, 3) := by decide +kernel
theorem cd_M_move_61 : decode cb_M_move 61 = .ok (.bipush (-3), 2) := by decide +kernel
theorem cd_M_move_63 : decode cb_M_move 63 = .ok (.ireturn, 1) := by decide +kernel
theorem cd_M_move_64 : decode cb_M_move 64 = .ok (.aload_n 0, 1) := by decide +kernel
theorem cd_M_move_65 : decode cb_M_move 65 = .ok (.iload_n 2, 1) := by decide +kernel
theorem cd_M_move_66 : decode cb_M_move 66 = .ok (.invokevirtual 103, 3) := by decide +kernel
theorem cd_M_move_69 : decode cb_M_move 69 = .ok (.iconst 1, 1) := by decide +kernel
theorem cd_M_move_70 : decode cb_M_move 70 = .ok (.iadd, 1) := by decide +kernel
theorem cd_M_move_71 : decode cb_M_move 71 = .ok (.aload_n 0, 1) := by decide +kernel
theorem cd_M_move_72 : decode cb_M_move 72 = .ok (.iload_n 1, 1) := by decide +kernel
theorem cd_M_move_73 : decode cb_M_move 73 = .ok (.invokevirtual 103, 3) := by decide +kernel
theorem cd_M_move_76 : decode cb_M_move 76 = .ok (.isub, 1) := by decide +kernel
theorem cd_M_move_77 : decode cb_M_move 77 = .ok (.istore_n 3, 1) := by decide +kernel
theorem cd_M_move_78 : decode cb_M_move 78 = .ok (.iconst 0, 1) := by decide +kernel
theorem cd_M_move_79 : decode cb_M_move 79 = .ok (.istore 4, 2) := by decide +kernel
theorem cd_M_move_81 : decode cb_M_move 81 = .ok (.iconst 0, 1) := by decide +kernel
theorem cd_M_move_82 : decode cb_M_move 82 = .ok (.istore 5, 2) := by decide +kernel
theorem cd_M_move_84 : decode cb_M_move 84 = .ok (.iload 5, 2) := by decide +kernel
theorem cd_M_move_86 : decode cb_M_move 86 = .ok (.aload_n 0, 1) := by decide +kernel
theorem cd_M_move_87 : decode cb_M_move 87 = .ok (.getfield 82, 3) := by decide +kernel
theorem cd_M_move_90 : decode cb_M_move 90 = .ok (.if_icmp .ge 44, 3) := by decide +kernel
theorem cd_M_move_93 : decode cb_M_move 93 = .ok (.iload 4, 2) := by decide +kernel
theorem cd_M_move_95 : decode cb_M_move 95 = .ok (.ifCond .ne 26, 3) := by decide +kernel
theorem cd_M_move_98 : decode cb_M_move 98 = .ok (.aload_n 0, 1) := by decide +kernel
theorem cd_M_move_99 : decode cb_M_move 99 = .ok (.iload 5, 2) := by decide +kernel
theorem cd_M_move_101 : decode cb_M_move 101 = .ok (.iload_n 1, 1) := by decide +kernel
theorem cd_M_move_102 : decode cb_M_move 102 = .ok (.invokevirtual 165, 3) := by decide +kernel
theorem cd_M_move_105 : decode cb_M_move 105 = .ok (.ifCond .eq 20, 3) := by decide +kernel
theorem cd_M_move_108 : decode cb_M_move 108 = .ok (.aload_n 0, 1) := by decide +kernel
theorem cd_M_move_109 : decode cb_M_move 109 = .ok (.iload 5, 2) := by decide +kernel
theorem cd_M_move_111 : decode cb_M_move 111 = .ok (.invokevirtual 103, 3) := by decide +kernel
theorem cd_M_move_114 : decode cb_M_move 114 = .ok (.iload_n 3, 1) := by decide +kernel
theorem cd_M_move_115 : decode cb_M_move 115 = .ok (.iadd, 1) := by decide +kernel
theorem cd_M_move_116 : decode cb_M_move 116 = .ok (.bipush 8, 2) := by decide +kernel
theorem cd_M_move_118 : decode cb_M_move 118 = .ok (.if_icmp .le 7, 3) := by decide +kernel
theorem cd_M_move_121 : decode cb_M_move 121 = .ok (.iconst 1, 1) := by decide +kernel
theorem cd_M_move_122 : decode cb_M_move 122 = .ok (.goto 4, 3) := by decide +kernel
theorem cd_M_move_125 : decode cb_M_move 125 = .ok (.iconst 0, 1) := by decide +kernel
theorem cd_M_move_126 : decode cb_M_move 126 = .ok (.istore 4, 2) := by decide +kernel
theorem cd_M_move_128 : decode cb_M_move 128 = .ok (.iinc 5 1, 3) := by decide +kernel
theorem cd_M_move_131 : decode cb_M_move 131 = .ok (.goto (-47), 3) := by decide +kernel
theorem cd_M_move_134 : decode cb_M_move 134 = .ok (.iload 4, 2) := by decide +kernel
theorem cd_M_move_136 : decode cb_M_move 136 = .ok (.ifCond .eq 6, 3) := by decide +kernel
theorem cd_M_move_139 : decode cb_M_move 139 = .ok (.bipush (-3), 2) := by decide +kernel
theorem cd_M_move_141 : decode cb_M_move 141 = .ok (.ireturn, 1) := by decide +kernel
theorem cd_M_move_142 : decode cb_M_move 142 = .ok (.aload_n 0, 1) := by decide +kernel
theorem cd_M_move_143 : decode cb_M_move 143 = .ok (.getfield 60, 3) := by decide +kernel
theorem cd_M_move_146 : decode cb_M_move 146 = .ok (.iload_n 1, 1) := by decide +kernel
theorem cd_M_move_147 : decode cb_M_move 147 = .ok (.iaload, 1) := by decide +kernel
theorem cd_M_move_148 : decode cb_M_move 148 = .ok (.iconst 5, 1) := by decide +kernel
theorem cd_M_move_149 : decode cb_M_move 149 = .ok (.if_icmp .ge 24, 3) := by decide +kernel
theorem cd_M_move_152 : decode cb_M_move 152 = .ok (.aload_n 0, 1) := by decide +kernel
theorem cd_M_move_153 : decode cb_M_move 153 = .ok (.getfield 57, 3) := by decide +kernel
theorem cd_M_move_156 : decode cb_M_move 156 = .ok (.iconst 5, 1) := by decide +kernel
theorem cd_M_move_157 : decode cb_M_move 157 = .ok (.iload_n 1, 1) := by decide +kernel
theorem cd_M_move_158 : decode cb_M_move 158 = .ok (.imul, 1) := by decide +kernel
theorem cd_M_move_159 : decode cb_M_move 159 = .ok (.aload_n 0, 1) := by decide +kernel
theorem cd_M_move_160 : decode cb_M_move 160 = .ok (.getfield 60, 3) := by decide +kernel
theorem cd_M_move_163 : decode cb_M_move 163 = .ok (.iload_n 1, 1) := by decide +kernel
theorem cd_M_move_164 : decode cb_M_move 164 = .ok (.iaload, 1) := by decide +kernel
theorem cd_M_move_165 : decode cb_M_move 165 = .ok (.iadd, 1) := by decide +kernel
theorem cd_M_move_166 : decode cb_M_move 166 = .ok (.aload_n 0, 1) := by decide +kernel
theorem cd_M_move_167 : decode cb_M_move 167 = .ok (.getfield 24, 3) := by decide +kernel
theorem cd_M_move_170 : decode cb_M_move 170 = .ok (.iload_n 1, 1) := by decide +kernel
theorem cd_M_move_171 : decode cb_M_move 171 = .ok (.iaload, 1) := by decide +kernel
theorem cd_M_move_172 : decode cb_M_move 172 = .ok (.iastore, 1) := by decide +kernel
theorem cd_M_move_173 : decode cb_M_move 173 = .ok (.aload_n 0, 1) := by decide +kernel
theorem cd_M_move_174 : decode cb_M_move 174 = .ok (.getfield 60, 3) := by decide +kernel
theorem cd_M_move_177 : decode cb_M_move 177 = .ok (.iload_n 1, 1) := by decide +kernel
theorem cd_M_move_178 : decode cb_M_move 178 = .ok (.dup2, 1) := by decide +kernel
theorem cd_M_move_179 : decode cb_M_move 179 = .ok (.iaload, 1) := by decide +kernel
theorem cd_M_move_180 : decode cb_M_move 180 = .ok (.aload_n 0, 1) := by decide +kernel
theorem cd_M_move_181 : decode cb_M_move 181 = .ok (.getfield 60, 3) := by decide +kernel
theorem cd_M_move_184 : decode cb_M_move 184 = .ok (.iload_n 1, 1) := by decide +kernel
theorem cd_M_move_185 : decode cb_M_move 185 = .ok (.iaload, 1) := by decide +kernel
theorem cd_M_move_186 : decode cb_M_move 186 = .ok (.iconst 5, 1) := by decide +kernel
theorem cd_M_move_187 : decode cb_M_move 187 = .ok (.if_icmp .ge 7, 3) := by decide +kernel
theorem cd_M_move_190 : decode cb_M_move 190 = .ok (.iconst 1, 1) := by decide +kernel
theorem cd_M_move_191 : decode cb_M_move 191 = .ok (.goto 4, 3) := by decide +kernel
theorem cd_M_move_194 : decode cb_M_move 194 = .ok (.iconst 0, 1) := by decide +kernel
theorem cd_M_move_195 : decode cb_M_move 195 = .ok (.iadd, 1) := by decide +kernel
theorem cd_M_move_196 : decode cb_M_move 196 = .ok (.iastore, 1) := by decide +kernel
theorem cd_M_move_197 : decode cb_M_move 197 = .ok (.aload_n 0, 1) := by decide +kernel
theorem cd_M_move_198 : decode cb_M_move 198 = .ok (.getfield 24, 3) := by decide +kernel
theorem cd_M_move_201 : decode cb_M_move 201 = .ok (.iload_n 1, 1) := by decide +kernel
theorem cd_M_move_202 : decode cb_M_move 202 = .ok (.iload_n 2, 1) := by decide +kernel
theorem cd_M_move_203 : decode cb_M_move 203 = .ok (.iastore, 1) := by decide +kernel
theorem cd_M_move_204 : decode cb_M_move 204 = .ok (.iconst 1, 1) := by decide +kernel
theorem cd_M_move_205 : decode cb_M_move 205 = .ok (.ireturn, 1) := by decide +kernel
theorem cd_M_was_0 : decode cb_M_was 0 = .ok (.aload_n 0, 1) := by decide +kernel
theorem cd_M_was_1 : decode cb_M_was 1 = .ok (.iconst 0, 1) := by decide +kernel
theorem cd_M_was_2 : decode cb_M_was 2 = .ok (.putfield 79, 3) := by decide +kernel
theorem cd_M_was_5 : decode cb_M_was 5 = .ok (.aload_n 0, 1) := by decide +kernel
theorem cd_M_was_6 : decode cb_M_was 6 = .ok (.iload_n 1, 1) := by decide +kernel
theorem cd_M_was_7 : decode cb_M_was 7 = .ok (.invokevirtual 150, 3) := by decide +kernel
theorem cd_M_was_10 : decode cb_M_was 10 = .ok (.ifCond .eq 32, 3) := by decide +kernel
theorem cd_M_was_13 : decode cb_M_was 13 = .ok (.iload_n 2, 1) := by decide +kernel
theorem cd_M_was_14 : decode cb_M_was 14 = .ok (.iconst 0, 1) := by decide +kernel
theorem cd_M_was_15 : decode cb_M_was 15 = .ok (.aload_n 0, 1) := by decide +kernel
theorem cd_M_was_16 : decode cb_M_was 16 = .ok (.getfield 60, 3) := by decide +kernel
theorem cd_M_was_19 : decode cb_M_was 19 = .ok (.iload_n 1, 1) := by decide +kernel
theorem cd_M_was_20 : decode cb_M_was 20 = .ok (.iaload, 1) := by decide +kernel
theorem cd_M_was_21 : decode cb_M_was 21 = .ok (.iconst 1, 1) := by decide +kernel
theorem cd_M_was_22 : decode cb_M_was 22 = .ok (.isub, 1) := by decide +kernel
theorem cd_M_was_23 : decode cb_M_was 23 = .ok (.invokestatic 85, 3) := by decide +kernel
theorem cd_M_was_26 : decode cb_M_was 26 = .ok (.ifCond .eq 16, 3) := by decide +kernel
theorem cd_M_was_29 : decode cb_M_was 29 = .ok (.aload_n 0, 1) := by decide +kernel
theorem cd_M_was_30 : decode cb_M_was 30 = .ok (.getfield 57, 3) := by decide +kernel
theorem cd_M_was_33 : decode cb_M_was 33 = .ok (.iconst 5, 1) := by decide +kernel
theorem cd_M_was_34 : decode cb_M_was 34 = .ok (.iload_n 1, 1) := by decide +kernel
theorem cd_M_was_35 : decode cb_M_was 35 = .ok (.imul, 1) := by decide +kernel
theorem cd_M_was_36 : decode cb_M_was 36 = .ok (.iload_n 2, 1) := by decide +kernel
theorem cd_M_was_37 : decode cb_M_was 37 = .ok (.iadd, 1) := by decide +kernel
theorem cd_M_was_38 : decode cb_M_was 38 = .ok (.iaload, 1) := by decide +kernel
theorem cd_M_was_39 : decode cb_M_was 39 = .ok (.goto 4, 3) := by decide +kernel
theorem cd_M_was_42 : decode cb_M_was 42 = .ok (.iconst (-1), 1) := by decide +kernel
theorem cd_M_was_43 : decode cb_M_was 43 = .ok (.ireturn, 1) := by decide +kernel
theorem cd_M_isShown_0 : decode cb_M_isShown 0 = .ok (.iconst 1, 1) := by decide +kernel
theorem cd_M_isShown_1 : decode cb_M_isShown 1 = .ok (.istore_n 2, 1) := by decide +kernel
theorem cd_M_isShown_2 : decode cb_M_isShown 2 = .ok (.iload_n 1, 1) := by decide +kernel
theorem cd_M_isShown_3 : decode cb_M_isShown 3 = .ok (.istore_n 3, 1) := by decide +kernel
theorem cd_M_isShown_4 : decode cb_M_isShown 4 = .ok (.iload_n 3, 1) := by decide +kernel
theorem cd_M_isShown_5 : decode cb_M_isShown 5 = .ok (.ifCond .lt 32, 3) := by decide +kernel
theorem cd_M_isShown_8 : decode cb_M_isShown 8 = .ok (.iload_n 2, 1) := by decide +kernel
theorem cd_M_isShown_9 : decode cb_M_isShown 9 = .ok (.ifCond .eq 16, 3) := by decide +kernel
theorem cd_M_isShown_12 : decode cb_M_isShown 12 = .ok (.aload_n 0, 1) := by decide +kernel
theorem cd_M_isShown_13 : decode cb_M_isShown 13 = .ok (.getfield 63, 3) := by decide +kernel
theorem cd_M_isShown_16 : decode cb_M_isShown 16 = .ok (.iload_n 3, 1) := by decide +kernel
theorem cd_M_isShown_17 : decode cb_M_isShown 17 = .ok (.baload, 1) := by decide +kernel
theorem cd_M_isShown_18 : decode cb_M_isShown 18 = .ok (.ifCond .ne 7, 3) := by decide +kernel
theorem cd_M_isShown_21 : decode cb_M_isShown 21 = .ok (.iconst 1, 1) := by decide +kernel
theorem cd_M_isShown_22 : decode cb_M_isShown 22 = .ok (.goto 4, 3) := by decide +kernel
theorem cd_M_isShown_25 : decode cb_M_isShown 25 = .ok (.iconst 0, 1) := by decide +kernel
theorem cd_M_isShown_26 : decode cb_M_isShown 26 = .ok (.istore_n 2, 1) := by decide +kernel
theorem cd_M_isShown_27 : decode cb_M_isShown 27 = .ok (.aload_n 0, 1) := by decide +kernel
theorem cd_M_isShown_28 : decode cb_M_isShown 28 = .ok (.getfield 24, 3) := by decide +kernel
theorem cd_M_isShown_31 : decode cb_M_isShown 31 = .ok (.iload_n 3, 1) := by decide +kernel
theorem cd_M_isShown_32 : decode cb_M_isShown 32 = .ok (.iaload, 1) := by decide +kernel
theorem cd_M_isShown_33 : decode cb_M_isShown 33 = .ok (.istore_n 3, 1) := by decide +kernel
theorem cd_M_isShown_34 : decode cb_M_isShown 34 = .ok (.goto (-30), 3) := by decide +kernel
theorem cd_M_isShown_37 : decode cb_M_isShown 37 = .ok (.iload_n 2, 1) := by decide +kernel
theorem cd_M_isShown_38 : decode cb_M_isShown 38 = .ok (.ireturn, 1) := by decide +kernel
theorem cd_M_published_0 : decode cb_M_published 0 = .ok (.aload_n 0, 1) := by decide +kernel
theorem cd_M_published_1 : decode cb_M_published 1 = .ok (.iconst 0, 1) := by decide +kernel
theorem cd_M_published_2 : decode cb_M_published 2 = .ok (.putfield 79, 3) := by decide +kernel
theorem cd_M_published_5 : decode cb_M_published 5 = .ok (.aload_n 0, 1) := by decide +kernel
theorem cd_M_published_6 : decode cb_M_published 6 = .ok (.iload_n 1, 1) := by decide +kernel
theorem cd_M_published_7 : decode cb_M_published 7 = .ok (.invokevirtual 150, 3) := by decide +kernel
theorem cd_M_published_10 : decode cb_M_published 10 = .ok (.ifCond .ne 5, 3) := by decide +kernel
theorem cd_M_published_13 : decode cb_M_published 13 = .ok (.iconst (-1), 1) := by decide +kernel
theorem cd_M_published_14 : decode cb_M_published 14 = .ok (.ireturn, 1) := by decide +kernel
theorem cd_M_published_15 : decode cb_M_published 15 = .ok (.aload_n 0, 1) := by decide +kernel
theorem cd_M_published_16 : decode cb_M_published 16 = .ok (.getfield 63, 3) := by decide +kernel
theorem cd_M_published_19 : decode cb_M_published 19 = .ok (.iload_n 1, 1) := by decide +kernel
theorem cd_M_published_20 : decode cb_M_published 20 = .ok (.iload_n 2, 1) := by decide +kernel
theorem cd_M_published_21 : decode cb_M_published 21 = .ok (.ifCond .ne 7, 3) := by decide +kernel
theorem cd_M_published_24 : decode cb_M_published 24 = .ok (.iconst 1, 1) := by decide +kernel
theorem cd_M_published_25 : decode cb_M_published 25 = .ok (.goto 4, 3) := by decide +kernel
theorem cd_M_published_28 : decode cb_M_published 28 = .ok (.iconst 0, 1) := by decide +kernel
theorem cd_M_published_29 : decode cb_M_published 29 = .ok (.bastore, 1) := by decide +kernel
theorem cd_M_published_30 : decode cb_M_published 30 = .ok (.aload_n 0, 1) := by decide +kernel
theorem cd_M_published_31 : decode cb_M_published 31 = .ok (.iload_n 1, 1) := by decide +kernel
theorem cd_M_published_32 : decode cb_M_published 32 = .ok (.invokevirtual 168, 3) := by decide +kernel
theorem cd_M_published_35 : decode cb_M_published 35 = .ok (.ifCond .eq 7, 3) := by decide +kernel
theorem cd_M_published_38 : decode cb_M_published 38 = .ok (.iconst 1, 1) := by decide +kernel
theorem cd_M_published_39 : decode cb_M_published 39 = .ok (.goto 4, 3) := by decide +kernel
theorem cd_M_published_42 : decode cb_M_published 42 = .ok (.iconst 0, 1) := by decide +kernel
theorem cd_M_published_43 : decode cb_M_published 43 = .ok (.ireturn, 1) := by decide +kernel
theorem cd_M_samePath_0 : decode cb_M_samePath 0 = .ok (.iload_n 1, 1) := by decide +kernel
theorem cd_M_samePath_1 : decode cb_M_samePath 1 = .ok (.istore_n 3, 1) := by decide +kernel
theorem cd_M_samePath_2 : decode cb_M_samePath 2 = .ok (.iload_n 2, 1) := by decide +kernel
theorem cd_M_samePath_3 : decode cb_M_samePath 3 = .ok (.istore 4, 2) := by decide +kernel
theorem cd_M_samePath_5 : decode cb_M_samePath 5 = .ok (.iload_n 3, 1) := by decide +kernel
theorem cd_M_samePath_6 : decode cb_M_samePath 6 = .ok (.ifCond .lt 43, 3) := by decide +kernel
theorem cd_M_samePath_9 : decode cb_M_samePath 9 = .ok (.iload 4, 2) := by decide +kernel
theorem cd_M_samePath_11 : decode cb_M_samePath 11 = .ok (.ifCond .lt 38, 3) := by decide +kernel
theorem cd_M_samePath_14 : decode cb_M_samePath 14 = .ok (.aload_n 0, 1) := by decide +kernel
theorem cd_M_samePath_15 : decode cb_M_samePath 15 = .ok (.getfield 21, 3) := by decide +kernel
theorem cd_M_samePath_18 : decode cb_M_samePath 18 = .ok (.iload_n 3, 1) := by decide +kernel
theorem cd_M_samePath_19 : decode cb_M_samePath 19 = .ok (.iaload, 1) := by decide +kernel
theorem cd_M_samePath_20 : decode cb_M_samePath 20 = .ok (.aload_n 0, 1) := by decide +kernel
theorem cd_M_samePath_21 : decode cb_M_samePath 21 = .ok (.getfield 21, 3) := by decide +kernel
theorem cd_M_samePath_24 : decode cb_M_samePath 24 = .ok (.iload 4, 2) := by decide +kernel
theorem cd_M_samePath_26 : decode cb_M_samePath 26 = .ok (.iaload, 1) := by decide +kernel
theorem cd_M_samePath_27 : decode cb_M_samePath 27 = .ok (.if_icmp .ne 22, 3) := by decide +kernel
theorem cd_M_samePath_30 : decode cb_M_samePath 30 = .ok (.aload_n 0, 1) := by decide +kernel
theorem cd_M_samePath_31 : decode cb_M_samePath 31 = .ok (.getfield 24, 3) := by decide +kernel
theorem cd_M_samePath_34 : decode cb_M_samePath 34 = .ok (.iload_n 3, 1) := by decide +kernel
theorem cd_M_samePath_35 : decode cb_M_samePath 35 = .ok (.iaload, 1) := by decide +kernel
theorem cd_M_samePath_36 : decode cb_M_samePath 36 = .ok (.istore_n 3, 1) := by decide +kernel
theorem cd_M_samePath_37 : decode cb_M_samePath 37 = .ok (.aload_n 0, 1) := by decide +kernel
theorem cd_M_samePath_38 : decode cb_M_samePath 38 = .ok (.getfield 24, 3) := by decide +kernel
theorem cd_M_samePath_41 : decode cb_M_samePath 41 = .ok (.iload 4, 2) := by decide +kernel
theorem cd_M_samePath_43 : decode cb_M_samePath 43 = .ok (.iaload, 1) := by decide +kernel
theorem cd_M_samePath_44 : decode cb_M_samePath 44 = .ok (.istore 4, 2) := by decide +kernel
theorem cd_M_samePath_46 : decode cb_M_samePath 46 = .ok (.goto (-41), 3) := by decide +kernel
theorem cd_M_samePath_49 : decode cb_M_samePath 49 = .ok (.iload_n 3, 1) := by decide +kernel
theorem cd_M_samePath_50 : decode cb_M_samePath 50 = .ok (.ifCond .ge 12, 3) := by decide +kernel
theorem cd_M_samePath_53 : decode cb_M_samePath 53 = .ok (.iload 4, 2) := by decide +kernel
theorem cd_M_samePath_55 : decode cb_M_samePath 55 = .ok (.ifCond .ge 7, 3) := by decide +kernel
theorem cd_M_samePath_58 : decode cb_M_samePath 58 = .ok (.iconst 1, 1) := by decide +kernel
theorem cd_M_samePath_59 : decode cb_M_samePath 59 = .ok (.goto 4, 3) := by decide +kernel
theorem cd_M_samePath_62 : decode cb_M_samePath 62 = .ok (.iconst 0, 1) := by decide +kernel
theorem cd_M_samePath_63 : decode cb_M_samePath 63 = .ok (.ireturn, 1) := by decide +kernel
theorem cd_M_differs_0 : decode cb_M_differs 0 = .ok (.aload_n 0, 1) := by decide +kernel
theorem cd_M_differs_1 : decode cb_M_differs 1 = .ok (.getfield 42, 3) := by decide +kernel
theorem cd_M_differs_4 : decode cb_M_differs 4 = .ok (.iload_n 1, 1) := by decide +kernel
theorem cd_M_differs_5 : decode cb_M_differs 5 = .ok (.iaload, 1) := by decide +kernel
theorem cd_M_differs_6 : decode cb_M_differs 6 = .ok (.aload_n 0, 1) := by decide +kernel
theorem cd_M_differs_7 : decode cb_M_differs 7 = .ok (.getfield 42, 3) := by decide +kernel
theorem cd_M_differs_10 : decode cb_M_differs 10 = .ok (.iload_n 2, 1) := by decide +kernel
theorem cd_M_differs_11 : decode cb_M_differs 11 = .ok (.iaload, 1) := by decide +kernel
theorem cd_M_differs_12 : decode cb_M_differs 12 = .ok (.if_icmp .ne 7, 3) := by decide +kernel
theorem cd_M_differs_15 : decode cb_M_differs 15 = .ok (.iconst 1, 1) := by decide +kernel
theorem cd_M_differs_16 : decode cb_M_differs 16 = .ok (.goto 4, 3) := by decide +kernel
theorem cd_M_differs_19 : decode cb_M_differs 19 = .ok (.iconst 0, 1) := by decide +kernel
theorem cd_M_differs_20 : decode cb_M_differs 20 = .ok (.istore_n 3, 1) := by decide +kernel
theorem cd_M_differs_21 : decode cb_M_differs 21 = .ok (.iconst 0, 1) := by decide +kernel
theorem cd_M_differs_22 : decode cb_M_differs 22 = .ok (.istore 4, 2) := by decide +kernel
theorem cd_M_differs_24 : decode cb_M_differs 24 = .ok (.iload 4, 2) := by decide +kernel
theorem cd_M_differs_26 : decode cb_M_differs 26 = .ok (.aload_n 0, 1) := by decide +kernel
theorem cd_M_differs_27 : decode cb_M_differs 27 = .ok (.getfield 42, 3) := by decide +kernel
theorem cd_M_differs_30 : decode cb_M_differs 30 = .ok (.iload_n 1, 1) := by decide +kernel
theorem cd_M_differs_31 : decode cb_M_differs 31 = .ok (.iaload, 1) := by decide +kernel
theorem cd_M_differs_32 : decode cb_M_differs 32 = .ok (.if_icmp .ge 46, 3) := by decide +kernel
theorem cd_M_differs_35 : decode cb_M_differs 35 = .ok (.iload_n 3, 1) := by decide +kernel
theorem cd_M_differs_36 : decode cb_M_differs 36 = .ok (.ifCond .eq 42, 3) := by decide +kernel
theorem cd_M_differs_39 : decode cb_M_differs 39 = .ok (.aload_n 0, 1) := by decide +kernel
theorem cd_M_differs_40 : decode cb_M_differs 40 = .ok (.getfield 45, 3) := by decide +kernel
theorem cd_M_differs_43 : decode cb_M_differs 43 = .ok (.bipush 16, 2) := by decide +kernel
theorem cd_M_differs_45 : decode cb_M_differs 45 = .ok (.iload_n 1, 1) := by decide +kernel
theorem cd_M_differs_46 : decode cb_M_differs 46 = .ok (.imul, 1) := by decide +kernel
theorem cd_M_differs_47 : decode cb_M_differs 47 = .ok (.iload 4, 2) := by decide +kernel
theorem cd_M_differs_49 : decode cb_M_differs 49 = .ok (.iadd, 1) := by decide +kernel
theorem cd_M_differs_50 : decode cb_M_differs 50 = .ok (.baload, 1) := by decide +kernel
theorem cd_M_differs_51 : decode cb_M_differs 51 = .ok (.aload_n 0, 1) := by decide +kernel
theorem cd_M_differs_52 : decode cb_M_differs 52 = .ok (.getfield 45, 3) := by decide +kernel
theorem cd_M_differs_55 : decode cb_M_differs 55 = .ok (.bipush 16, 2) := by decide +kernel
theorem cd_M_differs_57 : decode cb_M_differs 57 = .ok (.iload_n 2, 1) := by decide +kernel
theorem cd_M_differs_58 : decode cb_M_differs 58 = .ok (.imul, 1) := by decide +kernel
theorem cd_M_differs_59 : decode cb_M_differs 59 = .ok (.iload 4, 2) := by decide +kernel
theorem cd_M_differs_61 : decode cb_M_differs 61 = .ok (.iadd, 1) := by decide +kernel
theorem cd_M_differs_62 : decode cb_M_differs 62 = .ok (.baload, 1) := by decide +kernel
theorem cd_M_differs_63 : decode cb_M_differs 63 = .ok (.if_icmp .ne 7, 3) := by decide +kernel
theorem cd_M_differs_66 : decode cb_M_differs 66 = .ok (.iconst 1, 1) := by decide +kernel
theorem cd_M_differs_67 : decode cb_M_differs 67 = .ok (.goto 4, 3) := by decide +kernel
theorem cd_M_differs_70 : decode cb_M_differs 70 = .ok (.iconst 0, 1) := by decide +kernel
theorem cd_M_differs_71 : decode cb_M_differs 71 = .ok (.istore_n 3, 1) := by decide +kernel
theorem cd_M_differs_72 : decode cb_M_differs 72 = .ok (.iinc 4 1, 3) := by decide +kernel
theorem cd_M_differs_75 : decode cb_M_differs 75 = .ok (.goto (-51), 3) := by decide +kernel
theorem cd_M_differs_78 : decode cb_M_differs 78 = .ok (.aload_n 0, 1) := by decide +kernel
theorem cd_M_differs_79 : decode cb_M_differs 79 = .ok (.getfield 27, 3) := by decide +kernel
theorem cd_M_differs_82 : decode cb_M_differs 82 = .ok (.iload_n 1, 1) := by decide +kernel
theorem cd_M_differs_83 : decode cb_M_differs 83 = .ok (.iaload, 1) := by decide +kernel
theorem cd_M_differs_84 : decode cb_M_differs 84 = .ok (.aload_n 0, 1) := by decide +kernel
theorem cd_M_differs_85 : decode cb_M_differs 85 = .ok (.getfield 27, 3) := by decide +kernel
theorem cd_M_differs_88 : decode cb_M_differs 88 = .ok (.iload_n 2, 1) := by decide +kernel
theorem cd_M_differs_89 : decode cb_M_differs 89 = .ok (.iaload, 1) := by decide +kernel
theorem cd_M_differs_90 : decode cb_M_differs 90 = .ok (.if_icmp .ne 37, 3) := by decide +kernel
theorem cd_M_differs_93 : decode cb_M_differs 93 = .ok (.aload_n 0, 1) := by decide +kernel
theorem cd_M_differs_94 : decode cb_M_differs 94 = .ok (.getfield 30, 3) := by decide +kernel
theorem cd_M_differs_97 : decode cb_M_differs 97 = .ok (.iload_n 1, 1) := by decide +kernel
theorem cd_M_differs_98 : decode cb_M_differs 98 = .ok (.iaload, 1) := by decide +kernel
theorem cd_M_differs_99 : decode cb_M_differs 99 = .ok (.aload_n 0, 1) := by decide +kernel
theorem cd_M_differs_100 : decode cb_M_differs 100 = .ok (.getfield 30, 3) := by decide +kernel
theorem cd_M_differs_103 : decode cb_M_differs 103 = .ok (.iload_n 2, 1) := by decide +kernel
theorem cd_M_differs_104 : decode cb_M_differs 104 = .ok (.iaload, 1) := by decide +kernel
theorem cd_M_differs_105 : decode cb_M_differs 105 = .ok (.if_icmp .ne 22, 3) := by decide +kernel
theorem cd_M_differs_108 : decode cb_M_differs 108 = .ok (.aload_n 0, 1) := by decide +kernel
theorem cd_M_differs_109 : decode cb_M_differs 109 = .ok (.getfield 33, 3) := by decide +kernel
theorem cd_M_differs_112 : decode cb_M_differs 112 = .ok (.iload_n 1, 1) := by decide +kernel
theorem cd_M_differs_113 : decode cb_M_differs 113 = .ok (.iaload, 1) := by decide +kernel
theorem cd_M_differs_114 : decode cb_M_differs 114 = .ok (.aload_n 0, 1) := by decide +kernel
theorem cd_M_differs_115 : decode cb_M_differs 115 = .ok (.getfield 33, 3) := by decide +kernel
theorem cd_M_differs_118 : decode cb_M_differs 118 = .ok (.iload_n 2, 1) := by decide +kernel
theorem cd_M_differs_119 : decode cb_M_differs 119 = .ok (.iaload, 1) := by decide +kernel
theorem cd_M_differs_120 : decode cb_M_differs 120 = .ok (.if_icmp .ne 7, 3) := by decide +kernel
theorem cd_M_differs_123 : decode cb_M_differs 123 = .ok (.iconst 1, 1) := by decide +kernel
theorem cd_M_differs_124 : decode cb_M_differs 124 = .ok (.goto 4, 3) := by decide +kernel
theorem cd_M_differs_127 : decode cb_M_differs 127 = .ok (.iconst 0, 1) := by decide +kernel
theorem cd_M_differs_128 : decode cb_M_differs 128 = .ok (.istore 4, 2) := by decide +kernel
theorem cd_M_differs_130 : decode cb_M_differs 130 = .ok (.aload_n 0, 1) := by decide +kernel
theorem cd_M_differs_131 : decode cb_M_differs 131 = .ok (.getfield 36, 3) := by decide +kernel
theorem cd_M_differs_134 : decode cb_M_differs 134 = .ok (.iload_n 1, 1) := by decide +kernel
theorem cd_M_differs_135 : decode cb_M_differs 135 = .ok (.iaload, 1) := by decide +kernel
theorem cd_M_differs_136 : decode cb_M_differs 136 = .ok (.aload_n 0, 1) := by decide +kernel
theorem cd_M_differs_137 : decode cb_M_differs 137 = .ok (.getfield 36, 3) := by decide +kernel
theorem cd_M_differs_140 : decode cb_M_differs 140 = .ok (.iload_n 2, 1) := by decide +kernel
theorem cd_M_differs_141 : decode cb_M_differs 141 = .ok (.iaload, 1) := by decide +kernel
theorem cd_M_differs_142 : decode cb_M_differs 142 = .ok (.if_icmp .ne 22, 3) := by decide +kernel
theorem cd_M_differs_145 : decode cb_M_differs 145 = .ok (.aload_n 0, 1) := by decide +kernel
theorem cd_M_differs_146 : decode cb_M_differs 146 = .ok (.getfield 39, 3) := by decide +kernel
theorem cd_M_differs_149 : decode cb_M_differs 149 = .ok (.iload_n 1, 1) := by decide +kernel
theorem cd_M_differs_150 : decode cb_M_differs 150 = .ok (.iaload, 1) := by decide +kernel
theorem cd_M_differs_151 : decode cb_M_differs 151 = .ok (.aload_n 0, 1) := by decide +kernel
theorem cd_M_differs_152 : decode cb_M_differs 152 = .ok (.getfield 39, 3) := by decide +kernel
theorem cd_M_differs_155 : decode cb_M_differs 155 = .ok (.iload_n 2, 1) := by decide +kernel
theorem cd_M_differs_156 : decode cb_M_differs 156 = .ok (.iaload, 1) := by decide +kernel
theorem cd_M_differs_157 : decode cb_M_differs 157 = .ok (.if_icmp .ne 7, 3) := by decide +kernel
theorem cd_M_differs_160 : decode cb_M_differs 160 = .ok (.iconst 1, 1) := by decide +kernel
theorem cd_M_differs_161 : decode cb_M_differs 161 = .ok (.goto 4, 3) := by decide +kernel
theorem cd_M_differs_164 : decode cb_M_differs 164 = .ok (.iconst 0, 1) := by decide +kernel
theorem cd_M_differs_165 : decode cb_M_differs 165 = .ok (.istore 5, 2) := by decide +kernel
theorem cd_M_differs_167 : decode cb_M_differs 167 = .ok (.iload_n 3, 1) := by decide +kernel
theorem cd_M_differs_168 : decode cb_M_differs 168 = .ok (.ifCond .eq 7, 3) := by decide +kernel
theorem cd_M_differs_171 : decode cb_M_differs 171 = .ok (.iconst 0, 1) := by decide +kernel
theorem cd_M_differs_172 : decode cb_M_differs 172 = .ok (.goto 4, 3) := by decide +kernel
theorem cd_M_differs_175 : decode cb_M_differs 175 = .ok (.iconst 1, 1) := by decide +kernel
theorem cd_M_differs_176 : decode cb_M_differs 176 = .ok (.iload 4, 2) := by decide +kernel
theorem cd_M_differs_178 : decode cb_M_differs 178 = .ok (.ifCond .eq 7, 3) := by decide +kernel
theorem cd_M_differs_181 : decode cb_M_differs 181 = .ok (.iconst 0, 1) := by decide +kernel
theorem cd_M_differs_182 : decode cb_M_differs 182 = .ok (.goto 4, 3) := by decide +kernel
theorem cd_M_differs_185 : decode cb_M_differs 185 = .ok (.iconst 2, 1) := by decide +kernel
theorem cd_M_differs_186 : decode cb_M_differs 186 = .ok (.iadd, 1) := by decide +kernel
theorem cd_M_differs_187 : decode cb_M_differs 187 = .ok (.iload 5, 2) := by decide +kernel
theorem cd_M_differs_189 : decode cb_M_differs 189 = .ok (.ifCond .eq 7, 3) := by decide +kernel
theorem cd_M_differs_192 : decode cb_M_differs 192 = .ok (.iconst 0, 1) := by decide +kernel
theorem cd_M_differs_193 : decode cb_M_differs 193 = .ok (.goto 4, 3) := by decide +kernel
theorem cd_M_differs_196 : decode cb_M_differs 196 = .ok (.iconst 4, 1) := by decide +kernel
theorem cd_M_differs_197 : decode cb_M_differs 197 = .ok (.iadd, 1) := by decide +kernel
theorem cd_M_differs_198 : decode cb_M_differs 198 = .ok (.ireturn, 1) := by decide +kernel
theorem cd_M_merge_0 : decode cb_M_merge 0 = .ok (.aload_n 0, 1) := by decide +kernel
theorem cd_M_merge_1 : decode cb_M_merge 1 = .ok (.aload_n 0, 1) := by decide +kernel
theorem cd_M_merge_2 : decode cb_M_merge 2 = .ok (.invokevirtual 139, 3) := by decide +kernel
theorem cd_M_merge_5 : decode cb_M_merge 5 = .ok (.ifCond .eq 7, 3) := by decide +kernel
theorem cd_M_merge_8 : decode cb_M_merge 8 = .ok (.iconst 0, 1) := by decide +kernel
theorem cd_M_merge_9 : decode cb_M_merge 9 = .ok (.goto 4, 3) := by decide +kernel
theorem cd_M_merge_12 : decode cb_M_merge 12 = .ok (.iconst 1, 1) := by decide +kernel
theorem cd_M_merge_13 : decode cb_M_merge 13 = .ok (.putfield 79, 3) := by decide +kernel
theorem cd_M_merge_16 : decode cb_M_merge 16 = .ok (.aload_n 0, 1) := by decide +kernel
theorem cd_M_merge_17 : decode cb_M_merge 17 = .ok (.getfield 79, 3) := by decide +kernel
theorem cd_M_merge_20 : decode cb_M_merge 20 = .ok (.ifCond .le 5, 3) := by decide +kernel
theorem cd_M_merge_23 : decode cb_M_merge 23 = .ok (.iconst 0, 1) := by decide +kernel
theorem cd_M_merge_24 : decode cb_M_merge 24 = .ok (.ireturn, 1) := by decide +kernel
theorem cd_M_merge_25 : decode cb_M_merge 25 = .ok (.aload_n 0, 1) := by decide +kernel
theorem cd_M_merge_26 : decode cb_M_merge 26 = .ok (.iconst 0, 1) := by decide +kernel
theorem cd_M_merge_27 : decode cb_M_merge 27 = .ok (.putfield 171, 3) := by decide +kernel
theorem cd_M_merge_30 : decode cb_M_merge 30 = .ok (.bipush 100, 2) := by decide +kernel
theorem cd_M_merge_32 : decode cb_M_merge 32 = .ok (.istore_n 1, 1) := by decide +kernel
theorem cd_M_merge_33 : decode cb_M_merge 33 = .ok (.iload_n 1, 1) := by decide +kernel
theorem cd_M_merge_34 : decode cb_M_merge 34 = .ok (.bipush 100, 2) := by decide +kernel
theorem cd_M_merge_36 : decode cb_M_merge 36 = .ok (.aload_n 0, 1) := by decide +kernel
theorem cd_M_merge_37 : decode cb_M_merge 37 = .ok (.getfield 133, 3) := by decide +kernel
theorem cd_M_merge_40 : decode cb_M_merge 40 = .ok (.iadd, 1) := by decide +kernel
theorem cd_M_merge_41 : decode cb_M_merge 41 = .ok (.if_icmp .ge 113, 3) := by decide +kernel
theorem cd_M_merge_44 : decode cb_M_merge 44 = .ok (.iconst 0, 1) := by decide +kernel
theorem cd_M_merge_45 : decode cb_M_merge 45 = .ok (.istore_n 2, 1) := by decide +kernel
theorem cd_M_merge_46 : decode cb_M_merge 46 = .ok (.iload_n 2, 1) := by decide +kernel
theorem cd_M_merge_47 : decode cb_M_merge 47 = .ok (.aload_n 0, 1) := by decide +kernel
theorem cd_M_merge_48 : decode cb_M_merge 48 = .ok (.getfield 82, 3) := by decide +kernel
theorem cd_M_merge_51 : decode cb_M_merge 51 = .ok (.if_icmp .ge 18, 3) := by decide +kernel
theorem cd_M_merge_54 : decode cb_M_merge 54 = .ok (.aload_n 0, 1) := by decide +kernel
theorem cd_M_merge_55 : decode cb_M_merge 55 = .ok (.iload_n 2, 1) := by decide +kernel
theorem cd_M_merge_56 : decode cb_M_merge 56 = .ok (.iload_n 1, 1) := by decide +kernel
theorem cd_M_merge_57 : decode cb_M_merge 57 = .ok (.invokevirtual 174, 3) := by decide +kernel
theorem cd_M_merge_60 : decode cb_M_merge 60 = .ok (.ifCond .ne 9, 3) := by decide +kernel
theorem cd_M_merge_63 : decode cb_M_merge 63 = .ok (.iinc 2 1, 3) := by decide +kernel
theorem cd_M_merge_66 : decode cb_M_merge 66 = .ok (.goto (-20), 3) := by decide +kernel
theorem cd_M_merge_69 : decode cb_M_merge 69 = .ok (.iload_n 2, 1) := by decide +kernel
theorem cd_M_merge_70 : decode cb_M_merge 70 = .ok (.aload_n 0, 1) := by decide +kernel
theorem cd_M_merge_71 : decode cb_M_merge 71 = .ok (.getfield 82, 3) := by decide +kernel
theorem cd_M_merge_74 : decode cb_M_merge 74 = .ok (.if_icmp .eq 74, 3) := by decide +kernel
theorem cd_M_merge_77 : decode cb_M_merge 77 = .ok (.aload_n 0, 1) := by decide +kernel
theorem cd_M_merge_78 : decode cb_M_merge 78 = .ok (.iload_n 2, 1) := by decide +kernel
theorem cd_M_merge_79 : decode cb_M_merge 79 = .ok (.iload_n 1, 1) := by decide +kernel
theorem cd_M_merge_80 : decode cb_M_merge 80 = .ok (.invokevirtual 177, 3) := by decide +kernel
theorem cd_M_merge_83 : decode cb_M_merge 83 = .ok (.ifCond .ne 6, 3) := by decide +kernel
theorem cd_M_merge_86 : decode cb_M_merge 86 = .ok (.goto 62, 3) := by decide +kernel
theorem cd_M_merge_89 : decode cb_M_merge 89 = .ok (.aload_n 0, 1) := by decide +kernel
theorem cd_M_merge_90 : decode cb_M_merge 90 = .ok (.getfield 67, 3) := by decide +kernel
theorem cd_M_merge_93 : decode cb_M_merge 93 = .ok (.aload_n 0, 1) := by decide +kernel
theorem cd_M_merge_94 : decode cb_M_merge 94 = .ok (.getfield 171, 3) := by decide +kernel
theorem cd_M_merge_97 : decode cb_M_merge 97 = .ok (.iload_n 2, 1) := by decide +kernel
theorem cd_M_merge_98 : decode cb_M_merge 98 = .ok (.iastore, 1) := by decide +kernel
theorem cd_M_merge_99 : decode cb_M_merge 99 = .ok (.aload_n 0, 1) := by decide +kernel
theorem cd_M_merge_100 : decode cb_M_merge 100 = .ok (.sipush 200, 3) := by decide +kernel
theorem cd_M_merge_103 : decode cb_M_merge 103 = .ok (.aload_n 0, 1) := by decide +kernel
theorem cd_M_merge_104 : decode cb_M_merge 104 = .ok (.getfield 171, 3) := by decide +kernel
theorem cd_M_merge_107 : decode cb_M_merge 107 = .ok (.iadd, 1) := by decide +kernel
theorem cd_M_merge_108 : decode cb_M_merge 108 = .ok (.iload_n 1, 1) := by decide +kernel
theorem cd_M_merge_109 : decode cb_M_merge 109 = .ok (.iconst 0, 1) := by decide +kernel
theorem cd_M_merge_110 : decode cb_M_merge 110 = .ok (.invokevirtual 146, 3) := by decide +kernel
theorem cd_M_merge_113 : decode cb_M_merge 113 = .ok (.aload_n 0, 1) := by decide +kernel
theorem cd_M_merge_114 : decode cb_M_merge 114 = .ok (.getfield 70, 3) := by decide +kernel
theorem cd_M_merge_117 : decode cb_M_merge 117 = .ok (.aload_n 0, 1) := by decide +kernel
theorem cd_M_merge_118 : decode cb_M_merge 118 = .ok (.getfield 171, 3) := by decide +kernel
theorem cd_M_merge_121 : decode cb_M_merge 121 = .ok (.aload_n 0, 1) := by decide +kernel
theorem cd_M_merge_122 : decode cb_M_merge 122 = .ok (.iload_n 2, 1) := by decide +kernel
theorem cd_M_merge_123 : decode cb_M_merge 123 = .ok (.iload_n 1, 1) := by decide +kernel
theorem cd_M_merge_124 : decode cb_M_merge 124 = .ok (.invokevirtual 177, 3) := by decide +kernel
theorem cd_M_merge_127 : decode cb_M_merge 127 = .ok (.iastore, 1) := by decide +kernel
theorem cd_M_merge_128 : decode cb_M_merge 128 = .ok (.aload_n 0, 1) := by decide +kernel
theorem cd_M_merge_129 : decode cb_M_merge 129 = .ok (.getfield 73, 3) := by decide +kernel
theorem cd_M_merge_132 : decode cb_M_merge 132 = .ok (.aload_n 0, 1) := by decide +kernel
theorem cd_M_merge_133 : decode cb_M_merge 133 = .ok (.getfield 171, 3) := by decide +kernel
theorem cd_M_merge_136 : decode cb_M_merge 136 = .ok (.iconst 0, 1) := by decide +kernel
theorem cd_M_merge_137 : decode cb_M_merge 137 = .ok (.bastore, 1) := by decide +kernel
theorem cd_M_merge_138 : decode cb_M_merge 138 = .ok (.aload_n 0, 1) := by decide +kernel
theorem cd_M_merge_139 : decode cb_M_merge 139 = .ok (.dup, 1) := by decide +kernel
theorem cd_M_merge_140 : decode cb_M_merge 140 = .ok (.getfield 171, 3) := by decide +kernel
theorem cd_M_merge_143 : decode cb_M_merge 143 = .ok (.iconst 1, 1) := by decide +kernel
theorem cd_M_merge_144 : decode cb_M_merge 144 = .ok (.iadd, 1) := by decide +kernel
theorem cd_M_merge_145 : decode cb_M_merge 145 = .ok (.putfield 171, 3) := by decide +kernel
theorem cd_M_merge_148 : decode cb_M_merge 148 = .ok (.iinc 1 1, 3) := by decide +kernel
theorem cd_M_merge_151 : decode cb_M_merge 151 = .ok (.goto (-118), 3) := by decide +kernel
theorem cd_M_merge_154 : decode cb_M_merge 154 = .ok (.aload_n 0, 1) := by decide +kernel
theorem cd_M_merge_155 : decode cb_M_merge 155 = .ok (.iconst 1, 1) := by decide +kernel
theorem cd_M_merge_156 : decode cb_M_merge 156 = .ok (.putfield 142, 3) := by decide +kernel
theorem cd_M_merge_159 : decode cb_M_merge 159 = .ok (.aload_n 0, 1) := by decide +kernel
theorem cd_M_merge_160 : decode cb_M_merge 160 = .ok (.getfield 171, 3) := by decide +kernel
theorem cd_M_merge_163 : decode cb_M_merge 163 = .ok (.ireturn, 1) := by decide +kernel
theorem cd_M_ask_0 : decode cb_M_ask 0 = .ok (.aload_n 0, 1) := by decide +kernel
theorem cd_M_ask_1 : decode cb_M_ask 1 = .ok (.iconst 0, 1) := by decide +kernel
theorem cd_M_ask_2 : decode cb_M_ask 2 = .ok (.putfield 79, 3) := by decide +kernel
theorem cd_M_ask_5 : decode cb_M_ask 5 = .ok (.iload_n 1, 1) := by decide +kernel
theorem cd_M_ask_6 : decode cb_M_ask 6 = .ok (.iconst 0, 1) := by decide +kernel
theorem cd_M_ask_7 : decode cb_M_ask 7 = .ok (.aload_n 0, 1) := by decide +kernel
theorem cd_M_ask_8 : decode cb_M_ask 8 = .ok (.getfield 171, 3) := by decide +kernel
theorem cd_M_ask_11 : decode cb_M_ask 11 = .ok (.iconst 1, 1) := by decide +kernel
theorem cd_M_ask_12 : decode cb_M_ask 12 = .ok (.isub, 1) := by decide +kernel
theorem cd_M_ask_13 : decode cb_M_ask 13 = .ok (.invokestatic 85, 3) := by decide +kernel
theorem cd_M_ask_16 : decode cb_M_ask 16 = .ok (.ifCond .eq 12, 3) := by decide +kernel
theorem cd_M_ask_19 : decode cb_M_ask 19 = .ok (.iload_n 2, 1) := by decide +kernel
theorem cd_M_ask_20 : decode cb_M_ask 20 = .ok (.iconst 0, 1) := by decide +kernel
theorem cd_M_ask_21 : decode cb_M_ask 21 = .ok (.iconst 1, 1) := by decide +kernel
theorem cd_M_ask_22 : decode cb_M_ask 22 = .ok (.invokestatic 85, 3) := by decide +kernel
theorem cd_M_ask_25 : decode cb_M_ask 25 = .ok (.ifCond .ne 7, 3) := by decide +kernel
theorem cd_M_ask_28 : decode cb_M_ask 28 = .ok (.iconst (-1), 1) := by decide +kernel
theorem cd_M_ask_29 : decode cb_M_ask 29 = .ok (.goto 22, 3) := by decide +kernel
theorem cd_M_ask_32 : decode cb_M_ask 32 = .ok (.iload_n 2, 1) := by decide +kernel
theorem cd_M_ask_33 : decode cb_M_ask 33 = .ok (.ifCond .ne 12, 3) := by decide +kernel
theorem cd_M_ask_36 : decode cb_M_ask 36 = .ok (.aload_n 0, 1) := by decide +kernel
theorem cd_M_ask_37 : decode cb_M_ask 37 = .ok (.getfield 67, 3) := by decide +kernel
theorem cd_M_ask_40 : decode cb_M_ask 40 = .ok (.iload_n 1, 1) := by decide +kernel
theorem cd_M_ask_41 : decode cb_M_ask 41 = .ok (.iaload, 1) := by decide +kernel
theorem cd_M_ask_42 : decode cb_M_ask 42 = .ok (.goto 9, 3) := by decide +kernel
theorem cd_M_ask_45 : decode cb_M_ask 45 = .ok (.aload_n 0, 1) := by decide +kernel
theorem cd_M_ask_46 : decode cb_M_ask 46 = .ok (.getfield 70, 3) := by decide +kernel
theorem cd_M_ask_49 : decode cb_M_ask 49 = .ok (.iload_n 1, 1) := by decide +kernel
theorem cd_M_ask_50 : decode cb_M_ask 50 = .ok (.iaload, 1) := by decide +kernel
theorem cd_M_ask_51 : decode cb_M_ask 51 = .ok (.ireturn, 1) := by decide +kernel
theorem cd_M_take_0 : decode cb_M_take 0 = .ok (.aload_n 0, 1) := by decide +kernel
theorem cd_M_take_1 : decode cb_M_take 1 = .ok (.iconst 0, 1) := by decide +kernel
theorem cd_M_take_2 : decode cb_M_take 2 = .ok (.putfield 79, 3) := by decide +kernel
theorem cd_M_take_5 : decode cb_M_take 5 = .ok (.iload_n 1, 1) := by decide +kernel
theorem cd_M_take_6 : decode cb_M_take 6 = .ok (.iconst 0, 1) := by decide +kernel
theorem cd_M_take_7 : decode cb_M_take 7 = .ok (.aload_n 0, 1) := by decide +kernel
theorem cd_M_take_8 : decode cb_M_take 8 = .ok (.getfield 171, 3) := by decide +kernel
theorem cd_M_take_11 : decode cb_M_take 11 = .ok (.iconst 1, 1) := by decide +kernel
theorem cd_M_take_12 : decode cb_M_take 12 = .ok (.isub, 1) := by decide +kernel
theorem cd_M_take_13 : decode cb_M_take 13 = .ok (.invokestatic 85, 3) := by decide +kernel
theorem cd_M_take_16 : decode cb_M_take 16 = .ok (.ifCond .ne 5, 3) := by decide +kernel
theorem cd_M_take_19 : decode cb_M_take 19 = .ok (.iconst (-1), 1) := by decide +kernel
theorem cd_M_take_20 : decode cb_M_take 20 = .ok (.ireturn, 1) := by decide +kernel
theorem cd_M_take_21 : decode cb_M_take 21 = .ok (.aload_n 0, 1) := by decide +kernel
theorem cd_M_take_22 : decode cb_M_take 22 = .ok (.getfield 73, 3) := by decide +kernel
theorem cd_M_take_25 : decode cb_M_take 25 = .ok (.iload_n 1, 1) := by decide +kernel
theorem cd_M_take_26 : decode cb_M_take 26 = .ok (.baload, 1) := by decide +kernel
theorem cd_M_take_27 : decode cb_M_take 27 = .ok (.ifCond .ne 10, 3) := by decide +kernel
theorem cd_M_take_30 : decode cb_M_take 30 = .ok (.aload_n 0, 1) := by decide +kernel
theorem cd_M_take_31 : decode cb_M_take 31 = .ok (.getfield 142, 3) := by decide +kernel
theorem cd_M_take_34 : decode cb_M_take 34 = .ok (.ifCond .ne 5, 3) := by decide +kernel
theorem cd_M_take_37 : decode cb_M_take 37 = .ok (.iconst 0, 1) := by decide +kernel
theorem cd_M_take_38 : decode cb_M_take 38 = .ok (.ireturn, 1) := by decide +kernel
theorem cd_M_take_39 : decode cb_M_take 39 = .ok (.aload_n 0, 1) := by decide +kernel
theorem cd_M_take_40 : decode cb_M_take 40 = .ok (.getfield 73, 3) := by decide +kernel
theorem cd_M_take_43 : decode cb_M_take 43 = .ok (.iload_n 1, 1) := by decide +kernel
theorem cd_M_take_44 : decode cb_M_take 44 = .ok (.iconst 1, 1) := by decide +kernel
theorem cd_M_take_45 : decode cb_M_take 45 = .ok (.bastore, 1) := by decide +kernel
theorem cd_M_take_46 : decode cb_M_take 46 = .ok (.aload_n 0, 1) := by decide +kernel
theorem cd_M_take_47 : decode cb_M_take 47 = .ok (.aload_n 0, 1) := by decide +kernel
theorem cd_M_take_48 : decode cb_M_take 48 = .ok (.getfield 67, 3) := by decide +kernel
theorem cd_M_take_51 : decode cb_M_take 51 = .ok (.iload_n 1, 1) := by decide +kernel
theorem cd_M_take_52 : decode cb_M_take 52 = .ok (.iaload, 1) := by decide +kernel
theorem cd_M_take_53 : decode cb_M_take 53 = .ok (.sipush 200, 3) := by decide +kernel
theorem cd_M_take_56 : decode cb_M_take 56 = .ok (.iload_n 1, 1) := by decide +kernel
theorem cd_M_take_57 : decode cb_M_take 57 = .ok (.iadd, 1) := by decide +kernel
theorem cd_M_take_58 : decode cb_M_take 58 = .ok (.iconst 0, 1) := by decide +kernel
theorem cd_M_take_59 : decode cb_M_take 59 = .ok (.invokevirtual 146, 3) := by decide +kernel
theorem cd_M_take_62 : decode cb_M_take 62 = .ok (.iconst 1, 1) := by decide +kernel
theorem cd_M_take_63 : decode cb_M_take 63 = .ok (.ireturn, 1) := by decide +kernel
theorem cd_M_put_0 : decode cb_M_put 0 = .ok (.aload_n 0, 1) := by decide +kernel
theorem cd_M_put_1 : decode cb_M_put 1 = .ok (.getfield 76, 3) := by decide +kernel
theorem cd_M_put_4 : decode cb_M_put 4 = .ok (.aload_n 0, 1) := by decide +kernel
theorem cd_M_put_5 : decode cb_M_put 5 = .ok (.getfield 181, 3) := by decide +kernel
theorem cd_M_put_8 : decode cb_M_put 8 = .ok (.iload_n 1, 1) := by decide +kernel
theorem cd_M_put_9 : decode cb_M_put 9 = .ok (.i2b, 1) := by decide +kernel
theorem cd_M_put_10 : decode cb_M_put 10 = .ok (.bastore, 1) := by decide +kernel
theorem cd_M_put_11 : decode cb_M_put 11 = .ok (.aload_n 0, 1) := by decide +kernel
theorem cd_M_put_12 : decode cb_M_put 12 = .ok (.dup, 1) := by decide +kernel
theorem cd_M_put_13 : decode cb_M_put 13 = .ok (.getfield 181, 3) := by decide +kernel
theorem cd_M_put_16 : decode cb_M_put 16 = .ok (.iconst 1, 1) := by decide +kernel
theorem cd_M_put_17 : decode cb_M_put 17 = .ok (.iadd, 1) := by decide +kernel
theorem cd_M_put_18 : decode cb_M_put 18 = .ok (.putfield 181, 3) := by decide +kernel
theorem cd_M_put_21 : decode cb_M_put 21 = .ok (.return_, 1) := by decide +kernel
theorem cd_M_digits_0 : decode cb_M_digits 0 = .ok (.sipush 1000, 3) := by decide +kernel
theorem cd_M_digits_3 : decode cb_M_digits 3 = .ok (.istore_n 2, 1) := by decide +kernel
theorem cd_M_digits_4 : decode cb_M_digits 4 = .ok (.iload_n 2, 1) := by decide +kernel
theorem cd_M_digits_5 : decode cb_M_digits 5 = .ok (.ifCond .le 29, 3) := by decide +kernel
theorem cd_M_digits_8 : decode cb_M_digits 8 = .ok (.iload_n 1, 1) := by decide +kernel
theorem cd_M_digits_9 : decode cb_M_digits 9 = .ok (.iload_n 2, 1) := by decide +kernel
theorem cd_M_digits_10 : decode cb_M_digits 10 = .ok (.if_icmp .lt 16, 3) := by decide +kernel
theorem cd_M_digits_13 : decode cb_M_digits 13 = .ok (.aload_n 0, 1) := by decide +kernel
theorem cd_M_digits_14 : decode cb_M_digits 14 = .ok (.bipush 48, 2) := by decide +kernel
theorem cd_M_digits_16 : decode cb_M_digits 16 = .ok (.iload_n 1, 1) := by decide +kernel
theorem cd_M_digits_17 : decode cb_M_digits 17 = .ok (.iload_n 2, 1) := by decide +kernel
theorem cd_M_digits_18 : decode cb_M_digits 18 = .ok (.idiv, 1) := by decide +kernel
theorem cd_M_digits_19 : decode cb_M_digits 19 = .ok (.bipush 10, 2) := by decide +kernel
theorem cd_M_digits_21 : decode cb_M_digits 21 = .ok (.irem, 1) := by decide +kernel
theorem cd_M_digits_22 : decode cb_M_digits 22 = .ok (.iadd, 1) := by decide +kernel
theorem cd_M_digits_23 : decode cb_M_digits 23 = .ok (.invokevirtual 184, 3) := by decide +kernel
theorem cd_M_digits_26 : decode cb_M_digits 26 = .ok (.iload_n 2, 1) := by decide +kernel
theorem cd_M_digits_27 : decode cb_M_digits 27 = .ok (.bipush 10, 2) := by decide +kernel
theorem cd_M_digits_29 : decode cb_M_digits 29 = .ok (.idiv, 1) := by decide +kernel
theorem cd_M_digits_30 : decode cb_M_digits 30 = .ok (.istore_n 2, 1) := by decide +kernel
theorem cd_M_digits_31 : decode cb_M_digits 31 = .ok (.goto (-27), 3) := by decide +kernel
theorem cd_M_digits_34 : decode cb_M_digits 34 = .ok (.return_, 1) := by decide +kernel
theorem cd_M_write_0 : decode cb_M_write 0 = .ok (.iconst 0, 1) := by decide +kernel
theorem cd_M_write_1 : decode cb_M_write 1 = .ok (.istore_n 2, 1) := by decide +kernel
theorem cd_M_write_2 : decode cb_M_write 2 = .ok (.iload_n 2, 1) := by decide +kernel
theorem cd_M_write_3 : decode cb_M_write 3 = .ok (.aload_n 0, 1) := by decide +kernel
theorem cd_M_write_4 : decode cb_M_write 4 = .ok (.iload_n 1, 1) := by decide +kernel
theorem cd_M_write_5 : decode cb_M_write 5 = .ok (.invokevirtual 103, 3) := by decide +kernel
theorem cd_M_write_8 : decode cb_M_write 8 = .ok (.if_icmp .ge 15, 3) := by decide +kernel
theorem cd_M_write_11 : decode cb_M_write 11 = .ok (.aload_n 0, 1) := by decide +kernel
theorem cd_M_write_12 : decode cb_M_write 12 = .ok (.bipush 43, 2) := by decide +kernel
theorem cd_M_write_14 : decode cb_M_write 14 = .ok (.invokevirtual 184, 3) := by decide +kernel
theorem cd_M_write_17 : decode cb_M_write 17 = .ok (.iinc 2 1, 3) := by decide +kernel
theorem cd_M_write_20 : decode cb_M_write 20 = .ok (.goto (-18), 3) := by decide +kernel
theorem cd_M_write_23 : decode cb_M_write 23 = .ok (.aload_n 0, 1) := by decide +kernel
theorem cd_M_write_24 : decode cb_M_write 24 = .ok (.aload_n 0, 1) := by decide +kernel
theorem cd_M_write_25 : decode cb_M_write 25 = .ok (.getfield 17, 3) := by decide +kernel
theorem cd_M_write_28 : decode cb_M_write 28 = .ok (.iload_n 1, 1) := by decide +kernel
theorem cd_M_write_29 : decode cb_M_write 29 = .ok (.iaload, 1) := by decide +kernel
theorem cd_M_write_30 : decode cb_M_write 30 = .ok (.ifCond .ne 8, 3) := by decide +kernel
theorem cd_M_write_33 : decode cb_M_write 33 = .ok (.bipush 102, 2) := by decide +kernel
theorem cd_M_write_35 : decode cb_M_write 35 = .ok (.goto 35, 3) := by decide +kernel
theorem cd_M_write_38 : decode cb_M_write 38 = .ok (.aload_n 0, 1) := by decide +kernel
theorem cd_M_write_39 : decode cb_M_write 39 = .ok (.getfield 17, 3) := by decide +kernel
theorem cd_M_write_42 : decode cb_M_write 42 = .ok (.iload_n 1, 1) := by decide +kernel
theorem cd_M_write_43 : decode cb_M_write 43 = .ok (.iaload, 1) := by decide +kernel
theorem cd_M_write_44 : decode cb_M_write 44 = .ok (.iconst 1, 1) := by decide +kernel
theorem cd_M_write_45 : decode cb_M_write 45 = .ok (.if_icmp .ne 8, 3) := by decide +kernel
theorem cd_M_write_48 : decode cb_M_write 48 = .ok (.bipush 115, 2) := by decide +kernel
theorem cd_M_write_50 : decode cb_M_write 50 = .ok (.goto 20, 3) := by decide +kernel
theorem cd_M_write_53 : decode cb_M_write 53 = .ok (.aload_n 0, 1) := by decide +kernel
theorem cd_M_write_54 : decode cb_M_write 54 = .ok (.getfield 17, 3) := by decide +kernel
theorem cd_M_write_57 : decode cb_M_write 57 = .ok (.iload_n 1, 1) := by decide +kernel
theorem cd_M_write_58 : decode cb_M_write 58 = .ok (.iaload, 1) := by decide +kernel
theorem cd_M_write_59 : decode cb_M_write 59 = .ok (.iconst 2, 1) := by decide +kernel
theorem cd_M_write_60 : decode cb_M_write 60 = .ok (.if_icmp .ne 8, 3) := by decide +kernel
theorem cd_M_write_63 : decode cb_M_write 63 = .ok (.bipush 117, 2) := by decide +kernel
theorem cd_M_write_65 : decode cb_M_write 65 = .ok (.goto 5, 3) := by decide +kernel
theorem cd_M_write_68 : decode cb_M_write 68 = .ok (.bipush 105, 2) := by decide +kernel
theorem cd_M_write_70 : decode cb_M_write 70 = .ok (.invokevirtual 184, 3) := by decide +kernel
theorem cd_M_write_73 : decode cb_M_write 73 = .ok (.aload_n 0, 1) := by decide +kernel
theorem cd_M_write_74 : decode cb_M_write 74 = .ok (.aload_n 0, 1) := by decide +kernel
theorem cd_M_write_75 : decode cb_M_write 75 = .ok (.getfield 21, 3) := by decide +kernel
theorem cd_M_write_78 : decode cb_M_write 78 = .ok (.iload_n 1, 1) := by decide +kernel
theorem cd_M_write_79 : decode cb_M_write 79 = .ok (.iaload, 1) := by decide +kernel
theorem cd_M_write_80 : decode cb_M_write 80 = .ok (.invokevirtual 188, 3) := by decide +kernel
theorem cd_M_write_83 : decode cb_M_write 83 = .ok (.aload_n 0, 1) := by decide +kernel
theorem cd_M_write_84 : decode cb_M_write 84 = .ok (.bipush 32, 2) := by decide +kernel
theorem cd_M_write_86 : decode cb_M_write 86 = .ok (.invokevirtual 184, 3) := by decide +kernel
theorem cd_M_write_89 : decode cb_M_write 89 = .ok (.iconst 0, 1) := by decide +kernel
theorem cd_M_write_90 : decode cb_M_write 90 = .ok (.istore_n 2, 1) := by decide +kernel
theorem cd_M_write_91 : decode cb_M_write 91 = .ok (.iload_n 2, 1) := by decide +kernel
theorem cd_M_write_92 : decode cb_M_write 92 = .ok (.aload_n 0, 1) := by decide +kernel
theorem cd_M_write_93 : decode cb_M_write 93 = .ok (.getfield 42, 3) := by decide +kernel
theorem cd_M_write_96 : decode cb_M_write 96 = .ok (.iload_n 1, 1) := by decide +kernel
theorem cd_M_write_97 : decode cb_M_write 97 = .ok (.iaload, 1) := by decide +kernel
theorem cd_M_write_98 : decode cb_M_write 98 = .ok (.if_icmp .ge 24, 3) := by decide +kernel
theorem cd_M_write_101 : decode cb_M_write 101 = .ok (.aload_n 0, 1) := by decide +kernel
theorem cd_M_write_102 : decode cb_M_write 102 = .ok (.aload_n 0, 1) := by decide +kernel
theorem cd_M_write_103 : decode cb_M_write 103 = .ok (.getfield 45, 3) := by decide +kernel
theorem cd_M_write_106 : decode cb_M_write 106 = .ok (.bipush 16, 2) := by decide +kernel
theorem cd_M_write_108 : decode cb_M_write 108 = .ok (.iload_n 1, 1) := by decide +kernel
theorem cd_M_write_109 : decode cb_M_write 109 = .ok (.imul, 1) := by decide +kernel
theorem cd_M_write_110 : decode cb_M_write 110 = .ok (.iload_n 2, 1) := by decide +kernel
theorem cd_M_write_111 : decode cb_M_write 111 = .ok (.iadd, 1) := by decide +kernel
theorem cd_M_write_112 : decode cb_M_write 112 = .ok (.baload, 1) := by decide +kernel
theorem cd_M_write_113 : decode cb_M_write 113 = .ok (.invokevirtual 184, 3) := by decide +kernel
theorem cd_M_write_116 : decode cb_M_write 116 = .ok (.iinc 2 1, 3) := by decide +kernel
theorem cd_M_write_119 : decode cb_M_write 119 = .ok (.goto (-28), 3) := by decide +kernel
theorem cd_M_write_122 : decode cb_M_write 122 = .ok (.aload_n 0, 1) := by decide +kernel
theorem cd_M_write_123 : decode cb_M_write 123 = .ok (.getfield 27, 3) := by decide +kernel
theorem cd_M_write_126 : decode cb_M_write 126 = .ok (.iload_n 1, 1) := by decide +kernel
theorem cd_M_write_127 : decode cb_M_write 127 = .ok (.iaload, 1) := by decide +kernel
theorem cd_M_write_128 : decode cb_M_write 128 = .ok (.ifCond .lt 72, 3) := by decide +kernel
theorem cd_M_write_131 : decode cb_M_write 131 = .ok (.aload_n 0, 1) := by decide +kernel
theorem cd_M_write_132 : decode cb_M_write 132 = .ok (.bipush 32, 2) := by decide +kernel
theorem cd_M_write_134 : decode cb_M_write 134 = .ok (.invokevirtual 184, 3) := by decide +kernel
theorem cd_M_write_137 : decode cb_M_write 137 = .ok (.aload_n 0, 1) := by decide +kernel
theorem cd_M_write_138 : decode cb_M_write 138 = .ok (.bipush 100, 2) := by decide +kernel
theorem cd_M_write_140 : decode cb_M_write 140 = .ok (.invokevirtual 184, 3) := by decide +kernel
theorem cd_M_write_143 : decode cb_M_write 143 = .ok (.aload_n 0, 1) := by decide +kernel
theorem cd_M_write_144 : decode cb_M_write 144 = .ok (.aload_n 0, 1) := by decide +kernel
theorem cd_M_write_145 : decode cb_M_write 145 = .ok (.getfield 27, 3) := by decide +kernel
theorem cd_M_write_148 : decode cb_M_write 148 = .ok (.iload_n 1, 1) := by decide +kernel
theorem cd_M_write_149 : decode cb_M_write 149 = .ok (.iaload, 1) := by decide +kernel
theorem cd_M_write_150 : decode cb_M_write 150 = .ok (.invokevirtual 188, 3) := by decide +kernel
theorem cd_M_write_153 : decode cb_M_write 153 = .ok (.aload_n 0, 1) := by decide +kernel
theorem cd_M_write_154 : decode cb_M_write 154 = .ok (.getfield 30, 3) := by decide +kernel
theorem cd_M_write_157 : decode cb_M_write 157 = .ok (.iload_n 1, 1) := by decide +kernel
theorem cd_M_write_158 : decode cb_M_write 158 = .ok (.iaload, 1) := by decide +kernel
theorem cd_M_write_159 : decode cb_M_write 159 = .ok (.aload_n 0, 1) := by decide +kernel
theorem cd_M_write_160 : decode cb_M_write 160 = .ok (.getfield 27, 3) := by decide +kernel
theorem cd_M_write_163 : decode cb_M_write 163 = .ok (.iload_n 1, 1) := by decide +kernel
theorem cd_M_write_164 : decode cb_M_write 164 = .ok (.iaload, 1) := by decide +kernel
theorem cd_M_write_165 : decode cb_M_write 165 = .ok (.if_icmp .eq 19, 3) := by decide +kernel
theorem cd_M_write_168 : decode cb_M_write 168 = .ok (.aload_n 0, 1) := by decide +kernel
theorem cd_M_write_169 : decode cb_M_write 169 = .ok (.bipush 45, 2) := by decide +kernel
theorem cd_M_write_171 : decode cb_M_write 171 = .ok (.invokevirtual 184, 3) := by decide +kernel
theorem cd_M_write_174 : decode cb_M_write 174 = .ok (.aload_n 0, 1) := by decide +kernel
theorem cd_M_write_175 : decode cb_M_write 175 = .ok (.aload_n 0, 1) := by decide +kernel
theorem cd_M_write_176 : decode cb_M_write 176 = .ok (.getfield 30, 3) := by decide +kernel
theorem cd_M_write_179 : decode cb_M_write 179 = .ok (.iload_n 1, 1) := by decide +kernel
theorem cd_M_write_180 : decode cb_M_write 180 = .ok (.iaload, 1) := by decide +kernel
theorem cd_M_write_181 : decode cb_M_write 181 = .ok (.invokevirtual 188, 3) := by decide +kernel
theorem cd_M_write_184 : decode cb_M_write 184 = .ok (.aload_n 0, 1) := by decide +kernel
theorem cd_M_write_185 : decode cb_M_write 185 = .ok (.getfield 33, 3) := by decide +kernel
theorem cd_M_write_188 : decode cb_M_write 188 = .ok (.iload_n 1, 1) := by decide +kernel
theorem cd_M_write_189 : decode cb_M_write 189 = .ok (.iaload, 1) := by decide +kernel
theorem cd_M_write_190 : decode cb_M_write 190 = .ok (.iconst 1, 1) := by decide +kernel
theorem cd_M_write_191 : decode cb_M_write 191 = .ok (.if_icmp .ne 9, 3) := by decide +kernel
theorem cd_M_write_194 : decode cb_M_write 194 = .ok (.aload_n 0, 1) := by decide +kernel
theorem cd_M_write_195 : decode cb_M_write 195 = .ok (.bipush 63, 2) := by decide +kernel
theorem cd_M_write_197 : decode cb_M_write 197 = .ok (.invokevirtual 184, 3) := by decide +kernel
theorem cd_M_write_200 : decode cb_M_write 200 = .ok (.aload_n 0, 1) := by decide +kernel
theorem cd_M_write_201 : decode cb_M_write 201 = .ok (.getfield 36, 3) := by decide +kernel
theorem cd_M_write_204 : decode cb_M_write 204 = .ok (.iload_n 1, 1) := by decide +kernel
theorem cd_M_write_205 : decode cb_M_write 205 = .ok (.iaload, 1) := by decide +kernel
theorem cd_M_write_206 : decode cb_M_write 206 = .ok (.ifCond .lt 60, 3) := by decide +kernel
theorem cd_M_write_209 : decode cb_M_write 209 = .ok (.aload_n 0, 1) := by decide +kernel
theorem cd_M_write_210 : decode cb_M_write 210 = .ok (.bipush 32, 2) := by decide +kernel
theorem cd_M_write_212 : decode cb_M_write 212 = .ok (.invokevirtual 184, 3) := by decide +kernel
theorem cd_M_write_215 : decode cb_M_write 215 = .ok (.aload_n 0, 1) := by decide +kernel
theorem cd_M_write_216 : decode cb_M_write 216 = .ok (.bipush 101, 2) := by decide +kernel
theorem cd_M_write_218 : decode cb_M_write 218 = .ok (.invokevirtual 184, 3) := by decide +kernel
theorem cd_M_write_221 : decode cb_M_write 221 = .ok (.aload_n 0, 1) := by decide +kernel
theorem cd_M_write_222 : decode cb_M_write 222 = .ok (.aload_n 0, 1) := by decide +kernel
theorem cd_M_write_223 : decode cb_M_write 223 = .ok (.getfield 36, 3) := by decide +kernel
theorem cd_M_write_226 : decode cb_M_write 226 = .ok (.iload_n 1, 1) := by decide +kernel
theorem cd_M_write_227 : decode cb_M_write 227 = .ok (.iaload, 1) := by decide +kernel
theorem cd_M_write_228 : decode cb_M_write 228 = .ok (.invokevirtual 188, 3) := by decide +kernel
theorem cd_M_write_231 : decode cb_M_write 231 = .ok (.aload_n 0, 1) := by decide +kernel
theorem cd_M_write_232 : decode cb_M_write 232 = .ok (.aload_n 0, 1) := by decide +kernel
theorem cd_M_write_233 : decode cb_M_write 233 = .ok (.getfield 39, 3) := by decide +kernel
theorem cd_M_write_236 : decode cb_M_write 236 = .ok (.iload_n 1, 1) := by decide +kernel
theorem cd_M_write_237 : decode cb_M_write 237 = .ok (.iaload, 1) := by decide +kernel
theorem cd_M_write_238 : decode cb_M_write 238 = .ok (.ifCond .ne 8, 3) := by decide +kernel
theorem cd_M_write_241 : decode cb_M_write 241 = .ok (.bipush 98, 2) := by decide +kernel
theorem cd_M_write_243 : decode cb_M_write 243 = .ok (.goto 20, 3) := by decide +kernel
theorem cd_M_write_246 : decode cb_M_write 246 = .ok (.aload_n 0, 1) := by decide +kernel
theorem cd_M_write_247 : decode cb_M_write 247 = .ok (.getfield 39, 3) := by decide +kernel
theorem cd_M_write_250 : decode cb_M_write 250 = .ok (.iload_n 1, 1) := by decide +kernel
theorem cd_M_write_251 : decode cb_M_write 251 = .ok (.iaload, 1) := by decide +kernel
theorem cd_M_write_252 : decode cb_M_write 252 = .ok (.iconst 1, 1) := by decide +kernel
theorem cd_M_write_253 : decode cb_M_write 253 = .ok (.if_icmp .ne 8, 3) := by decide +kernel
theorem cd_M_write_256 : decode cb_M_write 256 = .ok (.bipush 109, 2) := by decide +kernel
theorem cd_M_write_258 : decode cb_M_write 258 = .ok (.goto 5, 3) := by decide +kernel
theorem cd_M_write_261 : decode cb_M_write 261 = .ok (.bipush 112, 2) := by decide +kernel
theorem cd_M_write_263 : decode cb_M_write 263 = .ok (.invokevirtual 184, 3) := by decide +kernel
theorem cd_M_write_266 : decode cb_M_write 266 = .ok (.aload_n 0, 1) := by decide +kernel
theorem cd_M_write_267 : decode cb_M_write 267 = .ok (.bipush 10, 2) := by decide +kernel
theorem cd_M_write_269 : decode cb_M_write 269 = .ok (.invokevirtual 184, 3) := by decide +kernel
theorem cd_M_write_272 : decode cb_M_write 272 = .ok (.return_, 1) := by decide +kernel
theorem cd_M_next_0 : decode cb_M_next 0 = .ok (.iconst (-1), 1) := by decide +kernel
theorem cd_M_next_1 : decode cb_M_next 1 = .ok (.istore_n 3, 1) := by decide +kernel
theorem cd_M_next_2 : decode cb_M_next 2 = .ok (.iconst 0, 1) := by decide +kernel
theorem cd_M_next_3 : decode cb_M_next 3 = .ok (.istore 4, 2) := by decide +kernel
theorem cd_M_next_5 : decode cb_M_next 5 = .ok (.iload 4, 2) := by decide +kernel
theorem cd_M_next_7 : decode cb_M_next 7 = .ok (.aload_n 0, 1) := by decide +kernel
theorem cd_M_next_8 : decode cb_M_next 8 = .ok (.getfield 82, 3) := by decide +kernel
theorem cd_M_next_11 : decode cb_M_next 11 = .ok (.if_icmp .ge 111, 3) := by decide +kernel
theorem cd_M_next_14 : decode cb_M_next 14 = .ok (.aload_n 0, 1) := by decide +kernel
theorem cd_M_next_15 : decode cb_M_next 15 = .ok (.getfield 24, 3) := by decide +kernel
theorem cd_M_next_18 : decode cb_M_next 18 = .ok (.iload 4, 2) := by decide +kernel
theorem cd_M_next_20 : decode cb_M_next 20 = .ok (.iaload, 1) := by decide +kernel
theorem cd_M_next_21 : decode cb_M_next 21 = .ok (.iload_n 1, 1) := by decide +kernel
theorem cd_M_next_22 : decode cb_M_next 22 = .ok (.if_icmp .ne 59, 3) := by decide +kernel
theorem cd_M_next_25 : decode cb_M_next 25 = .ok (.aload_n 0, 1) := by decide +kernel
theorem cd_M_next_26 : decode cb_M_next 26 = .ok (.getfield 63, 3) := by decide +kernel
theorem cd_M_next_29 : decode cb_M_next 29 = .ok (.iload 4, 2) := by decide +kernel
theorem cd_M_next_31 : decode cb_M_next 31 = .ok (.baload, 1) := by decide +kernel
theorem cd_M_next_32 : decode cb_M_next 32 = .ok (.ifCond .ne 49, 3) := by decide +kernel
theorem cd_M_next_35 : decode cb_M_next 35 = .ok (.iload_n 2, 1) := by decide +kernel
theorem cd_M_next_36 : decode cb_M_next 36 = .ok (.ifCond .lt 41, 3) := by decide +kernel
theorem cd_M_next_39 : decode cb_M_next 39 = .ok (.aload_n 0, 1) := by decide +kernel
theorem cd_M_next_40 : decode cb_M_next 40 = .ok (.getfield 21, 3) := by decide +kernel
theorem cd_M_next_43 : decode cb_M_next 43 = .ok (.iload 4, 2) := by decide +kernel
theorem cd_M_next_45 : decode cb_M_next 45 = .ok (.iaload, 1) := by decide +kernel
theorem cd_M_next_46 : decode cb_M_next 46 = .ok (.aload_n 0, 1) := by decide +kernel
theorem cd_M_next_47 : decode cb_M_next 47 = .ok (.getfield 21, 3) := by decide +kernel
theorem cd_M_next_50 : decode cb_M_next 50 = .ok (.iload_n 2, 1) := by decide +kernel
theorem cd_M_next_51 : decode cb_M_next 51 = .ok (.iaload, 1) := by decide +kernel
theorem cd_M_next_52 : decode cb_M_next 52 = .ok (.if_icmp .gt 25, 3) := by decide +kernel
theorem cd_M_next_55 : decode cb_M_next 55 = .ok (.aload_n 0, 1) := by decide +kernel
theorem cd_M_next_56 : decode cb_M_next 56 = .ok (.getfield 21, 3) := by decide +kernel
theorem cd_M_next_59 : decode cb_M_next 59 = .ok (.iload 4, 2) := by decide +kernel
theorem cd_M_next_61 : decode cb_M_next 61 = .ok (.iaload, 1) := by decide +kernel
theorem cd_M_next_62 : decode cb_M_next 62 = .ok (.aload_n 0, 1) := by decide +kernel
theorem cd_M_next_63 : decode cb_M_next 63 = .ok (.getfield 21, 3) := by decide +kernel
theorem cd_M_next_66 : decode cb_M_next 66 = .ok (.iload_n 2, 1) := by decide +kernel
theorem cd_M_next_67 : decode cb_M_next 67 = .ok (.iaload, 1) := by decide +kernel
theorem cd_M_next_68 : decode cb_M_next 68 = .ok (.if_icmp .ne 13, 3) := by decide +kernel
theorem cd_M_next_71 : decode cb_M_next 71 = .ok (.iload 4, 2) := by decide +kernel
theorem cd_M_next_73 : decode cb_M_next 73 = .ok (.iload_n 2, 1) := by decide +kernel
theorem cd_M_next_74 : decode cb_M_next 74 = .ok (.if_icmp .le 7, 3) := by decide +kernel
theorem cd_M_next_77 : decode cb_M_next 77 = .ok (.iconst 1, 1) := by decide +kernel
theorem cd_M_next_78 : decode cb_M_next 78 = .ok (.goto 4, 3) := by decide +kernel
theorem cd_M_next_81 : decode cb_M_next 81 = .ok (.iconst 0, 1) := by decide +kernel
theorem cd_M_next_82 : decode cb_M_next 82 = .ok (.istore 5, 2) := by decide +kernel
theorem cd_M_next_84 : decode cb_M_next 84 = .ok (.iload 5, 2) := by decide +kernel
theorem cd_M_next_86 : decode cb_M_next 86 = .ok (.ifCond .eq 28, 3) := by decide +kernel
theorem cd_M_next_89 : decode cb_M_next 89 = .ok (.iload_n 3, 1) := by decide +kernel
theorem cd_M_next_90 : decode cb_M_next 90 = .ok (.ifCond .lt 19, 3) := by decide +kernel
theorem cd_M_next_93 : decode cb_M_next 93 = .ok (.aload_n 0, 1) := by decide +kernel
theorem cd_M_next_94 : decode cb_M_next 94 = .ok (.getfield 21, 3) := by decide +kernel
theorem cd_M_next_97 : decode cb_M_next 97 = .ok (.iload 4, 2) := by decide +kernel
theorem cd_M_next_99 : decode cb_M_next 99 = .ok (.iaload, 1) := by decide +kernel
theorem cd_M_next_100 : decode cb_M_next 100 = .ok (.aload_n 0, 1) := by decide +kernel
theorem cd_M_next_101 : decode cb_M_next 101 = .ok (.getfield 21, 3) := by decide +kernel
theorem cd_M_next_104 : decode cb_M_next 104 = .ok (.iload_n 3, 1) := by decide +kernel
theorem cd_M_next_105 : decode cb_M_next 105 = .ok (.iaload, 1) := by decide +kernel
theorem cd_M_next_106 : decode cb_M_next 106 = .ok (.if_icmp .ge 8, 3) := by decide +kernel
theorem cd_M_next_109 : decode cb_M_next 109 = .ok (.iload 4, 2) := by decide +kernel
theorem cd_M_next_111 : decode cb_M_next 111 = .ok (.goto 4, 3) := by decide +kernel
theorem cd_M_next_114 : decode cb_M_next 114 = .ok (.iload_n 3, 1) := by decide +kernel
theorem cd_M_next_115 : decode cb_M_next 115 = .ok (.istore_n 3, 1) := by decide +kernel
theorem cd_M_next_116 : decode cb_M_next 116 = .ok (.iinc 4 1, 3) := by decide +kernel
theorem cd_M_next_119 : decode cb_M_next 119 = .ok (.goto (-114), 3) := by decide +kernel
theorem cd_M_next_122 : decode cb_M_next 122 = .ok (.iload_n 3, 1) := by decide +kernel
theorem cd_M_next_123 : decode cb_M_next 123 = .ok (.ireturn, 1) := by decide +kernel
theorem cd_M_print_0 : decode cb_M_print 0 = .ok (.aload_n 0, 1) := by decide +kernel
theorem cd_M_print_1 : decode cb_M_print 1 = .ok (.iconst 0, 1) := by decide +kernel
theorem cd_M_print_2 : decode cb_M_print 2 = .ok (.putfield 79, 3) := by decide +kernel
theorem cd_M_print_5 : decode cb_M_print 5 = .ok (.aload_n 0, 1) := by decide +kernel
theorem cd_M_print_6 : decode cb_M_print 6 = .ok (.iconst 0, 1) := by decide +kernel
theorem cd_M_print_7 : decode cb_M_print 7 = .ok (.putfield 181, 3) := by decide +kernel
theorem cd_M_print_10 : decode cb_M_print 10 = .ok (.aload_n 0, 1) := by decide +kernel
theorem cd_M_print_11 : decode cb_M_print 11 = .ok (.getfield 82, 3) := by decide +kernel
theorem cd_M_print_14 : decode cb_M_print 14 = .ok (.ifCond .le 16, 3) := by decide +kernel
theorem cd_M_print_17 : decode cb_M_print 17 = .ok (.aload_n 0, 1) := by decide +kernel
theorem cd_M_print_18 : decode cb_M_print 18 = .ok (.getfield 63, 3) := by decide +kernel
theorem cd_M_print_21 : decode cb_M_print 21 = .ok (.iconst 0, 1) := by decide +kernel
theorem cd_M_print_22 : decode cb_M_print 22 = .ok (.baload, 1) := by decide +kernel
theorem cd_M_print_23 : decode cb_M_print 23 = .ok (.ifCond .ne 7, 3) := by decide +kernel
theorem cd_M_print_26 : decode cb_M_print 26 = .ok (.iconst 0, 1) := by decide +kernel
theorem cd_M_print_27 : decode cb_M_print 27 = .ok (.goto 4, 3) := by decide +kernel
theorem cd_M_print_30 : decode cb_M_print 30 = .ok (.iconst (-1), 1) := by decide +kernel
theorem cd_M_print_31 : decode cb_M_print 31 = .ok (.istore_n 1, 1) := by decide +kernel
theorem cd_M_print_32 : decode cb_M_print 32 = .ok (.iload_n 1, 1) := by decide +kernel
theorem cd_M_print_33 : decode cb_M_print 33 = .ok (.ifCond .lt 58, 3) := by decide +kernel
theorem cd_M_print_36 : decode cb_M_print 36 = .ok (.aload_n 0, 1) := by decide +kernel
theorem cd_M_print_37 : decode cb_M_print 37 = .ok (.iload_n 1, 1) := by decide +kernel
theorem cd_M_print_38 : decode cb_M_print 38 = .ok (.invokevirtual 191, 3) := by decide +kernel
theorem cd_M_print_41 : decode cb_M_print 41 = .ok (.aload_n 0, 1) := by decide +kernel
theorem cd_M_print_42 : decode cb_M_print 42 = .ok (.iload_n 1, 1) := by decide +kernel
theorem cd_M_print_43 : decode cb_M_print 43 = .ok (.iconst (-1), 1) := by decide +kernel
theorem cd_M_print_44 : decode cb_M_print 44 = .ok (.invokevirtual 194, 3) := by decide +kernel
theorem cd_M_print_47 : decode cb_M_print 47 = .ok (.istore_n 2, 1) := by decide +kernel
theorem cd_M_print_48 : decode cb_M_print 48 = .ok (.iload_n 2, 1) := by decide +kernel
theorem cd_M_print_49 : decode cb_M_print 49 = .ok (.ifCond .ge 37, 3) := by decide +kernel
theorem cd_M_print_52 : decode cb_M_print 52 = .ok (.iload_n 1, 1) := by decide +kernel
theorem cd_M_print_53 : decode cb_M_print 53 = .ok (.ifCond .le 33, 3) := by decide +kernel
theorem cd_M_print_56 : decode cb_M_print 56 = .ok (.aload_n 0, 1) := by decide +kernel
theorem cd_M_print_57 : decode cb_M_print 57 = .ok (.aload_n 0, 1) := by decide +kernel
theorem cd_M_print_58 : decode cb_M_print 58 = .ok (.getfield 24, 3) := by decide +kernel
theorem cd_M_print_61 : decode cb_M_print 61 = .ok (.iload_n 1, 1) := by decide +kernel
theorem cd_M_print_62 : decode cb_M_print 62 = .ok (.iaload, 1) := by decide +kernel
theorem cd_M_print_63 : decode cb_M_print 63 = .ok (.iload_n 1, 1) := by decide +kernel
theorem cd_M_print_64 : decode cb_M_print 64 = .ok (.invokevirtual 194, 3) := by decide +kernel
theorem cd_M_print_67 : decode cb_M_print 67 = .ok (.istore_n 2, 1) := by decide +kernel
theorem cd_M_print_68 : decode cb_M_print 68 = .ok (.iload_n 2, 1) := by decide +kernel
theorem cd_M_print_69 : decode cb_M_print 69 = .ok (.ifCond .ge 12, 3) := by decide +kernel
theorem cd_M_print_72 : decode cb_M_print 72 = .ok (.aload_n 0, 1) := by decide +kernel
theorem cd_M_print_73 : decode cb_M_print 73 = .ok (.getfield 24, 3) := by decide +kernel
theorem cd_M_print_76 : decode cb_M_print 76 = .ok (.iload_n 1, 1) := by decide +kernel
theorem cd_M_print_77 : decode cb_M_print 77 = .ok (.iaload, 1) := by decide +kernel
theorem cd_M_print_78 : decode cb_M_print 78 = .ok (.goto 4, 3) := by decide +kernel
theorem cd_M_print_81 : decode cb_M_print 81 = .ok (.iload_n 1, 1) := by decide +kernel
theorem cd_M_print_82 : decode cb_M_print 82 = .ok (.istore_n 1, 1) := by decide +kernel
theorem cd_M_print_83 : decode cb_M_print 83 = .ok (.goto (-35), 3) := by decide +kernel
theorem cd_M_print_86 : decode cb_M_print 86 = .ok (.iload_n 2, 1) := by decide +kernel
theorem cd_M_print_87 : decode cb_M_print 87 = .ok (.istore_n 1, 1) := by decide +kernel
theorem cd_M_print_88 : decode cb_M_print 88 = .ok (.goto (-56), 3) := by decide +kernel
theorem cd_M_print_91 : decode cb_M_print 91 = .ok (.aload_n 0, 1) := by decide +kernel
theorem cd_M_print_92 : decode cb_M_print 92 = .ok (.getfield 181, 3) := by decide +kernel
theorem cd_M_print_95 : decode cb_M_print 95 = .ok (.ireturn, 1) := by decide +kernel
theorem cd_M_at_0 : decode cb_M_at 0 = .ok (.aload_n 0, 1) := by decide +kernel
theorem cd_M_at_1 : decode cb_M_at 1 = .ok (.iconst 0, 1) := by decide +kernel
theorem cd_M_at_2 : decode cb_M_at 2 = .ok (.putfield 79, 3) := by decide +kernel
theorem cd_M_at_5 : decode cb_M_at 5 = .ok (.iload_n 1, 1) := by decide +kernel
theorem cd_M_at_6 : decode cb_M_at 6 = .ok (.iconst 0, 1) := by decide +kernel
theorem cd_M_at_7 : decode cb_M_at 7 = .ok (.aload_n 0, 1) := by decide +kernel
theorem cd_M_at_8 : decode cb_M_at 8 = .ok (.getfield 181, 3) := by decide +kernel
theorem cd_M_at_11 : decode cb_M_at 11 = .ok (.iconst 1, 1) := by decide +kernel
theorem cd_M_at_12 : decode cb_M_at 12 = .ok (.isub, 1) := by decide +kernel
theorem cd_M_at_13 : decode cb_M_at 13 = .ok (.invokestatic 85, 3) := by decide +kernel
theorem cd_M_at_16 : decode cb_M_at 16 = .ok (.ifCond .eq 12, 3) := by decide +kernel
theorem cd_M_at_19 : decode cb_M_at 19 = .ok (.aload_n 0, 1) := by decide +kernel
theorem cd_M_at_20 : decode cb_M_at 20 = .ok (.getfield 76, 3) := by decide +kernel
theorem cd_M_at_23 : decode cb_M_at 23 = .ok (.iload_n 1, 1) := by decide +kernel
theorem cd_M_at_24 : decode cb_M_at 24 = .ok (.baload, 1) := by decide +kernel
theorem cd_M_at_25 : decode cb_M_at 25 = .ok (.goto 4, 3) := by decide +kernel
theorem cd_M_at_28 : decode cb_M_at 28 = .ok (.iconst (-1), 1) := by decide +kernel
theorem cd_M_at_29 : decode cb_M_at 29 = .ok (.ireturn, 1) := by decide +kernel
