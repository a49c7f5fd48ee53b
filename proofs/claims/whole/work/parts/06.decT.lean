theorem cd_F_init_0 : decode cb_F_init 0 = .ok (.aload_n 0, 1) := by decide +kernel
theorem cd_F_init_1 : decode cb_F_init 1 = .ok (.invokespecial 1, 3) := by decide +kernel
theorem cd_F_init_4 : decode cb_F_init 4 = .ok (.aload_n 0, 1) := by decide +kernel
theorem cd_F_init_5 : decode cb_F_init 5 = .ok (.new 7, 3) := by decide +kernel
theorem cd_F_init_8 : decode cb_F_init 8 = .ok (.dup, 1) := by decide +kernel
theorem cd_F_init_9 : decode cb_F_init 9 = .ok (.invokespecial 9, 3) := by decide +kernel
theorem cd_F_init_12 : decode cb_F_init 12 = .ok (.putfield 10, 3) := by decide +kernel
theorem cd_F_init_15 : decode cb_F_init 15 = .ok (.aload_n 0, 1) := by decide +kernel
theorem cd_F_init_16 : decode cb_F_init 16 = .ok (.new 16, 3) := by decide +kernel
theorem cd_F_init_19 : decode cb_F_init 19 = .ok (.dup, 1) := by decide +kernel
theorem cd_F_init_20 : decode cb_F_init 20 = .ok (.invokespecial 18, 3) := by decide +kernel
theorem cd_F_init_23 : decode cb_F_init 23 = .ok (.putfield 19, 3) := by decide +kernel
theorem cd_F_init_26 : decode cb_F_init 26 = .ok (.aload_n 0, 1) := by decide +kernel
theorem cd_F_init_27 : decode cb_F_init 27 = .ok (.new 23, 3) := by decide +kernel
theorem cd_F_init_30 : decode cb_F_init 30 = .ok (.dup, 1) := by decide +kernel
theorem cd_F_init_31 : decode cb_F_init 31 = .ok (.invokespecial 25, 3) := by decide +kernel
theorem cd_F_init_34 : decode cb_F_init 34 = .ok (.putfield 26, 3) := by decide +kernel
theorem cd_F_init_37 : decode cb_F_init 37 = .ok (.aload_n 0, 1) := by decide +kernel
theorem cd_F_init_38 : decode cb_F_init 38 = .ok (.new 30, 3) := by decide +kernel
theorem cd_F_init_41 : decode cb_F_init 41 = .ok (.dup, 1) := by decide +kernel
theorem cd_F_init_42 : decode cb_F_init 42 = .ok (.invokespecial 32, 3) := by decide +kernel
theorem cd_F_init_45 : decode cb_F_init 45 = .ok (.putfield 33, 3) := by decide +kernel
theorem cd_F_init_48 : decode cb_F_init 48 = .ok (.aload_n 0, 1) := by decide +kernel
theorem cd_F_init_49 : decode cb_F_init 49 = .ok (.new 37, 3) := by decide +kernel
theorem cd_F_init_52 : decode cb_F_init 52 = .ok (.dup, 1) := by decide +kernel
theorem cd_F_init_53 : decode cb_F_init 53 = .ok (.invokespecial 39, 3) := by decide +kernel
theorem cd_F_init_56 : decode cb_F_init 56 = .ok (.putfield 40, 3) := by decide +kernel
theorem cd_F_init_59 : decode cb_F_init 59 = .ok (.aload_n 0, 1) := by decide +kernel
theorem cd_F_init_60 : decode cb_F_init 60 = .ok (.new 44, 3) := by decide +kernel
theorem cd_F_init_63 : decode cb_F_init 63 = .ok (.dup, 1) := by decide +kernel
theorem cd_F_init_64 : decode cb_F_init 64 = .ok (.invokespecial 46, 3) := by decide +kernel
theorem cd_F_init_67 : decode cb_F_init 67 = .ok (.putfield 47, 3) := by decide +kernel
theorem cd_F_init_70 : decode cb_F_init 70 = .ok (.aload_n 0, 1) := by decide +kernel
theorem cd_F_init_71 : decode cb_F_init 71 = .ok (.new 44, 3) := by decide +kernel
theorem cd_F_init_74 : decode cb_F_init 74 = .ok (.dup, 1) := by decide +kernel
theorem cd_F_init_75 : decode cb_F_init 75 = .ok (.invokespecial 46, 3) := by decide +kernel
theorem cd_F_init_78 : decode cb_F_init 78 = .ok (.putfield 51, 3) := by decide +kernel
theorem cd_F_init_81 : decode cb_F_init 81 = .ok (.return_, 1) := by decide +kernel
theorem cd_F_sign_0 : decode cb_F_sign 0 = .ok (.aload_n 0, 1) := by decide +kernel
theorem cd_F_sign_1 : decode cb_F_sign 1 = .ok (.getfield 10, 3) := by decide +kernel
theorem cd_F_sign_4 : decode cb_F_sign 4 = .ok (.iload_n 1, 1) := by decide +kernel
theorem cd_F_sign_5 : decode cb_F_sign 5 = .ok (.sipush 255, 3) := by decide +kernel
theorem cd_F_sign_8 : decode cb_F_sign 8 = .ok (.iand, 1) := by decide +kernel
theorem cd_F_sign_9 : decode cb_F_sign 9 = .ok (.invokevirtual 54, 3) := by decide +kernel
theorem cd_F_sign_12 : decode cb_F_sign 12 = .ok (.return_, 1) := by decide +kernel
theorem cd_F_read_0 : decode cb_F_read 0 = .ok (.aload_n 0, 1) := by decide +kernel
theorem cd_F_read_1 : decode cb_F_read 1 = .ok (.getfield 10, 3) := by decide +kernel
theorem cd_F_read_4 : decode cb_F_read 4 = .ok (.invokevirtual 58, 3) := by decide +kernel
theorem cd_F_read_7 : decode cb_F_read 7 = .ok (.ifCond .ne 13, 3) := by decide +kernel
theorem cd_F_read_10 : decode cb_F_read 10 = .ok (.new 62, 3) := by decide +kernel
theorem cd_F_read_13 : decode cb_F_read 13 = .ok (.dup, 1) := by decide +kernel
theorem cd_F_read_14 : decode cb_F_read 14 = .ok (.ldc 64, 2) := by decide +kernel
theorem cd_F_read_16 : decode cb_F_read 16 = .ok (.invokespecial 66, 3) := by decide +kernel
theorem cd_F_read_19 : decode cb_F_read 19 = .ok (.athrow, 1) := by decide +kernel
theorem cd_F_read_20 : decode cb_F_read 20 = .ok (.aload_n 0, 1) := by decide +kernel
theorem cd_F_read_21 : decode cb_F_read 21 = .ok (.aload_n 0, 1) := by decide +kernel
theorem cd_F_read_22 : decode cb_F_read 22 = .ok (.getfield 10, 3) := by decide +kernel
theorem cd_F_read_25 : decode cb_F_read 25 = .ok (.aload_n 0, 1) := by decide +kernel
theorem cd_F_read_26 : decode cb_F_read 26 = .ok (.getfield 47, 3) := by decide +kernel
theorem cd_F_read_29 : decode cb_F_read 29 = .ok (.invokevirtual 69, 3) := by decide +kernel
theorem cd_F_read_32 : decode cb_F_read 32 = .ok (.putfield 47, 3) := by decide +kernel
theorem cd_F_read_35 : decode cb_F_read 35 = .ok (.aload_n 0, 1) := by decide +kernel
theorem cd_F_read_36 : decode cb_F_read 36 = .ok (.getfield 19, 3) := by decide +kernel
theorem cd_F_read_39 : decode cb_F_read 39 = .ok (.invokevirtual 73, 3) := by decide +kernel
theorem cd_F_read_42 : decode cb_F_read 42 = .ok (.aload_n 0, 1) := by decide +kernel
theorem cd_F_read_43 : decode cb_F_read 43 = .ok (.getfield 33, 3) := by decide +kernel
theorem cd_F_read_46 : decode cb_F_read 46 = .ok (.iconst 1, 1) := by decide +kernel
theorem cd_F_read_47 : decode cb_F_read 47 = .ok (.putfield 76, 3) := by decide +kernel
theorem cd_F_read_50 : decode cb_F_read 50 = .ok (.aload_n 0, 1) := by decide +kernel
theorem cd_F_read_51 : decode cb_F_read 51 = .ok (.getfield 47, 3) := by decide +kernel
theorem cd_F_read_54 : decode cb_F_read 54 = .ok (.getfield 80, 3) := by decide +kernel
theorem cd_F_read_57 : decode cb_F_read 57 = .ok (.ireturn, 1) := by decide +kernel
theorem cd_F_place_0 : decode cb_F_place 0 = .ok (.aload_n 0, 1) := by decide +kernel
theorem cd_F_place_1 : decode cb_F_place 1 = .ok (.getfield 10, 3) := by decide +kernel
theorem cd_F_place_4 : decode cb_F_place 4 = .ok (.getfield 84, 3) := by decide +kernel
theorem cd_F_place_7 : decode cb_F_place 7 = .ok (.ireturn, 1) := by decide +kernel
theorem cd_F_level_0 : decode cb_F_level 0 = .ok (.aload_n 0, 1) := by decide +kernel
theorem cd_F_level_1 : decode cb_F_level 1 = .ok (.getfield 47, 3) := by decide +kernel
theorem cd_F_level_4 : decode cb_F_level 4 = .ok (.iload_n 1, 1) := by decide +kernel
theorem cd_F_level_5 : decode cb_F_level 5 = .ok (.invokevirtual 87, 3) := by decide +kernel
theorem cd_F_level_8 : decode cb_F_level 8 = .ok (.ifCond .ne 5, 3) := by decide +kernel
theorem cd_F_level_11 : decode cb_F_level 11 = .ok (.iconst (-1), 1) := by decide +kernel
theorem cd_F_level_12 : decode cb_F_level 12 = .ok (.ireturn, 1) := by decide +kernel
theorem cd_F_level_13 : decode cb_F_level 13 = .ok (.iload_n 2, 1) := by decide +kernel
theorem cd_F_level_14 : decode cb_F_level 14 = .ok (.tableswitch 154 0 9 #[54, 64, 74, 84, 94, 104, 114, 124, 134, 144], 54) := by decide +kernel
theorem cd_F_level_68 : decode cb_F_level 68 = .ok (.aload_n 0, 1) := by decide +kernel
theorem cd_F_level_69 : decode cb_F_level 69 = .ok (.getfield 47, 3) := by decide +kernel
theorem cd_F_level_72 : decode cb_F_level 72 = .ok (.getfield 91, 3) := by decide +kernel
theorem cd_F_level_75 : decode cb_F_level 75 = .ok (.iload_n 1, 1) := by decide +kernel
theorem cd_F_level_76 : decode cb_F_level 76 = .ok (.iaload, 1) := by decide +kernel
theorem cd_F_level_77 : decode cb_F_level 77 = .ok (.ireturn, 1) := by decide +kernel
theorem cd_F_level_78 : decode cb_F_level 78 = .ok (.aload_n 0, 1) := by decide +kernel
theorem cd_F_level_79 : decode cb_F_level 79 = .ok (.getfield 47, 3) := by decide +kernel
theorem cd_F_level_82 : decode cb_F_level 82 = .ok (.getfield 95, 3) := by decide +kernel
theorem cd_F_level_85 : decode cb_F_level 85 = .ok (.iload_n 1, 1) := by decide +kernel
theorem cd_F_level_86 : decode cb_F_level 86 = .ok (.iaload, 1) := by decide +kernel
theorem cd_F_level_87 : decode cb_F_level 87 = .ok (.ireturn, 1) := by decide +kernel
theorem cd_F_level_88 : decode cb_F_level 88 = .ok (.aload_n 0, 1) := by decide +kernel
theorem cd_F_level_89 : decode cb_F_level 89 = .ok (.getfield 47, 3) := by decide +kernel
theorem cd_F_level_92 : decode cb_F_level 92 = .ok (.getfield 98, 3) := by decide +kernel
theorem cd_F_level_95 : decode cb_F_level 95 = .ok (.iload_n 1, 1) := by decide +kernel
theorem cd_F_level_96 : decode cb_F_level 96 = .ok (.iaload, 1) := by decide +kernel
theorem cd_F_level_97 : decode cb_F_level 97 = .ok (.ireturn, 1) := by decide +kernel
theorem cd_F_level_98 : decode cb_F_level 98 = .ok (.aload_n 0, 1) := by decide +kernel
theorem cd_F_level_99 : decode cb_F_level 99 = .ok (.getfield 47, 3) := by decide +kernel
theorem cd_F_level_102 : decode cb_F_level 102 = .ok (.getfield 101, 3) := by decide +kernel
theorem cd_F_level_105 : decode cb_F_level 105 = .ok (.iload_n 1, 1) := by decide +kernel
theorem cd_F_level_106 : decode cb_F_level 106 = .ok (.iaload, 1) := by decide +kernel
theorem cd_F_level_107 : decode cb_F_level 107 = .ok (.ireturn, 1) := by decide +kernel
theorem cd_F_level_108 : decode cb_F_level 108 = .ok (.aload_n 0, 1) := by decide +kernel
theorem cd_F_level_109 : decode cb_F_level 109 = .ok (.getfield 47, 3) := by decide +kernel
theorem cd_F_level_112 : decode cb_F_level 112 = .ok (.getfield 104, 3) := by decide +kernel
theorem cd_F_level_115 : decode cb_F_level 115 = .ok (.iload_n 1, 1) := by decide +kernel
theorem cd_F_level_116 : decode cb_F_level 116 = .ok (.iaload, 1) := by decide +kernel
theorem cd_F_level_117 : decode cb_F_level 117 = .ok (.ireturn, 1) := by decide +kernel
theorem cd_F_level_118 : decode cb_F_level 118 = .ok (.aload_n 0, 1) := by decide +kernel
theorem cd_F_level_119 : decode cb_F_level 119 = .ok (.getfield 47, 3) := by decide +kernel
theorem cd_F_level_122 : decode cb_F_level 122 = .ok (.getfield 107, 3) := by decide +kernel
theorem cd_F_level_125 : decode cb_F_level 125 = .ok (.iload_n 1, 1) := by decide +kernel
theorem cd_F_level_126 : decode cb_F_level 126 = .ok (.iaload, 1) := by decide +kernel
theorem cd_F_level_127 : decode cb_F_level 127 = .ok (.ireturn, 1) := by decide +kernel
theorem cd_F_level_128 : decode cb_F_level 128 = .ok (.aload_n 0, 1) := by decide +kernel
theorem cd_F_level_129 : decode cb_F_level 129 = .ok (.getfield 47, 3) := by decide +kernel
theorem cd_F_level_132 : decode cb_F_level 132 = .ok (.getfield 110, 3) := by decide +kernel
theorem cd_F_level_135 : decode cb_F_level 135 = .ok (.iload_n 1, 1) := by decide +kernel
theorem cd_F_level_136 : decode cb_F_level 136 = .ok (.iaload, 1) := by decide +kernel
theorem cd_F_level_137 : decode cb_F_level 137 = .ok (.ireturn, 1) := by decide +kernel
theorem cd_F_level_138 : decode cb_F_level 138 = .ok (.aload_n 0, 1) := by decide +kernel
theorem cd_F_level_139 : decode cb_F_level 139 = .ok (.getfield 47, 3) := by decide +kernel
theorem cd_F_level_142 : decode cb_F_level 142 = .ok (.getfield 113, 3) := by decide +kernel
theorem cd_F_level_145 : decode cb_F_level 145 = .ok (.iload_n 1, 1) := by decide +kernel
theorem cd_F_level_146 : decode cb_F_level 146 = .ok (.iaload, 1) := by decide +kernel
theorem cd_F_level_147 : decode cb_F_level 147 = .ok (.ireturn, 1) := by decide +kernel
theorem cd_F_level_148 : decode cb_F_level 148 = .ok (.aload_n 0, 1) := by decide +kernel
theorem cd_F_level_149 : decode cb_F_level 149 = .ok (.getfield 47, 3) := by decide +kernel
theorem cd_F_level_152 : decode cb_F_level 152 = .ok (.getfield 116, 3) := by decide +kernel
theorem cd_F_level_155 : decode cb_F_level 155 = .ok (.iload_n 1, 1) := by decide +kernel
theorem cd_F_level_156 : decode cb_F_level 156 = .ok (.iaload, 1) := by decide +kernel
theorem cd_F_level_157 : decode cb_F_level 157 = .ok (.ireturn, 1) := by decide +kernel
theorem cd_F_level_158 : decode cb_F_level 158 = .ok (.aload_n 0, 1) := by decide +kernel
theorem cd_F_level_159 : decode cb_F_level 159 = .ok (.getfield 47, 3) := by decide +kernel
theorem cd_F_level_162 : decode cb_F_level 162 = .ok (.getfield 119, 3) := by decide +kernel
theorem cd_F_level_165 : decode cb_F_level 165 = .ok (.iload_n 1, 1) := by decide +kernel
theorem cd_F_level_166 : decode cb_F_level 166 = .ok (.iaload, 1) := by decide +kernel
theorem cd_F_level_167 : decode cb_F_level 167 = .ok (.ireturn, 1) := by decide +kernel
theorem cd_F_level_168 : decode cb_F_level 168 = .ok (.iconst (-1), 1) := by decide +kernel
theorem cd_F_level_169 : decode cb_F_level 169 = .ok (.ireturn, 1) := by decide +kernel
theorem cd_F_letter_0 : decode cb_F_letter 0 = .ok (.aload_n 0, 1) := by decide +kernel
theorem cd_F_letter_1 : decode cb_F_letter 1 = .ok (.getfield 47, 3) := by decide +kernel
theorem cd_F_letter_4 : decode cb_F_letter 4 = .ok (.iload_n 1, 1) := by decide +kernel
theorem cd_F_letter_5 : decode cb_F_letter 5 = .ok (.invokevirtual 87, 3) := by decide +kernel
theorem cd_F_letter_8 : decode cb_F_letter 8 = .ok (.ifCond .eq 20, 3) := by decide +kernel
theorem cd_F_letter_11 : decode cb_F_letter 11 = .ok (.iload_n 2, 1) := by decide +kernel
theorem cd_F_letter_12 : decode cb_F_letter 12 = .ok (.ifCond .lt 16, 3) := by decide +kernel
theorem cd_F_letter_15 : decode cb_F_letter 15 = .ok (.iload_n 2, 1) := by decide +kernel
theorem cd_F_letter_16 : decode cb_F_letter 16 = .ok (.aload_n 0, 1) := by decide +kernel
theorem cd_F_letter_17 : decode cb_F_letter 17 = .ok (.getfield 47, 3) := by decide +kernel
theorem cd_F_letter_20 : decode cb_F_letter 20 = .ok (.getfield 119, 3) := by decide +kernel
theorem cd_F_letter_23 : decode cb_F_letter 23 = .ok (.iload_n 1, 1) := by decide +kernel
theorem cd_F_letter_24 : decode cb_F_letter 24 = .ok (.iaload, 1) := by decide +kernel
theorem cd_F_letter_25 : decode cb_F_letter 25 = .ok (.if_icmp .lt 5, 3) := by decide +kernel
theorem cd_F_letter_28 : decode cb_F_letter 28 = .ok (.iconst (-1), 1) := by decide +kernel
theorem cd_F_letter_29 : decode cb_F_letter 29 = .ok (.ireturn, 1) := by decide +kernel
theorem cd_F_letter_30 : decode cb_F_letter 30 = .ok (.aload_n 0, 1) := by decide +kernel
theorem cd_F_letter_31 : decode cb_F_letter 31 = .ok (.getfield 47, 3) := by decide +kernel
theorem cd_F_letter_34 : decode cb_F_letter 34 = .ok (.iload_n 1, 1) := by decide +kernel
theorem cd_F_letter_35 : decode cb_F_letter 35 = .ok (.iload_n 2, 1) := by decide +kernel
theorem cd_F_letter_36 : decode cb_F_letter 36 = .ok (.invokevirtual 122, 3) := by decide +kernel
theorem cd_F_letter_39 : decode cb_F_letter 39 = .ok (.ireturn, 1) := by decide +kernel
theorem cd_F_compare_0 : decode cb_F_compare 0 = .ok (.aload_n 0, 1) := by decide +kernel
theorem cd_F_compare_1 : decode cb_F_compare 1 = .ok (.getfield 47, 3) := by decide +kernel
theorem cd_F_compare_4 : decode cb_F_compare 4 = .ok (.iload_n 1, 1) := by decide +kernel
theorem cd_F_compare_5 : decode cb_F_compare 5 = .ok (.invokevirtual 87, 3) := by decide +kernel
theorem cd_F_compare_8 : decode cb_F_compare 8 = .ok (.ifCond .eq 14, 3) := by decide +kernel
theorem cd_F_compare_11 : decode cb_F_compare 11 = .ok (.aload_n 0, 1) := by decide +kernel
theorem cd_F_compare_12 : decode cb_F_compare 12 = .ok (.getfield 47, 3) := by decide +kernel
theorem cd_F_compare_15 : decode cb_F_compare 15 = .ok (.iload_n 2, 1) := by decide +kernel
theorem cd_F_compare_16 : decode cb_F_compare 16 = .ok (.invokevirtual 87, 3) := by decide +kernel
theorem cd_F_compare_19 : decode cb_F_compare 19 = .ok (.ifCond .ne 6, 3) := by decide +kernel
theorem cd_F_compare_22 : decode cb_F_compare 22 = .ok (.bipush (-2), 2) := by decide +kernel
theorem cd_F_compare_24 : decode cb_F_compare 24 = .ok (.ireturn, 1) := by decide +kernel
theorem cd_F_compare_25 : decode cb_F_compare 25 = .ok (.aload_n 0, 1) := by decide +kernel
theorem cd_F_compare_26 : decode cb_F_compare 26 = .ok (.getfield 47, 3) := by decide +kernel
theorem cd_F_compare_29 : decode cb_F_compare 29 = .ok (.iload_n 1, 1) := by decide +kernel
theorem cd_F_compare_30 : decode cb_F_compare 30 = .ok (.iload_n 2, 1) := by decide +kernel
theorem cd_F_compare_31 : decode cb_F_compare 31 = .ok (.invokevirtual 126, 3) := by decide +kernel
theorem cd_F_compare_34 : decode cb_F_compare 34 = .ok (.ireturn, 1) := by decide +kernel
theorem cd_F_extent_0 : decode cb_F_extent 0 = .ok (.aload_n 0, 1) := by decide +kernel
theorem cd_F_extent_1 : decode cb_F_extent 1 = .ok (.getfield 47, 3) := by decide +kernel
theorem cd_F_extent_4 : decode cb_F_extent 4 = .ok (.iload_n 1, 1) := by decide +kernel
theorem cd_F_extent_5 : decode cb_F_extent 5 = .ok (.invokevirtual 87, 3) := by decide +kernel
theorem cd_F_extent_8 : decode cb_F_extent 8 = .ok (.ifCond .ne 5, 3) := by decide +kernel
theorem cd_F_extent_11 : decode cb_F_extent 11 = .ok (.iconst (-1), 1) := by decide +kernel
theorem cd_F_extent_12 : decode cb_F_extent 12 = .ok (.ireturn, 1) := by decide +kernel
theorem cd_F_extent_13 : decode cb_F_extent 13 = .ok (.iload_n 2, 1) := by decide +kernel
theorem cd_F_extent_14 : decode cb_F_extent 14 = .ok (.ifCond .lt 8, 3) := by decide +kernel
theorem cd_F_extent_17 : decode cb_F_extent 17 = .ok (.iload_n 2, 1) := by decide +kernel
theorem cd_F_extent_18 : decode cb_F_extent 18 = .ok (.iconst 3, 1) := by decide +kernel
theorem cd_F_extent_19 : decode cb_F_extent 19 = .ok (.if_icmp .lt 6, 3) := by decide +kernel
theorem cd_F_extent_22 : decode cb_F_extent 22 = .ok (.bipush (-2), 2) := by decide +kernel
theorem cd_F_extent_24 : decode cb_F_extent 24 = .ok (.ireturn, 1) := by decide +kernel
theorem cd_F_extent_25 : decode cb_F_extent 25 = .ok (.aload_n 0, 1) := by decide +kernel
theorem cd_F_extent_26 : decode cb_F_extent 26 = .ok (.getfield 26, 3) := by decide +kernel
theorem cd_F_extent_29 : decode cb_F_extent 29 = .ok (.aload_n 0, 1) := by decide +kernel
theorem cd_F_extent_30 : decode cb_F_extent 30 = .ok (.getfield 47, 3) := by decide +kernel
theorem cd_F_extent_33 : decode cb_F_extent 33 = .ok (.invokevirtual 129, 3) := by decide +kernel
theorem cd_F_extent_36 : decode cb_F_extent 36 = .ok (.aload_n 0, 1) := by decide +kernel
theorem cd_F_extent_37 : decode cb_F_extent 37 = .ok (.getfield 26, 3) := by decide +kernel
theorem cd_F_extent_40 : decode cb_F_extent 40 = .ok (.iload_n 1, 1) := by decide +kernel
theorem cd_F_extent_41 : decode cb_F_extent 41 = .ok (.iload_n 2, 1) := by decide +kernel
theorem cd_F_extent_42 : decode cb_F_extent 42 = .ok (.invokevirtual 133, 3) := by decide +kernel
theorem cd_F_extent_45 : decode cb_F_extent 45 = .ok (.ireturn, 1) := by decide +kernel
theorem cd_F_differ_0 : decode cb_F_differ 0 = .ok (.aload_n 0, 1) := by decide +kernel
theorem cd_F_differ_1 : decode cb_F_differ 1 = .ok (.getfield 26, 3) := by decide +kernel
theorem cd_F_differ_4 : decode cb_F_differ 4 = .ok (.aload_n 0, 1) := by decide +kernel
theorem cd_F_differ_5 : decode cb_F_differ 5 = .ok (.getfield 47, 3) := by decide +kernel
theorem cd_F_differ_8 : decode cb_F_differ 8 = .ok (.invokevirtual 129, 3) := by decide +kernel
theorem cd_F_differ_11 : decode cb_F_differ 11 = .ok (.iconst 0, 1) := by decide +kernel
theorem cd_F_differ_12 : decode cb_F_differ 12 = .ok (.istore_n 2, 1) := by decide +kernel
theorem cd_F_differ_13 : decode cb_F_differ 13 = .ok (.iconst 0, 1) := by decide +kernel
theorem cd_F_differ_14 : decode cb_F_differ 14 = .ok (.istore_n 3, 1) := by decide +kernel
theorem cd_F_differ_15 : decode cb_F_differ 15 = .ok (.iload_n 3, 1) := by decide +kernel
theorem cd_F_differ_16 : decode cb_F_differ 16 = .ok (.aload_n 0, 1) := by decide +kernel
theorem cd_F_differ_17 : decode cb_F_differ 17 = .ok (.getfield 47, 3) := by decide +kernel
theorem cd_F_differ_20 : decode cb_F_differ 20 = .ok (.getfield 80, 3) := by decide +kernel
theorem cd_F_differ_23 : decode cb_F_differ 23 = .ok (.if_icmp .ge 34, 3) := by decide +kernel
theorem cd_F_differ_26 : decode cb_F_differ 26 = .ok (.aload_n 0, 1) := by decide +kernel
theorem cd_F_differ_27 : decode cb_F_differ 27 = .ok (.getfield 26, 3) := by decide +kernel
theorem cd_F_differ_30 : decode cb_F_differ 30 = .ok (.aload_n 0, 1) := by decide +kernel
theorem cd_F_differ_31 : decode cb_F_differ 31 = .ok (.getfield 47, 3) := by decide +kernel
theorem cd_F_differ_34 : decode cb_F_differ 34 = .ok (.iload_n 3, 1) := by decide +kernel
theorem cd_F_differ_35 : decode cb_F_differ 35 = .ok (.invokevirtual 136, 3) := by decide +kernel
theorem cd_F_differ_38 : decode cb_F_differ 38 = .ok (.ifCond .eq 13, 3) := by decide +kernel
theorem cd_F_differ_41 : decode cb_F_differ 41 = .ok (.iload_n 2, 1) := by decide +kernel
theorem cd_F_differ_42 : decode cb_F_differ 42 = .ok (.iload_n 1, 1) := by decide +kernel
theorem cd_F_differ_43 : decode cb_F_differ 43 = .ok (.if_icmp .ne 5, 3) := by decide +kernel
theorem cd_F_differ_46 : decode cb_F_differ 46 = .ok (.iload_n 3, 1) := by decide +kernel
theorem cd_F_differ_47 : decode cb_F_differ 47 = .ok (.ireturn, 1) := by decide +kernel
theorem cd_F_differ_48 : decode cb_F_differ 48 = .ok (.iinc 2 1, 3) := by decide +kernel
theorem cd_F_differ_51 : decode cb_F_differ 51 = .ok (.iinc 3 1, 3) := by decide +kernel
theorem cd_F_differ_54 : decode cb_F_differ 54 = .ok (.goto (-39), 3) := by decide +kernel
theorem cd_F_differ_57 : decode cb_F_differ 57 = .ok (.iconst (-1), 1) := by decide +kernel
theorem cd_F_differ_58 : decode cb_F_differ 58 = .ok (.ireturn, 1) := by decide +kernel
theorem cd_F_twice_0 : decode cb_F_twice 0 = .ok (.iconst 0, 1) := by decide +kernel
theorem cd_F_twice_1 : decode cb_F_twice 1 = .ok (.istore_n 2, 1) := by decide +kernel
theorem cd_F_twice_2 : decode cb_F_twice 2 = .ok (.iconst 0, 1) := by decide +kernel
theorem cd_F_twice_3 : decode cb_F_twice 3 = .ok (.istore_n 3, 1) := by decide +kernel
theorem cd_F_twice_4 : decode cb_F_twice 4 = .ok (.iload_n 3, 1) := by decide +kernel
theorem cd_F_twice_5 : decode cb_F_twice 5 = .ok (.aload_n 0, 1) := by decide +kernel
theorem cd_F_twice_6 : decode cb_F_twice 6 = .ok (.getfield 47, 3) := by decide +kernel
theorem cd_F_twice_9 : decode cb_F_twice 9 = .ok (.getfield 80, 3) := by decide +kernel
theorem cd_F_twice_12 : decode cb_F_twice 12 = .ok (.if_icmp .ge 30, 3) := by decide +kernel
theorem cd_F_twice_15 : decode cb_F_twice 15 = .ok (.aload_n 0, 1) := by decide +kernel
theorem cd_F_twice_16 : decode cb_F_twice 16 = .ok (.getfield 47, 3) := by decide +kernel
theorem cd_F_twice_19 : decode cb_F_twice 19 = .ok (.iload_n 3, 1) := by decide +kernel
theorem cd_F_twice_20 : decode cb_F_twice 20 = .ok (.invokevirtual 140, 3) := by decide +kernel
theorem cd_F_twice_23 : decode cb_F_twice 23 = .ok (.ifCond .eq 13, 3) := by decide +kernel
theorem cd_F_twice_26 : decode cb_F_twice 26 = .ok (.iload_n 2, 1) := by decide +kernel
theorem cd_F_twice_27 : decode cb_F_twice 27 = .ok (.iload_n 1, 1) := by decide +kernel
theorem cd_F_twice_28 : decode cb_F_twice 28 = .ok (.if_icmp .ne 5, 3) := by decide +kernel
theorem cd_F_twice_31 : decode cb_F_twice 31 = .ok (.iload_n 3, 1) := by decide +kernel
theorem cd_F_twice_32 : decode cb_F_twice 32 = .ok (.ireturn, 1) := by decide +kernel
theorem cd_F_twice_33 : decode cb_F_twice 33 = .ok (.iinc 2 1, 3) := by decide +kernel
theorem cd_F_twice_36 : decode cb_F_twice 36 = .ok (.iinc 3 1, 3) := by decide +kernel
theorem cd_F_twice_39 : decode cb_F_twice 39 = .ok (.goto (-35), 3) := by decide +kernel
theorem cd_F_twice_42 : decode cb_F_twice 42 = .ok (.iconst (-1), 1) := by decide +kernel
theorem cd_F_twice_43 : decode cb_F_twice 43 = .ok (.ireturn, 1) := by decide +kernel
theorem cd_F_restrict_0 : decode cb_F_restrict 0 = .ok (.aload_n 0, 1) := by decide +kernel
theorem cd_F_restrict_1 : decode cb_F_restrict 1 = .ok (.getfield 47, 3) := by decide +kernel
theorem cd_F_restrict_4 : decode cb_F_restrict 4 = .ok (.iload_n 1, 1) := by decide +kernel
theorem cd_F_restrict_5 : decode cb_F_restrict 5 = .ok (.invokevirtual 87, 3) := by decide +kernel
theorem cd_F_restrict_8 : decode cb_F_restrict 8 = .ok (.ifCond .ne 5, 3) := by decide +kernel
theorem cd_F_restrict_11 : decode cb_F_restrict 11 = .ok (.iconst (-1), 1) := by decide +kernel
theorem cd_F_restrict_12 : decode cb_F_restrict 12 = .ok (.ireturn, 1) := by decide +kernel
theorem cd_F_restrict_13 : decode cb_F_restrict 13 = .ok (.iload_n 2, 1) := by decide +kernel
theorem cd_F_restrict_14 : decode cb_F_restrict 14 = .ok (.invokestatic 143, 3) := by decide +kernel
theorem cd_F_restrict_17 : decode cb_F_restrict 17 = .ok (.ifCond .eq 13, 3) := by decide +kernel
theorem cd_F_restrict_20 : decode cb_F_restrict 20 = .ok (.iload_n 3, 1) := by decide +kernel
theorem cd_F_restrict_21 : decode cb_F_restrict 21 = .ok (.ifCond .lt 9, 3) := by decide +kernel
theorem cd_F_restrict_24 : decode cb_F_restrict 24 = .ok (.iload_n 3, 1) := by decide +kernel
theorem cd_F_restrict_25 : decode cb_F_restrict 25 = .ok (.bipush 99, 2) := by decide +kernel
theorem cd_F_restrict_27 : decode cb_F_restrict 27 = .ok (.if_icmp .le 6, 3) := by decide +kernel
theorem cd_F_restrict_30 : decode cb_F_restrict 30 = .ok (.bipush (-2), 2) := by decide +kernel
theorem cd_F_restrict_32 : decode cb_F_restrict 32 = .ok (.ireturn, 1) := by decide +kernel
theorem cd_F_restrict_33 : decode cb_F_restrict 33 = .ok (.aload_n 0, 1) := by decide +kernel
theorem cd_F_restrict_34 : decode cb_F_restrict 34 = .ok (.getfield 19, 3) := by decide +kernel
theorem cd_F_restrict_37 : decode cb_F_restrict 37 = .ok (.iload_n 1, 1) := by decide +kernel
theorem cd_F_restrict_38 : decode cb_F_restrict 38 = .ok (.iload_n 2, 1) := by decide +kernel
theorem cd_F_restrict_39 : decode cb_F_restrict 39 = .ok (.iload_n 3, 1) := by decide +kernel
theorem cd_F_restrict_40 : decode cb_F_restrict 40 = .ok (.invokevirtual 146, 3) := by decide +kernel
theorem cd_F_restrict_43 : decode cb_F_restrict 43 = .ok (.iconst 1, 1) := by decide +kernel
theorem cd_F_restrict_44 : decode cb_F_restrict 44 = .ok (.ireturn, 1) := by decide +kernel
theorem cd_F_restricted_0 : decode cb_F_restricted 0 = .ok (.aload_n 0, 1) := by decide +kernel
theorem cd_F_restricted_1 : decode cb_F_restricted 1 = .ok (.getfield 47, 3) := by decide +kernel
theorem cd_F_restricted_4 : decode cb_F_restricted 4 = .ok (.iload_n 1, 1) := by decide +kernel
theorem cd_F_restricted_5 : decode cb_F_restricted 5 = .ok (.invokevirtual 87, 3) := by decide +kernel
theorem cd_F_restricted_8 : decode cb_F_restricted 8 = .ok (.ifCond .ne 5, 3) := by decide +kernel
theorem cd_F_restricted_11 : decode cb_F_restricted 11 = .ok (.iconst (-1), 1) := by decide +kernel
theorem cd_F_restricted_12 : decode cb_F_restricted 12 = .ok (.ireturn, 1) := by decide +kernel
theorem cd_F_restricted_13 : decode cb_F_restricted 13 = .ok (.iload_n 2, 1) := by decide +kernel
theorem cd_F_restricted_14 : decode cb_F_restricted 14 = .ok (.invokestatic 143, 3) := by decide +kernel
theorem cd_F_restricted_17 : decode cb_F_restricted 17 = .ok (.ifCond .ne 6, 3) := by decide +kernel
theorem cd_F_restricted_20 : decode cb_F_restricted 20 = .ok (.bipush (-2), 2) := by decide +kernel
theorem cd_F_restricted_22 : decode cb_F_restricted 22 = .ok (.ireturn, 1) := by decide +kernel
theorem cd_F_restricted_23 : decode cb_F_restricted 23 = .ok (.iload_n 1, 1) := by decide +kernel
theorem cd_F_restricted_24 : decode cb_F_restricted 24 = .ok (.istore_n 3, 1) := by decide +kernel
theorem cd_F_restricted_25 : decode cb_F_restricted 25 = .ok (.iconst 0, 1) := by decide +kernel
theorem cd_F_restricted_26 : decode cb_F_restricted 26 = .ok (.istore 4, 2) := by decide +kernel
theorem cd_F_restricted_28 : decode cb_F_restricted 28 = .ok (.iload 4, 2) := by decide +kernel
theorem cd_F_restricted_30 : decode cb_F_restricted 30 = .ok (.bipush 8, 2) := by decide +kernel
theorem cd_F_restricted_32 : decode cb_F_restricted 32 = .ok (.if_icmp .gt 49, 3) := by decide +kernel
theorem cd_F_restricted_35 : decode cb_F_restricted 35 = .ok (.aload_n 0, 1) := by decide +kernel
theorem cd_F_restricted_36 : decode cb_F_restricted 36 = .ok (.getfield 47, 3) := by decide +kernel
theorem cd_F_restricted_39 : decode cb_F_restricted 39 = .ok (.iload_n 3, 1) := by decide +kernel
theorem cd_F_restricted_40 : decode cb_F_restricted 40 = .ok (.invokevirtual 87, 3) := by decide +kernel
theorem cd_F_restricted_43 : decode cb_F_restricted 43 = .ok (.ifCond .eq 38, 3) := by decide +kernel
theorem cd_F_restricted_46 : decode cb_F_restricted 46 = .ok (.aload_n 0, 1) := by decide +kernel
theorem cd_F_restricted_47 : decode cb_F_restricted 47 = .ok (.getfield 19, 3) := by decide +kernel
theorem cd_F_restricted_50 : decode cb_F_restricted 50 = .ok (.iload_n 3, 1) := by decide +kernel
theorem cd_F_restricted_51 : decode cb_F_restricted 51 = .ok (.iload_n 2, 1) := by decide +kernel
theorem cd_F_restricted_52 : decode cb_F_restricted 52 = .ok (.invokevirtual 150, 3) := by decide +kernel
theorem cd_F_restricted_55 : decode cb_F_restricted 55 = .ok (.istore 5, 2) := by decide +kernel
theorem cd_F_restricted_57 : decode cb_F_restricted 57 = .ok (.iload 5, 2) := by decide +kernel
theorem cd_F_restricted_59 : decode cb_F_restricted 59 = .ok (.ifCond .eq 6, 3) := by decide +kernel
theorem cd_F_restricted_62 : decode cb_F_restricted 62 = .ok (.iload 5, 2) := by decide +kernel
theorem cd_F_restricted_64 : decode cb_F_restricted 64 = .ok (.ireturn, 1) := by decide +kernel
theorem cd_F_restricted_65 : decode cb_F_restricted 65 = .ok (.aload_n 0, 1) := by decide +kernel
theorem cd_F_restricted_66 : decode cb_F_restricted 66 = .ok (.getfield 47, 3) := by decide +kernel
theorem cd_F_restricted_69 : decode cb_F_restricted 69 = .ok (.getfield 98, 3) := by decide +kernel
theorem cd_F_restricted_72 : decode cb_F_restricted 72 = .ok (.iload_n 3, 1) := by decide +kernel
theorem cd_F_restricted_73 : decode cb_F_restricted 73 = .ok (.iaload, 1) := by decide +kernel
theorem cd_F_restricted_74 : decode cb_F_restricted 74 = .ok (.istore_n 3, 1) := by decide +kernel
theorem cd_F_restricted_75 : decode cb_F_restricted 75 = .ok (.iinc 4 1, 3) := by decide +kernel
theorem cd_F_restricted_78 : decode cb_F_restricted 78 = .ok (.goto (-50), 3) := by decide +kernel
theorem cd_F_restricted_81 : decode cb_F_restricted 81 = .ok (.iconst 0, 1) := by decide +kernel
theorem cd_F_restricted_82 : decode cb_F_restricted 82 = .ok (.ireturn, 1) := by decide +kernel
theorem cd_F_name_0 : decode cb_F_name 0 = .ok (.aload_n 0, 1) := by decide +kernel
theorem cd_F_name_1 : decode cb_F_name 1 = .ok (.getfield 47, 3) := by decide +kernel
theorem cd_F_name_4 : decode cb_F_name 4 = .ok (.iload_n 1, 1) := by decide +kernel
theorem cd_F_name_5 : decode cb_F_name 5 = .ok (.invokevirtual 87, 3) := by decide +kernel
theorem cd_F_name_8 : decode cb_F_name 8 = .ok (.ifCond .ne 5, 3) := by decide +kernel
theorem cd_F_name_11 : decode cb_F_name 11 = .ok (.iconst (-1), 1) := by decide +kernel
theorem cd_F_name_12 : decode cb_F_name 12 = .ok (.ireturn, 1) := by decide +kernel
theorem cd_F_name_13 : decode cb_F_name 13 = .ok (.iload_n 2, 1) := by decide +kernel
theorem cd_F_name_14 : decode cb_F_name 14 = .ok (.iconst 1, 1) := by decide +kernel
theorem cd_F_name_15 : decode cb_F_name 15 = .ok (.if_icmp .lt 10, 3) := by decide +kernel
theorem cd_F_name_18 : decode cb_F_name 18 = .ok (.iload_n 2, 1) := by decide +kernel
theorem cd_F_name_19 : decode cb_F_name 19 = .ok (.sipush 999, 3) := by decide +kernel
theorem cd_F_name_22 : decode cb_F_name 22 = .ok (.if_icmp .le 6, 3) := by decide +kernel
theorem cd_F_name_25 : decode cb_F_name 25 = .ok (.bipush (-2), 2) := by decide +kernel
theorem cd_F_name_27 : decode cb_F_name 27 = .ok (.ireturn, 1) := by decide +kernel
theorem cd_F_name_28 : decode cb_F_name 28 = .ok (.aload_n 0, 1) := by decide +kernel
theorem cd_F_name_29 : decode cb_F_name 29 = .ok (.getfield 19, 3) := by decide +kernel
theorem cd_F_name_32 : decode cb_F_name 32 = .ok (.iload_n 1, 1) := by decide +kernel
theorem cd_F_name_33 : decode cb_F_name 33 = .ok (.iload_n 2, 1) := by decide +kernel
theorem cd_F_name_34 : decode cb_F_name 34 = .ok (.invokevirtual 153, 3) := by decide +kernel
theorem cd_F_name_37 : decode cb_F_name 37 = .ok (.ifCond .eq 6, 3) := by decide +kernel
theorem cd_F_name_40 : decode cb_F_name 40 = .ok (.bipush (-3), 2) := by decide +kernel
theorem cd_F_name_42 : decode cb_F_name 42 = .ok (.ireturn, 1) := by decide +kernel
theorem cd_F_name_43 : decode cb_F_name 43 = .ok (.aload_n 0, 1) := by decide +kernel
theorem cd_F_name_44 : decode cb_F_name 44 = .ok (.getfield 19, 3) := by decide +kernel
theorem cd_F_name_47 : decode cb_F_name 47 = .ok (.getfield 157, 3) := by decide +kernel
theorem cd_F_name_50 : decode cb_F_name 50 = .ok (.iload_n 1, 1) := by decide +kernel
theorem cd_F_name_51 : decode cb_F_name 51 = .ok (.iaload, 1) := by decide +kernel
theorem cd_F_name_52 : decode cb_F_name 52 = .ok (.iconst 4, 1) := by decide +kernel
theorem cd_F_name_53 : decode cb_F_name 53 = .ok (.if_icmp .lt 6, 3) := by decide +kernel
theorem cd_F_name_56 : decode cb_F_name 56 = .ok (.bipush (-4), 2) := by decide +kernel
theorem cd_F_name_58 : decode cb_F_name 58 = .ok (.ireturn, 1) := by decide +kernel
theorem cd_F_name_59 : decode cb_F_name 59 = .ok (.aload_n 0, 1) := by decide +kernel
theorem cd_F_name_60 : decode cb_F_name 60 = .ok (.getfield 19, 3) := by decide +kernel
theorem cd_F_name_63 : decode cb_F_name 63 = .ok (.iload_n 1, 1) := by decide +kernel
theorem cd_F_name_64 : decode cb_F_name 64 = .ok (.iload_n 2, 1) := by decide +kernel
theorem cd_F_name_65 : decode cb_F_name 65 = .ok (.invokevirtual 160, 3) := by decide +kernel
theorem cd_F_name_68 : decode cb_F_name 68 = .ok (.aload_n 0, 1) := by decide +kernel
theorem cd_F_name_69 : decode cb_F_name 69 = .ok (.getfield 19, 3) := by decide +kernel
theorem cd_F_name_72 : decode cb_F_name 72 = .ok (.getfield 157, 3) := by decide +kernel
theorem cd_F_name_75 : decode cb_F_name 75 = .ok (.iload_n 1, 1) := by decide +kernel
theorem cd_F_name_76 : decode cb_F_name 76 = .ok (.iaload, 1) := by decide +kernel
theorem cd_F_name_77 : decode cb_F_name 77 = .ok (.ireturn, 1) := by decide +kernel
theorem cd_F_named_0 : decode cb_F_named 0 = .ok (.iconst 0, 1) := by decide +kernel
theorem cd_F_named_1 : decode cb_F_named 1 = .ok (.istore_n 3, 1) := by decide +kernel
theorem cd_F_named_2 : decode cb_F_named 2 = .ok (.iconst 0, 1) := by decide +kernel
theorem cd_F_named_3 : decode cb_F_named 3 = .ok (.istore 4, 2) := by decide +kernel
theorem cd_F_named_5 : decode cb_F_named 5 = .ok (.iload 4, 2) := by decide +kernel
theorem cd_F_named_7 : decode cb_F_named 7 = .ok (.aload_n 0, 1) := by decide +kernel
theorem cd_F_named_8 : decode cb_F_named 8 = .ok (.getfield 47, 3) := by decide +kernel
theorem cd_F_named_11 : decode cb_F_named 11 = .ok (.getfield 80, 3) := by decide +kernel
theorem cd_F_named_14 : decode cb_F_named 14 = .ok (.if_icmp .ge 33, 3) := by decide +kernel
theorem cd_F_named_17 : decode cb_F_named 17 = .ok (.aload_n 0, 1) := by decide +kernel
theorem cd_F_named_18 : decode cb_F_named 18 = .ok (.getfield 19, 3) := by decide +kernel
theorem cd_F_named_21 : decode cb_F_named 21 = .ok (.iload 4, 2) := by decide +kernel
theorem cd_F_named_23 : decode cb_F_named 23 = .ok (.iload_n 1, 1) := by decide +kernel
theorem cd_F_named_24 : decode cb_F_named 24 = .ok (.invokevirtual 153, 3) := by decide +kernel
theorem cd_F_named_27 : decode cb_F_named 27 = .ok (.ifCond .eq 14, 3) := by decide +kernel
theorem cd_F_named_30 : decode cb_F_named 30 = .ok (.iload_n 3, 1) := by decide +kernel
theorem cd_F_named_31 : decode cb_F_named 31 = .ok (.iload_n 2, 1) := by decide +kernel
theorem cd_F_named_32 : decode cb_F_named 32 = .ok (.if_icmp .ne 6, 3) := by decide +kernel
theorem cd_F_named_35 : decode cb_F_named 35 = .ok (.iload 4, 2) := by decide +kernel
theorem cd_F_named_37 : decode cb_F_named 37 = .ok (.ireturn, 1) := by decide +kernel
theorem cd_F_named_38 : decode cb_F_named 38 = .ok (.iinc 3 1, 3) := by decide +kernel
theorem cd_F_named_41 : decode cb_F_named 41 = .ok (.iinc 4 1, 3) := by decide +kernel
theorem cd_F_named_44 : decode cb_F_named 44 = .ok (.goto (-39), 3) := by decide +kernel
theorem cd_F_named_47 : decode cb_F_named 47 = .ok (.iconst (-1), 1) := by decide +kernel
theorem cd_F_named_48 : decode cb_F_named 48 = .ok (.ireturn, 1) := by decide +kernel
theorem cd_F_move_0 : decode cb_F_move 0 = .ok (.aload_n 0, 1) := by decide +kernel
theorem cd_F_move_1 : decode cb_F_move 1 = .ok (.getfield 47, 3) := by decide +kernel
theorem cd_F_move_4 : decode cb_F_move 4 = .ok (.iload_n 1, 1) := by decide +kernel
theorem cd_F_move_5 : decode cb_F_move 5 = .ok (.invokevirtual 87, 3) := by decide +kernel
theorem cd_F_move_8 : decode cb_F_move 8 = .ok (.ifCond .eq 14, 3) := by decide +kernel
theorem cd_F_move_11 : decode cb_F_move 11 = .ok (.aload_n 0, 1) := by decide +kernel
theorem cd_F_move_12 : decode cb_F_move 12 = .ok (.getfield 47, 3) := by decide +kernel
theorem cd_F_move_15 : decode cb_F_move 15 = .ok (.iload_n 2, 1) := by decide +kernel
theorem cd_F_move_16 : decode cb_F_move 16 = .ok (.invokevirtual 87, 3) := by decide +kernel
theorem cd_F_move_19 : decode cb_F_move 19 = .ok (.ifCond .ne 5, 3) := by decide +kernel
theorem cd_F_move_22 : decode cb_F_move 22 = .ok (.iconst (-1), 1) := by decide +kernel
theorem cd_F_move_23 : decode cb_F_move 23 = .ok (.ireturn, 1) := by decide +kernel
theorem cd_F_move_24 : decode cb_F_move 24 = .ok (.iload_n 1, 1) := by decide +kernel
theorem cd_F_move_25 : decode cb_F_move 25 = .ok (.ifCond .eq 15, 3) := by decide +kernel
theorem cd_F_move_28 : decode cb_F_move 28 = .ok (.aload_n 0, 1) := by decide +kernel
theorem cd_F_move_29 : decode cb_F_move 29 = .ok (.getfield 47, 3) := by decide +kernel
theorem cd_F_move_32 : decode cb_F_move 32 = .ok (.iload_n 1, 1) := by decide +kernel
theorem cd_F_move_33 : decode cb_F_move 33 = .ok (.iload_n 2, 1) := by decide +kernel
theorem cd_F_move_34 : decode cb_F_move 34 = .ok (.invokevirtual 164, 3) := by decide +kernel
theorem cd_F_move_37 : decode cb_F_move 37 = .ok (.ifCond .ne 6, 3) := by decide +kernel
theorem cd_F_move_40 : decode cb_F_move 40 = .ok (.bipush (-3), 2) := by decide +kernel
theorem cd_F_move_42 : decode cb_F_move 42 = .ok (.ireturn, 1) := by decide +kernel
theorem cd_F_move_43 : decode cb_F_move 43 = .ok (.aload_n 0, 1) := by decide +kernel
theorem cd_F_move_44 : decode cb_F_move 44 = .ok (.getfield 19, 3) := by decide +kernel
theorem cd_F_move_47 : decode cb_F_move 47 = .ok (.iload_n 1, 1) := by decide +kernel
theorem cd_F_move_48 : decode cb_F_move 48 = .ok (.aload_n 0, 1) := by decide +kernel
theorem cd_F_move_49 : decode cb_F_move 49 = .ok (.getfield 47, 3) := by decide +kernel
theorem cd_F_move_52 : decode cb_F_move 52 = .ok (.getfield 98, 3) := by decide +kernel
theorem cd_F_move_55 : decode cb_F_move 55 = .ok (.iload_n 1, 1) := by decide +kernel
theorem cd_F_move_56 : decode cb_F_move 56 = .ok (.iaload, 1) := by decide +kernel
theorem cd_F_move_57 : decode cb_F_move 57 = .ok (.invokevirtual 167, 3) := by decide +kernel
theorem cd_F_move_60 : decode cb_F_move 60 = .ok (.aload_n 0, 1) := by decide +kernel
theorem cd_F_move_61 : decode cb_F_move 61 = .ok (.getfield 47, 3) := by decide +kernel
theorem cd_F_move_64 : decode cb_F_move 64 = .ok (.iload_n 1, 1) := by decide +kernel
theorem cd_F_move_65 : decode cb_F_move 65 = .ok (.iload_n 2, 1) := by decide +kernel
theorem cd_F_move_66 : decode cb_F_move 66 = .ok (.invokevirtual 170, 3) := by decide +kernel
theorem cd_F_move_69 : decode cb_F_move 69 = .ok (.iconst 1, 1) := by decide +kernel
theorem cd_F_move_70 : decode cb_F_move 70 = .ok (.ireturn, 1) := by decide +kernel
theorem cd_F_was_0 : decode cb_F_was 0 = .ok (.aload_n 0, 1) := by decide +kernel
theorem cd_F_was_1 : decode cb_F_was 1 = .ok (.getfield 47, 3) := by decide +kernel
theorem cd_F_was_4 : decode cb_F_was 4 = .ok (.iload_n 1, 1) := by decide +kernel
theorem cd_F_was_5 : decode cb_F_was 5 = .ok (.invokevirtual 87, 3) := by decide +kernel
theorem cd_F_was_8 : decode cb_F_was 8 = .ok (.ifCond .eq 20, 3) := by decide +kernel
theorem cd_F_was_11 : decode cb_F_was 11 = .ok (.iload_n 2, 1) := by decide +kernel
theorem cd_F_was_12 : decode cb_F_was 12 = .ok (.ifCond .lt 16, 3) := by decide +kernel
theorem cd_F_was_15 : decode cb_F_was 15 = .ok (.iload_n 2, 1) := by decide +kernel
theorem cd_F_was_16 : decode cb_F_was 16 = .ok (.aload_n 0, 1) := by decide +kernel
theorem cd_F_was_17 : decode cb_F_was 17 = .ok (.getfield 19, 3) := by decide +kernel
theorem cd_F_was_20 : decode cb_F_was 20 = .ok (.getfield 173, 3) := by decide +kernel
theorem cd_F_was_23 : decode cb_F_was 23 = .ok (.iload_n 1, 1) := by decide +kernel
theorem cd_F_was_24 : decode cb_F_was 24 = .ok (.iaload, 1) := by decide +kernel
theorem cd_F_was_25 : decode cb_F_was 25 = .ok (.if_icmp .lt 5, 3) := by decide +kernel
theorem cd_F_was_28 : decode cb_F_was 28 = .ok (.iconst (-1), 1) := by decide +kernel
theorem cd_F_was_29 : decode cb_F_was 29 = .ok (.ireturn, 1) := by decide +kernel
theorem cd_F_was_30 : decode cb_F_was 30 = .ok (.aload_n 0, 1) := by decide +kernel
theorem cd_F_was_31 : decode cb_F_was 31 = .ok (.getfield 19, 3) := by decide +kernel
theorem cd_F_was_34 : decode cb_F_was 34 = .ok (.iload_n 1, 1) := by decide +kernel
theorem cd_F_was_35 : decode cb_F_was 35 = .ok (.iload_n 2, 1) := by decide +kernel
theorem cd_F_was_36 : decode cb_F_was 36 = .ok (.invokevirtual 176, 3) := by decide +kernel
theorem cd_F_was_39 : decode cb_F_was 39 = .ok (.ireturn, 1) := by decide +kernel
theorem cd_F_published_0 : decode cb_F_published 0 = .ok (.aload_n 0, 1) := by decide +kernel
theorem cd_F_published_1 : decode cb_F_published 1 = .ok (.getfield 47, 3) := by decide +kernel
theorem cd_F_published_4 : decode cb_F_published 4 = .ok (.iload_n 1, 1) := by decide +kernel
theorem cd_F_published_5 : decode cb_F_published 5 = .ok (.invokevirtual 87, 3) := by decide +kernel
theorem cd_F_published_8 : decode cb_F_published 8 = .ok (.ifCond .ne 5, 3) := by decide +kernel
theorem cd_F_published_11 : decode cb_F_published 11 = .ok (.iconst (-1), 1) := by decide +kernel
theorem cd_F_published_12 : decode cb_F_published 12 = .ok (.ireturn, 1) := by decide +kernel
theorem cd_F_published_13 : decode cb_F_published 13 = .ok (.aload_n 0, 1) := by decide +kernel
theorem cd_F_published_14 : decode cb_F_published 14 = .ok (.getfield 19, 3) := by decide +kernel
theorem cd_F_published_17 : decode cb_F_published 17 = .ok (.getfield 179, 3) := by decide +kernel
theorem cd_F_published_20 : decode cb_F_published 20 = .ok (.iload_n 1, 1) := by decide +kernel
theorem cd_F_published_21 : decode cb_F_published 21 = .ok (.iload_n 2, 1) := by decide +kernel
theorem cd_F_published_22 : decode cb_F_published 22 = .ok (.ifCond .ne 7, 3) := by decide +kernel
theorem cd_F_published_25 : decode cb_F_published 25 = .ok (.iconst 1, 1) := by decide +kernel
theorem cd_F_published_26 : decode cb_F_published 26 = .ok (.goto 4, 3) := by decide +kernel
theorem cd_F_published_29 : decode cb_F_published 29 = .ok (.iconst 0, 1) := by decide +kernel
theorem cd_F_published_30 : decode cb_F_published 30 = .ok (.bastore, 1) := by decide +kernel
theorem cd_F_published_31 : decode cb_F_published 31 = .ok (.aload_n 0, 1) := by decide +kernel
theorem cd_F_published_32 : decode cb_F_published 32 = .ok (.iload_n 1, 1) := by decide +kernel
theorem cd_F_published_33 : decode cb_F_published 33 = .ok (.invokevirtual 183, 3) := by decide +kernel
theorem cd_F_published_36 : decode cb_F_published 36 = .ok (.ifCond .eq 7, 3) := by decide +kernel
theorem cd_F_published_39 : decode cb_F_published 39 = .ok (.iconst 1, 1) := by decide +kernel
theorem cd_F_published_40 : decode cb_F_published 40 = .ok (.goto 4, 3) := by decide +kernel
theorem cd_F_published_43 : decode cb_F_published 43 = .ok (.iconst 0, 1) := by decide +kernel
theorem cd_F_published_44 : decode cb_F_published 44 = .ok (.ireturn, 1) := by decide +kernel
theorem cd_F_merge_0 : decode cb_F_merge 0 = .ok (.aload_n 0, 1) := by decide +kernel
theorem cd_F_merge_1 : decode cb_F_merge 1 = .ok (.getfield 10, 3) := by decide +kernel
theorem cd_F_merge_4 : decode cb_F_merge 4 = .ok (.invokevirtual 58, 3) := by decide +kernel
theorem cd_F_merge_7 : decode cb_F_merge 7 = .ok (.ifCond .ne 13, 3) := by decide +kernel
theorem cd_F_merge_10 : decode cb_F_merge 10 = .ok (.new 62, 3) := by decide +kernel
theorem cd_F_merge_13 : decode cb_F_merge 13 = .ok (.dup, 1) := by decide +kernel
theorem cd_F_merge_14 : decode cb_F_merge 14 = .ok (.ldc 64, 2) := by decide +kernel
theorem cd_F_merge_16 : decode cb_F_merge 16 = .ok (.invokespecial 66, 3) := by decide +kernel
theorem cd_F_merge_19 : decode cb_F_merge 19 = .ok (.athrow, 1) := by decide +kernel
theorem cd_F_merge_20 : decode cb_F_merge 20 = .ok (.aload_n 0, 1) := by decide +kernel
theorem cd_F_merge_21 : decode cb_F_merge 21 = .ok (.aload_n 0, 1) := by decide +kernel
theorem cd_F_merge_22 : decode cb_F_merge 22 = .ok (.getfield 10, 3) := by decide +kernel
theorem cd_F_merge_25 : decode cb_F_merge 25 = .ok (.aload_n 0, 1) := by decide +kernel
theorem cd_F_merge_26 : decode cb_F_merge 26 = .ok (.getfield 51, 3) := by decide +kernel
theorem cd_F_merge_29 : decode cb_F_merge 29 = .ok (.invokevirtual 69, 3) := by decide +kernel
theorem cd_F_merge_32 : decode cb_F_merge 32 = .ok (.putfield 51, 3) := by decide +kernel
theorem cd_F_merge_35 : decode cb_F_merge 35 = .ok (.aload_n 0, 1) := by decide +kernel
theorem cd_F_merge_36 : decode cb_F_merge 36 = .ok (.getfield 33, 3) := by decide +kernel
theorem cd_F_merge_39 : decode cb_F_merge 39 = .ok (.aload_n 0, 1) := by decide +kernel
theorem cd_F_merge_40 : decode cb_F_merge 40 = .ok (.getfield 47, 3) := by decide +kernel
theorem cd_F_merge_43 : decode cb_F_merge 43 = .ok (.aload_n 0, 1) := by decide +kernel
theorem cd_F_merge_44 : decode cb_F_merge 44 = .ok (.getfield 51, 3) := by decide +kernel
theorem cd_F_merge_47 : decode cb_F_merge 47 = .ok (.invokevirtual 186, 3) := by decide +kernel
theorem cd_F_merge_50 : decode cb_F_merge 50 = .ok (.aload_n 0, 1) := by decide +kernel
theorem cd_F_merge_51 : decode cb_F_merge 51 = .ok (.getfield 33, 3) := by decide +kernel
theorem cd_F_merge_54 : decode cb_F_merge 54 = .ok (.getfield 190, 3) := by decide +kernel
theorem cd_F_merge_57 : decode cb_F_merge 57 = .ok (.ireturn, 1) := by decide +kernel
theorem cd_F_ask_0 : decode cb_F_ask 0 = .ok (.aload_n 0, 1) := by decide +kernel
theorem cd_F_ask_1 : decode cb_F_ask 1 = .ok (.getfield 33, 3) := by decide +kernel
theorem cd_F_ask_4 : decode cb_F_ask 4 = .ok (.iload_n 1, 1) := by decide +kernel
theorem cd_F_ask_5 : decode cb_F_ask 5 = .ok (.invokevirtual 191, 3) := by decide +kernel
theorem cd_F_ask_8 : decode cb_F_ask 8 = .ok (.ifCond .ne 5, 3) := by decide +kernel
theorem cd_F_ask_11 : decode cb_F_ask 11 = .ok (.iconst (-1), 1) := by decide +kernel
theorem cd_F_ask_12 : decode cb_F_ask 12 = .ok (.ireturn, 1) := by decide +kernel
theorem cd_F_ask_13 : decode cb_F_ask 13 = .ok (.iload_n 2, 1) := by decide +kernel
theorem cd_F_ask_14 : decode cb_F_ask 14 = .ok (.lookupswitch 46 #[(0, 26), (1, 36)], 26) := by decide +kernel
theorem cd_F_ask_40 : decode cb_F_ask 40 = .ok (.aload_n 0, 1) := by decide +kernel
theorem cd_F_ask_41 : decode cb_F_ask 41 = .ok (.getfield 33, 3) := by decide +kernel
theorem cd_F_ask_44 : decode cb_F_ask 44 = .ok (.getfield 192, 3) := by decide +kernel
theorem cd_F_ask_47 : decode cb_F_ask 47 = .ok (.iload_n 1, 1) := by decide +kernel
theorem cd_F_ask_48 : decode cb_F_ask 48 = .ok (.iaload, 1) := by decide +kernel
theorem cd_F_ask_49 : decode cb_F_ask 49 = .ok (.ireturn, 1) := by decide +kernel
theorem cd_F_ask_50 : decode cb_F_ask 50 = .ok (.aload_n 0, 1) := by decide +kernel
theorem cd_F_ask_51 : decode cb_F_ask 51 = .ok (.getfield 33, 3) := by decide +kernel
theorem cd_F_ask_54 : decode cb_F_ask 54 = .ok (.getfield 195, 3) := by decide +kernel
theorem cd_F_ask_57 : decode cb_F_ask 57 = .ok (.iload_n 1, 1) := by decide +kernel
theorem cd_F_ask_58 : decode cb_F_ask 58 = .ok (.iaload, 1) := by decide +kernel
theorem cd_F_ask_59 : decode cb_F_ask 59 = .ok (.ireturn, 1) := by decide +kernel
theorem cd_F_ask_60 : decode cb_F_ask 60 = .ok (.iconst (-1), 1) := by decide +kernel
theorem cd_F_ask_61 : decode cb_F_ask 61 = .ok (.ireturn, 1) := by decide +kernel
theorem cd_F_take_0 : decode cb_F_take 0 = .ok (.aload_n 0, 1) := by decide +kernel
theorem cd_F_take_1 : decode cb_F_take 1 = .ok (.getfield 33, 3) := by decide +kernel
theorem cd_F_take_4 : decode cb_F_take 4 = .ok (.iload_n 1, 1) := by decide +kernel
theorem cd_F_take_5 : decode cb_F_take 5 = .ok (.invokevirtual 191, 3) := by decide +kernel
theorem cd_F_take_8 : decode cb_F_take 8 = .ok (.ifCond .ne 5, 3) := by decide +kernel
theorem cd_F_take_11 : decode cb_F_take 11 = .ok (.iconst (-1), 1) := by decide +kernel
theorem cd_F_take_12 : decode cb_F_take 12 = .ok (.ireturn, 1) := by decide +kernel
theorem cd_F_take_13 : decode cb_F_take 13 = .ok (.aload_n 0, 1) := by decide +kernel
theorem cd_F_take_14 : decode cb_F_take 14 = .ok (.getfield 33, 3) := by decide +kernel
theorem cd_F_take_17 : decode cb_F_take 17 = .ok (.getfield 76, 3) := by decide +kernel
theorem cd_F_take_20 : decode cb_F_take 20 = .ok (.ifCond .ne 15, 3) := by decide +kernel
theorem cd_F_take_23 : decode cb_F_take 23 = .ok (.aload_n 0, 1) := by decide +kernel
theorem cd_F_take_24 : decode cb_F_take 24 = .ok (.getfield 33, 3) := by decide +kernel
theorem cd_F_take_27 : decode cb_F_take 27 = .ok (.getfield 198, 3) := by decide +kernel
theorem cd_F_take_30 : decode cb_F_take 30 = .ok (.iload_n 1, 1) := by decide +kernel
theorem cd_F_take_31 : decode cb_F_take 31 = .ok (.baload, 1) := by decide +kernel
theorem cd_F_take_32 : decode cb_F_take 32 = .ok (.ifCond .eq 5, 3) := by decide +kernel
theorem cd_F_take_35 : decode cb_F_take 35 = .ok (.iconst 0, 1) := by decide +kernel
theorem cd_F_take_36 : decode cb_F_take 36 = .ok (.ireturn, 1) := by decide +kernel
theorem cd_F_take_37 : decode cb_F_take 37 = .ok (.aload_n 0, 1) := by decide +kernel
theorem cd_F_take_38 : decode cb_F_take 38 = .ok (.getfield 47, 3) := by decide +kernel
theorem cd_F_take_41 : decode cb_F_take 41 = .ok (.aload_n 0, 1) := by decide +kernel
theorem cd_F_take_42 : decode cb_F_take 42 = .ok (.getfield 33, 3) := by decide +kernel
theorem cd_F_take_45 : decode cb_F_take 45 = .ok (.getfield 192, 3) := by decide +kernel
theorem cd_F_take_48 : decode cb_F_take 48 = .ok (.iload_n 1, 1) := by decide +kernel
theorem cd_F_take_49 : decode cb_F_take 49 = .ok (.iaload, 1) := by decide +kernel
theorem cd_F_take_50 : decode cb_F_take 50 = .ok (.aload_n 0, 1) := by decide +kernel
theorem cd_F_take_51 : decode cb_F_take 51 = .ok (.getfield 51, 3) := by decide +kernel
theorem cd_F_take_54 : decode cb_F_take 54 = .ok (.aload_n 0, 1) := by decide +kernel
theorem cd_F_take_55 : decode cb_F_take 55 = .ok (.getfield 33, 3) := by decide +kernel
theorem cd_F_take_58 : decode cb_F_take 58 = .ok (.getfield 201, 3) := by decide +kernel
theorem cd_F_take_61 : decode cb_F_take 61 = .ok (.iload_n 1, 1) := by decide +kernel
theorem cd_F_take_62 : decode cb_F_take 62 = .ok (.iaload, 1) := by decide +kernel
theorem cd_F_take_63 : decode cb_F_take 63 = .ok (.invokevirtual 204, 3) := by decide +kernel
theorem cd_F_take_66 : decode cb_F_take 66 = .ok (.aload_n 0, 1) := by decide +kernel
theorem cd_F_take_67 : decode cb_F_take 67 = .ok (.getfield 33, 3) := by decide +kernel
theorem cd_F_take_70 : decode cb_F_take 70 = .ok (.getfield 198, 3) := by decide +kernel
theorem cd_F_take_73 : decode cb_F_take 73 = .ok (.iload_n 1, 1) := by decide +kernel
theorem cd_F_take_74 : decode cb_F_take 74 = .ok (.iconst 1, 1) := by decide +kernel
theorem cd_F_take_75 : decode cb_F_take 75 = .ok (.bastore, 1) := by decide +kernel
theorem cd_F_take_76 : decode cb_F_take 76 = .ok (.iconst 1, 1) := by decide +kernel
theorem cd_F_take_77 : decode cb_F_take 77 = .ok (.ireturn, 1) := by decide +kernel
theorem cd_F_print_0 : decode cb_F_print 0 = .ok (.aload_n 0, 1) := by decide +kernel
theorem cd_F_print_1 : decode cb_F_print 1 = .ok (.getfield 40, 3) := by decide +kernel
theorem cd_F_print_4 : decode cb_F_print 4 = .ok (.aload_n 0, 1) := by decide +kernel
theorem cd_F_print_5 : decode cb_F_print 5 = .ok (.getfield 47, 3) := by decide +kernel
theorem cd_F_print_8 : decode cb_F_print 8 = .ok (.aload_n 0, 1) := by decide +kernel
theorem cd_F_print_9 : decode cb_F_print 9 = .ok (.getfield 19, 3) := by decide +kernel
theorem cd_F_print_12 : decode cb_F_print 12 = .ok (.invokevirtual 208, 3) := by decide +kernel
theorem cd_F_print_15 : decode cb_F_print 15 = .ok (.aload_n 0, 1) := by decide +kernel
theorem cd_F_print_16 : decode cb_F_print 16 = .ok (.getfield 40, 3) := by decide +kernel
theorem cd_F_print_19 : decode cb_F_print 19 = .ok (.getfield 212, 3) := by decide +kernel
theorem cd_F_print_22 : decode cb_F_print 22 = .ok (.ireturn, 1) := by decide +kernel
theorem cd_F_at_0 : decode cb_F_at 0 = .ok (.iload_n 1, 1) := by decide +kernel
theorem cd_F_at_1 : decode cb_F_at 1 = .ok (.ifCond .lt 14, 3) := by decide +kernel
theorem cd_F_at_4 : decode cb_F_at 4 = .ok (.iload_n 1, 1) := by decide +kernel
theorem cd_F_at_5 : decode cb_F_at 5 = .ok (.aload_n 0, 1) := by decide +kernel
theorem cd_F_at_6 : decode cb_F_at 6 = .ok (.getfield 40, 3) := by decide +kernel
theorem cd_F_at_9 : decode cb_F_at 9 = .ok (.getfield 212, 3) := by decide +kernel
theorem cd_F_at_12 : decode cb_F_at 12 = .ok (.if_icmp .lt 5, 3) := by decide +kernel
theorem cd_F_at_15 : decode cb_F_at 15 = .ok (.iconst (-1), 1) := by decide +kernel
theorem cd_F_at_16 : decode cb_F_at 16 = .ok (.ireturn, 1) := by decide +kernel
theorem cd_F_at_17 : decode cb_F_at 17 = .ok (.aload_n 0, 1) := by decide +kernel
theorem cd_F_at_18 : decode cb_F_at 18 = .ok (.getfield 40, 3) := by decide +kernel
theorem cd_F_at_21 : decode cb_F_at 21 = .ok (.getfield 215, 3) := by decide +kernel
theorem cd_F_at_24 : decode cb_F_at 24 = .ok (.iload_n 1, 1) := by decide +kernel
theorem cd_F_at_25 : decode cb_F_at 25 = .ok (.iaload, 1) := by decide +kernel
theorem cd_F_at_26 : decode cb_F_at 26 = .ok (.ireturn, 1) := by decide +kernel
theorem cd_F_isShown_0 : decode cb_F_isShown 0 = .ok (.iload_n 1, 1) := by decide +kernel
theorem cd_F_isShown_1 : decode cb_F_isShown 1 = .ok (.istore_n 2, 1) := by decide +kernel
theorem cd_F_isShown_2 : decode cb_F_isShown 2 = .ok (.iconst 0, 1) := by decide +kernel
theorem cd_F_isShown_3 : decode cb_F_isShown 3 = .ok (.istore_n 3, 1) := by decide +kernel
theorem cd_F_isShown_4 : decode cb_F_isShown 4 = .ok (.iload_n 3, 1) := by decide +kernel
theorem cd_F_isShown_5 : decode cb_F_isShown 5 = .ok (.bipush 8, 2) := by decide +kernel
theorem cd_F_isShown_7 : decode cb_F_isShown 7 = .ok (.if_icmp .gt 44, 3) := by decide +kernel
theorem cd_F_isShown_10 : decode cb_F_isShown 10 = .ok (.aload_n 0, 1) := by decide +kernel
theorem cd_F_isShown_11 : decode cb_F_isShown 11 = .ok (.getfield 47, 3) := by decide +kernel
theorem cd_F_isShown_14 : decode cb_F_isShown 14 = .ok (.iload_n 2, 1) := by decide +kernel
theorem cd_F_isShown_15 : decode cb_F_isShown 15 = .ok (.invokevirtual 87, 3) := by decide +kernel
theorem cd_F_isShown_18 : decode cb_F_isShown 18 = .ok (.ifCond .eq 33, 3) := by decide +kernel
theorem cd_F_isShown_21 : decode cb_F_isShown 21 = .ok (.aload_n 0, 1) := by decide +kernel
theorem cd_F_isShown_22 : decode cb_F_isShown 22 = .ok (.getfield 19, 3) := by decide +kernel
theorem cd_F_isShown_25 : decode cb_F_isShown 25 = .ok (.getfield 179, 3) := by decide +kernel
theorem cd_F_isShown_28 : decode cb_F_isShown 28 = .ok (.iload_n 2, 1) := by decide +kernel
theorem cd_F_isShown_29 : decode cb_F_isShown 29 = .ok (.baload, 1) := by decide +kernel
theorem cd_F_isShown_30 : decode cb_F_isShown 30 = .ok (.ifCond .eq 5, 3) := by decide +kernel
theorem cd_F_isShown_33 : decode cb_F_isShown 33 = .ok (.iconst 0, 1) := by decide +kernel
theorem cd_F_isShown_34 : decode cb_F_isShown 34 = .ok (.ireturn, 1) := by decide +kernel
theorem cd_F_isShown_35 : decode cb_F_isShown 35 = .ok (.aload_n 0, 1) := by decide +kernel
theorem cd_F_isShown_36 : decode cb_F_isShown 36 = .ok (.getfield 47, 3) := by decide +kernel
theorem cd_F_isShown_39 : decode cb_F_isShown 39 = .ok (.getfield 98, 3) := by decide +kernel
theorem cd_F_isShown_42 : decode cb_F_isShown 42 = .ok (.iload_n 2, 1) := by decide +kernel
theorem cd_F_isShown_43 : decode cb_F_isShown 43 = .ok (.iaload, 1) := by decide +kernel
theorem cd_F_isShown_44 : decode cb_F_isShown 44 = .ok (.istore_n 2, 1) := by decide +kernel
theorem cd_F_isShown_45 : decode cb_F_isShown 45 = .ok (.iinc 3 1, 3) := by decide +kernel
theorem cd_F_isShown_48 : decode cb_F_isShown 48 = .ok (.goto (-44), 3) := by decide +kernel
theorem cd_F_isShown_51 : decode cb_F_isShown 51 = .ok (.iconst 1, 1) := by decide +kernel
theorem cd_F_isShown_52 : decode cb_F_isShown 52 = .ok (.ireturn, 1) := by decide +kernel
theorem cd_F_isRestrictionKind_0 : decode cb_F_isRestrictionKind 0 = .ok (.iload_n 0, 1) := by decide +kernel
theorem cd_F_isRestrictionKind_1 : decode cb_F_isRestrictionKind 1 = .ok (.ifCond .lt 12, 3) := by decide +kernel
theorem cd_F_isRestrictionKind_4 : decode cb_F_isRestrictionKind 4 = .ok (.iload_n 0, 1) := by decide +kernel
theorem cd_F_isRestrictionKind_5 : decode cb_F_isRestrictionKind 5 = .ok (.iconst 4, 1) := by decide +kernel
theorem cd_F_isRestrictionKind_6 : decode cb_F_isRestrictionKind 6 = .ok (.if_icmp .ge 7, 3) := by decide +kernel
theorem cd_F_isRestrictionKind_9 : decode cb_F_isRestrictionKind 9 = .ok (.iconst 1, 1) := by decide +kernel
theorem cd_F_isRestrictionKind_10 : decode cb_F_isRestrictionKind 10 = .ok (.goto 4, 3) := by decide +kernel
theorem cd_F_isRestrictionKind_13 : decode cb_F_isRestrictionKind 13 = .ok (.iconst 0, 1) := by decide +kernel
theorem cd_F_isRestrictionKind_14 : decode cb_F_isRestrictionKind 14 = .ok (.ireturn, 1) := by decide +kernel
theorem cd_F_order_0 : decode cb_F_order 0 = .ok (.iload_n 0, 1) := by decide +kernel
theorem cd_F_order_1 : decode cb_F_order 1 = .ok (.iload_n 1, 1) := by decide +kernel
theorem cd_F_order_2 : decode cb_F_order 2 = .ok (.if_icmp .ne 5, 3) := by decide +kernel
theorem cd_F_order_5 : decode cb_F_order 5 = .ok (.iconst 0, 1) := by decide +kernel
theorem cd_F_order_6 : decode cb_F_order 6 = .ok (.ireturn, 1) := by decide +kernel
theorem cd_F_order_7 : decode cb_F_order 7 = .ok (.iload_n 0, 1) := by decide +kernel
theorem cd_F_order_8 : decode cb_F_order 8 = .ok (.iload_n 1, 1) := by decide +kernel
theorem cd_F_order_9 : decode cb_F_order 9 = .ok (.if_icmp .ge 7, 3) := by decide +kernel
theorem cd_F_order_12 : decode cb_F_order 12 = .ok (.iconst (-1), 1) := by decide +kernel
theorem cd_F_order_13 : decode cb_F_order 13 = .ok (.goto 4, 3) := by decide +kernel
theorem cd_F_order_16 : decode cb_F_order 16 = .ok (.iconst 1, 1) := by decide +kernel
theorem cd_F_order_17 : decode cb_F_order 17 = .ok (.ireturn, 1) := by decide +kernel
theorem cd_F_indexIn_0 : decode cb_F_indexIn 0 = .ok (.iconst 0, 1) := by decide +kernel
theorem cd_F_indexIn_1 : decode cb_F_indexIn 1 = .ok (.istore_n 2, 1) := by decide +kernel
theorem cd_F_indexIn_2 : decode cb_F_indexIn 2 = .ok (.iload_n 2, 1) := by decide +kernel
theorem cd_F_indexIn_3 : decode cb_F_indexIn 3 = .ok (.aload_n 0, 1) := by decide +kernel
theorem cd_F_indexIn_4 : decode cb_F_indexIn 4 = .ok (.arraylength, 1) := by decide +kernel
theorem cd_F_indexIn_5 : decode cb_F_indexIn 5 = .ok (.if_icmp .ge 18, 3) := by decide +kernel
theorem cd_F_indexIn_8 : decode cb_F_indexIn 8 = .ok (.aload_n 0, 1) := by decide +kernel
theorem cd_F_indexIn_9 : decode cb_F_indexIn 9 = .ok (.iload_n 2, 1) := by decide +kernel
theorem cd_F_indexIn_10 : decode cb_F_indexIn 10 = .ok (.caload, 1) := by decide +kernel
theorem cd_F_indexIn_11 : decode cb_F_indexIn 11 = .ok (.iload_n 1, 1) := by decide +kernel
theorem cd_F_indexIn_12 : decode cb_F_indexIn 12 = .ok (.if_icmp .ne 5, 3) := by decide +kernel
theorem cd_F_indexIn_15 : decode cb_F_indexIn 15 = .ok (.iload_n 2, 1) := by decide +kernel
theorem cd_F_indexIn_16 : decode cb_F_indexIn 16 = .ok (.ireturn, 1) := by decide +kernel
theorem cd_F_indexIn_17 : decode cb_F_indexIn 17 = .ok (.iinc 2 1, 3) := by decide +kernel
theorem cd_F_indexIn_20 : decode cb_F_indexIn 20 = .ok (.goto (-18), 3) := by decide +kernel
theorem cd_F_indexIn_23 : decode cb_F_indexIn 23 = .ok (.iconst (-1), 1) := by decide +kernel
theorem cd_F_indexIn_24 : decode cb_F_indexIn 24 = .ok (.ireturn, 1) := by decide +kernel
theorem cd_T_init_0 : decode cb_T_init 0 = .ok (.aload_n 0, 1) := by decide +kernel
theorem cd_T_init_1 : decode cb_T_init 1 = .ok (.invokespecial 3, 3) := by decide +kernel
theorem cd_T_init_4 : decode cb_T_init 4 = .ok (.aload_n 0, 1) := by decide +kernel
theorem cd_T_init_5 : decode cb_T_init 5 = .ok (.sipush 3000, 3) := by decide +kernel
theorem cd_T_init_8 : decode cb_T_init 8 = .ok (.newarray .int, 2) := by decide +kernel
theorem cd_T_init_10 : decode cb_T_init 10 = .ok (.putfield 9, 3) := by decide +kernel
theorem cd_T_init_13 : decode cb_T_init 13 = .ok (.aload_n 0, 1) := by decide +kernel
theorem cd_T_init_14 : decode cb_T_init 14 = .ok (.iconst 0, 1) := by decide +kernel
theorem cd_T_init_15 : decode cb_T_init 15 = .ok (.putfield 15, 3) := by decide +kernel
theorem cd_T_init_18 : decode cb_T_init 18 = .ok (.aload_n 0, 1) := by decide +kernel
theorem cd_T_init_19 : decode cb_T_init 19 = .ok (.iconst 0, 1) := by decide +kernel
theorem cd_T_init_20 : decode cb_T_init 20 = .ok (.putfield 19, 3) := by decide +kernel
theorem cd_T_init_23 : decode cb_T_init 23 = .ok (.aload_n 0, 1) := by decide +kernel
theorem cd_T_init_24 : decode cb_T_init 24 = .ok (.iconst (-1), 1) := by decide +kernel
theorem cd_T_init_25 : decode cb_T_init 25 = .ok (.putfield 22, 3) := by decide +kernel
theorem cd_T_init_28 : decode cb_T_init 28 = .ok (.aload_n 0, 1) := by decide +kernel
theorem cd_T_init_29 : decode cb_T_init 29 = .ok (.new 25, 3) := by decide +kernel
theorem cd_T_init_32 : decode cb_T_init 32 = .ok (.dup, 1) := by decide +kernel
theorem cd_T_init_33 : decode cb_T_init 33 = .ok (.invokespecial 27, 3) := by decide +kernel
theorem cd_T_init_36 : decode cb_T_init 36 = .ok (.putfield 28, 3) := by decide +kernel
theorem cd_T_init_39 : decode cb_T_init 39 = .ok (.return_, 1) := by decide +kernel
theorem cd_T_hear_0 : decode cb_T_hear 0 = .ok (.aload_n 0, 1) := by decide +kernel
theorem cd_T_hear_1 : decode cb_T_hear 1 = .ok (.getfield 15, 3) := by decide +kernel
theorem cd_T_hear_4 : decode cb_T_hear 4 = .ok (.sipush 3000, 3) := by decide +kernel
theorem cd_T_hear_7 : decode cb_T_hear 7 = .ok (.if_icmp .ge 23, 3) := by decide +kernel
theorem cd_T_hear_10 : decode cb_T_hear 10 = .ok (.aload_n 0, 1) := by decide +kernel
theorem cd_T_hear_11 : decode cb_T_hear 11 = .ok (.getfield 9, 3) := by decide +kernel
theorem cd_T_hear_14 : decode cb_T_hear 14 = .ok (.aload_n 0, 1) := by decide +kernel
theorem cd_T_hear_15 : decode cb_T_hear 15 = .ok (.getfield 15, 3) := by decide +kernel
theorem cd_T_hear_18 : decode cb_T_hear 18 = .ok (.iload_n 1, 1) := by decide +kernel
theorem cd_T_hear_19 : decode cb_T_hear 19 = .ok (.iastore, 1) := by decide +kernel
theorem cd_T_hear_20 : decode cb_T_hear 20 = .ok (.aload_n 0, 1) := by decide +kernel
theorem cd_T_hear_21 : decode cb_T_hear 21 = .ok (.dup, 1) := by decide +kernel
theorem cd_T_hear_22 : decode cb_T_hear 22 = .ok (.getfield 15, 3) := by decide +kernel
theorem cd_T_hear_25 : decode cb_T_hear 25 = .ok (.iconst 1, 1) := by decide +kernel
theorem cd_T_hear_26 : decode cb_T_hear 26 = .ok (.iadd, 1) := by decide +kernel
theorem cd_T_hear_27 : decode cb_T_hear 27 = .ok (.putfield 15, 3) := by decide +kernel
theorem cd_T_hear_30 : decode cb_T_hear 30 = .ok (.return_, 1) := by decide +kernel
theorem cd_T_exchange_0 : decode cb_T_exchange 0 = .ok (.aload_n 0, 1) := by decide +kernel
theorem cd_T_exchange_1 : decode cb_T_exchange 1 = .ok (.getfield 28, 3) := by decide +kernel
theorem cd_T_exchange_4 : decode cb_T_exchange 4 = .ok (.astore_n 2, 1) := by decide +kernel
theorem cd_T_exchange_5 : decode cb_T_exchange 5 = .ok (.aload_n 0, 1) := by decide +kernel
theorem cd_T_exchange_6 : decode cb_T_exchange 6 = .ok (.aload_n 1, 1) := by decide +kernel
theorem cd_T_exchange_7 : decode cb_T_exchange 7 = .ok (.putfield 28, 3) := by decide +kernel
theorem cd_T_exchange_10 : decode cb_T_exchange 10 = .ok (.aload_n 2, 1) := by decide +kernel
theorem cd_T_exchange_11 : decode cb_T_exchange 11 = .ok (.areturn, 1) := by decide +kernel
theorem cd_T_readText_0 : decode cb_T_readText 0 = .ok (.aload_n 0, 1) := by decide +kernel
theorem cd_T_readText_1 : decode cb_T_readText 1 = .ok (.iconst 0, 1) := by decide +kernel
theorem cd_T_readText_2 : decode cb_T_readText 2 = .ok (.putfield 19, 3) := by decide +kernel
theorem cd_T_readText_5 : decode cb_T_readText 5 = .ok (.aload_n 0, 1) := by decide +kernel
theorem cd_T_readText_6 : decode cb_T_readText 6 = .ok (.iconst (-1), 1) := by decide +kernel
theorem cd_T_readText_7 : decode cb_T_readText 7 = .ok (.putfield 22, 3) := by decide +kernel
theorem cd_T_readText_10 : decode cb_T_readText 10 = .ok (.aload_n 0, 1) := by decide +kernel
theorem cd_T_readText_11 : decode cb_T_readText 11 = .ok (.getfield 28, 3) := by decide +kernel
theorem cd_T_readText_14 : decode cb_T_readText 14 = .ok (.iconst 0, 1) := by decide +kernel
theorem cd_T_readText_15 : decode cb_T_readText 15 = .ok (.putfield 32, 3) := by decide +kernel
theorem cd_T_readText_18 : decode cb_T_readText 18 = .ok (.aload_n 0, 1) := by decide +kernel
theorem cd_T_readText_19 : decode cb_T_readText 19 = .ok (.invokevirtual 35, 3) := by decide +kernel
theorem cd_T_readText_22 : decode cb_T_readText 22 = .ok (.istore_n 1, 1) := by decide +kernel
theorem cd_T_readText_23 : decode cb_T_readText 23 = .ok (.aload_n 0, 1) := by decide +kernel
theorem cd_T_readText_24 : decode cb_T_readText 24 = .ok (.iconst 0, 1) := by decide +kernel
theorem cd_T_readText_25 : decode cb_T_readText 25 = .ok (.putfield 15, 3) := by decide +kernel
theorem cd_T_readText_28 : decode cb_T_readText 28 = .ok (.iload_n 1, 1) := by decide +kernel
theorem cd_T_readText_29 : decode cb_T_readText 29 = .ok (.ireturn, 1) := by decide +kernel
theorem cd_T_readLines_0 : decode cb_T_readLines 0 = .ok (.iconst 0, 1) := by decide +kernel
theorem cd_T_readLines_1 : decode cb_T_readLines 1 = .ok (.istore_n 1, 1) := by decide +kernel
theorem cd_T_readLines_2 : decode cb_T_readLines 2 = .ok (.iload_n 1, 1) := by decide +kernel
theorem cd_T_readLines_3 : decode cb_T_readLines 3 = .ok (.bipush 100, 2) := by decide +kernel
theorem cd_T_readLines_5 : decode cb_T_readLines 5 = .ok (.if_icmp .ge 32, 3) := by decide +kernel
theorem cd_T_readLines_8 : decode cb_T_readLines 8 = .ok (.aload_n 0, 1) := by decide +kernel
theorem cd_T_readLines_9 : decode cb_T_readLines 9 = .ok (.iload_n 1, 1) := by decide +kernel
theorem cd_T_readLines_10 : decode cb_T_readLines 10 = .ok (.invokevirtual 39, 3) := by decide +kernel
theorem cd_T_readLines_13 : decode cb_T_readLines 13 = .ok (.ifCond .ne 5, 3) := by decide +kernel
theorem cd_T_readLines_16 : decode cb_T_readLines 16 = .ok (.iconst 0, 1) := by decide +kernel
theorem cd_T_readLines_17 : decode cb_T_readLines 17 = .ok (.ireturn, 1) := by decide +kernel
theorem cd_T_readLines_18 : decode cb_T_readLines 18 = .ok (.aload_n 0, 1) := by decide +kernel
theorem cd_T_readLines_19 : decode cb_T_readLines 19 = .ok (.getfield 19, 3) := by decide +kernel
theorem cd_T_readLines_22 : decode cb_T_readLines 22 = .ok (.aload_n 0, 1) := by decide +kernel
theorem cd_T_readLines_23 : decode cb_T_readLines 23 = .ok (.getfield 15, 3) := by decide +kernel
theorem cd_T_readLines_26 : decode cb_T_readLines 26 = .ok (.if_icmp .lt 5, 3) := by decide +kernel
theorem cd_T_readLines_29 : decode cb_T_readLines 29 = .ok (.iconst 1, 1) := by decide +kernel
theorem cd_T_readLines_30 : decode cb_T_readLines 30 = .ok (.ireturn, 1) := by decide +kernel
theorem cd_T_readLines_31 : decode cb_T_readLines 31 = .ok (.iinc 1 1, 3) := by decide +kernel
theorem cd_T_readLines_34 : decode cb_T_readLines 34 = .ok (.goto (-32), 3) := by decide +kernel
theorem cd_T_readLines_37 : decode cb_T_readLines 37 = .ok (.aload_n 0, 1) := by decide +kernel
theorem cd_T_readLines_38 : decode cb_T_readLines 38 = .ok (.aload_n 0, 1) := by decide +kernel
theorem cd_T_readLines_39 : decode cb_T_readLines 39 = .ok (.getfield 19, 3) := by decide +kernel
theorem cd_T_readLines_42 : decode cb_T_readLines 42 = .ok (.invokevirtual 43, 3) := by decide +kernel
theorem cd_T_readLines_45 : decode cb_T_readLines 45 = .ok (.ireturn, 1) := by decide +kernel
theorem cd_T_readLine_0 : decode cb_T_readLine 0 = .ok (.aload_n 0, 1) := by decide +kernel
theorem cd_T_readLine_1 : decode cb_T_readLine 1 = .ok (.iload_n 1, 1) := by decide +kernel
theorem cd_T_readLine_2 : decode cb_T_readLine 2 = .ok (.invokevirtual 46, 3) := by decide +kernel
theorem cd_T_readLine_5 : decode cb_T_readLine 5 = .ok (.ifCond .eq 56, 3) := by decide +kernel
theorem cd_T_readLine_8 : decode cb_T_readLine 8 = .ok (.aload_n 0, 1) := by decide +kernel
theorem cd_T_readLine_9 : decode cb_T_readLine 9 = .ok (.iload_n 1, 1) := by decide +kernel
theorem cd_T_readLine_10 : decode cb_T_readLine 10 = .ok (.invokevirtual 49, 3) := by decide +kernel
theorem cd_T_readLine_13 : decode cb_T_readLine 13 = .ok (.ifCond .eq 48, 3) := by decide +kernel
theorem cd_T_readLine_16 : decode cb_T_readLine 16 = .ok (.aload_n 0, 1) := by decide +kernel
theorem cd_T_readLine_17 : decode cb_T_readLine 17 = .ok (.iload_n 1, 1) := by decide +kernel
theorem cd_T_readLine_18 : decode cb_T_readLine 18 = .ok (.invokevirtual 52, 3) := by decide +kernel
theorem cd_T_readLine_21 : decode cb_T_readLine 21 = .ok (.ifCond .eq 40, 3) := by decide +kernel
theorem cd_T_readLine_24 : decode cb_T_readLine 24 = .ok (.aload_n 0, 1) := by decide +kernel
theorem cd_T_readLine_25 : decode cb_T_readLine 25 = .ok (.iload_n 1, 1) := by decide +kernel
theorem cd_T_readLine_26 : decode cb_T_readLine 26 = .ok (.invokevirtual 55, 3) := by decide +kernel
theorem cd_T_readLine_29 : decode cb_T_readLine 29 = .ok (.ifCond .eq 32, 3) := by decide +kernel
theorem cd_T_readLine_32 : decode cb_T_readLine 32 = .ok (.aload_n 0, 1) := by decide +kernel
theorem cd_T_readLine_33 : decode cb_T_readLine 33 = .ok (.iload_n 1, 1) := by decide +kernel
theorem cd_T_readLine_34 : decode cb_T_readLine 34 = .ok (.invokevirtual 58, 3) := by decide +kernel
theorem cd_T_readLine_37 : decode cb_T_readLine 37 = .ok (.ifCond .eq 24, 3) := by decide +kernel
theorem cd_T_readLine_40 : decode cb_T_readLine 40 = .ok (.aload_n 0, 1) := by decide +kernel
theorem cd_T_readLine_41 : decode cb_T_readLine 41 = .ok (.iload_n 1, 1) := by decide +kernel
theorem cd_T_readLine_42 : decode cb_T_readLine 42 = .ok (.invokevirtual 61, 3) := by decide +kernel
theorem cd_T_readLine_45 : decode cb_T_readLine 45 = .ok (.ifCond .eq 16, 3) := by decide +kernel
theorem cd_T_readLine_48 : decode cb_T_readLine 48 = .ok (.aload_n 0, 1) := by decide +kernel
theorem cd_T_readLine_49 : decode cb_T_readLine 49 = .ok (.bipush 10, 2) := by decide +kernel
theorem cd_T_readLine_51 : decode cb_T_readLine 51 = .ok (.invokevirtual 64, 3) := by decide +kernel
theorem cd_T_readLine_54 : decode cb_T_readLine 54 = .ok (.ifCond .eq 7, 3) := by decide +kernel
theorem cd_T_readLine_57 : decode cb_T_readLine 57 = .ok (.iconst 1, 1) := by decide +kernel
theorem cd_T_readLine_58 : decode cb_T_readLine 58 = .ok (.goto 4, 3) := by decide +kernel
theorem cd_T_readLine_61 : decode cb_T_readLine 61 = .ok (.iconst 0, 1) := by decide +kernel
theorem cd_T_readLine_62 : decode cb_T_readLine 62 = .ok (.ireturn, 1) := by decide +kernel
theorem cd_T_readDepth_0 : decode cb_T_readDepth 0 = .ok (.iload_n 1, 1) := by decide +kernel
theorem cd_T_readDepth_1 : decode cb_T_readDepth 1 = .ok (.ifCond .ne 7, 3) := by decide +kernel
theorem cd_T_readDepth_4 : decode cb_T_readDepth 4 = .ok (.iconst 0, 1) := by decide +kernel
theorem cd_T_readDepth_5 : decode cb_T_readDepth 5 = .ok (.goto 21, 3) := by decide +kernel
theorem cd_T_readDepth_8 : decode cb_T_readDepth 8 = .ok (.bipush 8, 2) := by decide +kernel
theorem cd_T_readDepth_10 : decode cb_T_readDepth 10 = .ok (.aload_n 0, 1) := by decide +kernel
theorem cd_T_readDepth_11 : decode cb_T_readDepth 11 = .ok (.getfield 28, 3) := by decide +kernel
theorem cd_T_readDepth_14 : decode cb_T_readDepth 14 = .ok (.getfield 67, 3) := by decide +kernel
theorem cd_T_readDepth_17 : decode cb_T_readDepth 17 = .ok (.iload_n 1, 1) := by decide +kernel
theorem cd_T_readDepth_18 : decode cb_T_readDepth 18 = .ok (.iconst 1, 1) := by decide +kernel
theorem cd_T_readDepth_19 : decode cb_T_readDepth 19 = .ok (.isub, 1) := by decide +kernel
theorem cd_T_readDepth_20 : decode cb_T_readDepth 20 = .ok (.iaload, 1) := by decide +kernel
theorem cd_T_readDepth_21 : decode cb_T_readDepth 21 = .ok (.iconst 1, 1) := by decide +kernel
theorem cd_T_readDepth_22 : decode cb_T_readDepth 22 = .ok (.iadd, 1) := by decide +kernel
theorem cd_T_readDepth_23 : decode cb_T_readDepth 23 = .ok (.invokestatic 70, 3) := by decide +kernel
theorem cd_T_readDepth_26 : decode cb_T_readDepth 26 = .ok (.istore_n 2, 1) := by decide +kernel
theorem cd_T_readDepth_27 : decode cb_T_readDepth 27 = .ok (.iconst 0, 1) := by decide +kernel
theorem cd_T_readDepth_28 : decode cb_T_readDepth 28 = .ok (.istore_n 3, 1) := by decide +kernel
theorem cd_T_readDepth_29 : decode cb_T_readDepth 29 = .ok (.iload_n 3, 1) := by decide +kernel
theorem cd_T_readDepth_30 : decode cb_T_readDepth 30 = .ok (.iload_n 2, 1) := by decide +kernel
theorem cd_T_readDepth_31 : decode cb_T_readDepth 31 = .ok (.if_icmp .ge 29, 3) := by decide +kernel
theorem cd_T_readDepth_34 : decode cb_T_readDepth 34 = .ok (.aload_n 0, 1) := by decide +kernel
theorem cd_T_readDepth_35 : decode cb_T_readDepth 35 = .ok (.iconst 0, 1) := by decide +kernel
theorem cd_T_readDepth_36 : decode cb_T_readDepth 36 = .ok (.invokevirtual 76, 3) := by decide +kernel
theorem cd_T_readDepth_39 : decode cb_T_readDepth 39 = .ok (.bipush 43, 2) := by decide +kernel
theorem cd_T_readDepth_41 : decode cb_T_readDepth 41 = .ok (.if_icmp .ne 19, 3) := by decide +kernel
theorem cd_T_readDepth_44 : decode cb_T_readDepth 44 = .ok (.iinc 3 1, 3) := by decide +kernel
theorem cd_T_readDepth_47 : decode cb_T_readDepth 47 = .ok (.aload_n 0, 1) := by decide +kernel
theorem cd_T_readDepth_48 : decode cb_T_readDepth 48 = .ok (.dup, 1) := by decide +kernel
theorem cd_T_readDepth_49 : decode cb_T_readDepth 49 = .ok (.getfield 19, 3) := by decide +kernel
theorem cd_T_readDepth_52 : decode cb_T_readDepth 52 = .ok (.iconst 1, 1) := by decide +kernel
theorem cd_T_readDepth_53 : decode cb_T_readDepth 53 = .ok (.iadd, 1) := by decide +kernel
theorem cd_T_readDepth_54 : decode cb_T_readDepth 54 = .ok (.putfield 19, 3) := by decide +kernel
theorem cd_T_readDepth_57 : decode cb_T_readDepth 57 = .ok (.goto (-28), 3) := by decide +kernel
theorem cd_T_readDepth_60 : decode cb_T_readDepth 60 = .ok (.iload_n 1, 1) := by decide +kernel
theorem cd_T_readDepth_61 : decode cb_T_readDepth 61 = .ok (.ifCond .le 16, 3) := by decide +kernel
theorem cd_T_readDepth_64 : decode cb_T_readDepth 64 = .ok (.iload_n 3, 1) := by decide +kernel
theorem cd_T_readDepth_65 : decode cb_T_readDepth 65 = .ok (.ifCond .ne 12, 3) := by decide +kernel
theorem cd_T_readDepth_68 : decode cb_T_readDepth 68 = .ok (.aload_n 0, 1) := by decide +kernel
theorem cd_T_readDepth_69 : decode cb_T_readDepth 69 = .ok (.aload_n 0, 1) := by decide +kernel
theorem cd_T_readDepth_70 : decode cb_T_readDepth 70 = .ok (.getfield 19, 3) := by decide +kernel
theorem cd_T_readDepth_73 : decode cb_T_readDepth 73 = .ok (.invokevirtual 43, 3) := by decide +kernel
theorem cd_T_readDepth_76 : decode cb_T_readDepth 76 = .ok (.ireturn, 1) := by decide +kernel
theorem cd_T_readDepth_77 : decode cb_T_readDepth 77 = .ok (.aload_n 0, 1) := by decide +kernel
theorem cd_T_readDepth_78 : decode cb_T_readDepth 78 = .ok (.getfield 28, 3) := by decide +kernel
theorem cd_T_readDepth_81 : decode cb_T_readDepth 81 = .ok (.iload_n 3, 1) := by decide +kernel
theorem cd_T_readDepth_82 : decode cb_T_readDepth 82 = .ok (.invokevirtual 80, 3) := by decide +kernel
theorem cd_T_readDepth_85 : decode cb_T_readDepth 85 = .ok (.iconst 1, 1) := by decide +kernel
theorem cd_T_readDepth_86 : decode cb_T_readDepth 86 = .ok (.ireturn, 1) := by decide +kernel
theorem cd_T_readKind_0 : decode cb_T_readKind 0 = .ok (.getstatic 84, 3) := by decide +kernel
theorem cd_T_readKind_3 : decode cb_T_readKind 3 = .ok (.aload_n 0, 1) := by decide +kernel
theorem cd_T_readKind_4 : decode cb_T_readKind 4 = .ok (.iconst 0, 1) := by decide +kernel
theorem cd_T_readKind_5 : decode cb_T_readKind 5 = .ok (.invokevirtual 76, 3) := by decide +kernel
theorem cd_T_readKind_8 : decode cb_T_readKind 8 = .ok (.invokestatic 88, 3) := by decide +kernel
theorem cd_T_readKind_11 : decode cb_T_readKind 11 = .ok (.istore_n 2, 1) := by decide +kernel
theorem cd_T_readKind_12 : decode cb_T_readKind 12 = .ok (.aload_n 0, 1) := by decide +kernel
theorem cd_T_readKind_13 : decode cb_T_readKind 13 = .ok (.getfield 28, 3) := by decide +kernel
theorem cd_T_readKind_16 : decode cb_T_readKind 16 = .ok (.getfield 92, 3) := by decide +kernel
theorem cd_T_readKind_19 : decode cb_T_readKind 19 = .ok (.iload_n 1, 1) := by decide +kernel
theorem cd_T_readKind_20 : decode cb_T_readKind 20 = .ok (.iaload, 1) := by decide +kernel
theorem cd_T_readKind_21 : decode cb_T_readKind 21 = .ok (.istore_n 3, 1) := by decide +kernel
theorem cd_T_readKind_22 : decode cb_T_readKind 22 = .ok (.iload_n 2, 1) := by decide +kernel
theorem cd_T_readKind_23 : decode cb_T_readKind 23 = .ok (.iconst (-1), 1) := by decide +kernel
theorem cd_T_readKind_24 : decode cb_T_readKind 24 = .ok (.if_icmp .ne 12, 3) := by decide +kernel
theorem cd_T_readKind_27 : decode cb_T_readKind 27 = .ok (.aload_n 0, 1) := by decide +kernel
theorem cd_T_readKind_28 : decode cb_T_readKind 28 = .ok (.aload_n 0, 1) := by decide +kernel
theorem cd_T_readKind_29 : decode cb_T_readKind 29 = .ok (.getfield 19, 3) := by decide +kernel
theorem cd_T_readKind_32 : decode cb_T_readKind 32 = .ok (.invokevirtual 43, 3) := by decide +kernel
theorem cd_T_readKind_35 : decode cb_T_readKind 35 = .ok (.ireturn, 1) := by decide +kernel
theorem cd_T_readKind_36 : decode cb_T_readKind 36 = .ok (.aload_n 0, 1) := by decide +kernel
theorem cd_T_readKind_37 : decode cb_T_readKind 37 = .ok (.getfield 28, 3) := by decide +kernel
theorem cd_T_readKind_40 : decode cb_T_readKind 40 = .ok (.iload_n 3, 1) := by decide +kernel
theorem cd_T_readKind_41 : decode cb_T_readKind 41 = .ok (.invokevirtual 95, 3) := by decide +kernel
theorem cd_T_readKind_44 : decode cb_T_readKind 44 = .ok (.ifCond .eq 38, 3) := by decide +kernel
theorem cd_T_readKind_47 : decode cb_T_readKind 47 = .ok (.aload_n 0, 1) := by decide +kernel
theorem cd_T_readKind_48 : decode cb_T_readKind 48 = .ok (.getfield 28, 3) := by decide +kernel
theorem cd_T_readKind_51 : decode cb_T_readKind 51 = .ok (.getfield 98, 3) := by decide +kernel
theorem cd_T_readKind_54 : decode cb_T_readKind 54 = .ok (.iload_n 3, 1) := by decide +kernel
theorem cd_T_readKind_55 : decode cb_T_readKind 55 = .ok (.iaload, 1) := by decide +kernel
theorem cd_T_readKind_56 : decode cb_T_readKind 56 = .ok (.iconst 3, 1) := by decide +kernel
theorem cd_T_readKind_57 : decode cb_T_readKind 57 = .ok (.if_icmp .eq 16, 3) := by decide +kernel
theorem cd_T_readKind_60 : decode cb_T_readKind 60 = .ok (.iload_n 2, 1) := by decide +kernel
theorem cd_T_readKind_61 : decode cb_T_readKind 61 = .ok (.aload_n 0, 1) := by decide +kernel
theorem cd_T_readKind_62 : decode cb_T_readKind 62 = .ok (.getfield 28, 3) := by decide +kernel
theorem cd_T_readKind_65 : decode cb_T_readKind 65 = .ok (.getfield 98, 3) := by decide +kernel
theorem cd_T_readKind_68 : decode cb_T_readKind 68 = .ok (.iload_n 3, 1) := by decide +kernel
theorem cd_T_readKind_69 : decode cb_T_readKind 69 = .ok (.iaload, 1) := by decide +kernel
theorem cd_T_readKind_70 : decode cb_T_readKind 70 = .ok (.if_icmp .ge 12, 3) := by decide +kernel
theorem cd_T_readKind_73 : decode cb_T_readKind 73 = .ok (.aload_n 0, 1) := by decide +kernel
theorem cd_T_readKind_74 : decode cb_T_readKind 74 = .ok (.aload_n 0, 1) := by decide +kernel
theorem cd_T_readKind_75 : decode cb_T_readKind 75 = .ok (.getfield 19, 3) := by decide +kernel
theorem cd_T_readKind_78 : decode cb_T_readKind 78 = .ok (.invokevirtual 43, 3) := by decide +kernel
theorem cd_T_readKind_81 : decode cb_T_readKind 81 = .ok (.ireturn, 1) := by decide +kernel
theorem cd_T_readKind_82 : decode cb_T_readKind 82 = .ok (.aload_n 0, 1) := by decide +kernel
theorem cd_T_readKind_83 : decode cb_T_readKind 83 = .ok (.getfield 28, 3) := by decide +kernel
theorem cd_T_readKind_86 : decode cb_T_readKind 86 = .ok (.getfield 98, 3) := by decide +kernel
theorem cd_T_readKind_89 : decode cb_T_readKind 89 = .ok (.iload_n 1, 1) := by decide +kernel
theorem cd_T_readKind_90 : decode cb_T_readKind 90 = .ok (.iload_n 2, 1) := by decide +kernel
theorem cd_T_readKind_91 : decode cb_T_readKind 91 = .ok (.iastore, 1) := by decide +kernel
theorem cd_T_readKind_92 : decode cb_T_readKind 92 = .ok (.aload_n 0, 1) := by decide +kernel
theorem cd_T_readKind_93 : decode cb_T_readKind 93 = .ok (.dup, 1) := by decide +kernel
theorem cd_T_readKind_94 : decode cb_T_readKind 94 = .ok (.getfield 19, 3) := by decide +kernel
theorem cd_T_readKind_97 : decode cb_T_readKind 97 = .ok (.iconst 1, 1) := by decide +kernel
theorem cd_T_readKind_98 : decode cb_T_readKind 98 = .ok (.iadd, 1) := by decide +kernel
theorem cd_T_readKind_99 : decode cb_T_readKind 99 = .ok (.putfield 19, 3) := by decide +kernel
theorem cd_T_readKind_102 : decode cb_T_readKind 102 = .ok (.iconst 1, 1) := by decide +kernel
theorem cd_T_readKind_103 : decode cb_T_readKind 103 = .ok (.ireturn, 1) := by decide +kernel
theorem cd_T_readNumber_0 : decode cb_T_readNumber 0 = .ok (.aload_n 0, 1) := by decide +kernel
theorem cd_T_readNumber_1 : decode cb_T_readNumber 1 = .ok (.getfield 28, 3) := by decide +kernel
theorem cd_T_readNumber_4 : decode cb_T_readNumber 4 = .ok (.getfield 101, 3) := by decide +kernel
theorem cd_T_readNumber_7 : decode cb_T_readNumber 7 = .ok (.iload_n 1, 1) := by decide +kernel
theorem cd_T_readNumber_8 : decode cb_T_readNumber 8 = .ok (.aload_n 0, 1) := by decide +kernel
theorem cd_T_readNumber_9 : decode cb_T_readNumber 9 = .ok (.invokevirtual 104, 3) := by decide +kernel
theorem cd_T_readNumber_12 : decode cb_T_readNumber 12 = .ok (.iastore, 1) := by decide +kernel
theorem cd_T_readNumber_13 : decode cb_T_readNumber 13 = .ok (.aload_n 0, 1) := by decide +kernel
theorem cd_T_readNumber_14 : decode cb_T_readNumber 14 = .ok (.getfield 28, 3) := by decide +kernel
theorem cd_T_readNumber_17 : decode cb_T_readNumber 17 = .ok (.getfield 101, 3) := by decide +kernel
theorem cd_T_readNumber_20 : decode cb_T_readNumber 20 = .ok (.iload_n 1, 1) := by decide +kernel
theorem cd_T_readNumber_21 : decode cb_T_readNumber 21 = .ok (.iaload, 1) := by decide +kernel
theorem cd_T_readNumber_22 : decode cb_T_readNumber 22 = .ok (.iconst (-1), 1) := by decide +kernel
theorem cd_T_readNumber_23 : decode cb_T_readNumber 23 = .ok (.if_icmp .eq 7, 3) := by decide +kernel
theorem cd_T_readNumber_26 : decode cb_T_readNumber 26 = .ok (.iconst 1, 1) := by decide +kernel
theorem cd_T_readNumber_27 : decode cb_T_readNumber 27 = .ok (.goto 4, 3) := by decide +kernel
theorem cd_T_readNumber_30 : decode cb_T_readNumber 30 = .ok (.iconst 0, 1) := by decide +kernel
theorem cd_T_readNumber_31 : decode cb_T_readNumber 31 = .ok (.ireturn, 1) := by decide +kernel
theorem cd_T_readTitle_0 : decode cb_T_readTitle 0 = .ok (.aload_n 0, 1) := by decide +kernel
theorem cd_T_readTitle_1 : decode cb_T_readTitle 1 = .ok (.bipush 32, 2) := by decide +kernel
theorem cd_T_readTitle_3 : decode cb_T_readTitle 3 = .ok (.invokevirtual 64, 3) := by decide +kernel
theorem cd_T_readTitle_6 : decode cb_T_readTitle 6 = .ok (.ifCond .ne 5, 3) := by decide +kernel
theorem cd_T_readTitle_9 : decode cb_T_readTitle 9 = .ok (.iconst 0, 1) := by decide +kernel
theorem cd_T_readTitle_10 : decode cb_T_readTitle 10 = .ok (.ireturn, 1) := by decide +kernel
theorem cd_T_readTitle_11 : decode cb_T_readTitle 11 = .ok (.iconst 0, 1) := by decide +kernel
theorem cd_T_readTitle_12 : decode cb_T_readTitle 12 = .ok (.istore_n 2, 1) := by decide +kernel
theorem cd_T_readTitle_13 : decode cb_T_readTitle 13 = .ok (.iload_n 2, 1) := by decide +kernel
theorem cd_T_readTitle_14 : decode cb_T_readTitle 14 = .ok (.bipush 16, 2) := by decide +kernel
theorem cd_T_readTitle_16 : decode cb_T_readTitle 16 = .ok (.if_icmp .ge 43, 3) := by decide +kernel
theorem cd_T_readTitle_19 : decode cb_T_readTitle 19 = .ok (.aload_n 0, 1) := by decide +kernel
theorem cd_T_readTitle_20 : decode cb_T_readTitle 20 = .ok (.iconst 0, 1) := by decide +kernel
theorem cd_T_readTitle_21 : decode cb_T_readTitle 21 = .ok (.invokevirtual 76, 3) := by decide +kernel
theorem cd_T_readTitle_24 : decode cb_T_readTitle 24 = .ok (.invokestatic 108, 3) := by decide +kernel
theorem cd_T_readTitle_27 : decode cb_T_readTitle 27 = .ok (.ifCond .eq 32, 3) := by decide +kernel
theorem cd_T_readTitle_30 : decode cb_T_readTitle 30 = .ok (.aload_n 0, 1) := by decide +kernel
theorem cd_T_readTitle_31 : decode cb_T_readTitle 31 = .ok (.getfield 28, 3) := by decide +kernel
theorem cd_T_readTitle_34 : decode cb_T_readTitle 34 = .ok (.iload_n 1, 1) := by decide +kernel
theorem cd_T_readTitle_35 : decode cb_T_readTitle 35 = .ok (.aload_n 0, 1) := by decide +kernel
theorem cd_T_readTitle_36 : decode cb_T_readTitle 36 = .ok (.iconst 0, 1) := by decide +kernel
theorem cd_T_readTitle_37 : decode cb_T_readTitle 37 = .ok (.invokevirtual 76, 3) := by decide +kernel
theorem cd_T_readTitle_40 : decode cb_T_readTitle 40 = .ok (.invokevirtual 111, 3) := by decide +kernel
theorem cd_T_readTitle_43 : decode cb_T_readTitle 43 = .ok (.aload_n 0, 1) := by decide +kernel
theorem cd_T_readTitle_44 : decode cb_T_readTitle 44 = .ok (.dup, 1) := by decide +kernel
theorem cd_T_readTitle_45 : decode cb_T_readTitle 45 = .ok (.getfield 19, 3) := by decide +kernel
theorem cd_T_readTitle_48 : decode cb_T_readTitle 48 = .ok (.iconst 1, 1) := by decide +kernel
theorem cd_T_readTitle_49 : decode cb_T_readTitle 49 = .ok (.iadd, 1) := by decide +kernel
theorem cd_T_readTitle_50 : decode cb_T_readTitle 50 = .ok (.putfield 19, 3) := by decide +kernel
theorem cd_T_readTitle_53 : decode cb_T_readTitle 53 = .ok (.iinc 2 1, 3) := by decide +kernel
theorem cd_T_readTitle_56 : decode cb_T_readTitle 56 = .ok (.goto (-43), 3) := by decide +kernel
theorem cd_T_readTitle_59 : decode cb_T_readTitle 59 = .ok (.aload_n 0, 1) := by decide +kernel
theorem cd_T_readTitle_60 : decode cb_T_readTitle 60 = .ok (.getfield 28, 3) := by decide +kernel
theorem cd_T_readTitle_63 : decode cb_T_readTitle 63 = .ok (.getfield 115, 3) := by decide +kernel
theorem cd_T_readTitle_66 : decode cb_T_readTitle 66 = .ok (.iload_n 1, 1) := by decide +kernel
theorem cd_T_readTitle_67 : decode cb_T_readTitle 67 = .ok (.iaload, 1) := by decide +kernel
theorem cd_T_readTitle_68 : decode cb_T_readTitle 68 = .ok (.ifCond .gt 14, 3) := by decide +kernel
theorem cd_T_readTitle_71 : decode cb_T_readTitle 71 = .ok (.aload_n 0, 1) := by decide +kernel
theorem cd_T_readTitle_72 : decode cb_T_readTitle 72 = .ok (.aload_n 0, 1) := by decide +kernel
theorem cd_T_readTitle_73 : decode cb_T_readTitle 73 = .ok (.getfield 19, 3) := by decide +kernel
theorem cd_T_readTitle_76 : decode cb_T_readTitle 76 = .ok (.invokevirtual 43, 3) := by decide +kernel
theorem cd_T_readTitle_79 : decode cb_T_readTitle 79 = .ok (.ifCond .eq 7, 3) := by decide +kernel
theorem cd_T_readTitle_82 : decode cb_T_readTitle 82 = .ok (.iconst 1, 1) := by decide +kernel
theorem cd_T_readTitle_83 : decode cb_T_readTitle 83 = .ok (.goto 4, 3) := by decide +kernel
theorem cd_T_readTitle_86 : decode cb_T_readTitle 86 = .ok (.iconst 0, 1) := by decide +kernel
theorem cd_T_readTitle_87 : decode cb_T_readTitle 87 = .ok (.ireturn, 1) := by decide +kernel
theorem cd_T_readDate_0 : decode cb_T_readDate 0 = .ok (.aload_n 0, 1) := by decide +kernel
theorem cd_T_readDate_1 : decode cb_T_readDate 1 = .ok (.iconst 0, 1) := by decide +kernel
theorem cd_T_readDate_2 : decode cb_T_readDate 2 = .ok (.invokevirtual 76, 3) := by decide +kernel
theorem cd_T_readDate_5 : decode cb_T_readDate 5 = .ok (.bipush 32, 2) := by decide +kernel
theorem cd_T_readDate_7 : decode cb_T_readDate 7 = .ok (.if_icmp .ne 13, 3) := by decide +kernel
theorem cd_T_readDate_10 : decode cb_T_readDate 10 = .ok (.aload_n 0, 1) := by decide +kernel
theorem cd_T_readDate_11 : decode cb_T_readDate 11 = .ok (.iconst 1, 1) := by decide +kernel
theorem cd_T_readDate_12 : decode cb_T_readDate 12 = .ok (.invokevirtual 76, 3) := by decide +kernel
theorem cd_T_readDate_15 : decode cb_T_readDate 15 = .ok (.bipush 100, 2) := by decide +kernel
theorem cd_T_readDate_17 : decode cb_T_readDate 17 = .ok (.if_icmp .eq 5, 3) := by decide +kernel
theorem cd_T_readDate_20 : decode cb_T_readDate 20 = .ok (.iconst 1, 1) := by decide +kernel
theorem cd_T_readDate_21 : decode cb_T_readDate 21 = .ok (.ireturn, 1) := by decide +kernel
theorem cd_T_readDate_22 : decode cb_T_readDate 22 = .ok (.aload_n 0, 1) := by decide +kernel
theorem cd_T_readDate_23 : decode cb_T_readDate 23 = .ok (.dup, 1) := by decide +kernel
theorem cd_T_readDate_24 : decode cb_T_readDate 24 = .ok (.getfield 19, 3) := by decide +kernel
theorem cd_T_readDate_27 : decode cb_T_readDate 27 = .ok (.iconst 2, 1) := by decide +kernel
theorem cd_T_readDate_28 : decode cb_T_readDate 28 = .ok (.iadd, 1) := by decide +kernel
theorem cd_T_readDate_29 : decode cb_T_readDate 29 = .ok (.putfield 19, 3) := by decide +kernel
theorem cd_T_readDate_32 : decode cb_T_readDate 32 = .ok (.aload_n 0, 1) := by decide +kernel
theorem cd_T_readDate_33 : decode cb_T_readDate 33 = .ok (.sipush 1000, 3) := by decide +kernel
theorem cd_T_readDate_36 : decode cb_T_readDate 36 = .ok (.invokevirtual 118, 3) := by decide +kernel
theorem cd_T_readDate_39 : decode cb_T_readDate 39 = .ok (.istore_n 2, 1) := by decide +kernel
theorem cd_T_readDate_40 : decode cb_T_readDate 40 = .ok (.iload_n 2, 1) := by decide +kernel
theorem cd_T_readDate_41 : decode cb_T_readDate 41 = .ok (.istore_n 3, 1) := by decide +kernel
theorem cd_T_readDate_42 : decode cb_T_readDate 42 = .ok (.iload_n 2, 1) := by decide +kernel
theorem cd_T_readDate_43 : decode cb_T_readDate 43 = .ok (.iconst (-1), 1) := by decide +kernel
theorem cd_T_readDate_44 : decode cb_T_readDate 44 = .ok (.if_icmp .eq 29, 3) := by decide +kernel
theorem cd_T_readDate_47 : decode cb_T_readDate 47 = .ok (.aload_n 0, 1) := by decide +kernel
theorem cd_T_readDate_48 : decode cb_T_readDate 48 = .ok (.iconst 0, 1) := by decide +kernel
theorem cd_T_readDate_49 : decode cb_T_readDate 49 = .ok (.invokevirtual 76, 3) := by decide +kernel
theorem cd_T_readDate_52 : decode cb_T_readDate 52 = .ok (.bipush 45, 2) := by decide +kernel
theorem cd_T_readDate_54 : decode cb_T_readDate 54 = .ok (.if_icmp .ne 19, 3) := by decide +kernel
theorem cd_T_readDate_57 : decode cb_T_readDate 57 = .ok (.aload_n 0, 1) := by decide +kernel
theorem cd_T_readDate_58 : decode cb_T_readDate 58 = .ok (.dup, 1) := by decide +kernel
theorem cd_T_readDate_59 : decode cb_T_readDate 59 = .ok (.getfield 19, 3) := by decide +kernel
theorem cd_T_readDate_62 : decode cb_T_readDate 62 = .ok (.iconst 1, 1) := by decide +kernel
theorem cd_T_readDate_63 : decode cb_T_readDate 63 = .ok (.iadd, 1) := by decide +kernel
theorem cd_T_readDate_64 : decode cb_T_readDate 64 = .ok (.putfield 19, 3) := by decide +kernel
theorem cd_T_readDate_67 : decode cb_T_readDate 67 = .ok (.aload_n 0, 1) := by decide +kernel
theorem cd_T_readDate_68 : decode cb_T_readDate 68 = .ok (.iload_n 2, 1) := by decide +kernel
theorem cd_T_readDate_69 : decode cb_T_readDate 69 = .ok (.invokevirtual 118, 3) := by decide +kernel
theorem cd_T_readDate_72 : decode cb_T_readDate 72 = .ok (.istore_n 3, 1) := by decide +kernel
theorem cd_T_readDate_73 : decode cb_T_readDate 73 = .ok (.iload_n 3, 1) := by decide +kernel
theorem cd_T_readDate_74 : decode cb_T_readDate 74 = .ok (.iconst (-1), 1) := by decide +kernel
theorem cd_T_readDate_75 : decode cb_T_readDate 75 = .ok (.if_icmp .ne 5, 3) := by decide +kernel
theorem cd_T_readDate_78 : decode cb_T_readDate 78 = .ok (.iconst 0, 1) := by decide +kernel
theorem cd_T_readDate_79 : decode cb_T_readDate 79 = .ok (.ireturn, 1) := by decide +kernel
theorem cd_T_readDate_80 : decode cb_T_readDate 80 = .ok (.aload_n 0, 1) := by decide +kernel
theorem cd_T_readDate_81 : decode cb_T_readDate 81 = .ok (.getfield 28, 3) := by decide +kernel
theorem cd_T_readDate_84 : decode cb_T_readDate 84 = .ok (.getfield 121, 3) := by decide +kernel
theorem cd_T_readDate_87 : decode cb_T_readDate 87 = .ok (.iload_n 1, 1) := by decide +kernel
theorem cd_T_readDate_88 : decode cb_T_readDate 88 = .ok (.iload_n 2, 1) := by decide +kernel
theorem cd_T_readDate_89 : decode cb_T_readDate 89 = .ok (.iastore, 1) := by decide +kernel
theorem cd_T_readDate_90 : decode cb_T_readDate 90 = .ok (.aload_n 0, 1) := by decide +kernel
theorem cd_T_readDate_91 : decode cb_T_readDate 91 = .ok (.getfield 28, 3) := by decide +kernel
theorem cd_T_readDate_94 : decode cb_T_readDate 94 = .ok (.getfield 124, 3) := by decide +kernel
theorem cd_T_readDate_97 : decode cb_T_readDate 97 = .ok (.iload_n 1, 1) := by decide +kernel
theorem cd_T_readDate_98 : decode cb_T_readDate 98 = .ok (.iload_n 3, 1) := by decide +kernel
theorem cd_T_readDate_99 : decode cb_T_readDate 99 = .ok (.iastore, 1) := by decide +kernel
theorem cd_T_readDate_100 : decode cb_T_readDate 100 = .ok (.aload_n 0, 1) := by decide +kernel
theorem cd_T_readDate_101 : decode cb_T_readDate 101 = .ok (.iconst 0, 1) := by decide +kernel
theorem cd_T_readDate_102 : decode cb_T_readDate 102 = .ok (.invokevirtual 76, 3) := by decide +kernel
theorem cd_T_readDate_105 : decode cb_T_readDate 105 = .ok (.bipush 63, 2) := by decide +kernel
theorem cd_T_readDate_107 : decode cb_T_readDate 107 = .ok (.if_icmp .ne 23, 3) := by decide +kernel
theorem cd_T_readDate_110 : decode cb_T_readDate 110 = .ok (.aload_n 0, 1) := by decide +kernel
theorem cd_T_readDate_111 : decode cb_T_readDate 111 = .ok (.getfield 28, 3) := by decide +kernel
theorem cd_T_readDate_114 : decode cb_T_readDate 114 = .ok (.getfield 127, 3) := by decide +kernel
theorem cd_T_readDate_117 : decode cb_T_readDate 117 = .ok (.iload_n 1, 1) := by decide +kernel
theorem cd_T_readDate_118 : decode cb_T_readDate 118 = .ok (.iconst 1, 1) := by decide +kernel
theorem cd_T_readDate_119 : decode cb_T_readDate 119 = .ok (.iastore, 1) := by decide +kernel
theorem cd_T_readDate_120 : decode cb_T_readDate 120 = .ok (.aload_n 0, 1) := by decide +kernel
theorem cd_T_readDate_121 : decode cb_T_readDate 121 = .ok (.dup, 1) := by decide +kernel
theorem cd_T_readDate_122 : decode cb_T_readDate 122 = .ok (.getfield 19, 3) := by decide +kernel
theorem cd_T_readDate_125 : decode cb_T_readDate 125 = .ok (.iconst 1, 1) := by decide +kernel
theorem cd_T_readDate_126 : decode cb_T_readDate 126 = .ok (.iadd, 1) := by decide +kernel
theorem cd_T_readDate_127 : decode cb_T_readDate 127 = .ok (.putfield 19, 3) := by decide +kernel
theorem cd_T_readDate_130 : decode cb_T_readDate 130 = .ok (.iconst 1, 1) := by decide +kernel
theorem cd_T_readDate_131 : decode cb_T_readDate 131 = .ok (.ireturn, 1) := by decide +kernel
theorem cd_T_readExtent_0 : decode cb_T_readExtent 0 = .ok (.aload_n 0, 1) := by decide +kernel
theorem cd_T_readExtent_1 : decode cb_T_readExtent 1 = .ok (.iconst 0, 1) := by decide +kernel
theorem cd_T_readExtent_2 : decode cb_T_readExtent 2 = .ok (.invokevirtual 76, 3) := by decide +kernel
theorem cd_T_readExtent_5 : decode cb_T_readExtent 5 = .ok (.bipush 32, 2) := by decide +kernel
theorem cd_T_readExtent_7 : decode cb_T_readExtent 7 = .ok (.if_icmp .eq 5, 3) := by decide +kernel
theorem cd_T_readExtent_10 : decode cb_T_readExtent 10 = .ok (.iconst 1, 1) := by decide +kernel
theorem cd_T_readExtent_11 : decode cb_T_readExtent 11 = .ok (.ireturn, 1) := by decide +kernel
theorem cd_T_readExtent_12 : decode cb_T_readExtent 12 = .ok (.aload_n 0, 1) := by decide +kernel
theorem cd_T_readExtent_13 : decode cb_T_readExtent 13 = .ok (.dup, 1) := by decide +kernel
theorem cd_T_readExtent_14 : decode cb_T_readExtent 14 = .ok (.getfield 19, 3) := by decide +kernel
theorem cd_T_readExtent_17 : decode cb_T_readExtent 17 = .ok (.iconst 1, 1) := by decide +kernel
theorem cd_T_readExtent_18 : decode cb_T_readExtent 18 = .ok (.iadd, 1) := by decide +kernel
theorem cd_T_readExtent_19 : decode cb_T_readExtent 19 = .ok (.putfield 19, 3) := by decide +kernel
theorem cd_T_readExtent_22 : decode cb_T_readExtent 22 = .ok (.aload_n 0, 1) := by decide +kernel
theorem cd_T_readExtent_23 : decode cb_T_readExtent 23 = .ok (.bipush 101, 2) := by decide +kernel
theorem cd_T_readExtent_25 : decode cb_T_readExtent 25 = .ok (.invokevirtual 64, 3) := by decide +kernel
theorem cd_T_readExtent_28 : decode cb_T_readExtent 28 = .ok (.ifCond .ne 5, 3) := by decide +kernel
theorem cd_T_readExtent_31 : decode cb_T_readExtent 31 = .ok (.iconst 0, 1) := by decide +kernel
theorem cd_T_readExtent_32 : decode cb_T_readExtent 32 = .ok (.ireturn, 1) := by decide +kernel
theorem cd_T_readExtent_33 : decode cb_T_readExtent 33 = .ok (.aload_n 0, 1) := by decide +kernel
theorem cd_T_readExtent_34 : decode cb_T_readExtent 34 = .ok (.getfield 28, 3) := by decide +kernel
theorem cd_T_readExtent_37 : decode cb_T_readExtent 37 = .ok (.getfield 130, 3) := by decide +kernel
theorem cd_T_readExtent_40 : decode cb_T_readExtent 40 = .ok (.iload_n 1, 1) := by decide +kernel
theorem cd_T_readExtent_41 : decode cb_T_readExtent 41 = .ok (.aload_n 0, 1) := by decide +kernel
theorem cd_T_readExtent_42 : decode cb_T_readExtent 42 = .ok (.invokevirtual 104, 3) := by decide +kernel
theorem cd_T_readExtent_45 : decode cb_T_readExtent 45 = .ok (.iastore, 1) := by decide +kernel
theorem cd_T_readExtent_46 : decode cb_T_readExtent 46 = .ok (.aload_n 0, 1) := by decide +kernel
theorem cd_T_readExtent_47 : decode cb_T_readExtent 47 = .ok (.getfield 28, 3) := by decide +kernel
theorem cd_T_readExtent_50 : decode cb_T_readExtent 50 = .ok (.getfield 130, 3) := by decide +kernel
theorem cd_T_readExtent_53 : decode cb_T_readExtent 53 = .ok (.iload_n 1, 1) := by decide +kernel
theorem cd_T_readExtent_54 : decode cb_T_readExtent 54 = .ok (.iaload, 1) := by decide +kernel
theorem cd_T_readExtent_55 : decode cb_T_readExtent 55 = .ok (.iconst (-1), 1) := by decide +kernel
theorem cd_T_readExtent_56 : decode cb_T_readExtent 56 = .ok (.if_icmp .ne 5, 3) := by decide +kernel
theorem cd_T_readExtent_59 : decode cb_T_readExtent 59 = .ok (.iconst 0, 1) := by decide +kernel
theorem cd_T_readExtent_60 : decode cb_T_readExtent 60 = .ok (.ireturn, 1) := by decide +kernel
theorem cd_T_readExtent_61 : decode cb_T_readExtent 61 = .ok (.aload_n 0, 1) := by decide +kernel
theorem cd_T_readExtent_62 : decode cb_T_readExtent 62 = .ok (.getfield 28, 3) := by decide +kernel
theorem cd_T_readExtent_65 : decode cb_T_readExtent 65 = .ok (.getfield 133, 3) := by decide +kernel
theorem cd_T_readExtent_68 : decode cb_T_readExtent 68 = .ok (.iload_n 1, 1) := by decide +kernel
theorem cd_T_readExtent_69 : decode cb_T_readExtent 69 = .ok (.getstatic 136, 3) := by decide +kernel
theorem cd_T_readExtent_72 : decode cb_T_readExtent 72 = .ok (.aload_n 0, 1) := by decide +kernel
theorem cd_T_readExtent_73 : decode cb_T_readExtent 73 = .ok (.iconst 0, 1) := by decide +kernel
theorem cd_T_readExtent_74 : decode cb_T_readExtent 74 = .ok (.invokevirtual 76, 3) := by decide +kernel
theorem cd_T_readExtent_77 : decode cb_T_readExtent 77 = .ok (.invokestatic 88, 3) := by decide +kernel
theorem cd_T_readExtent_80 : decode cb_T_readExtent 80 = .ok (.iastore, 1) := by decide +kernel
theorem cd_T_readExtent_81 : decode cb_T_readExtent 81 = .ok (.aload_n 0, 1) := by decide +kernel
theorem cd_T_readExtent_82 : decode cb_T_readExtent 82 = .ok (.getfield 28, 3) := by decide +kernel
theorem cd_T_readExtent_85 : decode cb_T_readExtent 85 = .ok (.getfield 133, 3) := by decide +kernel
theorem cd_T_readExtent_88 : decode cb_T_readExtent 88 = .ok (.iload_n 1, 1) := by decide +kernel
theorem cd_T_readExtent_89 : decode cb_T_readExtent 89 = .ok (.iaload, 1) := by decide +kernel
theorem cd_T_readExtent_90 : decode cb_T_readExtent 90 = .ok (.iconst (-1), 1) := by decide +kernel
theorem cd_T_readExtent_91 : decode cb_T_readExtent 91 = .ok (.if_icmp .ne 12, 3) := by decide +kernel
theorem cd_T_readExtent_94 : decode cb_T_readExtent 94 = .ok (.aload_n 0, 1) := by decide +kernel
theorem cd_T_readExtent_95 : decode cb_T_readExtent 95 = .ok (.aload_n 0, 1) := by decide +kernel
theorem cd_T_readExtent_96 : decode cb_T_readExtent 96 = .ok (.getfield 19, 3) := by decide +kernel
theorem cd_T_readExtent_99 : decode cb_T_readExtent 99 = .ok (.invokevirtual 43, 3) := by decide +kernel
theorem cd_T_readExtent_102 : decode cb_T_readExtent 102 = .ok (.ireturn, 1) := by decide +kernel
theorem cd_T_readExtent_103 : decode cb_T_readExtent 103 = .ok (.aload_n 0, 1) := by decide +kernel
theorem cd_T_readExtent_104 : decode cb_T_readExtent 104 = .ok (.dup, 1) := by decide +kernel
theorem cd_T_readExtent_105 : decode cb_T_readExtent 105 = .ok (.getfield 19, 3) := by decide +kernel
theorem cd_T_readExtent_108 : decode cb_T_readExtent 108 = .ok (.iconst 1, 1) := by decide +kernel
theorem cd_T_readExtent_109 : decode cb_T_readExtent 109 = .ok (.iadd, 1) := by decide +kernel
theorem cd_T_readExtent_110 : decode cb_T_readExtent 110 = .ok (.putfield 19, 3) := by decide +kernel
theorem cd_T_readExtent_113 : decode cb_T_readExtent 113 = .ok (.iconst 1, 1) := by decide +kernel
theorem cd_T_readExtent_114 : decode cb_T_readExtent 114 = .ok (.ireturn, 1) := by decide +kernel
theorem cd_T_readDigits_0 : decode cb_T_readDigits 0 = .ok (.iconst 0, 1) := by decide +kernel
theorem cd_T_readDigits_1 : decode cb_T_readDigits 1 = .ok (.istore_n 1, 1) := by decide +kernel
theorem cd_T_readDigits_2 : decode cb_T_readDigits 2 = .ok (.iconst 0, 1) := by decide +kernel
theorem cd_T_readDigits_3 : decode cb_T_readDigits 3 = .ok (.istore_n 2, 1) := by decide +kernel
theorem cd_T_readDigits_4 : decode cb_T_readDigits 4 = .ok (.iload_n 2, 1) := by decide +kernel
theorem cd_T_readDigits_5 : decode cb_T_readDigits 5 = .ok (.iconst 4, 1) := by decide +kernel
theorem cd_T_readDigits_6 : decode cb_T_readDigits 6 = .ok (.if_icmp .ge 57, 3) := by decide +kernel
theorem cd_T_readDigits_9 : decode cb_T_readDigits 9 = .ok (.aload_n 0, 1) := by decide +kernel
theorem cd_T_readDigits_10 : decode cb_T_readDigits 10 = .ok (.iconst 0, 1) := by decide +kernel
theorem cd_T_readDigits_11 : decode cb_T_readDigits 11 = .ok (.invokevirtual 76, 3) := by decide +kernel
theorem cd_T_readDigits_14 : decode cb_T_readDigits 14 = .ok (.invokestatic 139, 3) := by decide +kernel
theorem cd_T_readDigits_17 : decode cb_T_readDigits 17 = .ok (.ifCond .eq 46, 3) := by decide +kernel
theorem cd_T_readDigits_20 : decode cb_T_readDigits 20 = .ok (.aload_n 0, 1) := by decide +kernel
theorem cd_T_readDigits_21 : decode cb_T_readDigits 21 = .ok (.iconst 0, 1) := by decide +kernel
theorem cd_T_readDigits_22 : decode cb_T_readDigits 22 = .ok (.invokevirtual 76, 3) := by decide +kernel
theorem cd_T_readDigits_25 : decode cb_T_readDigits 25 = .ok (.bipush 48, 2) := by decide +kernel
theorem cd_T_readDigits_27 : decode cb_T_readDigits 27 = .ok (.isub, 1) := by decide +kernel
theorem cd_T_readDigits_28 : decode cb_T_readDigits 28 = .ok (.istore_n 3, 1) := by decide +kernel
theorem cd_T_readDigits_29 : decode cb_T_readDigits 29 = .ok (.iload_n 2, 1) := by decide +kernel
theorem cd_T_readDigits_30 : decode cb_T_readDigits 30 = .ok (.ifCond .ne 10, 3) := by decide +kernel
theorem cd_T_readDigits_33 : decode cb_T_readDigits 33 = .ok (.iload_n 3, 1) := by decide +kernel
theorem cd_T_readDigits_34 : decode cb_T_readDigits 34 = .ok (.ifCond .ne 6, 3) := by decide +kernel
theorem cd_T_readDigits_37 : decode cb_T_readDigits 37 = .ok (.goto 26, 3) := by decide +kernel
theorem cd_T_readDigits_40 : decode cb_T_readDigits 40 = .ok (.iload_n 1, 1) := by decide +kernel
theorem cd_T_readDigits_41 : decode cb_T_readDigits 41 = .ok (.bipush 10, 2) := by decide +kernel
theorem cd_T_readDigits_43 : decode cb_T_readDigits 43 = .ok (.imul, 1) := by decide +kernel
theorem cd_T_readDigits_44 : decode cb_T_readDigits 44 = .ok (.iload_n 3, 1) := by decide +kernel
theorem cd_T_readDigits_45 : decode cb_T_readDigits 45 = .ok (.iadd, 1) := by decide +kernel
theorem cd_T_readDigits_46 : decode cb_T_readDigits 46 = .ok (.istore_n 1, 1) := by decide +kernel
theorem cd_T_readDigits_47 : decode cb_T_readDigits 47 = .ok (.aload_n 0, 1) := by decide +kernel
theorem cd_T_readDigits_48 : decode cb_T_readDigits 48 = .ok (.dup, 1) := by decide +kernel
theorem cd_T_readDigits_49 : decode cb_T_readDigits 49 = .ok (.getfield 19, 3) := by decide +kernel
theorem cd_T_readDigits_52 : decode cb_T_readDigits 52 = .ok (.iconst 1, 1) := by decide +kernel
theorem cd_T_readDigits_53 : decode cb_T_readDigits 53 = .ok (.iadd, 1) := by decide +kernel
theorem cd_T_readDigits_54 : decode cb_T_readDigits 54 = .ok (.putfield 19, 3) := by decide +kernel
theorem cd_T_readDigits_57 : decode cb_T_readDigits 57 = .ok (.iinc 2 1, 3) := by decide +kernel
theorem cd_T_readDigits_60 : decode cb_T_readDigits 60 = .ok (.goto (-56), 3) := by decide +kernel
theorem cd_T_readDigits_63 : decode cb_T_readDigits 63 = .ok (.iload_n 1, 1) := by decide +kernel
theorem cd_T_readDigits_64 : decode cb_T_readDigits 64 = .ok (.ifCond .ne 13, 3) := by decide +kernel
theorem cd_T_readDigits_67 : decode cb_T_readDigits 67 = .ok (.aload_n 0, 1) := by decide +kernel
theorem cd_T_readDigits_68 : decode cb_T_readDigits 68 = .ok (.aload_n 0, 1) := by decide +kernel
theorem cd_T_readDigits_69 : decode cb_T_readDigits 69 = .ok (.getfield 19, 3) := by decide +kernel
theorem cd_T_readDigits_72 : decode cb_T_readDigits 72 = .ok (.putfield 22, 3) := by decide +kernel
theorem cd_T_readDigits_75 : decode cb_T_readDigits 75 = .ok (.iconst (-1), 1) := by decide +kernel
theorem cd_T_readDigits_76 : decode cb_T_readDigits 76 = .ok (.ireturn, 1) := by decide +kernel
theorem cd_T_readDigits_77 : decode cb_T_readDigits 77 = .ok (.iload_n 1, 1) := by decide +kernel
theorem cd_T_readDigits_78 : decode cb_T_readDigits 78 = .ok (.ireturn, 1) := by decide +kernel
theorem cd_T_readYear_0 : decode cb_T_readYear 0 = .ok (.iconst 0, 1) := by decide +kernel
theorem cd_T_readYear_1 : decode cb_T_readYear 1 = .ok (.istore_n 2, 1) := by decide +kernel
theorem cd_T_readYear_2 : decode cb_T_readYear 2 = .ok (.iconst 0, 1) := by decide +kernel
theorem cd_T_readYear_3 : decode cb_T_readYear 3 = .ok (.istore_n 3, 1) := by decide +kernel
theorem cd_T_readYear_4 : decode cb_T_readYear 4 = .ok (.iload_n 3, 1) := by decide +kernel
theorem cd_T_readYear_5 : decode cb_T_readYear 5 = .ok (.iconst 4, 1) := by decide +kernel
theorem cd_T_readYear_6 : decode cb_T_readYear 6 = .ok (.if_icmp .ge 47, 3) := by decide +kernel
theorem cd_T_readYear_9 : decode cb_T_readYear 9 = .ok (.aload_n 0, 1) := by decide +kernel
theorem cd_T_readYear_10 : decode cb_T_readYear 10 = .ok (.iload_n 3, 1) := by decide +kernel
theorem cd_T_readYear_11 : decode cb_T_readYear 11 = .ok (.invokevirtual 76, 3) := by decide +kernel
theorem cd_T_readYear_14 : decode cb_T_readYear 14 = .ok (.istore 4, 2) := by decide +kernel
theorem cd_T_readYear_16 : decode cb_T_readYear 16 = .ok (.iload 4, 2) := by decide +kernel
theorem cd_T_readYear_18 : decode cb_T_readYear 18 = .ok (.invokestatic 139, 3) := by decide +kernel
theorem cd_T_readYear_21 : decode cb_T_readYear 21 = .ok (.ifCond .ne 15, 3) := by decide +kernel
theorem cd_T_readYear_24 : decode cb_T_readYear 24 = .ok (.aload_n 0, 1) := by decide +kernel
theorem cd_T_readYear_25 : decode cb_T_readYear 25 = .ok (.aload_n 0, 1) := by decide +kernel
theorem cd_T_readYear_26 : decode cb_T_readYear 26 = .ok (.getfield 19, 3) := by decide +kernel
theorem cd_T_readYear_29 : decode cb_T_readYear 29 = .ok (.iload_n 3, 1) := by decide +kernel
theorem cd_T_readYear_30 : decode cb_T_readYear 30 = .ok (.iadd, 1) := by decide +kernel
theorem cd_T_readYear_31 : decode cb_T_readYear 31 = .ok (.putfield 22, 3) := by decide +kernel
theorem cd_T_readYear_34 : decode cb_T_readYear 34 = .ok (.iconst (-1), 1) := by decide +kernel
theorem cd_T_readYear_35 : decode cb_T_readYear 35 = .ok (.ireturn, 1) := by decide +kernel
theorem cd_T_readYear_36 : decode cb_T_readYear 36 = .ok (.iload_n 2, 1) := by decide +kernel
theorem cd_T_readYear_37 : decode cb_T_readYear 37 = .ok (.bipush 10, 2) := by decide +kernel
theorem cd_T_readYear_39 : decode cb_T_readYear 39 = .ok (.imul, 1) := by decide +kernel
theorem cd_T_readYear_40 : decode cb_T_readYear 40 = .ok (.iload 4, 2) := by decide +kernel
theorem cd_T_readYear_42 : decode cb_T_readYear 42 = .ok (.bipush 48, 2) := by decide +kernel
theorem cd_T_readYear_44 : decode cb_T_readYear 44 = .ok (.isub, 1) := by decide +kernel
theorem cd_T_readYear_45 : decode cb_T_readYear 45 = .ok (.iadd, 1) := by decide +kernel
theorem cd_T_readYear_46 : decode cb_T_readYear 46 = .ok (.istore_n 2, 1) := by decide +kernel
theorem cd_T_readYear_47 : decode cb_T_readYear 47 = .ok (.iinc 3 1, 3) := by decide +kernel
theorem cd_T_readYear_50 : decode cb_T_readYear 50 = .ok (.goto (-46), 3) := by decide +kernel
theorem cd_T_readYear_53 : decode cb_T_readYear 53 = .ok (.iload_n 2, 1) := by decide +kernel
theorem cd_T_readYear_54 : decode cb_T_readYear 54 = .ok (.iload_n 1, 1) := by decide +kernel
theorem cd_T_readYear_55 : decode cb_T_readYear 55 = .ok (.if_icmp .lt 10, 3) := by decide +kernel
theorem cd_T_readYear_58 : decode cb_T_readYear 58 = .ok (.iload_n 2, 1) := by decide +kernel
theorem cd_T_readYear_59 : decode cb_T_readYear 59 = .ok (.sipush 2999, 3) := by decide +kernel
theorem cd_T_readYear_62 : decode cb_T_readYear 62 = .ok (.if_icmp .le 13, 3) := by decide +kernel
theorem cd_T_readYear_65 : decode cb_T_readYear 65 = .ok (.aload_n 0, 1) := by decide +kernel
theorem cd_T_readYear_66 : decode cb_T_readYear 66 = .ok (.aload_n 0, 1) := by decide +kernel
theorem cd_T_readYear_67 : decode cb_T_readYear 67 = .ok (.getfield 19, 3) := by decide +kernel
theorem cd_T_readYear_70 : decode cb_T_readYear 70 = .ok (.putfield 22, 3) := by decide +kernel
theorem cd_T_readYear_73 : decode cb_T_readYear 73 = .ok (.iconst (-1), 1) := by decide +kernel
theorem cd_T_readYear_74 : decode cb_T_readYear 74 = .ok (.ireturn, 1) := by decide +kernel
theorem cd_T_readYear_75 : decode cb_T_readYear 75 = .ok (.aload_n 0, 1) := by decide +kernel
theorem cd_T_readYear_76 : decode cb_T_readYear 76 = .ok (.dup, 1) := by decide +kernel
theorem cd_T_readYear_77 : decode cb_T_readYear 77 = .ok (.getfield 19, 3) := by decide +kernel
theorem cd_T_readYear_80 : decode cb_T_readYear 80 = .ok (.iconst 4, 1) := by decide +kernel
theorem cd_T_readYear_81 : decode cb_T_readYear 81 = .ok (.iadd, 1) := by decide +kernel
theorem cd_T_readYear_82 : decode cb_T_readYear 82 = .ok (.putfield 19, 3) := by decide +kernel
theorem cd_T_readYear_85 : decode cb_T_readYear 85 = .ok (.iload_n 2, 1) := by decide +kernel
theorem cd_T_readYear_86 : decode cb_T_readYear 86 = .ok (.ireturn, 1) := by decide +kernel
theorem cd_T_expect_0 : decode cb_T_expect 0 = .ok (.aload_n 0, 1) := by decide +kernel
theorem cd_T_expect_1 : decode cb_T_expect 1 = .ok (.iconst 0, 1) := by decide +kernel
theorem cd_T_expect_2 : decode cb_T_expect 2 = .ok (.invokevirtual 76, 3) := by decide +kernel
theorem cd_T_expect_5 : decode cb_T_expect 5 = .ok (.iload_n 1, 1) := by decide +kernel
theorem cd_T_expect_6 : decode cb_T_expect 6 = .ok (.if_icmp .eq 12, 3) := by decide +kernel
theorem cd_T_expect_9 : decode cb_T_expect 9 = .ok (.aload_n 0, 1) := by decide +kernel
theorem cd_T_expect_10 : decode cb_T_expect 10 = .ok (.aload_n 0, 1) := by decide +kernel
theorem cd_T_expect_11 : decode cb_T_expect 11 = .ok (.getfield 19, 3) := by decide +kernel
theorem cd_T_expect_14 : decode cb_T_expect 14 = .ok (.invokevirtual 43, 3) := by decide +kernel
theorem cd_T_expect_17 : decode cb_T_expect 17 = .ok (.ireturn, 1) := by decide +kernel
theorem cd_T_expect_18 : decode cb_T_expect 18 = .ok (.aload_n 0, 1) := by decide +kernel
theorem cd_T_expect_19 : decode cb_T_expect 19 = .ok (.dup, 1) := by decide +kernel
theorem cd_T_expect_20 : decode cb_T_expect 20 = .ok (.getfield 19, 3) := by decide +kernel
theorem cd_T_expect_23 : decode cb_T_expect 23 = .ok (.iconst 1, 1) := by decide +kernel
theorem cd_T_expect_24 : decode cb_T_expect 24 = .ok (.iadd, 1) := by decide +kernel
theorem cd_T_expect_25 : decode cb_T_expect 25 = .ok (.putfield 19, 3) := by decide +kernel
theorem cd_T_expect_28 : decode cb_T_expect 28 = .ok (.iconst 1, 1) := by decide +kernel
theorem cd_T_expect_29 : decode cb_T_expect 29 = .ok (.ireturn, 1) := by decide +kernel
theorem cd_T_wrongAt_0 : decode cb_T_wrongAt 0 = .ok (.aload_n 0, 1) := by decide +kernel
theorem cd_T_wrongAt_1 : decode cb_T_wrongAt 1 = .ok (.iload_n 1, 1) := by decide +kernel
theorem cd_T_wrongAt_2 : decode cb_T_wrongAt 2 = .ok (.putfield 22, 3) := by decide +kernel
theorem cd_T_wrongAt_5 : decode cb_T_wrongAt 5 = .ok (.iconst 0, 1) := by decide +kernel
theorem cd_T_wrongAt_6 : decode cb_T_wrongAt 6 = .ok (.ireturn, 1) := by decide +kernel
theorem cd_T_ahead_0 : decode cb_T_ahead 0 = .ok (.aload_n 0, 1) := by decide +kernel
theorem cd_T_ahead_1 : decode cb_T_ahead 1 = .ok (.getfield 19, 3) := by decide +kernel
theorem cd_T_ahead_4 : decode cb_T_ahead 4 = .ok (.iload_n 1, 1) := by decide +kernel
theorem cd_T_ahead_5 : decode cb_T_ahead 5 = .ok (.iadd, 1) := by decide +kernel
theorem cd_T_ahead_6 : decode cb_T_ahead 6 = .ok (.istore_n 2, 1) := by decide +kernel
theorem cd_T_ahead_7 : decode cb_T_ahead 7 = .ok (.iload_n 2, 1) := by decide +kernel
theorem cd_T_ahead_8 : decode cb_T_ahead 8 = .ok (.ifCond .lt 11, 3) := by decide +kernel
theorem cd_T_ahead_11 : decode cb_T_ahead 11 = .ok (.iload_n 2, 1) := by decide +kernel
theorem cd_T_ahead_12 : decode cb_T_ahead 12 = .ok (.aload_n 0, 1) := by decide +kernel
theorem cd_T_ahead_13 : decode cb_T_ahead 13 = .ok (.getfield 15, 3) := by decide +kernel
theorem cd_T_ahead_16 : decode cb_T_ahead 16 = .ok (.if_icmp .lt 5, 3) := by decide +kernel
theorem cd_T_ahead_19 : decode cb_T_ahead 19 = .ok (.iconst (-1), 1) := by decide +kernel
theorem cd_T_ahead_20 : decode cb_T_ahead 20 = .ok (.ireturn, 1) := by decide +kernel
theorem cd_T_ahead_21 : decode cb_T_ahead 21 = .ok (.aload_n 0, 1) := by decide +kernel
theorem cd_T_ahead_22 : decode cb_T_ahead 22 = .ok (.getfield 9, 3) := by decide +kernel
theorem cd_T_ahead_25 : decode cb_T_ahead 25 = .ok (.iload_n 2, 1) := by decide +kernel
theorem cd_T_ahead_26 : decode cb_T_ahead 26 = .ok (.iaload, 1) := by decide +kernel
theorem cd_T_ahead_27 : decode cb_T_ahead 27 = .ok (.ireturn, 1) := by decide +kernel
theorem cd_T_isDigit_0 : decode cb_T_isDigit 0 = .ok (.iload_n 0, 1) := by decide +kernel
theorem cd_T_isDigit_1 : decode cb_T_isDigit 1 = .ok (.bipush 48, 2) := by decide +kernel
theorem cd_T_isDigit_3 : decode cb_T_isDigit 3 = .ok (.if_icmp .lt 13, 3) := by decide +kernel
theorem cd_T_isDigit_6 : decode cb_T_isDigit 6 = .ok (.iload_n 0, 1) := by decide +kernel
theorem cd_T_isDigit_7 : decode cb_T_isDigit 7 = .ok (.bipush 57, 2) := by decide +kernel
theorem cd_T_isDigit_9 : decode cb_T_isDigit 9 = .ok (.if_icmp .gt 7, 3) := by decide +kernel
theorem cd_T_isDigit_12 : decode cb_T_isDigit 12 = .ok (.iconst 1, 1) := by decide +kernel
theorem cd_T_isDigit_13 : decode cb_T_isDigit 13 = .ok (.goto 4, 3) := by decide +kernel
theorem cd_T_isDigit_16 : decode cb_T_isDigit 16 = .ok (.iconst 0, 1) := by decide +kernel
theorem cd_T_isDigit_17 : decode cb_T_isDigit 17 = .ok (.ireturn, 1) := by decide +kernel
theorem cd_T_isLetter_0 : decode cb_T_isLetter 0 = .ok (.iload_n 0, 1) := by decide +kernel
theorem cd_T_isLetter_1 : decode cb_T_isLetter 1 = .ok (.bipush 97, 2) := by decide +kernel
theorem cd_T_isLetter_3 : decode cb_T_isLetter 3 = .ok (.if_icmp .lt 13, 3) := by decide +kernel
theorem cd_T_isLetter_6 : decode cb_T_isLetter 6 = .ok (.iload_n 0, 1) := by decide +kernel
theorem cd_T_isLetter_7 : decode cb_T_isLetter 7 = .ok (.bipush 122, 2) := by decide +kernel
theorem cd_T_isLetter_9 : decode cb_T_isLetter 9 = .ok (.if_icmp .gt 7, 3) := by decide +kernel
theorem cd_T_isLetter_12 : decode cb_T_isLetter 12 = .ok (.iconst 1, 1) := by decide +kernel
theorem cd_T_isLetter_13 : decode cb_T_isLetter 13 = .ok (.goto 4, 3) := by decide +kernel
theorem cd_T_isLetter_16 : decode cb_T_isLetter 16 = .ok (.iconst 0, 1) := by decide +kernel
theorem cd_T_isLetter_17 : decode cb_T_isLetter 17 = .ok (.ireturn, 1) := by decide +kernel
