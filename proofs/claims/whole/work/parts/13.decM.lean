/-! INSTRUCTIONS, printed by wip/whole/names.py -/
theorem d_M_init_0 : decode prog_5_method_1_code 0 = .ok (.aload_n 0, 1) := by decide +kernel
theorem d_M_init_1 : decode prog_5_method_1_code 1 = .ok (.invokespecial 1, 3) := by decide +kernel
theorem d_M_init_4 : decode prog_5_method_1_code 4 = .ok (.aload_n 0, 1) := by decide +kernel
theorem d_M_init_5 : decode prog_5_method_1_code 5 = .ok (.bipush 40, 2) := by decide +kernel
theorem d_M_init_7 : decode prog_5_method_1_code 7 = .ok (.newarray .int, 2) := by decide +kernel
theorem d_M_init_9 : decode prog_5_method_1_code 9 = .ok (.putfield 7, 3) := by decide +kernel
theorem d_M_init_12 : decode prog_5_method_1_code 12 = .ok (.aload_n 0, 1) := by decide +kernel
theorem d_M_init_13 : decode prog_5_method_1_code 13 = .ok (.bipush 40, 2) := by decide +kernel
theorem d_M_init_15 : decode prog_5_method_1_code 15 = .ok (.newarray .int, 2) := by decide +kernel
theorem d_M_init_17 : decode prog_5_method_1_code 17 = .ok (.putfield 13, 3) := by decide +kernel
theorem d_M_init_20 : decode prog_5_method_1_code 20 = .ok (.aload_n 0, 1) := by decide +kernel
theorem d_M_init_21 : decode prog_5_method_1_code 21 = .ok (.bipush 40, 2) := by decide +kernel
theorem d_M_init_23 : decode prog_5_method_1_code 23 = .ok (.newarray .int, 2) := by decide +kernel
theorem d_M_init_25 : decode prog_5_method_1_code 25 = .ok (.putfield 16, 3) := by decide +kernel
theorem d_M_init_28 : decode prog_5_method_1_code 28 = .ok (.aload_n 0, 1) := by decide +kernel
theorem d_M_init_29 : decode prog_5_method_1_code 29 = .ok (.bipush 20, 2) := by decide +kernel
theorem d_M_init_31 : decode prog_5_method_1_code 31 = .ok (.newarray .int, 2) := by decide +kernel
theorem d_M_init_33 : decode prog_5_method_1_code 33 = .ok (.putfield 19, 3) := by decide +kernel
theorem d_M_init_36 : decode prog_5_method_1_code 36 = .ok (.aload_n 0, 1) := by decide +kernel
theorem d_M_init_37 : decode prog_5_method_1_code 37 = .ok (.iconst 1, 1) := by decide +kernel
theorem d_M_init_38 : decode prog_5_method_1_code 38 = .ok (.putfield 22, 3) := by decide +kernel
theorem d_M_init_41 : decode prog_5_method_1_code 41 = .ok (.aload_n 0, 1) := by decide +kernel
theorem d_M_init_42 : decode prog_5_method_1_code 42 = .ok (.bipush 20, 2) := by decide +kernel
theorem d_M_init_44 : decode prog_5_method_1_code 44 = .ok (.newarray .boolean, 2) := by decide +kernel
theorem d_M_init_46 : decode prog_5_method_1_code 46 = .ok (.putfield 26, 3) := by decide +kernel
theorem d_M_init_49 : decode prog_5_method_1_code 49 = .ok (.aload_n 0, 1) := by decide +kernel
theorem d_M_init_50 : decode prog_5_method_1_code 50 = .ok (.bipush 20, 2) := by decide +kernel
theorem d_M_init_52 : decode prog_5_method_1_code 52 = .ok (.newarray .int, 2) := by decide +kernel
theorem d_M_init_54 : decode prog_5_method_1_code 54 = .ok (.putfield 30, 3) := by decide +kernel
theorem d_M_init_57 : decode prog_5_method_1_code 57 = .ok (.aload_n 0, 1) := by decide +kernel
theorem d_M_init_58 : decode prog_5_method_1_code 58 = .ok (.bipush 20, 2) := by decide +kernel
theorem d_M_init_60 : decode prog_5_method_1_code 60 = .ok (.newarray .int, 2) := by decide +kernel
theorem d_M_init_62 : decode prog_5_method_1_code 62 = .ok (.putfield 33, 3) := by decide +kernel
theorem d_M_init_65 : decode prog_5_method_1_code 65 = .ok (.aload_n 0, 1) := by decide +kernel
theorem d_M_init_66 : decode prog_5_method_1_code 66 = .ok (.bipush 20, 2) := by decide +kernel
theorem d_M_init_68 : decode prog_5_method_1_code 68 = .ok (.newarray .int, 2) := by decide +kernel
theorem d_M_init_70 : decode prog_5_method_1_code 70 = .ok (.putfield 36, 3) := by decide +kernel
theorem d_M_init_73 : decode prog_5_method_1_code 73 = .ok (.aload_n 0, 1) := by decide +kernel
theorem d_M_init_74 : decode prog_5_method_1_code 74 = .ok (.iconst 5, 1) := by decide +kernel
theorem d_M_init_75 : decode prog_5_method_1_code 75 = .ok (.putfield 39, 3) := by decide +kernel
theorem d_M_init_78 : decode prog_5_method_1_code 78 = .ok (.aload_n 0, 1) := by decide +kernel
theorem d_M_init_79 : decode prog_5_method_1_code 79 = .ok (.bipush 60, 2) := by decide +kernel
theorem d_M_init_81 : decode prog_5_method_1_code 81 = .ok (.newarray .int, 2) := by decide +kernel
theorem d_M_init_83 : decode prog_5_method_1_code 83 = .ok (.putfield 42, 3) := by decide +kernel
theorem d_M_init_86 : decode prog_5_method_1_code 86 = .ok (.aload_n 0, 1) := by decide +kernel
theorem d_M_init_87 : decode prog_5_method_1_code 87 = .ok (.bipush 60, 2) := by decide +kernel
theorem d_M_init_89 : decode prog_5_method_1_code 89 = .ok (.newarray .int, 2) := by decide +kernel
theorem d_M_init_91 : decode prog_5_method_1_code 91 = .ok (.putfield 45, 3) := by decide +kernel
theorem d_M_init_94 : decode prog_5_method_1_code 94 = .ok (.aload_n 0, 1) := by decide +kernel
theorem d_M_init_95 : decode prog_5_method_1_code 95 = .ok (.bipush 60, 2) := by decide +kernel
theorem d_M_init_97 : decode prog_5_method_1_code 97 = .ok (.newarray .int, 2) := by decide +kernel
theorem d_M_init_99 : decode prog_5_method_1_code 99 = .ok (.putfield 48, 3) := by decide +kernel
theorem d_M_init_102 : decode prog_5_method_1_code 102 = .ok (.aload_n 0, 1) := by decide +kernel
theorem d_M_init_103 : decode prog_5_method_1_code 103 = .ok (.bipush 60, 2) := by decide +kernel
theorem d_M_init_105 : decode prog_5_method_1_code 105 = .ok (.newarray .int, 2) := by decide +kernel
theorem d_M_init_107 : decode prog_5_method_1_code 107 = .ok (.putfield 51, 3) := by decide +kernel
theorem d_M_init_110 : decode prog_5_method_1_code 110 = .ok (.aload_n 0, 1) := by decide +kernel
theorem d_M_init_111 : decode prog_5_method_1_code 111 = .ok (.sipush 400, 3) := by decide +kernel
theorem d_M_init_114 : decode prog_5_method_1_code 114 = .ok (.newarray .int, 2) := by decide +kernel
theorem d_M_init_116 : decode prog_5_method_1_code 116 = .ok (.putfield 54, 3) := by decide +kernel
theorem d_M_init_119 : decode prog_5_method_1_code 119 = .ok (.aload_n 0, 1) := by decide +kernel
theorem d_M_init_120 : decode prog_5_method_1_code 120 = .ok (.sipush 400, 3) := by decide +kernel
theorem d_M_init_123 : decode prog_5_method_1_code 123 = .ok (.newarray .int, 2) := by decide +kernel
theorem d_M_init_125 : decode prog_5_method_1_code 125 = .ok (.putfield 57, 3) := by decide +kernel
theorem d_M_init_128 : decode prog_5_method_1_code 128 = .ok (.aload_n 0, 1) := by decide +kernel
theorem d_M_init_129 : decode prog_5_method_1_code 129 = .ok (.sipush 400, 3) := by decide +kernel
theorem d_M_init_132 : decode prog_5_method_1_code 132 = .ok (.newarray .int, 2) := by decide +kernel
theorem d_M_init_134 : decode prog_5_method_1_code 134 = .ok (.putfield 60, 3) := by decide +kernel
theorem d_M_init_137 : decode prog_5_method_1_code 137 = .ok (.aload_n 0, 1) := by decide +kernel
theorem d_M_init_138 : decode prog_5_method_1_code 138 = .ok (.bipush 20, 2) := by decide +kernel
theorem d_M_init_140 : decode prog_5_method_1_code 140 = .ok (.newarray .int, 2) := by decide +kernel
theorem d_M_init_142 : decode prog_5_method_1_code 142 = .ok (.putfield 63, 3) := by decide +kernel
theorem d_M_init_145 : decode prog_5_method_1_code 145 = .ok (.aload_n 0, 1) := by decide +kernel
theorem d_M_init_146 : decode prog_5_method_1_code 146 = .ok (.iconst (-1), 1) := by decide +kernel
theorem d_M_init_147 : decode prog_5_method_1_code 147 = .ok (.putfield 66, 3) := by decide +kernel
theorem d_M_init_150 : decode prog_5_method_1_code 150 = .ok (.aload_n 0, 1) := by decide +kernel
theorem d_M_init_151 : decode prog_5_method_1_code 151 = .ok (.getfield 30, 3) := by decide +kernel
theorem d_M_init_154 : decode prog_5_method_1_code 154 = .ok (.iconst 0, 1) := by decide +kernel
theorem d_M_init_155 : decode prog_5_method_1_code 155 = .ok (.iconst (-1), 1) := by decide +kernel
theorem d_M_init_156 : decode prog_5_method_1_code 156 = .ok (.iastore, 1) := by decide +kernel
theorem d_M_init_157 : decode prog_5_method_1_code 157 = .ok (.iconst 0, 1) := by decide +kernel
theorem d_M_init_158 : decode prog_5_method_1_code 158 = .ok (.istore_n 1, 1) := by decide +kernel
theorem d_M_init_159 : decode prog_5_method_1_code 159 = .ok (.iload_n 1, 1) := by decide +kernel
theorem d_M_init_160 : decode prog_5_method_1_code 160 = .ok (.bipush 20, 2) := by decide +kernel
theorem d_M_init_162 : decode prog_5_method_1_code 162 = .ok (.if_icmp .ge 30, 3) := by decide +kernel
theorem d_M_init_165 : decode prog_5_method_1_code 165 = .ok (.aload_n 0, 1) := by decide +kernel
theorem d_M_init_166 : decode prog_5_method_1_code 166 = .ok (.getfield 33, 3) := by decide +kernel
theorem d_M_init_169 : decode prog_5_method_1_code 169 = .ok (.iload_n 1, 1) := by decide +kernel
theorem d_M_init_170 : decode prog_5_method_1_code 170 = .ok (.iconst (-1), 1) := by decide +kernel
theorem d_M_init_171 : decode prog_5_method_1_code 171 = .ok (.iastore, 1) := by decide +kernel
theorem d_M_init_172 : decode prog_5_method_1_code 172 = .ok (.aload_n 0, 1) := by decide +kernel
theorem d_M_init_173 : decode prog_5_method_1_code 173 = .ok (.getfield 36, 3) := by decide +kernel
theorem d_M_init_176 : decode prog_5_method_1_code 176 = .ok (.iload_n 1, 1) := by decide +kernel
theorem d_M_init_177 : decode prog_5_method_1_code 177 = .ok (.iconst (-1), 1) := by decide +kernel
theorem d_M_init_178 : decode prog_5_method_1_code 178 = .ok (.iastore, 1) := by decide +kernel
theorem d_M_init_179 : decode prog_5_method_1_code 179 = .ok (.aload_n 0, 1) := by decide +kernel
theorem d_M_init_180 : decode prog_5_method_1_code 180 = .ok (.getfield 63, 3) := by decide +kernel
theorem d_M_init_183 : decode prog_5_method_1_code 183 = .ok (.iload_n 1, 1) := by decide +kernel
theorem d_M_init_184 : decode prog_5_method_1_code 184 = .ok (.iconst (-1), 1) := by decide +kernel
theorem d_M_init_185 : decode prog_5_method_1_code 185 = .ok (.iastore, 1) := by decide +kernel
theorem d_M_init_186 : decode prog_5_method_1_code 186 = .ok (.iinc 1 1, 3) := by decide +kernel
theorem d_M_init_189 : decode prog_5_method_1_code 189 = .ok (.goto (-30), 3) := by decide +kernel
theorem d_M_init_192 : decode prog_5_method_1_code 192 = .ok (.return_, 1) := by decide +kernel
theorem d_M_thrown_0 : decode prog_5_method_2_code 0 = .ok (.aload_n 0, 1) := by decide +kernel
theorem d_M_thrown_1 : decode prog_5_method_2_code 1 = .ok (.getfield 69, 3) := by decide +kernel
theorem d_M_thrown_4 : decode prog_5_method_2_code 4 = .ok (.ireturn, 1) := by decide +kernel
theorem d_M_person_0 : decode prog_5_method_14_code 0 = .ok (.aload_n 0, 1) := by decide +kernel
theorem d_M_person_1 : decode prog_5_method_14_code 1 = .ok (.bipush 10, 2) := by decide +kernel
theorem d_M_person_3 : decode prog_5_method_14_code 3 = .ok (.iconst 1, 1) := by decide +kernel
theorem d_M_person_4 : decode prog_5_method_14_code 4 = .ok (.iload_n 1, 1) := by decide +kernel
theorem d_M_person_5 : decode prog_5_method_14_code 5 = .ok (.iconst 0, 1) := by decide +kernel
theorem d_M_person_6 : decode prog_5_method_14_code 6 = .ok (.bipush 9, 2) := by decide +kernel
theorem d_M_person_8 : decode prog_5_method_14_code 8 = .ok (.invokestatic 75, 3) := by decide +kernel
theorem d_M_person_11 : decode prog_5_method_14_code 11 = .ok (.iconst 1, 1) := by decide +kernel
theorem d_M_person_12 : decode prog_5_method_14_code 12 = .ok (.aload_n 0, 1) := by decide +kernel
theorem d_M_person_13 : decode prog_5_method_14_code 13 = .ok (.getfield 72, 3) := by decide +kernel
theorem d_M_person_16 : decode prog_5_method_14_code 16 = .ok (.bipush 40, 2) := by decide +kernel
theorem d_M_person_18 : decode prog_5_method_14_code 18 = .ok (.if_icmp .ge 7, 3) := by decide +kernel
theorem d_M_person_21 : decode prog_5_method_14_code 21 = .ok (.iconst 1, 1) := by decide +kernel
theorem d_M_person_22 : decode prog_5_method_14_code 22 = .ok (.goto 4, 3) := by decide +kernel
theorem d_M_person_25 : decode prog_5_method_14_code 25 = .ok (.iconst 0, 1) := by decide +kernel
theorem d_M_person_26 : decode prog_5_method_14_code 26 = .ok (.invokevirtual 106, 3) := by decide +kernel
theorem d_M_person_29 : decode prog_5_method_14_code 29 = .ok (.ifCond .ne 5, 3) := by decide +kernel
theorem d_M_person_32 : decode prog_5_method_14_code 32 = .ok (.iconst 0, 1) := by decide +kernel
theorem d_M_person_33 : decode prog_5_method_14_code 33 = .ok (.ireturn, 1) := by decide +kernel
theorem d_M_person_34 : decode prog_5_method_14_code 34 = .ok (.aload_n 0, 1) := by decide +kernel
theorem d_M_person_35 : decode prog_5_method_14_code 35 = .ok (.getfield 7, 3) := by decide +kernel
theorem d_M_person_38 : decode prog_5_method_14_code 38 = .ok (.aload_n 0, 1) := by decide +kernel
theorem d_M_person_39 : decode prog_5_method_14_code 39 = .ok (.getfield 72, 3) := by decide +kernel
theorem d_M_person_42 : decode prog_5_method_14_code 42 = .ok (.iload_n 1, 1) := by decide +kernel
theorem d_M_person_43 : decode prog_5_method_14_code 43 = .ok (.iastore, 1) := by decide +kernel
theorem d_M_person_44 : decode prog_5_method_14_code 44 = .ok (.aload_n 0, 1) := by decide +kernel
theorem d_M_person_45 : decode prog_5_method_14_code 45 = .ok (.getfield 13, 3) := by decide +kernel
theorem d_M_person_48 : decode prog_5_method_14_code 48 = .ok (.aload_n 0, 1) := by decide +kernel
theorem d_M_person_49 : decode prog_5_method_14_code 49 = .ok (.getfield 72, 3) := by decide +kernel
theorem d_M_person_52 : decode prog_5_method_14_code 52 = .ok (.iconst (-1), 1) := by decide +kernel
theorem d_M_person_53 : decode prog_5_method_14_code 53 = .ok (.iastore, 1) := by decide +kernel
theorem d_M_person_54 : decode prog_5_method_14_code 54 = .ok (.aload_n 0, 1) := by decide +kernel
theorem d_M_person_55 : decode prog_5_method_14_code 55 = .ok (.getfield 16, 3) := by decide +kernel
theorem d_M_person_58 : decode prog_5_method_14_code 58 = .ok (.aload_n 0, 1) := by decide +kernel
theorem d_M_person_59 : decode prog_5_method_14_code 59 = .ok (.getfield 72, 3) := by decide +kernel
theorem d_M_person_62 : decode prog_5_method_14_code 62 = .ok (.iconst (-1), 1) := by decide +kernel
theorem d_M_person_63 : decode prog_5_method_14_code 63 = .ok (.iastore, 1) := by decide +kernel
theorem d_M_person_64 : decode prog_5_method_14_code 64 = .ok (.aload_n 0, 1) := by decide +kernel
theorem d_M_person_65 : decode prog_5_method_14_code 65 = .ok (.dup, 1) := by decide +kernel
theorem d_M_person_66 : decode prog_5_method_14_code 66 = .ok (.getfield 72, 3) := by decide +kernel
theorem d_M_person_69 : decode prog_5_method_14_code 69 = .ok (.iconst 1, 1) := by decide +kernel
theorem d_M_person_70 : decode prog_5_method_14_code 70 = .ok (.iadd, 1) := by decide +kernel
theorem d_M_person_71 : decode prog_5_method_14_code 71 = .ok (.putfield 72, 3) := by decide +kernel
theorem d_M_person_74 : decode prog_5_method_14_code 74 = .ok (.aload_n 0, 1) := by decide +kernel
theorem d_M_person_75 : decode prog_5_method_14_code 75 = .ok (.getfield 72, 3) := by decide +kernel
theorem d_M_person_78 : decode prog_5_method_14_code 78 = .ok (.iconst 1, 1) := by decide +kernel
theorem d_M_person_79 : decode prog_5_method_14_code 79 = .ok (.isub, 1) := by decide +kernel
theorem d_M_person_80 : decode prog_5_method_14_code 80 = .ok (.ireturn, 1) := by decide +kernel
theorem d_M_within_0 : decode prog_5_method_3_code 0 = .ok (.iload_n 0, 1) := by decide +kernel
theorem d_M_within_1 : decode prog_5_method_3_code 1 = .ok (.iload_n 1, 1) := by decide +kernel
theorem d_M_within_2 : decode prog_5_method_3_code 2 = .ok (.if_icmp .lt 12, 3) := by decide +kernel
theorem d_M_within_5 : decode prog_5_method_3_code 5 = .ok (.iload_n 0, 1) := by decide +kernel
theorem d_M_within_6 : decode prog_5_method_3_code 6 = .ok (.iload_n 2, 1) := by decide +kernel
theorem d_M_within_7 : decode prog_5_method_3_code 7 = .ok (.if_icmp .gt 7, 3) := by decide +kernel
theorem d_M_within_10 : decode prog_5_method_3_code 10 = .ok (.iconst 1, 1) := by decide +kernel
theorem d_M_within_11 : decode prog_5_method_3_code 11 = .ok (.goto 4, 3) := by decide +kernel
theorem d_M_within_14 : decode prog_5_method_3_code 14 = .ok (.iconst 0, 1) := by decide +kernel
theorem d_M_within_15 : decode prog_5_method_3_code 15 = .ok (.ireturn, 1) := by decide +kernel
theorem d_M_goes_0 : decode prog_5_method_4_code 0 = .ok (.iload_n 2, 1) := by decide +kernel
theorem d_M_goes_1 : decode prog_5_method_4_code 1 = .ok (.ifCond .ne 7, 3) := by decide +kernel
theorem d_M_goes_4 : decode prog_5_method_4_code 4 = .ok (.iconst 1, 1) := by decide +kernel
theorem d_M_goes_5 : decode prog_5_method_4_code 5 = .ok (.goto 31, 3) := by decide +kernel
theorem d_M_goes_8 : decode prog_5_method_4_code 8 = .ok (.iload_n 3, 1) := by decide +kernel
theorem d_M_goes_9 : decode prog_5_method_4_code 9 = .ok (.ifCond .ne 7, 3) := by decide +kernel
theorem d_M_goes_12 : decode prog_5_method_4_code 12 = .ok (.iconst 2, 1) := by decide +kernel
theorem d_M_goes_13 : decode prog_5_method_4_code 13 = .ok (.goto 23, 3) := by decide +kernel
theorem d_M_goes_16 : decode prog_5_method_4_code 16 = .ok (.iload 4, 2) := by decide +kernel
theorem d_M_goes_18 : decode prog_5_method_4_code 18 = .ok (.ifCond .ne 7, 3) := by decide +kernel
theorem d_M_goes_21 : decode prog_5_method_4_code 21 = .ok (.iconst 4, 1) := by decide +kernel
theorem d_M_goes_22 : decode prog_5_method_4_code 22 = .ok (.goto 14, 3) := by decide +kernel
theorem d_M_goes_25 : decode prog_5_method_4_code 25 = .ok (.iload 5, 2) := by decide +kernel
theorem d_M_goes_27 : decode prog_5_method_4_code 27 = .ok (.ifCond .ne 8, 3) := by decide +kernel
theorem d_M_goes_30 : decode prog_5_method_4_code 30 = .ok (.bipush 8, 2) := by decide +kernel
theorem d_M_goes_32 : decode prog_5_method_4_code 32 = .ok (.goto 4, 3) := by decide +kernel
theorem d_M_goes_35 : decode prog_5_method_4_code 35 = .ok (.iconst 0, 1) := by decide +kernel
theorem d_M_goes_36 : decode prog_5_method_4_code 36 = .ok (.istore 6, 2) := by decide +kernel
theorem d_M_goes_38 : decode prog_5_method_4_code 38 = .ok (.aload_n 0, 1) := by decide +kernel
theorem d_M_goes_39 : decode prog_5_method_4_code 39 = .ok (.iconst 0, 1) := by decide +kernel
theorem d_M_goes_40 : decode prog_5_method_4_code 40 = .ok (.putfield 69, 3) := by decide +kernel
theorem d_M_goes_43 : decode prog_5_method_4_code 43 = .ok (.iconst 1, 1) := by decide +kernel
theorem d_M_goes_44 : decode prog_5_method_4_code 44 = .ok (.istore 7, 2) := by decide +kernel
theorem d_M_goes_46 : decode prog_5_method_4_code 46 = .ok (.iload 7, 2) := by decide +kernel
theorem d_M_goes_48 : decode prog_5_method_4_code 48 = .ok (.iload 6, 2) := by decide +kernel
theorem d_M_goes_50 : decode prog_5_method_4_code 50 = .ok (.if_icmp .gt 29, 3) := by decide +kernel
theorem d_M_goes_53 : decode prog_5_method_4_code 53 = .ok (.iload_n 1, 1) := by decide +kernel
theorem d_M_goes_54 : decode prog_5_method_4_code 54 = .ok (.iload 7, 2) := by decide +kernel
theorem d_M_goes_56 : decode prog_5_method_4_code 56 = .ok (.iand, 1) := by decide +kernel
theorem d_M_goes_57 : decode prog_5_method_4_code 57 = .ok (.ifCond .le 13, 3) := by decide +kernel
theorem d_M_goes_60 : decode prog_5_method_4_code 60 = .ok (.aload_n 0, 1) := by decide +kernel
theorem d_M_goes_61 : decode prog_5_method_4_code 61 = .ok (.dup, 1) := by decide +kernel
theorem d_M_goes_62 : decode prog_5_method_4_code 62 = .ok (.getfield 69, 3) := by decide +kernel
theorem d_M_goes_65 : decode prog_5_method_4_code 65 = .ok (.iconst 1, 1) := by decide +kernel
theorem d_M_goes_66 : decode prog_5_method_4_code 66 = .ok (.iadd, 1) := by decide +kernel
theorem d_M_goes_67 : decode prog_5_method_4_code 67 = .ok (.putfield 69, 3) := by decide +kernel
theorem d_M_goes_70 : decode prog_5_method_4_code 70 = .ok (.iconst 2, 1) := by decide +kernel
theorem d_M_goes_71 : decode prog_5_method_4_code 71 = .ok (.iload 7, 2) := by decide +kernel
theorem d_M_goes_73 : decode prog_5_method_4_code 73 = .ok (.imul, 1) := by decide +kernel
theorem d_M_goes_74 : decode prog_5_method_4_code 74 = .ok (.istore 7, 2) := by decide +kernel
theorem d_M_goes_76 : decode prog_5_method_4_code 76 = .ok (.goto (-30), 3) := by decide +kernel
theorem d_M_goes_79 : decode prog_5_method_4_code 79 = .ok (.iload 6, 2) := by decide +kernel
theorem d_M_goes_81 : decode prog_5_method_4_code 81 = .ok (.ifCond .ne 7, 3) := by decide +kernel
theorem d_M_goes_84 : decode prog_5_method_4_code 84 = .ok (.iconst 1, 1) := by decide +kernel
theorem d_M_goes_85 : decode prog_5_method_4_code 85 = .ok (.goto 4, 3) := by decide +kernel
theorem d_M_goes_88 : decode prog_5_method_4_code 88 = .ok (.iconst 0, 1) := by decide +kernel
theorem d_M_goes_89 : decode prog_5_method_4_code 89 = .ok (.ireturn, 1) := by decide +kernel
theorem d_M_unit_0 : decode prog_5_method_15_code 0 = .ok (.aload_n 0, 1) := by decide +kernel
theorem d_M_unit_1 : decode prog_5_method_15_code 1 = .ok (.bipush 8, 2) := by decide +kernel
theorem d_M_unit_3 : decode prog_5_method_15_code 3 = .ok (.iconst 1, 1) := by decide +kernel
theorem d_M_unit_4 : decode prog_5_method_15_code 4 = .ok (.iconst 1, 1) := by decide +kernel
theorem d_M_unit_5 : decode prog_5_method_15_code 5 = .ok (.iconst 1, 1) := by decide +kernel
theorem d_M_unit_6 : decode prog_5_method_15_code 6 = .ok (.aload_n 0, 1) := by decide +kernel
theorem d_M_unit_7 : decode prog_5_method_15_code 7 = .ok (.getfield 79, 3) := by decide +kernel
theorem d_M_unit_10 : decode prog_5_method_15_code 10 = .ok (.bipush 20, 2) := by decide +kernel
theorem d_M_unit_12 : decode prog_5_method_15_code 12 = .ok (.if_icmp .ge 7, 3) := by decide +kernel
theorem d_M_unit_15 : decode prog_5_method_15_code 15 = .ok (.iconst 1, 1) := by decide +kernel
theorem d_M_unit_16 : decode prog_5_method_15_code 16 = .ok (.goto 4, 3) := by decide +kernel
theorem d_M_unit_19 : decode prog_5_method_15_code 19 = .ok (.iconst 0, 1) := by decide +kernel
theorem d_M_unit_20 : decode prog_5_method_15_code 20 = .ok (.invokevirtual 106, 3) := by decide +kernel
theorem d_M_unit_23 : decode prog_5_method_15_code 23 = .ok (.ifCond .ne 5, 3) := by decide +kernel
theorem d_M_unit_26 : decode prog_5_method_15_code 26 = .ok (.iconst 0, 1) := by decide +kernel
theorem d_M_unit_27 : decode prog_5_method_15_code 27 = .ok (.ireturn, 1) := by decide +kernel
theorem d_M_unit_28 : decode prog_5_method_15_code 28 = .ok (.aload_n 0, 1) := by decide +kernel
theorem d_M_unit_29 : decode prog_5_method_15_code 29 = .ok (.getfield 19, 3) := by decide +kernel
theorem d_M_unit_32 : decode prog_5_method_15_code 32 = .ok (.aload_n 0, 1) := by decide +kernel
theorem d_M_unit_33 : decode prog_5_method_15_code 33 = .ok (.getfield 79, 3) := by decide +kernel
theorem d_M_unit_36 : decode prog_5_method_15_code 36 = .ok (.iconst (-1), 1) := by decide +kernel
theorem d_M_unit_37 : decode prog_5_method_15_code 37 = .ok (.iastore, 1) := by decide +kernel
theorem d_M_unit_38 : decode prog_5_method_15_code 38 = .ok (.aload_n 0, 1) := by decide +kernel
theorem d_M_unit_39 : decode prog_5_method_15_code 39 = .ok (.dup, 1) := by decide +kernel
theorem d_M_unit_40 : decode prog_5_method_15_code 40 = .ok (.getfield 79, 3) := by decide +kernel
theorem d_M_unit_43 : decode prog_5_method_15_code 43 = .ok (.iconst 1, 1) := by decide +kernel
theorem d_M_unit_44 : decode prog_5_method_15_code 44 = .ok (.iadd, 1) := by decide +kernel
theorem d_M_unit_45 : decode prog_5_method_15_code 45 = .ok (.putfield 79, 3) := by decide +kernel
theorem d_M_unit_48 : decode prog_5_method_15_code 48 = .ok (.aload_n 0, 1) := by decide +kernel
theorem d_M_unit_49 : decode prog_5_method_15_code 49 = .ok (.getfield 79, 3) := by decide +kernel
theorem d_M_unit_52 : decode prog_5_method_15_code 52 = .ok (.iconst 1, 1) := by decide +kernel
theorem d_M_unit_53 : decode prog_5_method_15_code 53 = .ok (.isub, 1) := by decide +kernel
theorem d_M_unit_54 : decode prog_5_method_15_code 54 = .ok (.ireturn, 1) := by decide +kernel
theorem d_M_arrive_0 : decode prog_5_method_16_code 0 = .ok (.aload_n 0, 1) := by decide +kernel
theorem d_M_arrive_1 : decode prog_5_method_16_code 1 = .ok (.iconst 5, 1) := by decide +kernel
theorem d_M_arrive_2 : decode prog_5_method_16_code 2 = .ok (.aload_n 0, 1) := by decide +kernel
theorem d_M_arrive_3 : decode prog_5_method_16_code 3 = .ok (.iload_n 1, 1) := by decide +kernel
theorem d_M_arrive_4 : decode prog_5_method_16_code 4 = .ok (.invokevirtual 110, 3) := by decide +kernel
theorem d_M_arrive_7 : decode prog_5_method_16_code 7 = .ok (.iconst 1, 1) := by decide +kernel
theorem d_M_arrive_8 : decode prog_5_method_16_code 8 = .ok (.aload_n 0, 1) := by decide +kernel
theorem d_M_arrive_9 : decode prog_5_method_16_code 9 = .ok (.iload_n 1, 1) := by decide +kernel
theorem d_M_arrive_10 : decode prog_5_method_16_code 10 = .ok (.invokevirtual 110, 3) := by decide +kernel
theorem d_M_arrive_13 : decode prog_5_method_16_code 13 = .ok (.ifCond .eq 16, 3) := by decide +kernel
theorem d_M_arrive_16 : decode prog_5_method_16_code 16 = .ok (.aload_n 0, 1) := by decide +kernel
theorem d_M_arrive_17 : decode prog_5_method_16_code 17 = .ok (.getfield 13, 3) := by decide +kernel
theorem d_M_arrive_20 : decode prog_5_method_16_code 20 = .ok (.iload_n 1, 1) := by decide +kernel
theorem d_M_arrive_21 : decode prog_5_method_16_code 21 = .ok (.iaload, 1) := by decide +kernel
theorem d_M_arrive_22 : decode prog_5_method_16_code 22 = .ok (.ifCond .ge 7, 3) := by decide +kernel
theorem d_M_arrive_25 : decode prog_5_method_16_code 25 = .ok (.iconst 1, 1) := by decide +kernel
theorem d_M_arrive_26 : decode prog_5_method_16_code 26 = .ok (.goto 4, 3) := by decide +kernel
theorem d_M_arrive_29 : decode prog_5_method_16_code 29 = .ok (.iconst 0, 1) := by decide +kernel
theorem d_M_arrive_30 : decode prog_5_method_16_code 30 = .ok (.iconst 1, 1) := by decide +kernel
theorem d_M_arrive_31 : decode prog_5_method_16_code 31 = .ok (.invokevirtual 106, 3) := by decide +kernel
theorem d_M_arrive_34 : decode prog_5_method_16_code 34 = .ok (.ifCond .ne 4, 3) := by decide +kernel
theorem d_M_arrive_37 : decode prog_5_method_16_code 37 = .ok (.return_, 1) := by decide +kernel
theorem d_M_arrive_38 : decode prog_5_method_16_code 38 = .ok (.aload_n 0, 1) := by decide +kernel
theorem d_M_arrive_39 : decode prog_5_method_16_code 39 = .ok (.getfield 16, 3) := by decide +kernel
theorem d_M_arrive_42 : decode prog_5_method_16_code 42 = .ok (.iload_n 1, 1) := by decide +kernel
theorem d_M_arrive_43 : decode prog_5_method_16_code 43 = .ok (.aload_n 0, 1) := by decide +kernel
theorem d_M_arrive_44 : decode prog_5_method_16_code 44 = .ok (.getfield 89, 3) := by decide +kernel
theorem d_M_arrive_47 : decode prog_5_method_16_code 47 = .ok (.iastore, 1) := by decide +kernel
theorem d_M_arrive_48 : decode prog_5_method_16_code 48 = .ok (.aload_n 0, 1) := by decide +kernel
theorem d_M_arrive_49 : decode prog_5_method_16_code 49 = .ok (.iload_n 1, 1) := by decide +kernel
theorem d_M_arrive_50 : decode prog_5_method_16_code 50 = .ok (.iconst 0, 1) := by decide +kernel
theorem d_M_arrive_51 : decode prog_5_method_16_code 51 = .ok (.invokevirtual 113, 3) := by decide +kernel
theorem d_M_arrive_54 : decode prog_5_method_16_code 54 = .ok (.return_, 1) := by decide +kernel
theorem d_M_isPerson_0 : decode prog_5_method_5_code 0 = .ok (.iload_n 1, 1) := by decide +kernel
theorem d_M_isPerson_1 : decode prog_5_method_5_code 1 = .ok (.iconst 0, 1) := by decide +kernel
theorem d_M_isPerson_2 : decode prog_5_method_5_code 2 = .ok (.aload_n 0, 1) := by decide +kernel
theorem d_M_isPerson_3 : decode prog_5_method_5_code 3 = .ok (.getfield 72, 3) := by decide +kernel
theorem d_M_isPerson_6 : decode prog_5_method_5_code 6 = .ok (.iconst 1, 1) := by decide +kernel
theorem d_M_isPerson_7 : decode prog_5_method_5_code 7 = .ok (.isub, 1) := by decide +kernel
theorem d_M_isPerson_8 : decode prog_5_method_5_code 8 = .ok (.invokestatic 75, 3) := by decide +kernel
theorem d_M_isPerson_11 : decode prog_5_method_5_code 11 = .ok (.ireturn, 1) := by decide +kernel
theorem d_M_moves_0 : decode prog_5_method_13_code 0 = .ok (.aload_n 0, 1) := by decide +kernel
theorem d_M_moves_1 : decode prog_5_method_13_code 1 = .ok (.iload_n 1, 1) := by decide +kernel
theorem d_M_moves_2 : decode prog_5_method_13_code 2 = .ok (.invokevirtual 96, 3) := by decide +kernel
theorem d_M_moves_5 : decode prog_5_method_13_code 5 = .ok (.istore_n 3, 1) := by decide +kernel
theorem d_M_moves_6 : decode prog_5_method_13_code 6 = .ok (.aload_n 0, 1) := by decide +kernel
theorem d_M_moves_7 : decode prog_5_method_13_code 7 = .ok (.getfield 13, 3) := by decide +kernel
theorem d_M_moves_10 : decode prog_5_method_13_code 10 = .ok (.iload_n 1, 1) := by decide +kernel
theorem d_M_moves_11 : decode prog_5_method_13_code 11 = .ok (.iload_n 2, 1) := by decide +kernel
theorem d_M_moves_12 : decode prog_5_method_13_code 12 = .ok (.iastore, 1) := by decide +kernel
theorem d_M_moves_13 : decode prog_5_method_13_code 13 = .ok (.iload_n 3, 1) := by decide +kernel
theorem d_M_moves_14 : decode prog_5_method_13_code 14 = .ok (.ifCond .lt 31, 3) := by decide +kernel
theorem d_M_moves_17 : decode prog_5_method_13_code 17 = .ok (.aload_n 0, 1) := by decide +kernel
theorem d_M_moves_18 : decode prog_5_method_13_code 18 = .ok (.getfield 33, 3) := by decide +kernel
theorem d_M_moves_21 : decode prog_5_method_13_code 21 = .ok (.iload_n 3, 1) := by decide +kernel
theorem d_M_moves_22 : decode prog_5_method_13_code 22 = .ok (.iconst (-1), 1) := by decide +kernel
theorem d_M_moves_23 : decode prog_5_method_13_code 23 = .ok (.iastore, 1) := by decide +kernel
theorem d_M_moves_24 : decode prog_5_method_13_code 24 = .ok (.aload_n 0, 1) := by decide +kernel
theorem d_M_moves_25 : decode prog_5_method_13_code 25 = .ok (.iload_n 3, 1) := by decide +kernel
theorem d_M_moves_26 : decode prog_5_method_13_code 26 = .ok (.invokevirtual 100, 3) := by decide +kernel
theorem d_M_moves_29 : decode prog_5_method_13_code 29 = .ok (.istore 4, 2) := by decide +kernel
theorem d_M_moves_31 : decode prog_5_method_13_code 31 = .ok (.aload_n 0, 1) := by decide +kernel
theorem d_M_moves_32 : decode prog_5_method_13_code 32 = .ok (.getfield 33, 3) := by decide +kernel
theorem d_M_moves_35 : decode prog_5_method_13_code 35 = .ok (.iload_n 3, 1) := by decide +kernel
theorem d_M_moves_36 : decode prog_5_method_13_code 36 = .ok (.iload_n 1, 1) := by decide +kernel
theorem d_M_moves_37 : decode prog_5_method_13_code 37 = .ok (.iastore, 1) := by decide +kernel
theorem d_M_moves_38 : decode prog_5_method_13_code 38 = .ok (.aload_n 0, 1) := by decide +kernel
theorem d_M_moves_39 : decode prog_5_method_13_code 39 = .ok (.iload_n 3, 1) := by decide +kernel
theorem d_M_moves_40 : decode prog_5_method_13_code 40 = .ok (.iload 4, 2) := by decide +kernel
theorem d_M_moves_42 : decode prog_5_method_13_code 42 = .ok (.invokevirtual 103, 3) := by decide +kernel
theorem d_M_moves_45 : decode prog_5_method_13_code 45 = .ok (.iload_n 2, 1) := by decide +kernel
theorem d_M_moves_46 : decode prog_5_method_13_code 46 = .ok (.ifCond .lt 18, 3) := by decide +kernel
theorem d_M_moves_49 : decode prog_5_method_13_code 49 = .ok (.aload_n 0, 1) := by decide +kernel
theorem d_M_moves_50 : decode prog_5_method_13_code 50 = .ok (.getfield 33, 3) := by decide +kernel
theorem d_M_moves_53 : decode prog_5_method_13_code 53 = .ok (.iload_n 2, 1) := by decide +kernel
theorem d_M_moves_54 : decode prog_5_method_13_code 54 = .ok (.iaload, 1) := by decide +kernel
theorem d_M_moves_55 : decode prog_5_method_13_code 55 = .ok (.ifCond .ge 9, 3) := by decide +kernel
theorem d_M_moves_58 : decode prog_5_method_13_code 58 = .ok (.aload_n 0, 1) := by decide +kernel
theorem d_M_moves_59 : decode prog_5_method_13_code 59 = .ok (.iload_n 2, 1) := by decide +kernel
theorem d_M_moves_60 : decode prog_5_method_13_code 60 = .ok (.iload_n 1, 1) := by decide +kernel
theorem d_M_moves_61 : decode prog_5_method_13_code 61 = .ok (.invokevirtual 103, 3) := by decide +kernel
theorem d_M_moves_64 : decode prog_5_method_13_code 64 = .ok (.return_, 1) := by decide +kernel
theorem d_M_leads_0 : decode prog_5_method_9_code 0 = .ok (.iconst 0, 1) := by decide +kernel
theorem d_M_leads_1 : decode prog_5_method_9_code 1 = .ok (.istore_n 2, 1) := by decide +kernel
theorem d_M_leads_2 : decode prog_5_method_9_code 2 = .ok (.iload_n 2, 1) := by decide +kernel
theorem d_M_leads_3 : decode prog_5_method_9_code 3 = .ok (.aload_n 0, 1) := by decide +kernel
theorem d_M_leads_4 : decode prog_5_method_9_code 4 = .ok (.getfield 22, 3) := by decide +kernel
theorem d_M_leads_7 : decode prog_5_method_9_code 7 = .ok (.if_icmp .ge 21, 3) := by decide +kernel
theorem d_M_leads_10 : decode prog_5_method_9_code 10 = .ok (.aload_n 0, 1) := by decide +kernel
theorem d_M_leads_11 : decode prog_5_method_9_code 11 = .ok (.getfield 33, 3) := by decide +kernel
theorem d_M_leads_14 : decode prog_5_method_9_code 14 = .ok (.iload_n 2, 1) := by decide +kernel
theorem d_M_leads_15 : decode prog_5_method_9_code 15 = .ok (.iaload, 1) := by decide +kernel
theorem d_M_leads_16 : decode prog_5_method_9_code 16 = .ok (.iload_n 1, 1) := by decide +kernel
theorem d_M_leads_17 : decode prog_5_method_9_code 17 = .ok (.if_icmp .ne 5, 3) := by decide +kernel
theorem d_M_leads_20 : decode prog_5_method_9_code 20 = .ok (.iload_n 2, 1) := by decide +kernel
theorem d_M_leads_21 : decode prog_5_method_9_code 21 = .ok (.ireturn, 1) := by decide +kernel
theorem d_M_leads_22 : decode prog_5_method_9_code 22 = .ok (.iinc 2 1, 3) := by decide +kernel
theorem d_M_leads_25 : decode prog_5_method_9_code 25 = .ok (.goto (-23), 3) := by decide +kernel
theorem d_M_leads_28 : decode prog_5_method_9_code 28 = .ok (.iconst (-1), 1) := by decide +kernel
theorem d_M_leads_29 : decode prog_5_method_9_code 29 = .ok (.ireturn, 1) := by decide +kernel
theorem d_M_next_0 : decode prog_5_method_12_code 0 = .ok (.iconst (-1), 1) := by decide +kernel
theorem d_M_next_1 : decode prog_5_method_12_code 1 = .ok (.istore_n 2, 1) := by decide +kernel
theorem d_M_next_2 : decode prog_5_method_12_code 2 = .ok (.iconst 0, 1) := by decide +kernel
theorem d_M_next_3 : decode prog_5_method_12_code 3 = .ok (.istore_n 3, 1) := by decide +kernel
theorem d_M_next_4 : decode prog_5_method_12_code 4 = .ok (.iload_n 3, 1) := by decide +kernel
theorem d_M_next_5 : decode prog_5_method_12_code 5 = .ok (.aload_n 0, 1) := by decide +kernel
theorem d_M_next_6 : decode prog_5_method_12_code 6 = .ok (.getfield 72, 3) := by decide +kernel
theorem d_M_next_9 : decode prog_5_method_12_code 9 = .ok (.if_icmp .ge 81, 3) := by decide +kernel
theorem d_M_next_12 : decode prog_5_method_12_code 12 = .ok (.aload_n 0, 1) := by decide +kernel
theorem d_M_next_13 : decode prog_5_method_12_code 13 = .ok (.getfield 13, 3) := by decide +kernel
theorem d_M_next_16 : decode prog_5_method_12_code 16 = .ok (.iload_n 3, 1) := by decide +kernel
theorem d_M_next_17 : decode prog_5_method_12_code 17 = .ok (.iaload, 1) := by decide +kernel
theorem d_M_next_18 : decode prog_5_method_12_code 18 = .ok (.iload_n 1, 1) := by decide +kernel
theorem d_M_next_19 : decode prog_5_method_12_code 19 = .ok (.if_icmp .ne 65, 3) := by decide +kernel
theorem d_M_next_22 : decode prog_5_method_12_code 22 = .ok (.aload_n 0, 1) := by decide +kernel
theorem d_M_next_23 : decode prog_5_method_12_code 23 = .ok (.iload_n 3, 1) := by decide +kernel
theorem d_M_next_24 : decode prog_5_method_12_code 24 = .ok (.invokevirtual 96, 3) := by decide +kernel
theorem d_M_next_27 : decode prog_5_method_12_code 27 = .ok (.ifCond .lt 6, 3) := by decide +kernel
theorem d_M_next_30 : decode prog_5_method_12_code 30 = .ok (.goto 54, 3) := by decide +kernel
theorem d_M_next_33 : decode prog_5_method_12_code 33 = .ok (.iload_n 2, 1) := by decide +kernel
theorem d_M_next_34 : decode prog_5_method_12_code 34 = .ok (.ifCond .lt 48, 3) := by decide +kernel
theorem d_M_next_37 : decode prog_5_method_12_code 37 = .ok (.aload_n 0, 1) := by decide +kernel
theorem d_M_next_38 : decode prog_5_method_12_code 38 = .ok (.getfield 7, 3) := by decide +kernel
theorem d_M_next_41 : decode prog_5_method_12_code 41 = .ok (.iload_n 3, 1) := by decide +kernel
theorem d_M_next_42 : decode prog_5_method_12_code 42 = .ok (.iaload, 1) := by decide +kernel
theorem d_M_next_43 : decode prog_5_method_12_code 43 = .ok (.aload_n 0, 1) := by decide +kernel
theorem d_M_next_44 : decode prog_5_method_12_code 44 = .ok (.getfield 7, 3) := by decide +kernel
theorem d_M_next_47 : decode prog_5_method_12_code 47 = .ok (.iload_n 2, 1) := by decide +kernel
theorem d_M_next_48 : decode prog_5_method_12_code 48 = .ok (.iaload, 1) := by decide +kernel
theorem d_M_next_49 : decode prog_5_method_12_code 49 = .ok (.if_icmp .gt 33, 3) := by decide +kernel
theorem d_M_next_52 : decode prog_5_method_12_code 52 = .ok (.aload_n 0, 1) := by decide +kernel
theorem d_M_next_53 : decode prog_5_method_12_code 53 = .ok (.getfield 7, 3) := by decide +kernel
theorem d_M_next_56 : decode prog_5_method_12_code 56 = .ok (.iload_n 3, 1) := by decide +kernel
theorem d_M_next_57 : decode prog_5_method_12_code 57 = .ok (.iaload, 1) := by decide +kernel
theorem d_M_next_58 : decode prog_5_method_12_code 58 = .ok (.aload_n 0, 1) := by decide +kernel
theorem d_M_next_59 : decode prog_5_method_12_code 59 = .ok (.getfield 7, 3) := by decide +kernel
theorem d_M_next_62 : decode prog_5_method_12_code 62 = .ok (.iload_n 2, 1) := by decide +kernel
theorem d_M_next_63 : decode prog_5_method_12_code 63 = .ok (.iaload, 1) := by decide +kernel
theorem d_M_next_64 : decode prog_5_method_12_code 64 = .ok (.if_icmp .ne 20, 3) := by decide +kernel
theorem d_M_next_67 : decode prog_5_method_12_code 67 = .ok (.aload_n 0, 1) := by decide +kernel
theorem d_M_next_68 : decode prog_5_method_12_code 68 = .ok (.getfield 16, 3) := by decide +kernel
theorem d_M_next_71 : decode prog_5_method_12_code 71 = .ok (.iload_n 3, 1) := by decide +kernel
theorem d_M_next_72 : decode prog_5_method_12_code 72 = .ok (.iaload, 1) := by decide +kernel
theorem d_M_next_73 : decode prog_5_method_12_code 73 = .ok (.aload_n 0, 1) := by decide +kernel
theorem d_M_next_74 : decode prog_5_method_12_code 74 = .ok (.getfield 16, 3) := by decide +kernel
theorem d_M_next_77 : decode prog_5_method_12_code 77 = .ok (.iload_n 2, 1) := by decide +kernel
theorem d_M_next_78 : decode prog_5_method_12_code 78 = .ok (.iaload, 1) := by decide +kernel
theorem d_M_next_79 : decode prog_5_method_12_code 79 = .ok (.if_icmp .ge 5, 3) := by decide +kernel
theorem d_M_next_82 : decode prog_5_method_12_code 82 = .ok (.iload_n 3, 1) := by decide +kernel
theorem d_M_next_83 : decode prog_5_method_12_code 83 = .ok (.istore_n 2, 1) := by decide +kernel
theorem d_M_next_84 : decode prog_5_method_12_code 84 = .ok (.iinc 3 1, 3) := by decide +kernel
theorem d_M_next_87 : decode prog_5_method_12_code 87 = .ok (.goto (-83), 3) := by decide +kernel
theorem d_M_next_90 : decode prog_5_method_12_code 90 = .ok (.iload_n 2, 1) := by decide +kernel
theorem d_M_next_91 : decode prog_5_method_12_code 91 = .ok (.ireturn, 1) := by decide +kernel
theorem d_M_lead_0 : decode prog_5_method_11_code 0 = .ok (.aload_n 0, 1) := by decide +kernel
theorem d_M_lead_1 : decode prog_5_method_11_code 1 = .ok (.getfield 33, 3) := by decide +kernel
theorem d_M_lead_4 : decode prog_5_method_11_code 4 = .ok (.iload_n 1, 1) := by decide +kernel
theorem d_M_lead_5 : decode prog_5_method_11_code 5 = .ok (.iaload, 1) := by decide +kernel
theorem d_M_lead_6 : decode prog_5_method_11_code 6 = .ok (.iload_n 2, 1) := by decide +kernel
theorem d_M_lead_7 : decode prog_5_method_11_code 7 = .ok (.if_icmp .ne 4, 3) := by decide +kernel
theorem d_M_lead_10 : decode prog_5_method_11_code 10 = .ok (.return_, 1) := by decide +kernel
theorem d_M_lead_11 : decode prog_5_method_11_code 11 = .ok (.aload_n 0, 1) := by decide +kernel
theorem d_M_lead_12 : decode prog_5_method_11_code 12 = .ok (.getfield 33, 3) := by decide +kernel
theorem d_M_lead_15 : decode prog_5_method_11_code 15 = .ok (.iload_n 1, 1) := by decide +kernel
theorem d_M_lead_16 : decode prog_5_method_11_code 16 = .ok (.iload_n 2, 1) := by decide +kernel
theorem d_M_lead_17 : decode prog_5_method_11_code 17 = .ok (.iastore, 1) := by decide +kernel
theorem d_M_lead_18 : decode prog_5_method_11_code 18 = .ok (.aload_n 0, 1) := by decide +kernel
theorem d_M_lead_19 : decode prog_5_method_11_code 19 = .ok (.getfield 36, 3) := by decide +kernel
theorem d_M_lead_22 : decode prog_5_method_11_code 22 = .ok (.iload_n 1, 1) := by decide +kernel
theorem d_M_lead_23 : decode prog_5_method_11_code 23 = .ok (.iconst (-1), 1) := by decide +kernel
theorem d_M_lead_24 : decode prog_5_method_11_code 24 = .ok (.iastore, 1) := by decide +kernel
theorem d_M_lead_25 : decode prog_5_method_11_code 25 = .ok (.aload_n 0, 1) := by decide +kernel
theorem d_M_lead_26 : decode prog_5_method_11_code 26 = .ok (.iload_n 1, 1) := by decide +kernel
theorem d_M_lead_27 : decode prog_5_method_11_code 27 = .ok (.iload_n 2, 1) := by decide +kernel
theorem d_M_lead_28 : decode prog_5_method_11_code 28 = .ok (.invokevirtual 92, 3) := by decide +kernel
theorem d_M_lead_31 : decode prog_5_method_11_code 31 = .ok (.iconst 0, 1) := by decide +kernel
theorem d_M_lead_32 : decode prog_5_method_11_code 32 = .ok (.istore_n 3, 1) := by decide +kernel
theorem d_M_lead_33 : decode prog_5_method_11_code 33 = .ok (.iload_n 3, 1) := by decide +kernel
theorem d_M_lead_34 : decode prog_5_method_11_code 34 = .ok (.aload_n 0, 1) := by decide +kernel
theorem d_M_lead_35 : decode prog_5_method_11_code 35 = .ok (.getfield 22, 3) := by decide +kernel
theorem d_M_lead_38 : decode prog_5_method_11_code 38 = .ok (.if_icmp .ge 30, 3) := by decide +kernel
theorem d_M_lead_41 : decode prog_5_method_11_code 41 = .ok (.iload_n 2, 1) := by decide +kernel
theorem d_M_lead_42 : decode prog_5_method_11_code 42 = .ok (.ifCond .lt 20, 3) := by decide +kernel
theorem d_M_lead_45 : decode prog_5_method_11_code 45 = .ok (.aload_n 0, 1) := by decide +kernel
theorem d_M_lead_46 : decode prog_5_method_11_code 46 = .ok (.getfield 36, 3) := by decide +kernel
theorem d_M_lead_49 : decode prog_5_method_11_code 49 = .ok (.iload_n 3, 1) := by decide +kernel
theorem d_M_lead_50 : decode prog_5_method_11_code 50 = .ok (.iaload, 1) := by decide +kernel
theorem d_M_lead_51 : decode prog_5_method_11_code 51 = .ok (.iload_n 2, 1) := by decide +kernel
theorem d_M_lead_52 : decode prog_5_method_11_code 52 = .ok (.if_icmp .ne 10, 3) := by decide +kernel
theorem d_M_lead_55 : decode prog_5_method_11_code 55 = .ok (.aload_n 0, 1) := by decide +kernel
theorem d_M_lead_56 : decode prog_5_method_11_code 56 = .ok (.getfield 36, 3) := by decide +kernel
theorem d_M_lead_59 : decode prog_5_method_11_code 59 = .ok (.iload_n 3, 1) := by decide +kernel
theorem d_M_lead_60 : decode prog_5_method_11_code 60 = .ok (.iconst (-1), 1) := by decide +kernel
theorem d_M_lead_61 : decode prog_5_method_11_code 61 = .ok (.iastore, 1) := by decide +kernel
theorem d_M_lead_62 : decode prog_5_method_11_code 62 = .ok (.iinc 3 1, 3) := by decide +kernel
theorem d_M_lead_65 : decode prog_5_method_11_code 65 = .ok (.goto (-32), 3) := by decide +kernel
theorem d_M_lead_68 : decode prog_5_method_11_code 68 = .ok (.return_, 1) := by decide +kernel
theorem d_M_row_0 : decode prog_5_method_10_code 0 = .ok (.aload_n 0, 1) := by decide +kernel
theorem d_M_row_1 : decode prog_5_method_10_code 1 = .ok (.getfield 86, 3) := by decide +kernel
theorem d_M_row_4 : decode prog_5_method_10_code 4 = .ok (.sipush 400, 3) := by decide +kernel
theorem d_M_row_7 : decode prog_5_method_10_code 7 = .ok (.irem, 1) := by decide +kernel
theorem d_M_row_8 : decode prog_5_method_10_code 8 = .ok (.istore_n 3, 1) := by decide +kernel
theorem d_M_row_9 : decode prog_5_method_10_code 9 = .ok (.aload_n 0, 1) := by decide +kernel
theorem d_M_row_10 : decode prog_5_method_10_code 10 = .ok (.getfield 86, 3) := by decide +kernel
theorem d_M_row_13 : decode prog_5_method_10_code 13 = .ok (.sipush 400, 3) := by decide +kernel
theorem d_M_row_16 : decode prog_5_method_10_code 16 = .ok (.if_icmp .lt 30, 3) := by decide +kernel
theorem d_M_row_19 : decode prog_5_method_10_code 19 = .ok (.aload_n 0, 1) := by decide +kernel
theorem d_M_row_20 : decode prog_5_method_10_code 20 = .ok (.getfield 63, 3) := by decide +kernel
theorem d_M_row_23 : decode prog_5_method_10_code 23 = .ok (.aload_n 0, 1) := by decide +kernel
theorem d_M_row_24 : decode prog_5_method_10_code 24 = .ok (.getfield 54, 3) := by decide +kernel
theorem d_M_row_27 : decode prog_5_method_10_code 27 = .ok (.iload_n 3, 1) := by decide +kernel
theorem d_M_row_28 : decode prog_5_method_10_code 28 = .ok (.iaload, 1) := by decide +kernel
theorem d_M_row_29 : decode prog_5_method_10_code 29 = .ok (.aload_n 0, 1) := by decide +kernel
theorem d_M_row_30 : decode prog_5_method_10_code 30 = .ok (.getfield 57, 3) := by decide +kernel
theorem d_M_row_33 : decode prog_5_method_10_code 33 = .ok (.iload_n 3, 1) := by decide +kernel
theorem d_M_row_34 : decode prog_5_method_10_code 34 = .ok (.iaload, 1) := by decide +kernel
theorem d_M_row_35 : decode prog_5_method_10_code 35 = .ok (.iastore, 1) := by decide +kernel
theorem d_M_row_36 : decode prog_5_method_10_code 36 = .ok (.aload_n 0, 1) := by decide +kernel
theorem d_M_row_37 : decode prog_5_method_10_code 37 = .ok (.aload_n 0, 1) := by decide +kernel
theorem d_M_row_38 : decode prog_5_method_10_code 38 = .ok (.getfield 60, 3) := by decide +kernel
theorem d_M_row_41 : decode prog_5_method_10_code 41 = .ok (.iload_n 3, 1) := by decide +kernel
theorem d_M_row_42 : decode prog_5_method_10_code 42 = .ok (.iaload, 1) := by decide +kernel
theorem d_M_row_43 : decode prog_5_method_10_code 43 = .ok (.putfield 66, 3) := by decide +kernel
theorem d_M_row_46 : decode prog_5_method_10_code 46 = .ok (.aload_n 0, 1) := by decide +kernel
theorem d_M_row_47 : decode prog_5_method_10_code 47 = .ok (.getfield 54, 3) := by decide +kernel
theorem d_M_row_50 : decode prog_5_method_10_code 50 = .ok (.iload_n 3, 1) := by decide +kernel
theorem d_M_row_51 : decode prog_5_method_10_code 51 = .ok (.iload_n 1, 1) := by decide +kernel
theorem d_M_row_52 : decode prog_5_method_10_code 52 = .ok (.iastore, 1) := by decide +kernel
theorem d_M_row_53 : decode prog_5_method_10_code 53 = .ok (.aload_n 0, 1) := by decide +kernel
theorem d_M_row_54 : decode prog_5_method_10_code 54 = .ok (.getfield 57, 3) := by decide +kernel
theorem d_M_row_57 : decode prog_5_method_10_code 57 = .ok (.iload_n 3, 1) := by decide +kernel
theorem d_M_row_58 : decode prog_5_method_10_code 58 = .ok (.iload_n 2, 1) := by decide +kernel
theorem d_M_row_59 : decode prog_5_method_10_code 59 = .ok (.iastore, 1) := by decide +kernel
theorem d_M_row_60 : decode prog_5_method_10_code 60 = .ok (.aload_n 0, 1) := by decide +kernel
theorem d_M_row_61 : decode prog_5_method_10_code 61 = .ok (.getfield 60, 3) := by decide +kernel
theorem d_M_row_64 : decode prog_5_method_10_code 64 = .ok (.iload_n 3, 1) := by decide +kernel
theorem d_M_row_65 : decode prog_5_method_10_code 65 = .ok (.aload_n 0, 1) := by decide +kernel
theorem d_M_row_66 : decode prog_5_method_10_code 66 = .ok (.getfield 89, 3) := by decide +kernel
theorem d_M_row_69 : decode prog_5_method_10_code 69 = .ok (.iastore, 1) := by decide +kernel
theorem d_M_row_70 : decode prog_5_method_10_code 70 = .ok (.aload_n 0, 1) := by decide +kernel
theorem d_M_row_71 : decode prog_5_method_10_code 71 = .ok (.dup, 1) := by decide +kernel
theorem d_M_row_72 : decode prog_5_method_10_code 72 = .ok (.getfield 86, 3) := by decide +kernel
theorem d_M_row_75 : decode prog_5_method_10_code 75 = .ok (.iconst 1, 1) := by decide +kernel
theorem d_M_row_76 : decode prog_5_method_10_code 76 = .ok (.iadd, 1) := by decide +kernel
theorem d_M_row_77 : decode prog_5_method_10_code 77 = .ok (.putfield 86, 3) := by decide +kernel
theorem d_M_row_80 : decode prog_5_method_10_code 80 = .ok (.return_, 1) := by decide +kernel
theorem d_M_leave_0 : decode prog_5_method_17_code 0 = .ok (.aload_n 0, 1) := by decide +kernel
theorem d_M_leave_1 : decode prog_5_method_17_code 1 = .ok (.iconst 5, 1) := by decide +kernel
theorem d_M_leave_2 : decode prog_5_method_17_code 2 = .ok (.aload_n 0, 1) := by decide +kernel
theorem d_M_leave_3 : decode prog_5_method_17_code 3 = .ok (.iload_n 1, 1) := by decide +kernel
theorem d_M_leave_4 : decode prog_5_method_17_code 4 = .ok (.invokevirtual 110, 3) := by decide +kernel
theorem d_M_leave_7 : decode prog_5_method_17_code 7 = .ok (.iconst 1, 1) := by decide +kernel
theorem d_M_leave_8 : decode prog_5_method_17_code 8 = .ok (.aload_n 0, 1) := by decide +kernel
theorem d_M_leave_9 : decode prog_5_method_17_code 9 = .ok (.iload_n 1, 1) := by decide +kernel
theorem d_M_leave_10 : decode prog_5_method_17_code 10 = .ok (.invokevirtual 110, 3) := by decide +kernel
theorem d_M_leave_13 : decode prog_5_method_17_code 13 = .ok (.ifCond .eq 16, 3) := by decide +kernel
theorem d_M_leave_16 : decode prog_5_method_17_code 16 = .ok (.aload_n 0, 1) := by decide +kernel
theorem d_M_leave_17 : decode prog_5_method_17_code 17 = .ok (.getfield 13, 3) := by decide +kernel
theorem d_M_leave_20 : decode prog_5_method_17_code 20 = .ok (.iload_n 1, 1) := by decide +kernel
theorem d_M_leave_21 : decode prog_5_method_17_code 21 = .ok (.iaload, 1) := by decide +kernel
theorem d_M_leave_22 : decode prog_5_method_17_code 22 = .ok (.ifCond .lt 7, 3) := by decide +kernel
theorem d_M_leave_25 : decode prog_5_method_17_code 25 = .ok (.iconst 1, 1) := by decide +kernel
theorem d_M_leave_26 : decode prog_5_method_17_code 26 = .ok (.goto 4, 3) := by decide +kernel
theorem d_M_leave_29 : decode prog_5_method_17_code 29 = .ok (.iconst 0, 1) := by decide +kernel
theorem d_M_leave_30 : decode prog_5_method_17_code 30 = .ok (.iconst 1, 1) := by decide +kernel
theorem d_M_leave_31 : decode prog_5_method_17_code 31 = .ok (.invokevirtual 106, 3) := by decide +kernel
theorem d_M_leave_34 : decode prog_5_method_17_code 34 = .ok (.ifCond .ne 4, 3) := by decide +kernel
theorem d_M_leave_37 : decode prog_5_method_17_code 37 = .ok (.return_, 1) := by decide +kernel
theorem d_M_leave_38 : decode prog_5_method_17_code 38 = .ok (.iconst 0, 1) := by decide +kernel
theorem d_M_leave_39 : decode prog_5_method_17_code 39 = .ok (.istore_n 2, 1) := by decide +kernel
theorem d_M_leave_40 : decode prog_5_method_17_code 40 = .ok (.iload_n 2, 1) := by decide +kernel
theorem d_M_leave_41 : decode prog_5_method_17_code 41 = .ok (.aload_n 0, 1) := by decide +kernel
theorem d_M_leave_42 : decode prog_5_method_17_code 42 = .ok (.getfield 22, 3) := by decide +kernel
theorem d_M_leave_45 : decode prog_5_method_17_code 45 = .ok (.if_icmp .ge 26, 3) := by decide +kernel
theorem d_M_leave_48 : decode prog_5_method_17_code 48 = .ok (.aload_n 0, 1) := by decide +kernel
theorem d_M_leave_49 : decode prog_5_method_17_code 49 = .ok (.getfield 36, 3) := by decide +kernel
theorem d_M_leave_52 : decode prog_5_method_17_code 52 = .ok (.iload_n 2, 1) := by decide +kernel
theorem d_M_leave_53 : decode prog_5_method_17_code 53 = .ok (.iaload, 1) := by decide +kernel
theorem d_M_leave_54 : decode prog_5_method_17_code 54 = .ok (.iload_n 1, 1) := by decide +kernel
theorem d_M_leave_55 : decode prog_5_method_17_code 55 = .ok (.if_icmp .ne 10, 3) := by decide +kernel
theorem d_M_leave_58 : decode prog_5_method_17_code 58 = .ok (.aload_n 0, 1) := by decide +kernel
theorem d_M_leave_59 : decode prog_5_method_17_code 59 = .ok (.getfield 36, 3) := by decide +kernel
theorem d_M_leave_62 : decode prog_5_method_17_code 62 = .ok (.iload_n 2, 1) := by decide +kernel
theorem d_M_leave_63 : decode prog_5_method_17_code 63 = .ok (.iconst (-1), 1) := by decide +kernel
theorem d_M_leave_64 : decode prog_5_method_17_code 64 = .ok (.iastore, 1) := by decide +kernel
theorem d_M_leave_65 : decode prog_5_method_17_code 65 = .ok (.iinc 2 1, 3) := by decide +kernel
theorem d_M_leave_68 : decode prog_5_method_17_code 68 = .ok (.goto (-28), 3) := by decide +kernel
theorem d_M_leave_71 : decode prog_5_method_17_code 71 = .ok (.aload_n 0, 1) := by decide +kernel
theorem d_M_leave_72 : decode prog_5_method_17_code 72 = .ok (.iload_n 1, 1) := by decide +kernel
theorem d_M_leave_73 : decode prog_5_method_17_code 73 = .ok (.iconst (-1), 1) := by decide +kernel
theorem d_M_leave_74 : decode prog_5_method_17_code 74 = .ok (.invokevirtual 113, 3) := by decide +kernel
theorem d_M_leave_77 : decode prog_5_method_17_code 77 = .ok (.aload_n 0, 1) := by decide +kernel
theorem d_M_leave_78 : decode prog_5_method_17_code 78 = .ok (.getfield 16, 3) := by decide +kernel
theorem d_M_leave_81 : decode prog_5_method_17_code 81 = .ok (.iload_n 1, 1) := by decide +kernel
theorem d_M_leave_82 : decode prog_5_method_17_code 82 = .ok (.iconst (-1), 1) := by decide +kernel
theorem d_M_leave_83 : decode prog_5_method_17_code 83 = .ok (.iastore, 1) := by decide +kernel
theorem d_M_leave_84 : decode prog_5_method_17_code 84 = .ok (.return_, 1) := by decide +kernel
theorem d_M_go_0 : decode prog_5_method_18_code 0 = .ok (.aload_n 0, 1) := by decide +kernel
theorem d_M_go_1 : decode prog_5_method_18_code 1 = .ok (.iload_n 1, 1) := by decide +kernel
theorem d_M_go_2 : decode prog_5_method_18_code 2 = .ok (.invokevirtual 110, 3) := by decide +kernel
theorem d_M_go_5 : decode prog_5_method_18_code 5 = .ok (.ifCond .eq 15, 3) := by decide +kernel
theorem d_M_go_8 : decode prog_5_method_18_code 8 = .ok (.aload_n 0, 1) := by decide +kernel
theorem d_M_go_9 : decode prog_5_method_18_code 9 = .ok (.iload_n 2, 1) := by decide +kernel
theorem d_M_go_10 : decode prog_5_method_18_code 10 = .ok (.invokevirtual 82, 3) := by decide +kernel
theorem d_M_go_13 : decode prog_5_method_18_code 13 = .ok (.ifCond .eq 7, 3) := by decide +kernel
theorem d_M_go_16 : decode prog_5_method_18_code 16 = .ok (.iconst 1, 1) := by decide +kernel
theorem d_M_go_17 : decode prog_5_method_18_code 17 = .ok (.goto 4, 3) := by decide +kernel
theorem d_M_go_20 : decode prog_5_method_18_code 20 = .ok (.iconst 0, 1) := by decide +kernel
theorem d_M_go_21 : decode prog_5_method_18_code 21 = .ok (.istore_n 3, 1) := by decide +kernel
theorem d_M_go_22 : decode prog_5_method_18_code 22 = .ok (.aload_n 0, 1) := by decide +kernel
theorem d_M_go_23 : decode prog_5_method_18_code 23 = .ok (.iconst 5, 1) := by decide +kernel
theorem d_M_go_24 : decode prog_5_method_18_code 24 = .ok (.iload_n 3, 1) := by decide +kernel
theorem d_M_go_25 : decode prog_5_method_18_code 25 = .ok (.iconst 1, 1) := by decide +kernel
theorem d_M_go_26 : decode prog_5_method_18_code 26 = .ok (.iload_n 3, 1) := by decide +kernel
theorem d_M_go_27 : decode prog_5_method_18_code 27 = .ok (.ifCond .eq 34, 3) := by decide +kernel
theorem d_M_go_30 : decode prog_5_method_18_code 30 = .ok (.aload_n 0, 1) := by decide +kernel
theorem d_M_go_31 : decode prog_5_method_18_code 31 = .ok (.getfield 13, 3) := by decide +kernel
theorem d_M_go_34 : decode prog_5_method_18_code 34 = .ok (.iload_n 1, 1) := by decide +kernel
theorem d_M_go_35 : decode prog_5_method_18_code 35 = .ok (.iaload, 1) := by decide +kernel
theorem d_M_go_36 : decode prog_5_method_18_code 36 = .ok (.ifCond .lt 25, 3) := by decide +kernel
theorem d_M_go_39 : decode prog_5_method_18_code 39 = .ok (.aload_n 0, 1) := by decide +kernel
theorem d_M_go_40 : decode prog_5_method_18_code 40 = .ok (.getfield 13, 3) := by decide +kernel
theorem d_M_go_43 : decode prog_5_method_18_code 43 = .ok (.iload_n 1, 1) := by decide +kernel
theorem d_M_go_44 : decode prog_5_method_18_code 44 = .ok (.iaload, 1) := by decide +kernel
theorem d_M_go_45 : decode prog_5_method_18_code 45 = .ok (.iload_n 2, 1) := by decide +kernel
theorem d_M_go_46 : decode prog_5_method_18_code 46 = .ok (.if_icmp .eq 15, 3) := by decide +kernel
theorem d_M_go_49 : decode prog_5_method_18_code 49 = .ok (.aload_n 0, 1) := by decide +kernel
theorem d_M_go_50 : decode prog_5_method_18_code 50 = .ok (.iload_n 2, 1) := by decide +kernel
theorem d_M_go_51 : decode prog_5_method_18_code 51 = .ok (.invokevirtual 116, 3) := by decide +kernel
theorem d_M_go_54 : decode prog_5_method_18_code 54 = .ok (.ifCond .eq 7, 3) := by decide +kernel
theorem d_M_go_57 : decode prog_5_method_18_code 57 = .ok (.iconst 1, 1) := by decide +kernel
theorem d_M_go_58 : decode prog_5_method_18_code 58 = .ok (.goto 4, 3) := by decide +kernel
theorem d_M_go_61 : decode prog_5_method_18_code 61 = .ok (.iconst 0, 1) := by decide +kernel
theorem d_M_go_62 : decode prog_5_method_18_code 62 = .ok (.iconst 1, 1) := by decide +kernel
theorem d_M_go_63 : decode prog_5_method_18_code 63 = .ok (.invokevirtual 106, 3) := by decide +kernel
theorem d_M_go_66 : decode prog_5_method_18_code 66 = .ok (.ifCond .ne 4, 3) := by decide +kernel
theorem d_M_go_69 : decode prog_5_method_18_code 69 = .ok (.return_, 1) := by decide +kernel
theorem d_M_go_70 : decode prog_5_method_18_code 70 = .ok (.aload_n 0, 1) := by decide +kernel
theorem d_M_go_71 : decode prog_5_method_18_code 71 = .ok (.iload_n 1, 1) := by decide +kernel
theorem d_M_go_72 : decode prog_5_method_18_code 72 = .ok (.iload_n 2, 1) := by decide +kernel
theorem d_M_go_73 : decode prog_5_method_18_code 73 = .ok (.invokevirtual 113, 3) := by decide +kernel
theorem d_M_go_76 : decode prog_5_method_18_code 76 = .ok (.return_, 1) := by decide +kernel
theorem d_M_isSector_0 : decode prog_5_method_7_code 0 = .ok (.iload_n 1, 1) := by decide +kernel
theorem d_M_isSector_1 : decode prog_5_method_7_code 1 = .ok (.iconst 0, 1) := by decide +kernel
theorem d_M_isSector_2 : decode prog_5_method_7_code 2 = .ok (.aload_n 0, 1) := by decide +kernel
theorem d_M_isSector_3 : decode prog_5_method_7_code 3 = .ok (.getfield 22, 3) := by decide +kernel
theorem d_M_isSector_6 : decode prog_5_method_7_code 6 = .ok (.iconst 1, 1) := by decide +kernel
theorem d_M_isSector_7 : decode prog_5_method_7_code 7 = .ok (.isub, 1) := by decide +kernel
theorem d_M_isSector_8 : decode prog_5_method_7_code 8 = .ok (.invokestatic 75, 3) := by decide +kernel
theorem d_M_isSector_11 : decode prog_5_method_7_code 11 = .ok (.ireturn, 1) := by decide +kernel
theorem d_M_isOpen_0 : decode prog_5_method_8_code 0 = .ok (.aload_n 0, 1) := by decide +kernel
theorem d_M_isOpen_1 : decode prog_5_method_8_code 1 = .ok (.iload_n 1, 1) := by decide +kernel
theorem d_M_isOpen_2 : decode prog_5_method_8_code 2 = .ok (.invokevirtual 82, 3) := by decide +kernel
theorem d_M_isOpen_5 : decode prog_5_method_8_code 5 = .ok (.ifCond .eq 16, 3) := by decide +kernel
theorem d_M_isOpen_8 : decode prog_5_method_8_code 8 = .ok (.aload_n 0, 1) := by decide +kernel
theorem d_M_isOpen_9 : decode prog_5_method_8_code 9 = .ok (.getfield 26, 3) := by decide +kernel
theorem d_M_isOpen_12 : decode prog_5_method_8_code 12 = .ok (.iload_n 1, 1) := by decide +kernel
theorem d_M_isOpen_13 : decode prog_5_method_8_code 13 = .ok (.baload, 1) := by decide +kernel
theorem d_M_isOpen_14 : decode prog_5_method_8_code 14 = .ok (.ifCond .ne 7, 3) := by decide +kernel
theorem d_M_isOpen_17 : decode prog_5_method_8_code 17 = .ok (.iconst 1, 1) := by decide +kernel
theorem d_M_isOpen_18 : decode prog_5_method_8_code 18 = .ok (.goto 4, 3) := by decide +kernel
theorem d_M_isOpen_21 : decode prog_5_method_8_code 21 = .ok (.iconst 0, 1) := by decide +kernel
theorem d_M_isOpen_22 : decode prog_5_method_8_code 22 = .ok (.ireturn, 1) := by decide +kernel
theorem d_M_place_0 : decode prog_5_method_19_code 0 = .ok (.aload_n 0, 1) := by decide +kernel
theorem d_M_place_1 : decode prog_5_method_19_code 1 = .ok (.iload_n 1, 1) := by decide +kernel
theorem d_M_place_2 : decode prog_5_method_19_code 2 = .ok (.invokevirtual 119, 3) := by decide +kernel
theorem d_M_place_5 : decode prog_5_method_19_code 5 = .ok (.ifCond .eq 20, 3) := by decide +kernel
theorem d_M_place_8 : decode prog_5_method_19_code 8 = .ok (.iload_n 2, 1) := by decide +kernel
theorem d_M_place_9 : decode prog_5_method_19_code 9 = .ok (.iconst (-1), 1) := by decide +kernel
theorem d_M_place_10 : decode prog_5_method_19_code 10 = .ok (.if_icmp .eq 11, 3) := by decide +kernel
theorem d_M_place_13 : decode prog_5_method_19_code 13 = .ok (.aload_n 0, 1) := by decide +kernel
theorem d_M_place_14 : decode prog_5_method_19_code 14 = .ok (.iload_n 2, 1) := by decide +kernel
theorem d_M_place_15 : decode prog_5_method_19_code 15 = .ok (.invokevirtual 82, 3) := by decide +kernel
theorem d_M_place_18 : decode prog_5_method_19_code 18 = .ok (.ifCond .eq 7, 3) := by decide +kernel
theorem d_M_place_21 : decode prog_5_method_19_code 21 = .ok (.iconst 1, 1) := by decide +kernel
theorem d_M_place_22 : decode prog_5_method_19_code 22 = .ok (.goto 4, 3) := by decide +kernel
theorem d_M_place_25 : decode prog_5_method_19_code 25 = .ok (.iconst 0, 1) := by decide +kernel
theorem d_M_place_26 : decode prog_5_method_19_code 26 = .ok (.istore_n 3, 1) := by decide +kernel
theorem d_M_place_27 : decode prog_5_method_19_code 27 = .ok (.aload_n 0, 1) := by decide +kernel
theorem d_M_place_28 : decode prog_5_method_19_code 28 = .ok (.iconst 5, 1) := by decide +kernel
theorem d_M_place_29 : decode prog_5_method_19_code 29 = .ok (.iload_n 3, 1) := by decide +kernel
theorem d_M_place_30 : decode prog_5_method_19_code 30 = .ok (.iconst 1, 1) := by decide +kernel
theorem d_M_place_31 : decode prog_5_method_19_code 31 = .ok (.iload_n 3, 1) := by decide +kernel
theorem d_M_place_32 : decode prog_5_method_19_code 32 = .ok (.ifCond .eq 30, 3) := by decide +kernel
theorem d_M_place_35 : decode prog_5_method_19_code 35 = .ok (.aload_n 0, 1) := by decide +kernel
theorem d_M_place_36 : decode prog_5_method_19_code 36 = .ok (.getfield 19, 3) := by decide +kernel
theorem d_M_place_39 : decode prog_5_method_19_code 39 = .ok (.iload_n 1, 1) := by decide +kernel
theorem d_M_place_40 : decode prog_5_method_19_code 40 = .ok (.iaload, 1) := by decide +kernel
theorem d_M_place_41 : decode prog_5_method_19_code 41 = .ok (.iload_n 2, 1) := by decide +kernel
theorem d_M_place_42 : decode prog_5_method_19_code 42 = .ok (.if_icmp .eq 20, 3) := by decide +kernel
theorem d_M_place_45 : decode prog_5_method_19_code 45 = .ok (.iload_n 2, 1) := by decide +kernel
theorem d_M_place_46 : decode prog_5_method_19_code 46 = .ok (.iconst (-1), 1) := by decide +kernel
theorem d_M_place_47 : decode prog_5_method_19_code 47 = .ok (.if_icmp .eq 11, 3) := by decide +kernel
theorem d_M_place_50 : decode prog_5_method_19_code 50 = .ok (.aload_n 0, 1) := by decide +kernel
theorem d_M_place_51 : decode prog_5_method_19_code 51 = .ok (.iload_n 2, 1) := by decide +kernel
theorem d_M_place_52 : decode prog_5_method_19_code 52 = .ok (.invokevirtual 116, 3) := by decide +kernel
theorem d_M_place_55 : decode prog_5_method_19_code 55 = .ok (.ifCond .eq 7, 3) := by decide +kernel
theorem d_M_place_58 : decode prog_5_method_19_code 58 = .ok (.iconst 1, 1) := by decide +kernel
theorem d_M_place_59 : decode prog_5_method_19_code 59 = .ok (.goto 4, 3) := by decide +kernel
theorem d_M_place_62 : decode prog_5_method_19_code 62 = .ok (.iconst 0, 1) := by decide +kernel
theorem d_M_place_63 : decode prog_5_method_19_code 63 = .ok (.iconst 1, 1) := by decide +kernel
theorem d_M_place_64 : decode prog_5_method_19_code 64 = .ok (.invokevirtual 106, 3) := by decide +kernel
theorem d_M_place_67 : decode prog_5_method_19_code 67 = .ok (.ifCond .ne 4, 3) := by decide +kernel
theorem d_M_place_70 : decode prog_5_method_19_code 70 = .ok (.return_, 1) := by decide +kernel
theorem d_M_place_71 : decode prog_5_method_19_code 71 = .ok (.aload_n 0, 1) := by decide +kernel
theorem d_M_place_72 : decode prog_5_method_19_code 72 = .ok (.getfield 19, 3) := by decide +kernel
theorem d_M_place_75 : decode prog_5_method_19_code 75 = .ok (.iload_n 1, 1) := by decide +kernel
theorem d_M_place_76 : decode prog_5_method_19_code 76 = .ok (.iload_n 2, 1) := by decide +kernel
theorem d_M_place_77 : decode prog_5_method_19_code 77 = .ok (.iastore, 1) := by decide +kernel
theorem d_M_place_78 : decode prog_5_method_19_code 78 = .ok (.return_, 1) := by decide +kernel
theorem d_M_isUnit_0 : decode prog_5_method_6_code 0 = .ok (.iload_n 1, 1) := by decide +kernel
theorem d_M_isUnit_1 : decode prog_5_method_6_code 1 = .ok (.iconst 0, 1) := by decide +kernel
theorem d_M_isUnit_2 : decode prog_5_method_6_code 2 = .ok (.aload_n 0, 1) := by decide +kernel
theorem d_M_isUnit_3 : decode prog_5_method_6_code 3 = .ok (.getfield 79, 3) := by decide +kernel
theorem d_M_isUnit_6 : decode prog_5_method_6_code 6 = .ok (.iconst 1, 1) := by decide +kernel
theorem d_M_isUnit_7 : decode prog_5_method_6_code 7 = .ok (.isub, 1) := by decide +kernel
theorem d_M_isUnit_8 : decode prog_5_method_6_code 8 = .ok (.invokestatic 75, 3) := by decide +kernel
theorem d_M_isUnit_11 : decode prog_5_method_6_code 11 = .ok (.ireturn, 1) := by decide +kernel
theorem d_M_split_0 : decode prog_5_method_20_code 0 = .ok (.aload_n 0, 1) := by decide +kernel
theorem d_M_split_1 : decode prog_5_method_20_code 1 = .ok (.bipush 13, 2) := by decide +kernel
theorem d_M_split_3 : decode prog_5_method_20_code 3 = .ok (.aload_n 0, 1) := by decide +kernel
theorem d_M_split_4 : decode prog_5_method_20_code 4 = .ok (.iload_n 1, 1) := by decide +kernel
theorem d_M_split_5 : decode prog_5_method_20_code 5 = .ok (.invokevirtual 82, 3) := by decide +kernel
theorem d_M_split_8 : decode prog_5_method_20_code 8 = .ok (.iconst 1, 1) := by decide +kernel
theorem d_M_split_9 : decode prog_5_method_20_code 9 = .ok (.aload_n 0, 1) := by decide +kernel
theorem d_M_split_10 : decode prog_5_method_20_code 10 = .ok (.iload_n 1, 1) := by decide +kernel
theorem d_M_split_11 : decode prog_5_method_20_code 11 = .ok (.invokevirtual 116, 3) := by decide +kernel
theorem d_M_split_14 : decode prog_5_method_20_code 14 = .ok (.aload_n 0, 1) := by decide +kernel
theorem d_M_split_15 : decode prog_5_method_20_code 15 = .ok (.getfield 22, 3) := by decide +kernel
theorem d_M_split_18 : decode prog_5_method_20_code 18 = .ok (.bipush 20, 2) := by decide +kernel
theorem d_M_split_20 : decode prog_5_method_20_code 20 = .ok (.if_icmp .ge 7, 3) := by decide +kernel
theorem d_M_split_23 : decode prog_5_method_20_code 23 = .ok (.iconst 1, 1) := by decide +kernel
theorem d_M_split_24 : decode prog_5_method_20_code 24 = .ok (.goto 4, 3) := by decide +kernel
theorem d_M_split_27 : decode prog_5_method_20_code 27 = .ok (.iconst 0, 1) := by decide +kernel
theorem d_M_split_28 : decode prog_5_method_20_code 28 = .ok (.invokevirtual 106, 3) := by decide +kernel
theorem d_M_split_31 : decode prog_5_method_20_code 31 = .ok (.ifCond .ne 5, 3) := by decide +kernel
theorem d_M_split_34 : decode prog_5_method_20_code 34 = .ok (.iconst 0, 1) := by decide +kernel
theorem d_M_split_35 : decode prog_5_method_20_code 35 = .ok (.ireturn, 1) := by decide +kernel
theorem d_M_split_36 : decode prog_5_method_20_code 36 = .ok (.aload_n 0, 1) := by decide +kernel
theorem d_M_split_37 : decode prog_5_method_20_code 37 = .ok (.getfield 30, 3) := by decide +kernel
theorem d_M_split_40 : decode prog_5_method_20_code 40 = .ok (.aload_n 0, 1) := by decide +kernel
theorem d_M_split_41 : decode prog_5_method_20_code 41 = .ok (.getfield 22, 3) := by decide +kernel
theorem d_M_split_44 : decode prog_5_method_20_code 44 = .ok (.iload_n 1, 1) := by decide +kernel
theorem d_M_split_45 : decode prog_5_method_20_code 45 = .ok (.iastore, 1) := by decide +kernel
theorem d_M_split_46 : decode prog_5_method_20_code 46 = .ok (.aload_n 0, 1) := by decide +kernel
theorem d_M_split_47 : decode prog_5_method_20_code 47 = .ok (.dup, 1) := by decide +kernel
theorem d_M_split_48 : decode prog_5_method_20_code 48 = .ok (.getfield 22, 3) := by decide +kernel
theorem d_M_split_51 : decode prog_5_method_20_code 51 = .ok (.iconst 1, 1) := by decide +kernel
theorem d_M_split_52 : decode prog_5_method_20_code 52 = .ok (.iadd, 1) := by decide +kernel
theorem d_M_split_53 : decode prog_5_method_20_code 53 = .ok (.putfield 22, 3) := by decide +kernel
theorem d_M_split_56 : decode prog_5_method_20_code 56 = .ok (.aload_n 0, 1) := by decide +kernel
theorem d_M_split_57 : decode prog_5_method_20_code 57 = .ok (.getfield 22, 3) := by decide +kernel
theorem d_M_split_60 : decode prog_5_method_20_code 60 = .ok (.iconst 1, 1) := by decide +kernel
theorem d_M_split_61 : decode prog_5_method_20_code 61 = .ok (.isub, 1) := by decide +kernel
theorem d_M_split_62 : decode prog_5_method_20_code 62 = .ok (.ireturn, 1) := by decide +kernel
theorem d_M_join_0 : decode prog_5_method_22_code 0 = .ok (.aload_n 0, 1) := by decide +kernel
theorem d_M_join_1 : decode prog_5_method_22_code 1 = .ok (.iload_n 1, 1) := by decide +kernel
theorem d_M_join_2 : decode prog_5_method_22_code 2 = .ok (.invokevirtual 82, 3) := by decide +kernel
theorem d_M_join_5 : decode prog_5_method_22_code 5 = .ok (.ifCond .eq 15, 3) := by decide +kernel
theorem d_M_join_8 : decode prog_5_method_22_code 8 = .ok (.aload_n 0, 1) := by decide +kernel
theorem d_M_join_9 : decode prog_5_method_22_code 9 = .ok (.iload_n 2, 1) := by decide +kernel
theorem d_M_join_10 : decode prog_5_method_22_code 10 = .ok (.invokevirtual 82, 3) := by decide +kernel
theorem d_M_join_13 : decode prog_5_method_22_code 13 = .ok (.ifCond .eq 7, 3) := by decide +kernel
theorem d_M_join_16 : decode prog_5_method_22_code 16 = .ok (.iconst 1, 1) := by decide +kernel
theorem d_M_join_17 : decode prog_5_method_22_code 17 = .ok (.goto 4, 3) := by decide +kernel
theorem d_M_join_20 : decode prog_5_method_22_code 20 = .ok (.iconst 0, 1) := by decide +kernel
theorem d_M_join_21 : decode prog_5_method_22_code 21 = .ok (.istore_n 3, 1) := by decide +kernel
theorem d_M_join_22 : decode prog_5_method_22_code 22 = .ok (.aload_n 0, 1) := by decide +kernel
theorem d_M_join_23 : decode prog_5_method_22_code 23 = .ok (.iconst 5, 1) := by decide +kernel
theorem d_M_join_24 : decode prog_5_method_22_code 24 = .ok (.iload_n 3, 1) := by decide +kernel
theorem d_M_join_25 : decode prog_5_method_22_code 25 = .ok (.iconst 1, 1) := by decide +kernel
theorem d_M_join_26 : decode prog_5_method_22_code 26 = .ok (.iload_n 3, 1) := by decide +kernel
theorem d_M_join_27 : decode prog_5_method_22_code 27 = .ok (.ifCond .eq 36, 3) := by decide +kernel
theorem d_M_join_30 : decode prog_5_method_22_code 30 = .ok (.aload_n 0, 1) := by decide +kernel
theorem d_M_join_31 : decode prog_5_method_22_code 31 = .ok (.iload_n 1, 1) := by decide +kernel
theorem d_M_join_32 : decode prog_5_method_22_code 32 = .ok (.invokevirtual 116, 3) := by decide +kernel
theorem d_M_join_35 : decode prog_5_method_22_code 35 = .ok (.ifCond .eq 28, 3) := by decide +kernel
theorem d_M_join_38 : decode prog_5_method_22_code 38 = .ok (.aload_n 0, 1) := by decide +kernel
theorem d_M_join_39 : decode prog_5_method_22_code 39 = .ok (.iload_n 2, 1) := by decide +kernel
theorem d_M_join_40 : decode prog_5_method_22_code 40 = .ok (.invokevirtual 116, 3) := by decide +kernel
theorem d_M_join_43 : decode prog_5_method_22_code 43 = .ok (.ifCond .eq 20, 3) := by decide +kernel
theorem d_M_join_46 : decode prog_5_method_22_code 46 = .ok (.iload_n 1, 1) := by decide +kernel
theorem d_M_join_47 : decode prog_5_method_22_code 47 = .ok (.ifCond .eq 16, 3) := by decide +kernel
theorem d_M_join_50 : decode prog_5_method_22_code 50 = .ok (.aload_n 0, 1) := by decide +kernel
theorem d_M_join_51 : decode prog_5_method_22_code 51 = .ok (.iload_n 2, 1) := by decide +kernel
theorem d_M_join_52 : decode prog_5_method_22_code 52 = .ok (.iload_n 1, 1) := by decide +kernel
theorem d_M_join_53 : decode prog_5_method_22_code 53 = .ok (.invokevirtual 122, 3) := by decide +kernel
theorem d_M_join_56 : decode prog_5_method_22_code 56 = .ok (.ifCond .ne 7, 3) := by decide +kernel
theorem d_M_join_59 : decode prog_5_method_22_code 59 = .ok (.iconst 1, 1) := by decide +kernel
theorem d_M_join_60 : decode prog_5_method_22_code 60 = .ok (.goto 4, 3) := by decide +kernel
theorem d_M_join_63 : decode prog_5_method_22_code 63 = .ok (.iconst 0, 1) := by decide +kernel
theorem d_M_join_64 : decode prog_5_method_22_code 64 = .ok (.iconst 1, 1) := by decide +kernel
theorem d_M_join_65 : decode prog_5_method_22_code 65 = .ok (.invokevirtual 106, 3) := by decide +kernel
theorem d_M_join_68 : decode prog_5_method_22_code 68 = .ok (.ifCond .ne 4, 3) := by decide +kernel
theorem d_M_join_71 : decode prog_5_method_22_code 71 = .ok (.return_, 1) := by decide +kernel
theorem d_M_join_72 : decode prog_5_method_22_code 72 = .ok (.aload_n 0, 1) := by decide +kernel
theorem d_M_join_73 : decode prog_5_method_22_code 73 = .ok (.getfield 26, 3) := by decide +kernel
theorem d_M_join_76 : decode prog_5_method_22_code 76 = .ok (.iload_n 1, 1) := by decide +kernel
theorem d_M_join_77 : decode prog_5_method_22_code 77 = .ok (.iconst 1, 1) := by decide +kernel
theorem d_M_join_78 : decode prog_5_method_22_code 78 = .ok (.bastore, 1) := by decide +kernel
theorem d_M_join_79 : decode prog_5_method_22_code 79 = .ok (.aload_n 0, 1) := by decide +kernel
theorem d_M_join_80 : decode prog_5_method_22_code 80 = .ok (.iload_n 1, 1) := by decide +kernel
theorem d_M_join_81 : decode prog_5_method_22_code 81 = .ok (.iconst (-1), 1) := by decide +kernel
theorem d_M_join_82 : decode prog_5_method_22_code 82 = .ok (.invokevirtual 103, 3) := by decide +kernel
theorem d_M_join_85 : decode prog_5_method_22_code 85 = .ok (.aload_n 0, 1) := by decide +kernel
theorem d_M_join_86 : decode prog_5_method_22_code 86 = .ok (.getfield 36, 3) := by decide +kernel
theorem d_M_join_89 : decode prog_5_method_22_code 89 = .ok (.iload_n 1, 1) := by decide +kernel
theorem d_M_join_90 : decode prog_5_method_22_code 90 = .ok (.iconst (-1), 1) := by decide +kernel
theorem d_M_join_91 : decode prog_5_method_22_code 91 = .ok (.iastore, 1) := by decide +kernel
theorem d_M_join_92 : decode prog_5_method_22_code 92 = .ok (.iconst 0, 1) := by decide +kernel
theorem d_M_join_93 : decode prog_5_method_22_code 93 = .ok (.istore 4, 2) := by decide +kernel
theorem d_M_join_95 : decode prog_5_method_22_code 95 = .ok (.iload 4, 2) := by decide +kernel
theorem d_M_join_97 : decode prog_5_method_22_code 97 = .ok (.aload_n 0, 1) := by decide +kernel
theorem d_M_join_98 : decode prog_5_method_22_code 98 = .ok (.getfield 72, 3) := by decide +kernel
theorem d_M_join_101 : decode prog_5_method_22_code 101 = .ok (.if_icmp .ge 28, 3) := by decide +kernel
theorem d_M_join_104 : decode prog_5_method_22_code 104 = .ok (.aload_n 0, 1) := by decide +kernel
theorem d_M_join_105 : decode prog_5_method_22_code 105 = .ok (.getfield 13, 3) := by decide +kernel
theorem d_M_join_108 : decode prog_5_method_22_code 108 = .ok (.iload 4, 2) := by decide +kernel
theorem d_M_join_110 : decode prog_5_method_22_code 110 = .ok (.iaload, 1) := by decide +kernel
theorem d_M_join_111 : decode prog_5_method_22_code 111 = .ok (.iload_n 1, 1) := by decide +kernel
theorem d_M_join_112 : decode prog_5_method_22_code 112 = .ok (.if_icmp .ne 11, 3) := by decide +kernel
theorem d_M_join_115 : decode prog_5_method_22_code 115 = .ok (.aload_n 0, 1) := by decide +kernel
theorem d_M_join_116 : decode prog_5_method_22_code 116 = .ok (.getfield 13, 3) := by decide +kernel
theorem d_M_join_119 : decode prog_5_method_22_code 119 = .ok (.iload 4, 2) := by decide +kernel
theorem d_M_join_121 : decode prog_5_method_22_code 121 = .ok (.iload_n 2, 1) := by decide +kernel
theorem d_M_join_122 : decode prog_5_method_22_code 122 = .ok (.iastore, 1) := by decide +kernel
theorem d_M_join_123 : decode prog_5_method_22_code 123 = .ok (.iinc 4 1, 3) := by decide +kernel
theorem d_M_join_126 : decode prog_5_method_22_code 126 = .ok (.goto (-31), 3) := by decide +kernel
theorem d_M_join_129 : decode prog_5_method_22_code 129 = .ok (.iconst 0, 1) := by decide +kernel
theorem d_M_join_130 : decode prog_5_method_22_code 130 = .ok (.istore 4, 2) := by decide +kernel
theorem d_M_join_132 : decode prog_5_method_22_code 132 = .ok (.iload 4, 2) := by decide +kernel
theorem d_M_join_134 : decode prog_5_method_22_code 134 = .ok (.aload_n 0, 1) := by decide +kernel
theorem d_M_join_135 : decode prog_5_method_22_code 135 = .ok (.getfield 79, 3) := by decide +kernel
theorem d_M_join_138 : decode prog_5_method_22_code 138 = .ok (.if_icmp .ge 28, 3) := by decide +kernel
theorem d_M_join_141 : decode prog_5_method_22_code 141 = .ok (.aload_n 0, 1) := by decide +kernel
theorem d_M_join_142 : decode prog_5_method_22_code 142 = .ok (.getfield 19, 3) := by decide +kernel
theorem d_M_join_145 : decode prog_5_method_22_code 145 = .ok (.iload 4, 2) := by decide +kernel
theorem d_M_join_147 : decode prog_5_method_22_code 147 = .ok (.iaload, 1) := by decide +kernel
theorem d_M_join_148 : decode prog_5_method_22_code 148 = .ok (.iload_n 1, 1) := by decide +kernel
theorem d_M_join_149 : decode prog_5_method_22_code 149 = .ok (.if_icmp .ne 11, 3) := by decide +kernel
theorem d_M_join_152 : decode prog_5_method_22_code 152 = .ok (.aload_n 0, 1) := by decide +kernel
theorem d_M_join_153 : decode prog_5_method_22_code 153 = .ok (.getfield 19, 3) := by decide +kernel
theorem d_M_join_156 : decode prog_5_method_22_code 156 = .ok (.iload 4, 2) := by decide +kernel
theorem d_M_join_158 : decode prog_5_method_22_code 158 = .ok (.iload_n 2, 1) := by decide +kernel
theorem d_M_join_159 : decode prog_5_method_22_code 159 = .ok (.iastore, 1) := by decide +kernel
theorem d_M_join_160 : decode prog_5_method_22_code 160 = .ok (.iinc 4 1, 3) := by decide +kernel
theorem d_M_join_163 : decode prog_5_method_22_code 163 = .ok (.goto (-31), 3) := by decide +kernel
theorem d_M_join_166 : decode prog_5_method_22_code 166 = .ok (.iconst 0, 1) := by decide +kernel
theorem d_M_join_167 : decode prog_5_method_22_code 167 = .ok (.istore 4, 2) := by decide +kernel
theorem d_M_join_169 : decode prog_5_method_22_code 169 = .ok (.iload 4, 2) := by decide +kernel
theorem d_M_join_171 : decode prog_5_method_22_code 171 = .ok (.aload_n 0, 1) := by decide +kernel
theorem d_M_join_172 : decode prog_5_method_22_code 172 = .ok (.getfield 22, 3) := by decide +kernel
theorem d_M_join_175 : decode prog_5_method_22_code 175 = .ok (.if_icmp .ge 38, 3) := by decide +kernel
theorem d_M_join_178 : decode prog_5_method_22_code 178 = .ok (.aload_n 0, 1) := by decide +kernel
theorem d_M_join_179 : decode prog_5_method_22_code 179 = .ok (.getfield 30, 3) := by decide +kernel
theorem d_M_join_182 : decode prog_5_method_22_code 182 = .ok (.iload 4, 2) := by decide +kernel
theorem d_M_join_184 : decode prog_5_method_22_code 184 = .ok (.iaload, 1) := by decide +kernel
theorem d_M_join_185 : decode prog_5_method_22_code 185 = .ok (.iload_n 1, 1) := by decide +kernel
theorem d_M_join_186 : decode prog_5_method_22_code 186 = .ok (.if_icmp .ne 21, 3) := by decide +kernel
theorem d_M_join_189 : decode prog_5_method_22_code 189 = .ok (.aload_n 0, 1) := by decide +kernel
theorem d_M_join_190 : decode prog_5_method_22_code 190 = .ok (.getfield 26, 3) := by decide +kernel
theorem d_M_join_193 : decode prog_5_method_22_code 193 = .ok (.iload 4, 2) := by decide +kernel
theorem d_M_join_195 : decode prog_5_method_22_code 195 = .ok (.baload, 1) := by decide +kernel
theorem d_M_join_196 : decode prog_5_method_22_code 196 = .ok (.ifCond .ne 11, 3) := by decide +kernel
theorem d_M_join_199 : decode prog_5_method_22_code 199 = .ok (.aload_n 0, 1) := by decide +kernel
theorem d_M_join_200 : decode prog_5_method_22_code 200 = .ok (.getfield 30, 3) := by decide +kernel
theorem d_M_join_203 : decode prog_5_method_22_code 203 = .ok (.iload 4, 2) := by decide +kernel
theorem d_M_join_205 : decode prog_5_method_22_code 205 = .ok (.iload_n 2, 1) := by decide +kernel
theorem d_M_join_206 : decode prog_5_method_22_code 206 = .ok (.iastore, 1) := by decide +kernel
theorem d_M_join_207 : decode prog_5_method_22_code 207 = .ok (.iinc 4 1, 3) := by decide +kernel
theorem d_M_join_210 : decode prog_5_method_22_code 210 = .ok (.goto (-41), 3) := by decide +kernel
theorem d_M_join_213 : decode prog_5_method_22_code 213 = .ok (.iconst 0, 1) := by decide +kernel
theorem d_M_join_214 : decode prog_5_method_22_code 214 = .ok (.istore 4, 2) := by decide +kernel
theorem d_M_join_216 : decode prog_5_method_22_code 216 = .ok (.iload 4, 2) := by decide +kernel
theorem d_M_join_218 : decode prog_5_method_22_code 218 = .ok (.aload_n 0, 1) := by decide +kernel
theorem d_M_join_219 : decode prog_5_method_22_code 219 = .ok (.getfield 126, 3) := by decide +kernel
theorem d_M_join_222 : decode prog_5_method_22_code 222 = .ok (.if_icmp .ge 49, 3) := by decide +kernel
theorem d_M_join_225 : decode prog_5_method_22_code 225 = .ok (.aload_n 0, 1) := by decide +kernel
theorem d_M_join_226 : decode prog_5_method_22_code 226 = .ok (.getfield 42, 3) := by decide +kernel
theorem d_M_join_229 : decode prog_5_method_22_code 229 = .ok (.iload 4, 2) := by decide +kernel
theorem d_M_join_231 : decode prog_5_method_22_code 231 = .ok (.iaload, 1) := by decide +kernel
theorem d_M_join_232 : decode prog_5_method_22_code 232 = .ok (.iload_n 1, 1) := by decide +kernel
theorem d_M_join_233 : decode prog_5_method_22_code 233 = .ok (.if_icmp .ne 32, 3) := by decide +kernel
theorem d_M_join_236 : decode prog_5_method_22_code 236 = .ok (.aload_n 0, 1) := by decide +kernel
theorem d_M_join_237 : decode prog_5_method_22_code 237 = .ok (.getfield 48, 3) := by decide +kernel
theorem d_M_join_240 : decode prog_5_method_22_code 240 = .ok (.iload 4, 2) := by decide +kernel
theorem d_M_join_242 : decode prog_5_method_22_code 242 = .ok (.iaload, 1) := by decide +kernel
theorem d_M_join_243 : decode prog_5_method_22_code 243 = .ok (.ifCond .eq 14, 3) := by decide +kernel
theorem d_M_join_246 : decode prog_5_method_22_code 246 = .ok (.aload_n 0, 1) := by decide +kernel
theorem d_M_join_247 : decode prog_5_method_22_code 247 = .ok (.getfield 48, 3) := by decide +kernel
theorem d_M_join_250 : decode prog_5_method_22_code 250 = .ok (.iload 4, 2) := by decide +kernel
theorem d_M_join_252 : decode prog_5_method_22_code 252 = .ok (.iaload, 1) := by decide +kernel
theorem d_M_join_253 : decode prog_5_method_22_code 253 = .ok (.iconst 3, 1) := by decide +kernel
theorem d_M_join_254 : decode prog_5_method_22_code 254 = .ok (.if_icmp .ne 11, 3) := by decide +kernel
theorem d_M_join_257 : decode prog_5_method_22_code 257 = .ok (.aload_n 0, 1) := by decide +kernel
theorem d_M_join_258 : decode prog_5_method_22_code 258 = .ok (.getfield 42, 3) := by decide +kernel
theorem d_M_join_261 : decode prog_5_method_22_code 261 = .ok (.iload 4, 2) := by decide +kernel
theorem d_M_join_263 : decode prog_5_method_22_code 263 = .ok (.iload_n 2, 1) := by decide +kernel
theorem d_M_join_264 : decode prog_5_method_22_code 264 = .ok (.iastore, 1) := by decide +kernel
theorem d_M_join_265 : decode prog_5_method_22_code 265 = .ok (.iinc 4 1, 3) := by decide +kernel
theorem d_M_join_268 : decode prog_5_method_22_code 268 = .ok (.goto (-52), 3) := by decide +kernel
theorem d_M_join_271 : decode prog_5_method_22_code 271 = .ok (.aload_n 0, 1) := by decide +kernel
theorem d_M_join_272 : decode prog_5_method_22_code 272 = .ok (.getfield 33, 3) := by decide +kernel
theorem d_M_join_275 : decode prog_5_method_22_code 275 = .ok (.iload_n 2, 1) := by decide +kernel
theorem d_M_join_276 : decode prog_5_method_22_code 276 = .ok (.iaload, 1) := by decide +kernel
theorem d_M_join_277 : decode prog_5_method_22_code 277 = .ok (.ifCond .ge 13, 3) := by decide +kernel
theorem d_M_join_280 : decode prog_5_method_22_code 280 = .ok (.aload_n 0, 1) := by decide +kernel
theorem d_M_join_281 : decode prog_5_method_22_code 281 = .ok (.iload_n 2, 1) := by decide +kernel
theorem d_M_join_282 : decode prog_5_method_22_code 282 = .ok (.aload_n 0, 1) := by decide +kernel
theorem d_M_join_283 : decode prog_5_method_22_code 283 = .ok (.iload_n 2, 1) := by decide +kernel
theorem d_M_join_284 : decode prog_5_method_22_code 284 = .ok (.invokevirtual 100, 3) := by decide +kernel
theorem d_M_join_287 : decode prog_5_method_22_code 287 = .ok (.invokevirtual 103, 3) := by decide +kernel
theorem d_M_join_290 : decode prog_5_method_22_code 290 = .ok (.return_, 1) := by decide +kernel
theorem d_M_isBelow_0 : decode prog_5_method_21_code 0 = .ok (.iload_n 1, 1) := by decide +kernel
theorem d_M_isBelow_1 : decode prog_5_method_21_code 1 = .ok (.istore_n 3, 1) := by decide +kernel
theorem d_M_isBelow_2 : decode prog_5_method_21_code 2 = .ok (.iload_n 3, 1) := by decide +kernel
theorem d_M_isBelow_3 : decode prog_5_method_21_code 3 = .ok (.iconst (-1), 1) := by decide +kernel
theorem d_M_isBelow_4 : decode prog_5_method_21_code 4 = .ok (.if_icmp .eq 18, 3) := by decide +kernel
theorem d_M_isBelow_7 : decode prog_5_method_21_code 7 = .ok (.iload_n 3, 1) := by decide +kernel
theorem d_M_isBelow_8 : decode prog_5_method_21_code 8 = .ok (.iload_n 2, 1) := by decide +kernel
theorem d_M_isBelow_9 : decode prog_5_method_21_code 9 = .ok (.if_icmp .eq 13, 3) := by decide +kernel
theorem d_M_isBelow_12 : decode prog_5_method_21_code 12 = .ok (.aload_n 0, 1) := by decide +kernel
theorem d_M_isBelow_13 : decode prog_5_method_21_code 13 = .ok (.getfield 30, 3) := by decide +kernel
theorem d_M_isBelow_16 : decode prog_5_method_21_code 16 = .ok (.iload_n 3, 1) := by decide +kernel
theorem d_M_isBelow_17 : decode prog_5_method_21_code 17 = .ok (.iaload, 1) := by decide +kernel
theorem d_M_isBelow_18 : decode prog_5_method_21_code 18 = .ok (.istore_n 3, 1) := by decide +kernel
theorem d_M_isBelow_19 : decode prog_5_method_21_code 19 = .ok (.goto (-17), 3) := by decide +kernel
theorem d_M_isBelow_22 : decode prog_5_method_21_code 22 = .ok (.iload_n 3, 1) := by decide +kernel
theorem d_M_isBelow_23 : decode prog_5_method_21_code 23 = .ok (.iload_n 2, 1) := by decide +kernel
theorem d_M_isBelow_24 : decode prog_5_method_21_code 24 = .ok (.if_icmp .ne 7, 3) := by decide +kernel
theorem d_M_isBelow_27 : decode prog_5_method_21_code 27 = .ok (.iconst 1, 1) := by decide +kernel
theorem d_M_isBelow_28 : decode prog_5_method_21_code 28 = .ok (.goto 4, 3) := by decide +kernel
theorem d_M_isBelow_31 : decode prog_5_method_21_code 31 = .ok (.iconst 0, 1) := by decide +kernel
theorem d_M_isBelow_32 : decode prog_5_method_21_code 32 = .ok (.ireturn, 1) := by decide +kernel
theorem d_M_offer_0 : decode prog_5_method_23_code 0 = .ok (.aload_n 0, 1) := by decide +kernel
theorem d_M_offer_1 : decode prog_5_method_23_code 1 = .ok (.iload_n 1, 1) := by decide +kernel
theorem d_M_offer_2 : decode prog_5_method_23_code 2 = .ok (.invokevirtual 82, 3) := by decide +kernel
theorem d_M_offer_5 : decode prog_5_method_23_code 5 = .ok (.ifCond .eq 15, 3) := by decide +kernel
theorem d_M_offer_8 : decode prog_5_method_23_code 8 = .ok (.aload_n 0, 1) := by decide +kernel
theorem d_M_offer_9 : decode prog_5_method_23_code 9 = .ok (.iload_n 2, 1) := by decide +kernel
theorem d_M_offer_10 : decode prog_5_method_23_code 10 = .ok (.invokevirtual 110, 3) := by decide +kernel
theorem d_M_offer_13 : decode prog_5_method_23_code 13 = .ok (.ifCond .eq 7, 3) := by decide +kernel
theorem d_M_offer_16 : decode prog_5_method_23_code 16 = .ok (.iconst 1, 1) := by decide +kernel
theorem d_M_offer_17 : decode prog_5_method_23_code 17 = .ok (.goto 4, 3) := by decide +kernel
theorem d_M_offer_20 : decode prog_5_method_23_code 20 = .ok (.iconst 0, 1) := by decide +kernel
theorem d_M_offer_21 : decode prog_5_method_23_code 21 = .ok (.istore_n 3, 1) := by decide +kernel
theorem d_M_offer_22 : decode prog_5_method_23_code 22 = .ok (.aload_n 0, 1) := by decide +kernel
theorem d_M_offer_23 : decode prog_5_method_23_code 23 = .ok (.iconst 5, 1) := by decide +kernel
theorem d_M_offer_24 : decode prog_5_method_23_code 24 = .ok (.iload_n 3, 1) := by decide +kernel
theorem d_M_offer_25 : decode prog_5_method_23_code 25 = .ok (.iconst 1, 1) := by decide +kernel
theorem d_M_offer_26 : decode prog_5_method_23_code 26 = .ok (.iload_n 3, 1) := by decide +kernel
theorem d_M_offer_27 : decode prog_5_method_23_code 27 = .ok (.ifCond .eq 41, 3) := by decide +kernel
theorem d_M_offer_30 : decode prog_5_method_23_code 30 = .ok (.aload_n 0, 1) := by decide +kernel
theorem d_M_offer_31 : decode prog_5_method_23_code 31 = .ok (.iload_n 1, 1) := by decide +kernel
theorem d_M_offer_32 : decode prog_5_method_23_code 32 = .ok (.invokevirtual 116, 3) := by decide +kernel
theorem d_M_offer_35 : decode prog_5_method_23_code 35 = .ok (.ifCond .eq 33, 3) := by decide +kernel
theorem d_M_offer_38 : decode prog_5_method_23_code 38 = .ok (.aload_n 0, 1) := by decide +kernel
theorem d_M_offer_39 : decode prog_5_method_23_code 39 = .ok (.getfield 33, 3) := by decide +kernel
theorem d_M_offer_42 : decode prog_5_method_23_code 42 = .ok (.iload_n 1, 1) := by decide +kernel
theorem d_M_offer_43 : decode prog_5_method_23_code 43 = .ok (.iaload, 1) := by decide +kernel
theorem d_M_offer_44 : decode prog_5_method_23_code 44 = .ok (.ifCond .lt 24, 3) := by decide +kernel
theorem d_M_offer_47 : decode prog_5_method_23_code 47 = .ok (.aload_n 0, 1) := by decide +kernel
theorem d_M_offer_48 : decode prog_5_method_23_code 48 = .ok (.getfield 13, 3) := by decide +kernel
theorem d_M_offer_51 : decode prog_5_method_23_code 51 = .ok (.iload_n 2, 1) := by decide +kernel
theorem d_M_offer_52 : decode prog_5_method_23_code 52 = .ok (.iaload, 1) := by decide +kernel
theorem d_M_offer_53 : decode prog_5_method_23_code 53 = .ok (.ifCond .lt 15, 3) := by decide +kernel
theorem d_M_offer_56 : decode prog_5_method_23_code 56 = .ok (.aload_n 0, 1) := by decide +kernel
theorem d_M_offer_57 : decode prog_5_method_23_code 57 = .ok (.iload_n 2, 1) := by decide +kernel
theorem d_M_offer_58 : decode prog_5_method_23_code 58 = .ok (.invokevirtual 96, 3) := by decide +kernel
theorem d_M_offer_61 : decode prog_5_method_23_code 61 = .ok (.ifCond .ge 7, 3) := by decide +kernel
theorem d_M_offer_64 : decode prog_5_method_23_code 64 = .ok (.iconst 1, 1) := by decide +kernel
theorem d_M_offer_65 : decode prog_5_method_23_code 65 = .ok (.goto 4, 3) := by decide +kernel
theorem d_M_offer_68 : decode prog_5_method_23_code 68 = .ok (.iconst 0, 1) := by decide +kernel
theorem d_M_offer_69 : decode prog_5_method_23_code 69 = .ok (.iconst 1, 1) := by decide +kernel
theorem d_M_offer_70 : decode prog_5_method_23_code 70 = .ok (.invokevirtual 106, 3) := by decide +kernel
theorem d_M_offer_73 : decode prog_5_method_23_code 73 = .ok (.ifCond .ne 4, 3) := by decide +kernel
theorem d_M_offer_76 : decode prog_5_method_23_code 76 = .ok (.return_, 1) := by decide +kernel
theorem d_M_offer_77 : decode prog_5_method_23_code 77 = .ok (.aload_n 0, 1) := by decide +kernel
theorem d_M_offer_78 : decode prog_5_method_23_code 78 = .ok (.getfield 36, 3) := by decide +kernel
theorem d_M_offer_81 : decode prog_5_method_23_code 81 = .ok (.iload_n 1, 1) := by decide +kernel
theorem d_M_offer_82 : decode prog_5_method_23_code 82 = .ok (.iload_n 2, 1) := by decide +kernel
theorem d_M_offer_83 : decode prog_5_method_23_code 83 = .ok (.iastore, 1) := by decide +kernel
theorem d_M_offer_84 : decode prog_5_method_23_code 84 = .ok (.return_, 1) := by decide +kernel
theorem d_M_take_0 : decode prog_5_method_24_code 0 = .ok (.aload_n 0, 1) := by decide +kernel
theorem d_M_take_1 : decode prog_5_method_24_code 1 = .ok (.iload_n 1, 1) := by decide +kernel
theorem d_M_take_2 : decode prog_5_method_24_code 2 = .ok (.invokevirtual 82, 3) := by decide +kernel
theorem d_M_take_5 : decode prog_5_method_24_code 5 = .ok (.ifCond .eq 15, 3) := by decide +kernel
theorem d_M_take_8 : decode prog_5_method_24_code 8 = .ok (.aload_n 0, 1) := by decide +kernel
theorem d_M_take_9 : decode prog_5_method_24_code 9 = .ok (.iload_n 2, 1) := by decide +kernel
theorem d_M_take_10 : decode prog_5_method_24_code 10 = .ok (.invokevirtual 110, 3) := by decide +kernel
theorem d_M_take_13 : decode prog_5_method_24_code 13 = .ok (.ifCond .eq 7, 3) := by decide +kernel
theorem d_M_take_16 : decode prog_5_method_24_code 16 = .ok (.iconst 1, 1) := by decide +kernel
theorem d_M_take_17 : decode prog_5_method_24_code 17 = .ok (.goto 4, 3) := by decide +kernel
theorem d_M_take_20 : decode prog_5_method_24_code 20 = .ok (.iconst 0, 1) := by decide +kernel
theorem d_M_take_21 : decode prog_5_method_24_code 21 = .ok (.istore_n 3, 1) := by decide +kernel
theorem d_M_take_22 : decode prog_5_method_24_code 22 = .ok (.aload_n 0, 1) := by decide +kernel
theorem d_M_take_23 : decode prog_5_method_24_code 23 = .ok (.iconst 5, 1) := by decide +kernel
theorem d_M_take_24 : decode prog_5_method_24_code 24 = .ok (.iload_n 3, 1) := by decide +kernel
theorem d_M_take_25 : decode prog_5_method_24_code 25 = .ok (.iconst 1, 1) := by decide +kernel
theorem d_M_take_26 : decode prog_5_method_24_code 26 = .ok (.iload_n 3, 1) := by decide +kernel
theorem d_M_take_27 : decode prog_5_method_24_code 27 = .ok (.ifCond .eq 17, 3) := by decide +kernel
theorem d_M_take_30 : decode prog_5_method_24_code 30 = .ok (.aload_n 0, 1) := by decide +kernel
theorem d_M_take_31 : decode prog_5_method_24_code 31 = .ok (.getfield 36, 3) := by decide +kernel
theorem d_M_take_34 : decode prog_5_method_24_code 34 = .ok (.iload_n 1, 1) := by decide +kernel
theorem d_M_take_35 : decode prog_5_method_24_code 35 = .ok (.iaload, 1) := by decide +kernel
theorem d_M_take_36 : decode prog_5_method_24_code 36 = .ok (.iload_n 2, 1) := by decide +kernel
theorem d_M_take_37 : decode prog_5_method_24_code 37 = .ok (.if_icmp .ne 7, 3) := by decide +kernel
theorem d_M_take_40 : decode prog_5_method_24_code 40 = .ok (.iconst 1, 1) := by decide +kernel
theorem d_M_take_41 : decode prog_5_method_24_code 41 = .ok (.goto 4, 3) := by decide +kernel
theorem d_M_take_44 : decode prog_5_method_24_code 44 = .ok (.iconst 0, 1) := by decide +kernel
theorem d_M_take_45 : decode prog_5_method_24_code 45 = .ok (.iconst 1, 1) := by decide +kernel
theorem d_M_take_46 : decode prog_5_method_24_code 46 = .ok (.invokevirtual 106, 3) := by decide +kernel
theorem d_M_take_49 : decode prog_5_method_24_code 49 = .ok (.ifCond .ne 4, 3) := by decide +kernel
theorem d_M_take_52 : decode prog_5_method_24_code 52 = .ok (.return_, 1) := by decide +kernel
theorem d_M_take_53 : decode prog_5_method_24_code 53 = .ok (.aload_n 0, 1) := by decide +kernel
theorem d_M_take_54 : decode prog_5_method_24_code 54 = .ok (.getfield 13, 3) := by decide +kernel
theorem d_M_take_57 : decode prog_5_method_24_code 57 = .ok (.iload_n 2, 1) := by decide +kernel
theorem d_M_take_58 : decode prog_5_method_24_code 58 = .ok (.iload_n 1, 1) := by decide +kernel
theorem d_M_take_59 : decode prog_5_method_24_code 59 = .ok (.iastore, 1) := by decide +kernel
theorem d_M_take_60 : decode prog_5_method_24_code 60 = .ok (.aload_n 0, 1) := by decide +kernel
theorem d_M_take_61 : decode prog_5_method_24_code 61 = .ok (.iload_n 1, 1) := by decide +kernel
theorem d_M_take_62 : decode prog_5_method_24_code 62 = .ok (.iload_n 2, 1) := by decide +kernel
theorem d_M_take_63 : decode prog_5_method_24_code 63 = .ok (.invokevirtual 103, 3) := by decide +kernel
theorem d_M_take_66 : decode prog_5_method_24_code 66 = .ok (.return_, 1) := by decide +kernel
theorem d_M_task_0 : decode prog_5_method_25_code 0 = .ok (.aload_n 0, 1) := by decide +kernel
theorem d_M_task_1 : decode prog_5_method_25_code 1 = .ok (.bipush 15, 2) := by decide +kernel
theorem d_M_task_3 : decode prog_5_method_25_code 3 = .ok (.aload_n 0, 1) := by decide +kernel
theorem d_M_task_4 : decode prog_5_method_25_code 4 = .ok (.iload_n 1, 1) := by decide +kernel
theorem d_M_task_5 : decode prog_5_method_25_code 5 = .ok (.invokevirtual 82, 3) := by decide +kernel
theorem d_M_task_8 : decode prog_5_method_25_code 8 = .ok (.iload_n 2, 1) := by decide +kernel
theorem d_M_task_9 : decode prog_5_method_25_code 9 = .ok (.aload_n 0, 1) := by decide +kernel
theorem d_M_task_10 : decode prog_5_method_25_code 10 = .ok (.getfield 89, 3) := by decide +kernel
theorem d_M_task_13 : decode prog_5_method_25_code 13 = .ok (.ldc 129, 2) := by decide +kernel
theorem d_M_task_15 : decode prog_5_method_25_code 15 = .ok (.invokestatic 75, 3) := by decide +kernel
theorem d_M_task_18 : decode prog_5_method_25_code 18 = .ok (.aload_n 0, 1) := by decide +kernel
theorem d_M_task_19 : decode prog_5_method_25_code 19 = .ok (.iload_n 1, 1) := by decide +kernel
theorem d_M_task_20 : decode prog_5_method_25_code 20 = .ok (.invokevirtual 116, 3) := by decide +kernel
theorem d_M_task_23 : decode prog_5_method_25_code 23 = .ok (.aload_n 0, 1) := by decide +kernel
theorem d_M_task_24 : decode prog_5_method_25_code 24 = .ok (.getfield 126, 3) := by decide +kernel
theorem d_M_task_27 : decode prog_5_method_25_code 27 = .ok (.bipush 60, 2) := by decide +kernel
theorem d_M_task_29 : decode prog_5_method_25_code 29 = .ok (.if_icmp .ge 7, 3) := by decide +kernel
theorem d_M_task_32 : decode prog_5_method_25_code 32 = .ok (.iconst 1, 1) := by decide +kernel
theorem d_M_task_33 : decode prog_5_method_25_code 33 = .ok (.goto 4, 3) := by decide +kernel
theorem d_M_task_36 : decode prog_5_method_25_code 36 = .ok (.iconst 0, 1) := by decide +kernel
theorem d_M_task_37 : decode prog_5_method_25_code 37 = .ok (.invokevirtual 106, 3) := by decide +kernel
theorem d_M_task_40 : decode prog_5_method_25_code 40 = .ok (.ifCond .ne 5, 3) := by decide +kernel
theorem d_M_task_43 : decode prog_5_method_25_code 43 = .ok (.iconst 0, 1) := by decide +kernel
theorem d_M_task_44 : decode prog_5_method_25_code 44 = .ok (.ireturn, 1) := by decide +kernel
theorem d_M_task_45 : decode prog_5_method_25_code 45 = .ok (.aload_n 0, 1) := by decide +kernel
theorem d_M_task_46 : decode prog_5_method_25_code 46 = .ok (.getfield 42, 3) := by decide +kernel
theorem d_M_task_49 : decode prog_5_method_25_code 49 = .ok (.aload_n 0, 1) := by decide +kernel
theorem d_M_task_50 : decode prog_5_method_25_code 50 = .ok (.getfield 126, 3) := by decide +kernel
theorem d_M_task_53 : decode prog_5_method_25_code 53 = .ok (.iload_n 1, 1) := by decide +kernel
theorem d_M_task_54 : decode prog_5_method_25_code 54 = .ok (.iastore, 1) := by decide +kernel
theorem d_M_task_55 : decode prog_5_method_25_code 55 = .ok (.aload_n 0, 1) := by decide +kernel
theorem d_M_task_56 : decode prog_5_method_25_code 56 = .ok (.getfield 45, 3) := by decide +kernel
theorem d_M_task_59 : decode prog_5_method_25_code 59 = .ok (.aload_n 0, 1) := by decide +kernel
theorem d_M_task_60 : decode prog_5_method_25_code 60 = .ok (.getfield 126, 3) := by decide +kernel
theorem d_M_task_63 : decode prog_5_method_25_code 63 = .ok (.iload_n 2, 1) := by decide +kernel
theorem d_M_task_64 : decode prog_5_method_25_code 64 = .ok (.iastore, 1) := by decide +kernel
theorem d_M_task_65 : decode prog_5_method_25_code 65 = .ok (.aload_n 0, 1) := by decide +kernel
theorem d_M_task_66 : decode prog_5_method_25_code 66 = .ok (.getfield 48, 3) := by decide +kernel
theorem d_M_task_69 : decode prog_5_method_25_code 69 = .ok (.aload_n 0, 1) := by decide +kernel
theorem d_M_task_70 : decode prog_5_method_25_code 70 = .ok (.getfield 126, 3) := by decide +kernel
theorem d_M_task_73 : decode prog_5_method_25_code 73 = .ok (.iconst 0, 1) := by decide +kernel
theorem d_M_task_74 : decode prog_5_method_25_code 74 = .ok (.iastore, 1) := by decide +kernel
theorem d_M_task_75 : decode prog_5_method_25_code 75 = .ok (.aload_n 0, 1) := by decide +kernel
theorem d_M_task_76 : decode prog_5_method_25_code 76 = .ok (.getfield 51, 3) := by decide +kernel
theorem d_M_task_79 : decode prog_5_method_25_code 79 = .ok (.aload_n 0, 1) := by decide +kernel
theorem d_M_task_80 : decode prog_5_method_25_code 80 = .ok (.getfield 126, 3) := by decide +kernel
theorem d_M_task_83 : decode prog_5_method_25_code 83 = .ok (.iconst (-1), 1) := by decide +kernel
theorem d_M_task_84 : decode prog_5_method_25_code 84 = .ok (.iastore, 1) := by decide +kernel
theorem d_M_task_85 : decode prog_5_method_25_code 85 = .ok (.aload_n 0, 1) := by decide +kernel
theorem d_M_task_86 : decode prog_5_method_25_code 86 = .ok (.dup, 1) := by decide +kernel
theorem d_M_task_87 : decode prog_5_method_25_code 87 = .ok (.getfield 126, 3) := by decide +kernel
theorem d_M_task_90 : decode prog_5_method_25_code 90 = .ok (.iconst 1, 1) := by decide +kernel
theorem d_M_task_91 : decode prog_5_method_25_code 91 = .ok (.iadd, 1) := by decide +kernel
theorem d_M_task_92 : decode prog_5_method_25_code 92 = .ok (.putfield 126, 3) := by decide +kernel
theorem d_M_task_95 : decode prog_5_method_25_code 95 = .ok (.aload_n 0, 1) := by decide +kernel
theorem d_M_task_96 : decode prog_5_method_25_code 96 = .ok (.getfield 126, 3) := by decide +kernel
theorem d_M_task_99 : decode prog_5_method_25_code 99 = .ok (.iconst 1, 1) := by decide +kernel
theorem d_M_task_100 : decode prog_5_method_25_code 100 = .ok (.isub, 1) := by decide +kernel
theorem d_M_task_101 : decode prog_5_method_25_code 101 = .ok (.ireturn, 1) := by decide +kernel
theorem d_M_answer_0 : decode prog_5_method_26_code 0 = .ok (.iload_n 1, 1) := by decide +kernel
theorem d_M_answer_1 : decode prog_5_method_26_code 1 = .ok (.iconst 0, 1) := by decide +kernel
theorem d_M_answer_2 : decode prog_5_method_26_code 2 = .ok (.aload_n 0, 1) := by decide +kernel
theorem d_M_answer_3 : decode prog_5_method_26_code 3 = .ok (.getfield 126, 3) := by decide +kernel
theorem d_M_answer_6 : decode prog_5_method_26_code 6 = .ok (.iconst 1, 1) := by decide +kernel
theorem d_M_answer_7 : decode prog_5_method_26_code 7 = .ok (.isub, 1) := by decide +kernel
theorem d_M_answer_8 : decode prog_5_method_26_code 8 = .ok (.invokestatic 75, 3) := by decide +kernel
theorem d_M_answer_11 : decode prog_5_method_26_code 11 = .ok (.istore_n 3, 1) := by decide +kernel
theorem d_M_answer_12 : decode prog_5_method_26_code 12 = .ok (.aload_n 0, 1) := by decide +kernel
theorem d_M_answer_13 : decode prog_5_method_26_code 13 = .ok (.iconst 5, 1) := by decide +kernel
theorem d_M_answer_14 : decode prog_5_method_26_code 14 = .ok (.iload_n 3, 1) := by decide +kernel
theorem d_M_answer_15 : decode prog_5_method_26_code 15 = .ok (.iconst 1, 1) := by decide +kernel
theorem d_M_answer_16 : decode prog_5_method_26_code 16 = .ok (.iload_n 3, 1) := by decide +kernel
theorem d_M_answer_17 : decode prog_5_method_26_code 17 = .ok (.ifCond .eq 26, 3) := by decide +kernel
theorem d_M_answer_20 : decode prog_5_method_26_code 20 = .ok (.aload_n 0, 1) := by decide +kernel
theorem d_M_answer_21 : decode prog_5_method_26_code 21 = .ok (.getfield 48, 3) := by decide +kernel
theorem d_M_answer_24 : decode prog_5_method_26_code 24 = .ok (.iload_n 1, 1) := by decide +kernel
theorem d_M_answer_25 : decode prog_5_method_26_code 25 = .ok (.iaload, 1) := by decide +kernel
theorem d_M_answer_26 : decode prog_5_method_26_code 26 = .ok (.ifCond .eq 13, 3) := by decide +kernel
theorem d_M_answer_29 : decode prog_5_method_26_code 29 = .ok (.aload_n 0, 1) := by decide +kernel
theorem d_M_answer_30 : decode prog_5_method_26_code 30 = .ok (.getfield 48, 3) := by decide +kernel
theorem d_M_answer_33 : decode prog_5_method_26_code 33 = .ok (.iload_n 1, 1) := by decide +kernel
theorem d_M_answer_34 : decode prog_5_method_26_code 34 = .ok (.iaload, 1) := by decide +kernel
theorem d_M_answer_35 : decode prog_5_method_26_code 35 = .ok (.iconst 3, 1) := by decide +kernel
theorem d_M_answer_36 : decode prog_5_method_26_code 36 = .ok (.if_icmp .ne 7, 3) := by decide +kernel
theorem d_M_answer_39 : decode prog_5_method_26_code 39 = .ok (.iconst 1, 1) := by decide +kernel
theorem d_M_answer_40 : decode prog_5_method_26_code 40 = .ok (.goto 4, 3) := by decide +kernel
theorem d_M_answer_43 : decode prog_5_method_26_code 43 = .ok (.iconst 0, 1) := by decide +kernel
theorem d_M_answer_44 : decode prog_5_method_26_code 44 = .ok (.iconst 1, 1) := by decide +kernel
theorem d_M_answer_45 : decode prog_5_method_26_code 45 = .ok (.invokevirtual 106, 3) := by decide +kernel
theorem d_M_answer_48 : decode prog_5_method_26_code 48 = .ok (.ifCond .ne 4, 3) := by decide +kernel
theorem d_M_answer_51 : decode prog_5_method_26_code 51 = .ok (.return_, 1) := by decide +kernel
theorem d_M_answer_52 : decode prog_5_method_26_code 52 = .ok (.aload_n 0, 1) := by decide +kernel
theorem d_M_answer_53 : decode prog_5_method_26_code 53 = .ok (.getfield 48, 3) := by decide +kernel
theorem d_M_answer_56 : decode prog_5_method_26_code 56 = .ok (.iload_n 1, 1) := by decide +kernel
theorem d_M_answer_57 : decode prog_5_method_26_code 57 = .ok (.iload_n 2, 1) := by decide +kernel
theorem d_M_answer_58 : decode prog_5_method_26_code 58 = .ok (.ifCond .eq 7, 3) := by decide +kernel
theorem d_M_answer_61 : decode prog_5_method_26_code 61 = .ok (.iconst 1, 1) := by decide +kernel
theorem d_M_answer_62 : decode prog_5_method_26_code 62 = .ok (.goto 4, 3) := by decide +kernel
theorem d_M_answer_65 : decode prog_5_method_26_code 65 = .ok (.iconst 2, 1) := by decide +kernel
theorem d_M_answer_66 : decode prog_5_method_26_code 66 = .ok (.iastore, 1) := by decide +kernel
theorem d_M_answer_67 : decode prog_5_method_26_code 67 = .ok (.aload_n 0, 1) := by decide +kernel
theorem d_M_answer_68 : decode prog_5_method_26_code 68 = .ok (.getfield 51, 3) := by decide +kernel
theorem d_M_answer_71 : decode prog_5_method_26_code 71 = .ok (.iload_n 1, 1) := by decide +kernel
theorem d_M_answer_72 : decode prog_5_method_26_code 72 = .ok (.aload_n 0, 1) := by decide +kernel
theorem d_M_answer_73 : decode prog_5_method_26_code 73 = .ok (.getfield 89, 3) := by decide +kernel
theorem d_M_answer_76 : decode prog_5_method_26_code 76 = .ok (.iastore, 1) := by decide +kernel
theorem d_M_answer_77 : decode prog_5_method_26_code 77 = .ok (.return_, 1) := by decide +kernel
theorem d_M_span_0 : decode prog_5_method_30_code 0 = .ok (.aload_n 0, 1) := by decide +kernel
theorem d_M_span_1 : decode prog_5_method_30_code 1 = .ok (.iconst 2, 1) := by decide +kernel
theorem d_M_span_2 : decode prog_5_method_30_code 2 = .ok (.iconst 1, 1) := by decide +kernel
theorem d_M_span_3 : decode prog_5_method_30_code 3 = .ok (.iload_n 1, 1) := by decide +kernel
theorem d_M_span_4 : decode prog_5_method_30_code 4 = .ok (.iconst 1, 1) := by decide +kernel
theorem d_M_span_5 : decode prog_5_method_30_code 5 = .ok (.bipush 20, 2) := by decide +kernel
theorem d_M_span_7 : decode prog_5_method_30_code 7 = .ok (.invokestatic 75, 3) := by decide +kernel
theorem d_M_span_10 : decode prog_5_method_30_code 10 = .ok (.iconst 1, 1) := by decide +kernel
theorem d_M_span_11 : decode prog_5_method_30_code 11 = .ok (.iconst 1, 1) := by decide +kernel
theorem d_M_span_12 : decode prog_5_method_30_code 12 = .ok (.invokevirtual 106, 3) := by decide +kernel
theorem d_M_span_15 : decode prog_5_method_30_code 15 = .ok (.ifCond .ne 5, 3) := by decide +kernel
theorem d_M_span_18 : decode prog_5_method_30_code 18 = .ok (.iconst 0, 1) := by decide +kernel
theorem d_M_span_19 : decode prog_5_method_30_code 19 = .ok (.ireturn, 1) := by decide +kernel
theorem d_M_span_20 : decode prog_5_method_30_code 20 = .ok (.aload_n 0, 1) := by decide +kernel
theorem d_M_span_21 : decode prog_5_method_30_code 21 = .ok (.iload_n 1, 1) := by decide +kernel
theorem d_M_span_22 : decode prog_5_method_30_code 22 = .ok (.putfield 39, 3) := by decide +kernel
theorem d_M_span_25 : decode prog_5_method_30_code 25 = .ok (.iconst 0, 1) := by decide +kernel
theorem d_M_span_26 : decode prog_5_method_30_code 26 = .ok (.istore_n 2, 1) := by decide +kernel
theorem d_M_span_27 : decode prog_5_method_30_code 27 = .ok (.iconst 0, 1) := by decide +kernel
theorem d_M_span_28 : decode prog_5_method_30_code 28 = .ok (.istore_n 3, 1) := by decide +kernel
theorem d_M_span_29 : decode prog_5_method_30_code 29 = .ok (.iload_n 3, 1) := by decide +kernel
theorem d_M_span_30 : decode prog_5_method_30_code 30 = .ok (.aload_n 0, 1) := by decide +kernel
theorem d_M_span_31 : decode prog_5_method_30_code 31 = .ok (.getfield 22, 3) := by decide +kernel
theorem d_M_span_34 : decode prog_5_method_30_code 34 = .ok (.if_icmp .ge 20, 3) := by decide +kernel
theorem d_M_span_37 : decode prog_5_method_30_code 37 = .ok (.aload_n 0, 1) := by decide +kernel
theorem d_M_span_38 : decode prog_5_method_30_code 38 = .ok (.iload_n 3, 1) := by decide +kernel
theorem d_M_span_39 : decode prog_5_method_30_code 39 = .ok (.invokevirtual 136, 3) := by decide +kernel
theorem d_M_span_42 : decode prog_5_method_30_code 42 = .ok (.ifCond .eq 6, 3) := by decide +kernel
theorem d_M_span_45 : decode prog_5_method_30_code 45 = .ok (.iinc 2 1, 3) := by decide +kernel
theorem d_M_span_48 : decode prog_5_method_30_code 48 = .ok (.iinc 3 1, 3) := by decide +kernel
theorem d_M_span_51 : decode prog_5_method_30_code 51 = .ok (.goto (-22), 3) := by decide +kernel
theorem d_M_span_54 : decode prog_5_method_30_code 54 = .ok (.iload_n 2, 1) := by decide +kernel
theorem d_M_span_55 : decode prog_5_method_30_code 55 = .ok (.ireturn, 1) := by decide +kernel
theorem d_M_isPassed_0 : decode prog_5_method_29_code 0 = .ok (.aload_n 0, 1) := by decide +kernel
theorem d_M_isPassed_1 : decode prog_5_method_29_code 1 = .ok (.getfield 26, 3) := by decide +kernel
theorem d_M_isPassed_4 : decode prog_5_method_29_code 4 = .ok (.iload_n 1, 1) := by decide +kernel
theorem d_M_isPassed_5 : decode prog_5_method_29_code 5 = .ok (.baload, 1) := by decide +kernel
theorem d_M_isPassed_6 : decode prog_5_method_29_code 6 = .ok (.ifCond .ne 34, 3) := by decide +kernel
theorem d_M_isPassed_9 : decode prog_5_method_29_code 9 = .ok (.aload_n 0, 1) := by decide +kernel
theorem d_M_isPassed_10 : decode prog_5_method_29_code 10 = .ok (.getfield 33, 3) := by decide +kernel
theorem d_M_isPassed_13 : decode prog_5_method_29_code 13 = .ok (.iload_n 1, 1) := by decide +kernel
theorem d_M_isPassed_14 : decode prog_5_method_29_code 14 = .ok (.iaload, 1) := by decide +kernel
theorem d_M_isPassed_15 : decode prog_5_method_29_code 15 = .ok (.ifCond .lt 25, 3) := by decide +kernel
theorem d_M_isPassed_18 : decode prog_5_method_29_code 18 = .ok (.aload_n 0, 1) := by decide +kernel
theorem d_M_isPassed_19 : decode prog_5_method_29_code 19 = .ok (.iload_n 1, 1) := by decide +kernel
theorem d_M_isPassed_20 : decode prog_5_method_29_code 20 = .ok (.invokevirtual 130, 3) := by decide +kernel
theorem d_M_isPassed_23 : decode prog_5_method_29_code 23 = .ok (.aload_n 0, 1) := by decide +kernel
theorem d_M_isPassed_24 : decode prog_5_method_29_code 24 = .ok (.iload_n 1, 1) := by decide +kernel
theorem d_M_isPassed_25 : decode prog_5_method_29_code 25 = .ok (.invokevirtual 133, 3) := by decide +kernel
theorem d_M_isPassed_28 : decode prog_5_method_29_code 28 = .ok (.iadd, 1) := by decide +kernel
theorem d_M_isPassed_29 : decode prog_5_method_29_code 29 = .ok (.aload_n 0, 1) := by decide +kernel
theorem d_M_isPassed_30 : decode prog_5_method_29_code 30 = .ok (.getfield 39, 3) := by decide +kernel
theorem d_M_isPassed_33 : decode prog_5_method_29_code 33 = .ok (.if_icmp .le 7, 3) := by decide +kernel
theorem d_M_isPassed_36 : decode prog_5_method_29_code 36 = .ok (.iconst 1, 1) := by decide +kernel
theorem d_M_isPassed_37 : decode prog_5_method_29_code 37 = .ok (.goto 4, 3) := by decide +kernel
theorem d_M_isPassed_40 : decode prog_5_method_29_code 40 = .ok (.iconst 0, 1) := by decide +kernel
theorem d_M_isPassed_41 : decode prog_5_method_29_code 41 = .ok (.ireturn, 1) := by decide +kernel
theorem d_M_below_0 : decode prog_5_method_27_code 0 = .ok (.iconst 0, 1) := by decide +kernel
theorem d_M_below_1 : decode prog_5_method_27_code 1 = .ok (.istore_n 2, 1) := by decide +kernel
theorem d_M_below_2 : decode prog_5_method_27_code 2 = .ok (.iconst 0, 1) := by decide +kernel
theorem d_M_below_3 : decode prog_5_method_27_code 3 = .ok (.istore_n 3, 1) := by decide +kernel
theorem d_M_below_4 : decode prog_5_method_27_code 4 = .ok (.iload_n 3, 1) := by decide +kernel
theorem d_M_below_5 : decode prog_5_method_27_code 5 = .ok (.aload_n 0, 1) := by decide +kernel
theorem d_M_below_6 : decode prog_5_method_27_code 6 = .ok (.getfield 22, 3) := by decide +kernel
theorem d_M_below_9 : decode prog_5_method_27_code 9 = .ok (.if_icmp .ge 31, 3) := by decide +kernel
theorem d_M_below_12 : decode prog_5_method_27_code 12 = .ok (.aload_n 0, 1) := by decide +kernel
theorem d_M_below_13 : decode prog_5_method_27_code 13 = .ok (.getfield 30, 3) := by decide +kernel
theorem d_M_below_16 : decode prog_5_method_27_code 16 = .ok (.iload_n 3, 1) := by decide +kernel
theorem d_M_below_17 : decode prog_5_method_27_code 17 = .ok (.iaload, 1) := by decide +kernel
theorem d_M_below_18 : decode prog_5_method_27_code 18 = .ok (.iload_n 1, 1) := by decide +kernel
theorem d_M_below_19 : decode prog_5_method_27_code 19 = .ok (.if_icmp .ne 15, 3) := by decide +kernel
theorem d_M_below_22 : decode prog_5_method_27_code 22 = .ok (.aload_n 0, 1) := by decide +kernel
theorem d_M_below_23 : decode prog_5_method_27_code 23 = .ok (.getfield 26, 3) := by decide +kernel
theorem d_M_below_26 : decode prog_5_method_27_code 26 = .ok (.iload_n 3, 1) := by decide +kernel
theorem d_M_below_27 : decode prog_5_method_27_code 27 = .ok (.baload, 1) := by decide +kernel
theorem d_M_below_28 : decode prog_5_method_27_code 28 = .ok (.ifCond .ne 6, 3) := by decide +kernel
theorem d_M_below_31 : decode prog_5_method_27_code 31 = .ok (.iinc 2 1, 3) := by decide +kernel
theorem d_M_below_34 : decode prog_5_method_27_code 34 = .ok (.iinc 3 1, 3) := by decide +kernel
theorem d_M_below_37 : decode prog_5_method_27_code 37 = .ok (.goto (-33), 3) := by decide +kernel
theorem d_M_below_40 : decode prog_5_method_27_code 40 = .ok (.iload_n 2, 1) := by decide +kernel
theorem d_M_below_41 : decode prog_5_method_27_code 41 = .ok (.ireturn, 1) := by decide +kernel
theorem d_M_unitsIn_0 : decode prog_5_method_28_code 0 = .ok (.iconst 0, 1) := by decide +kernel
theorem d_M_unitsIn_1 : decode prog_5_method_28_code 1 = .ok (.istore_n 2, 1) := by decide +kernel
theorem d_M_unitsIn_2 : decode prog_5_method_28_code 2 = .ok (.iconst 0, 1) := by decide +kernel
theorem d_M_unitsIn_3 : decode prog_5_method_28_code 3 = .ok (.istore_n 3, 1) := by decide +kernel
theorem d_M_unitsIn_4 : decode prog_5_method_28_code 4 = .ok (.iload_n 3, 1) := by decide +kernel
theorem d_M_unitsIn_5 : decode prog_5_method_28_code 5 = .ok (.aload_n 0, 1) := by decide +kernel
theorem d_M_unitsIn_6 : decode prog_5_method_28_code 6 = .ok (.getfield 79, 3) := by decide +kernel
theorem d_M_unitsIn_9 : decode prog_5_method_28_code 9 = .ok (.if_icmp .ge 22, 3) := by decide +kernel
theorem d_M_unitsIn_12 : decode prog_5_method_28_code 12 = .ok (.aload_n 0, 1) := by decide +kernel
theorem d_M_unitsIn_13 : decode prog_5_method_28_code 13 = .ok (.getfield 19, 3) := by decide +kernel
theorem d_M_unitsIn_16 : decode prog_5_method_28_code 16 = .ok (.iload_n 3, 1) := by decide +kernel
theorem d_M_unitsIn_17 : decode prog_5_method_28_code 17 = .ok (.iaload, 1) := by decide +kernel
theorem d_M_unitsIn_18 : decode prog_5_method_28_code 18 = .ok (.iload_n 1, 1) := by decide +kernel
theorem d_M_unitsIn_19 : decode prog_5_method_28_code 19 = .ok (.if_icmp .ne 6, 3) := by decide +kernel
theorem d_M_unitsIn_22 : decode prog_5_method_28_code 22 = .ok (.iinc 2 1, 3) := by decide +kernel
theorem d_M_unitsIn_25 : decode prog_5_method_28_code 25 = .ok (.iinc 3 1, 3) := by decide +kernel
theorem d_M_unitsIn_28 : decode prog_5_method_28_code 28 = .ok (.goto (-24), 3) := by decide +kernel
theorem d_M_unitsIn_31 : decode prog_5_method_28_code 31 = .ok (.iload_n 2, 1) := by decide +kernel
theorem d_M_unitsIn_32 : decode prog_5_method_28_code 32 = .ok (.ireturn, 1) := by decide +kernel
theorem d_M_tick_0 : decode prog_5_method_31_code 0 = .ok (.aload_n 0, 1) := by decide +kernel
theorem d_M_tick_1 : decode prog_5_method_31_code 1 = .ok (.iconst 2, 1) := by decide +kernel
theorem d_M_tick_2 : decode prog_5_method_31_code 2 = .ok (.iconst 1, 1) := by decide +kernel
theorem d_M_tick_3 : decode prog_5_method_31_code 3 = .ok (.iload_n 1, 1) := by decide +kernel
theorem d_M_tick_4 : decode prog_5_method_31_code 4 = .ok (.iconst 1, 1) := by decide +kernel
theorem d_M_tick_5 : decode prog_5_method_31_code 5 = .ok (.sipush 5000, 3) := by decide +kernel
theorem d_M_tick_8 : decode prog_5_method_31_code 8 = .ok (.invokestatic 75, 3) := by decide +kernel
theorem d_M_tick_11 : decode prog_5_method_31_code 11 = .ok (.ifCond .eq 18, 3) := by decide +kernel
theorem d_M_tick_14 : decode prog_5_method_31_code 14 = .ok (.iload_n 1, 1) := by decide +kernel
theorem d_M_tick_15 : decode prog_5_method_31_code 15 = .ok (.ldc 129, 2) := by decide +kernel
theorem d_M_tick_17 : decode prog_5_method_31_code 17 = .ok (.aload_n 0, 1) := by decide +kernel
theorem d_M_tick_18 : decode prog_5_method_31_code 18 = .ok (.getfield 89, 3) := by decide +kernel
theorem d_M_tick_21 : decode prog_5_method_31_code 21 = .ok (.isub, 1) := by decide +kernel
theorem d_M_tick_22 : decode prog_5_method_31_code 22 = .ok (.if_icmp .gt 7, 3) := by decide +kernel
theorem d_M_tick_25 : decode prog_5_method_31_code 25 = .ok (.iconst 1, 1) := by decide +kernel
theorem d_M_tick_26 : decode prog_5_method_31_code 26 = .ok (.goto 4, 3) := by decide +kernel
theorem d_M_tick_29 : decode prog_5_method_31_code 29 = .ok (.iconst 0, 1) := by decide +kernel
theorem d_M_tick_30 : decode prog_5_method_31_code 30 = .ok (.iconst 1, 1) := by decide +kernel
theorem d_M_tick_31 : decode prog_5_method_31_code 31 = .ok (.iconst 1, 1) := by decide +kernel
theorem d_M_tick_32 : decode prog_5_method_31_code 32 = .ok (.invokevirtual 106, 3) := by decide +kernel
theorem d_M_tick_35 : decode prog_5_method_31_code 35 = .ok (.ifCond .ne 5, 3) := by decide +kernel
theorem d_M_tick_38 : decode prog_5_method_31_code 38 = .ok (.iconst 0, 1) := by decide +kernel
theorem d_M_tick_39 : decode prog_5_method_31_code 39 = .ok (.ireturn, 1) := by decide +kernel
theorem d_M_tick_40 : decode prog_5_method_31_code 40 = .ok (.aload_n 0, 1) := by decide +kernel
theorem d_M_tick_41 : decode prog_5_method_31_code 41 = .ok (.aload_n 0, 1) := by decide +kernel
theorem d_M_tick_42 : decode prog_5_method_31_code 42 = .ok (.getfield 89, 3) := by decide +kernel
theorem d_M_tick_45 : decode prog_5_method_31_code 45 = .ok (.iload_n 1, 1) := by decide +kernel
theorem d_M_tick_46 : decode prog_5_method_31_code 46 = .ok (.iadd, 1) := by decide +kernel
theorem d_M_tick_47 : decode prog_5_method_31_code 47 = .ok (.putfield 89, 3) := by decide +kernel
theorem d_M_tick_50 : decode prog_5_method_31_code 50 = .ok (.iconst 0, 1) := by decide +kernel
theorem d_M_tick_51 : decode prog_5_method_31_code 51 = .ok (.istore_n 2, 1) := by decide +kernel
theorem d_M_tick_52 : decode prog_5_method_31_code 52 = .ok (.iconst 0, 1) := by decide +kernel
theorem d_M_tick_53 : decode prog_5_method_31_code 53 = .ok (.istore_n 3, 1) := by decide +kernel
theorem d_M_tick_54 : decode prog_5_method_31_code 54 = .ok (.iload_n 3, 1) := by decide +kernel
theorem d_M_tick_55 : decode prog_5_method_31_code 55 = .ok (.aload_n 0, 1) := by decide +kernel
theorem d_M_tick_56 : decode prog_5_method_31_code 56 = .ok (.getfield 126, 3) := by decide +kernel
theorem d_M_tick_59 : decode prog_5_method_31_code 59 = .ok (.if_icmp .ge 44, 3) := by decide +kernel
theorem d_M_tick_62 : decode prog_5_method_31_code 62 = .ok (.aload_n 0, 1) := by decide +kernel
theorem d_M_tick_63 : decode prog_5_method_31_code 63 = .ok (.getfield 48, 3) := by decide +kernel
theorem d_M_tick_66 : decode prog_5_method_31_code 66 = .ok (.iload_n 3, 1) := by decide +kernel
theorem d_M_tick_67 : decode prog_5_method_31_code 67 = .ok (.iaload, 1) := by decide +kernel
theorem d_M_tick_68 : decode prog_5_method_31_code 68 = .ok (.ifCond .ne 29, 3) := by decide +kernel
theorem d_M_tick_71 : decode prog_5_method_31_code 71 = .ok (.aload_n 0, 1) := by decide +kernel
theorem d_M_tick_72 : decode prog_5_method_31_code 72 = .ok (.getfield 89, 3) := by decide +kernel
theorem d_M_tick_75 : decode prog_5_method_31_code 75 = .ok (.aload_n 0, 1) := by decide +kernel
theorem d_M_tick_76 : decode prog_5_method_31_code 76 = .ok (.getfield 45, 3) := by decide +kernel
theorem d_M_tick_79 : decode prog_5_method_31_code 79 = .ok (.iload_n 3, 1) := by decide +kernel
theorem d_M_tick_80 : decode prog_5_method_31_code 80 = .ok (.iaload, 1) := by decide +kernel
theorem d_M_tick_81 : decode prog_5_method_31_code 81 = .ok (.if_icmp .gt 6, 3) := by decide +kernel
theorem d_M_tick_84 : decode prog_5_method_31_code 84 = .ok (.goto 13, 3) := by decide +kernel
theorem d_M_tick_87 : decode prog_5_method_31_code 87 = .ok (.aload_n 0, 1) := by decide +kernel
theorem d_M_tick_88 : decode prog_5_method_31_code 88 = .ok (.getfield 48, 3) := by decide +kernel
theorem d_M_tick_91 : decode prog_5_method_31_code 91 = .ok (.iload_n 3, 1) := by decide +kernel
theorem d_M_tick_92 : decode prog_5_method_31_code 92 = .ok (.iconst 3, 1) := by decide +kernel
theorem d_M_tick_93 : decode prog_5_method_31_code 93 = .ok (.iastore, 1) := by decide +kernel
theorem d_M_tick_94 : decode prog_5_method_31_code 94 = .ok (.iinc 2 1, 3) := by decide +kernel
theorem d_M_tick_97 : decode prog_5_method_31_code 97 = .ok (.iinc 3 1, 3) := by decide +kernel
theorem d_M_tick_100 : decode prog_5_method_31_code 100 = .ok (.goto (-46), 3) := by decide +kernel
theorem d_M_tick_103 : decode prog_5_method_31_code 103 = .ok (.iload_n 2, 1) := by decide +kernel
theorem d_M_tick_104 : decode prog_5_method_31_code 104 = .ok (.ireturn, 1) := by decide +kernel
theorem d_M_led_0 : decode prog_5_method_32_code 0 = .ok (.aload_n 0, 1) := by decide +kernel
theorem d_M_led_1 : decode prog_5_method_32_code 1 = .ok (.bipush 11, 2) := by decide +kernel
theorem d_M_led_3 : decode prog_5_method_32_code 3 = .ok (.aload_n 0, 1) := by decide +kernel
theorem d_M_led_4 : decode prog_5_method_32_code 4 = .ok (.iload_n 1, 1) := by decide +kernel
theorem d_M_led_5 : decode prog_5_method_32_code 5 = .ok (.invokevirtual 82, 3) := by decide +kernel
theorem d_M_led_8 : decode prog_5_method_32_code 8 = .ok (.iload_n 2, 1) := by decide +kernel
theorem d_M_led_9 : decode prog_5_method_32_code 9 = .ok (.iconst 0, 1) := by decide +kernel
theorem d_M_led_10 : decode prog_5_method_32_code 10 = .ok (.aload_n 0, 1) := by decide +kernel
theorem d_M_led_11 : decode prog_5_method_32_code 11 = .ok (.getfield 89, 3) := by decide +kernel
theorem d_M_led_14 : decode prog_5_method_32_code 14 = .ok (.invokestatic 75, 3) := by decide +kernel
theorem d_M_led_17 : decode prog_5_method_32_code 17 = .ok (.iconst 1, 1) := by decide +kernel
theorem d_M_led_18 : decode prog_5_method_32_code 18 = .ok (.iload_n 2, 1) := by decide +kernel
theorem d_M_led_19 : decode prog_5_method_32_code 19 = .ok (.aload_n 0, 1) := by decide +kernel
theorem d_M_led_20 : decode prog_5_method_32_code 20 = .ok (.getfield 66, 3) := by decide +kernel
theorem d_M_led_23 : decode prog_5_method_32_code 23 = .ok (.if_icmp .lt 7, 3) := by decide +kernel
theorem d_M_led_26 : decode prog_5_method_32_code 26 = .ok (.iconst 1, 1) := by decide +kernel
theorem d_M_led_27 : decode prog_5_method_32_code 27 = .ok (.goto 4, 3) := by decide +kernel
theorem d_M_led_30 : decode prog_5_method_32_code 30 = .ok (.iconst 0, 1) := by decide +kernel
theorem d_M_led_31 : decode prog_5_method_32_code 31 = .ok (.invokevirtual 106, 3) := by decide +kernel
theorem d_M_led_34 : decode prog_5_method_32_code 34 = .ok (.ifCond .ne 5, 3) := by decide +kernel
theorem d_M_led_37 : decode prog_5_method_32_code 37 = .ok (.iconst 0, 1) := by decide +kernel
theorem d_M_led_38 : decode prog_5_method_32_code 38 = .ok (.ireturn, 1) := by decide +kernel
theorem d_M_led_39 : decode prog_5_method_32_code 39 = .ok (.aload_n 0, 1) := by decide +kernel
theorem d_M_led_40 : decode prog_5_method_32_code 40 = .ok (.getfield 63, 3) := by decide +kernel
theorem d_M_led_43 : decode prog_5_method_32_code 43 = .ok (.aload_n 0, 1) := by decide +kernel
theorem d_M_led_44 : decode prog_5_method_32_code 44 = .ok (.iload_n 1, 1) := by decide +kernel
theorem d_M_led_45 : decode prog_5_method_32_code 45 = .ok (.invokevirtual 82, 3) := by decide +kernel
theorem d_M_led_48 : decode prog_5_method_32_code 48 = .ok (.ifCond .eq 7, 3) := by decide +kernel
theorem d_M_led_51 : decode prog_5_method_32_code 51 = .ok (.iload_n 1, 1) := by decide +kernel
theorem d_M_led_52 : decode prog_5_method_32_code 52 = .ok (.goto 4, 3) := by decide +kernel
theorem d_M_led_55 : decode prog_5_method_32_code 55 = .ok (.iconst 0, 1) := by decide +kernel
theorem d_M_led_56 : decode prog_5_method_32_code 56 = .ok (.iaload, 1) := by decide +kernel
theorem d_M_led_57 : decode prog_5_method_32_code 57 = .ok (.istore_n 3, 1) := by decide +kernel
theorem d_M_led_58 : decode prog_5_method_32_code 58 = .ok (.aload_n 0, 1) := by decide +kernel
theorem d_M_led_59 : decode prog_5_method_32_code 59 = .ok (.getfield 86, 3) := by decide +kernel
theorem d_M_led_62 : decode prog_5_method_32_code 62 = .ok (.sipush 400, 3) := by decide +kernel
theorem d_M_led_65 : decode prog_5_method_32_code 65 = .ok (.if_icmp .le 14, 3) := by decide +kernel
theorem d_M_led_68 : decode prog_5_method_32_code 68 = .ok (.aload_n 0, 1) := by decide +kernel
theorem d_M_led_69 : decode prog_5_method_32_code 69 = .ok (.getfield 86, 3) := by decide +kernel
theorem d_M_led_72 : decode prog_5_method_32_code 72 = .ok (.sipush 400, 3) := by decide +kernel
theorem d_M_led_75 : decode prog_5_method_32_code 75 = .ok (.isub, 1) := by decide +kernel
theorem d_M_led_76 : decode prog_5_method_32_code 76 = .ok (.goto 4, 3) := by decide +kernel
theorem d_M_led_79 : decode prog_5_method_32_code 79 = .ok (.iconst 0, 1) := by decide +kernel
theorem d_M_led_80 : decode prog_5_method_32_code 80 = .ok (.istore 4, 2) := by decide +kernel
theorem d_M_led_82 : decode prog_5_method_32_code 82 = .ok (.iload 4, 2) := by decide +kernel
theorem d_M_led_84 : decode prog_5_method_32_code 84 = .ok (.aload_n 0, 1) := by decide +kernel
theorem d_M_led_85 : decode prog_5_method_32_code 85 = .ok (.getfield 86, 3) := by decide +kernel
theorem d_M_led_88 : decode prog_5_method_32_code 88 = .ok (.if_icmp .ge 51, 3) := by decide +kernel
theorem d_M_led_91 : decode prog_5_method_32_code 91 = .ok (.aload_n 0, 1) := by decide +kernel
theorem d_M_led_92 : decode prog_5_method_32_code 92 = .ok (.getfield 54, 3) := by decide +kernel
theorem d_M_led_95 : decode prog_5_method_32_code 95 = .ok (.iload 4, 2) := by decide +kernel
theorem d_M_led_97 : decode prog_5_method_32_code 97 = .ok (.sipush 400, 3) := by decide +kernel
theorem d_M_led_100 : decode prog_5_method_32_code 100 = .ok (.irem, 1) := by decide +kernel
theorem d_M_led_101 : decode prog_5_method_32_code 101 = .ok (.iaload, 1) := by decide +kernel
theorem d_M_led_102 : decode prog_5_method_32_code 102 = .ok (.iload_n 1, 1) := by decide +kernel
theorem d_M_led_103 : decode prog_5_method_32_code 103 = .ok (.if_icmp .ne 30, 3) := by decide +kernel
theorem d_M_led_106 : decode prog_5_method_32_code 106 = .ok (.aload_n 0, 1) := by decide +kernel
theorem d_M_led_107 : decode prog_5_method_32_code 107 = .ok (.getfield 60, 3) := by decide +kernel
theorem d_M_led_110 : decode prog_5_method_32_code 110 = .ok (.iload 4, 2) := by decide +kernel
theorem d_M_led_112 : decode prog_5_method_32_code 112 = .ok (.sipush 400, 3) := by decide +kernel
theorem d_M_led_115 : decode prog_5_method_32_code 115 = .ok (.irem, 1) := by decide +kernel
theorem d_M_led_116 : decode prog_5_method_32_code 116 = .ok (.iaload, 1) := by decide +kernel
theorem d_M_led_117 : decode prog_5_method_32_code 117 = .ok (.iload_n 2, 1) := by decide +kernel
theorem d_M_led_118 : decode prog_5_method_32_code 118 = .ok (.if_icmp .gt 15, 3) := by decide +kernel
theorem d_M_led_121 : decode prog_5_method_32_code 121 = .ok (.aload_n 0, 1) := by decide +kernel
theorem d_M_led_122 : decode prog_5_method_32_code 122 = .ok (.getfield 57, 3) := by decide +kernel
theorem d_M_led_125 : decode prog_5_method_32_code 125 = .ok (.iload 4, 2) := by decide +kernel
theorem d_M_led_127 : decode prog_5_method_32_code 127 = .ok (.sipush 400, 3) := by decide +kernel
theorem d_M_led_130 : decode prog_5_method_32_code 130 = .ok (.irem, 1) := by decide +kernel
theorem d_M_led_131 : decode prog_5_method_32_code 131 = .ok (.iaload, 1) := by decide +kernel
theorem d_M_led_132 : decode prog_5_method_32_code 132 = .ok (.istore_n 3, 1) := by decide +kernel
theorem d_M_led_133 : decode prog_5_method_32_code 133 = .ok (.iinc 4 1, 3) := by decide +kernel
theorem d_M_led_136 : decode prog_5_method_32_code 136 = .ok (.goto (-54), 3) := by decide +kernel
theorem d_M_led_139 : decode prog_5_method_32_code 139 = .ok (.iload_n 3, 1) := by decide +kernel
theorem d_M_led_140 : decode prog_5_method_32_code 140 = .ok (.ireturn, 1) := by decide +kernel
theorem d_M_sectorAt_0 : decode prog_5_method_33_code 0 = .ok (.aload_n 0, 1) := by decide +kernel
theorem d_M_sectorAt_1 : decode prog_5_method_33_code 1 = .ok (.iconst 1, 1) := by decide +kernel
theorem d_M_sectorAt_2 : decode prog_5_method_33_code 2 = .ok (.aload_n 0, 1) := by decide +kernel
theorem d_M_sectorAt_3 : decode prog_5_method_33_code 3 = .ok (.iload_n 1, 1) := by decide +kernel
theorem d_M_sectorAt_4 : decode prog_5_method_33_code 4 = .ok (.invokevirtual 82, 3) := by decide +kernel
theorem d_M_sectorAt_7 : decode prog_5_method_33_code 7 = .ok (.ifCond .eq 17, 3) := by decide +kernel
theorem d_M_sectorAt_10 : decode prog_5_method_33_code 10 = .ok (.iload_n 2, 1) := by decide +kernel
theorem d_M_sectorAt_11 : decode prog_5_method_33_code 11 = .ok (.iconst 0, 1) := by decide +kernel
theorem d_M_sectorAt_12 : decode prog_5_method_33_code 12 = .ok (.bipush 7, 2) := by decide +kernel
theorem d_M_sectorAt_14 : decode prog_5_method_33_code 14 = .ok (.invokestatic 75, 3) := by decide +kernel
theorem d_M_sectorAt_17 : decode prog_5_method_33_code 17 = .ok (.ifCond .eq 7, 3) := by decide +kernel
theorem d_M_sectorAt_20 : decode prog_5_method_33_code 20 = .ok (.iconst 1, 1) := by decide +kernel
theorem d_M_sectorAt_21 : decode prog_5_method_33_code 21 = .ok (.goto 4, 3) := by decide +kernel
theorem d_M_sectorAt_24 : decode prog_5_method_33_code 24 = .ok (.iconst 0, 1) := by decide +kernel
theorem d_M_sectorAt_25 : decode prog_5_method_33_code 25 = .ok (.iconst 1, 1) := by decide +kernel
theorem d_M_sectorAt_26 : decode prog_5_method_33_code 26 = .ok (.iconst 1, 1) := by decide +kernel
theorem d_M_sectorAt_27 : decode prog_5_method_33_code 27 = .ok (.iconst 1, 1) := by decide +kernel
theorem d_M_sectorAt_28 : decode prog_5_method_33_code 28 = .ok (.invokevirtual 106, 3) := by decide +kernel
theorem d_M_sectorAt_31 : decode prog_5_method_33_code 31 = .ok (.ifCond .ne 5, 3) := by decide +kernel
theorem d_M_sectorAt_34 : decode prog_5_method_33_code 34 = .ok (.iconst 0, 1) := by decide +kernel
theorem d_M_sectorAt_35 : decode prog_5_method_33_code 35 = .ok (.ireturn, 1) := by decide +kernel
theorem d_M_sectorAt_36 : decode prog_5_method_33_code 36 = .ok (.iconst 0, 1) := by decide +kernel
theorem d_M_sectorAt_37 : decode prog_5_method_33_code 37 = .ok (.istore_n 3, 1) := by decide +kernel
theorem d_M_sectorAt_38 : decode prog_5_method_33_code 38 = .ok (.iconst 0, 1) := by decide +kernel
theorem d_M_sectorAt_39 : decode prog_5_method_33_code 39 = .ok (.istore 4, 2) := by decide +kernel
theorem d_M_sectorAt_41 : decode prog_5_method_33_code 41 = .ok (.iload 4, 2) := by decide +kernel
theorem d_M_sectorAt_43 : decode prog_5_method_33_code 43 = .ok (.aload_n 0, 1) := by decide +kernel
theorem d_M_sectorAt_44 : decode prog_5_method_33_code 44 = .ok (.getfield 72, 3) := by decide +kernel
theorem d_M_sectorAt_47 : decode prog_5_method_33_code 47 = .ok (.if_icmp .ge 23, 3) := by decide +kernel
theorem d_M_sectorAt_50 : decode prog_5_method_33_code 50 = .ok (.aload_n 0, 1) := by decide +kernel
theorem d_M_sectorAt_51 : decode prog_5_method_33_code 51 = .ok (.getfield 13, 3) := by decide +kernel
theorem d_M_sectorAt_54 : decode prog_5_method_33_code 54 = .ok (.iload 4, 2) := by decide +kernel
theorem d_M_sectorAt_56 : decode prog_5_method_33_code 56 = .ok (.iaload, 1) := by decide +kernel
theorem d_M_sectorAt_57 : decode prog_5_method_33_code 57 = .ok (.iload_n 1, 1) := by decide +kernel
theorem d_M_sectorAt_58 : decode prog_5_method_33_code 58 = .ok (.if_icmp .ne 6, 3) := by decide +kernel
theorem d_M_sectorAt_61 : decode prog_5_method_33_code 61 = .ok (.iinc 3 1, 3) := by decide +kernel
theorem d_M_sectorAt_64 : decode prog_5_method_33_code 64 = .ok (.iinc 4 1, 3) := by decide +kernel
theorem d_M_sectorAt_67 : decode prog_5_method_33_code 67 = .ok (.goto (-26), 3) := by decide +kernel
theorem d_M_sectorAt_70 : decode prog_5_method_33_code 70 = .ok (.iload_n 2, 1) := by decide +kernel
theorem d_M_sectorAt_71 : decode prog_5_method_33_code 71 = .ok (.ifCond .ne 20, 3) := by decide +kernel
theorem d_M_sectorAt_74 : decode prog_5_method_33_code 74 = .ok (.aload_n 0, 1) := by decide +kernel
theorem d_M_sectorAt_75 : decode prog_5_method_33_code 75 = .ok (.getfield 26, 3) := by decide +kernel
theorem d_M_sectorAt_78 : decode prog_5_method_33_code 78 = .ok (.iload_n 1, 1) := by decide +kernel
theorem d_M_sectorAt_79 : decode prog_5_method_33_code 79 = .ok (.baload, 1) := by decide +kernel
theorem d_M_sectorAt_80 : decode prog_5_method_33_code 80 = .ok (.ifCond .eq 7, 3) := by decide +kernel
theorem d_M_sectorAt_83 : decode prog_5_method_33_code 83 = .ok (.iconst 0, 1) := by decide +kernel
theorem d_M_sectorAt_84 : decode prog_5_method_33_code 84 = .ok (.goto 98, 3) := by decide +kernel
theorem d_M_sectorAt_87 : decode prog_5_method_33_code 87 = .ok (.iconst 1, 1) := by decide +kernel
theorem d_M_sectorAt_88 : decode prog_5_method_33_code 88 = .ok (.goto 94, 3) := by decide +kernel
theorem d_M_sectorAt_91 : decode prog_5_method_33_code 91 = .ok (.iload_n 2, 1) := by decide +kernel
theorem d_M_sectorAt_92 : decode prog_5_method_33_code 92 = .ok (.iconst 1, 1) := by decide +kernel
theorem d_M_sectorAt_93 : decode prog_5_method_33_code 93 = .ok (.if_icmp .ne 12, 3) := by decide +kernel
theorem d_M_sectorAt_96 : decode prog_5_method_33_code 96 = .ok (.aload_n 0, 1) := by decide +kernel
theorem d_M_sectorAt_97 : decode prog_5_method_33_code 97 = .ok (.getfield 33, 3) := by decide +kernel
theorem d_M_sectorAt_100 : decode prog_5_method_33_code 100 = .ok (.iload_n 1, 1) := by decide +kernel
theorem d_M_sectorAt_101 : decode prog_5_method_33_code 101 = .ok (.iaload, 1) := by decide +kernel
theorem d_M_sectorAt_102 : decode prog_5_method_33_code 102 = .ok (.goto 80, 3) := by decide +kernel
theorem d_M_sectorAt_105 : decode prog_5_method_33_code 105 = .ok (.iload_n 2, 1) := by decide +kernel
theorem d_M_sectorAt_106 : decode prog_5_method_33_code 106 = .ok (.iconst 2, 1) := by decide +kernel
theorem d_M_sectorAt_107 : decode prog_5_method_33_code 107 = .ok (.if_icmp .ne 12, 3) := by decide +kernel
theorem d_M_sectorAt_110 : decode prog_5_method_33_code 110 = .ok (.aload_n 0, 1) := by decide +kernel
theorem d_M_sectorAt_111 : decode prog_5_method_33_code 111 = .ok (.getfield 30, 3) := by decide +kernel
theorem d_M_sectorAt_114 : decode prog_5_method_33_code 114 = .ok (.iload_n 1, 1) := by decide +kernel
theorem d_M_sectorAt_115 : decode prog_5_method_33_code 115 = .ok (.iaload, 1) := by decide +kernel
theorem d_M_sectorAt_116 : decode prog_5_method_33_code 116 = .ok (.goto 66, 3) := by decide +kernel
theorem d_M_sectorAt_119 : decode prog_5_method_33_code 119 = .ok (.iload_n 2, 1) := by decide +kernel
theorem d_M_sectorAt_120 : decode prog_5_method_33_code 120 = .ok (.iconst 3, 1) := by decide +kernel
theorem d_M_sectorAt_121 : decode prog_5_method_33_code 121 = .ok (.if_icmp .ne 7, 3) := by decide +kernel
theorem d_M_sectorAt_124 : decode prog_5_method_33_code 124 = .ok (.iload_n 3, 1) := by decide +kernel
theorem d_M_sectorAt_125 : decode prog_5_method_33_code 125 = .ok (.goto 57, 3) := by decide +kernel
theorem d_M_sectorAt_128 : decode prog_5_method_33_code 128 = .ok (.iload_n 2, 1) := by decide +kernel
theorem d_M_sectorAt_129 : decode prog_5_method_33_code 129 = .ok (.iconst 4, 1) := by decide +kernel
theorem d_M_sectorAt_130 : decode prog_5_method_33_code 130 = .ok (.if_icmp .ne 11, 3) := by decide +kernel
theorem d_M_sectorAt_133 : decode prog_5_method_33_code 133 = .ok (.aload_n 0, 1) := by decide +kernel
theorem d_M_sectorAt_134 : decode prog_5_method_33_code 134 = .ok (.iload_n 1, 1) := by decide +kernel
theorem d_M_sectorAt_135 : decode prog_5_method_33_code 135 = .ok (.invokevirtual 133, 3) := by decide +kernel
theorem d_M_sectorAt_138 : decode prog_5_method_33_code 138 = .ok (.goto 44, 3) := by decide +kernel
theorem d_M_sectorAt_141 : decode prog_5_method_33_code 141 = .ok (.iload_n 2, 1) := by decide +kernel
theorem d_M_sectorAt_142 : decode prog_5_method_33_code 142 = .ok (.iconst 5, 1) := by decide +kernel
theorem d_M_sectorAt_143 : decode prog_5_method_33_code 143 = .ok (.if_icmp .ne 12, 3) := by decide +kernel
theorem d_M_sectorAt_146 : decode prog_5_method_33_code 146 = .ok (.aload_n 0, 1) := by decide +kernel
theorem d_M_sectorAt_147 : decode prog_5_method_33_code 147 = .ok (.getfield 36, 3) := by decide +kernel
theorem d_M_sectorAt_150 : decode prog_5_method_33_code 150 = .ok (.iload_n 1, 1) := by decide +kernel
theorem d_M_sectorAt_151 : decode prog_5_method_33_code 151 = .ok (.iaload, 1) := by decide +kernel
theorem d_M_sectorAt_152 : decode prog_5_method_33_code 152 = .ok (.goto 30, 3) := by decide +kernel
theorem d_M_sectorAt_155 : decode prog_5_method_33_code 155 = .ok (.iload_n 2, 1) := by decide +kernel
theorem d_M_sectorAt_156 : decode prog_5_method_33_code 156 = .ok (.bipush 6, 2) := by decide +kernel
theorem d_M_sectorAt_158 : decode prog_5_method_33_code 158 = .ok (.if_icmp .ne 19, 3) := by decide +kernel
theorem d_M_sectorAt_161 : decode prog_5_method_33_code 161 = .ok (.aload_n 0, 1) := by decide +kernel
theorem d_M_sectorAt_162 : decode prog_5_method_33_code 162 = .ok (.iload_n 1, 1) := by decide +kernel
theorem d_M_sectorAt_163 : decode prog_5_method_33_code 163 = .ok (.invokevirtual 136, 3) := by decide +kernel
theorem d_M_sectorAt_166 : decode prog_5_method_33_code 166 = .ok (.ifCond .eq 7, 3) := by decide +kernel
theorem d_M_sectorAt_169 : decode prog_5_method_33_code 169 = .ok (.iconst 1, 1) := by decide +kernel
theorem d_M_sectorAt_170 : decode prog_5_method_33_code 170 = .ok (.goto 12, 3) := by decide +kernel
theorem d_M_sectorAt_173 : decode prog_5_method_33_code 173 = .ok (.iconst 0, 1) := by decide +kernel
theorem d_M_sectorAt_174 : decode prog_5_method_33_code 174 = .ok (.goto 8, 3) := by decide +kernel
theorem d_M_sectorAt_177 : decode prog_5_method_33_code 177 = .ok (.aload_n 0, 1) := by decide +kernel
theorem d_M_sectorAt_178 : decode prog_5_method_33_code 178 = .ok (.iload_n 1, 1) := by decide +kernel
theorem d_M_sectorAt_179 : decode prog_5_method_33_code 179 = .ok (.invokevirtual 130, 3) := by decide +kernel
theorem d_M_sectorAt_182 : decode prog_5_method_33_code 182 = .ok (.ireturn, 1) := by decide +kernel
theorem d_M_personAt_0 : decode prog_5_method_34_code 0 = .ok (.aload_n 0, 1) := by decide +kernel
theorem d_M_personAt_1 : decode prog_5_method_34_code 1 = .ok (.iconst 1, 1) := by decide +kernel
theorem d_M_personAt_2 : decode prog_5_method_34_code 2 = .ok (.aload_n 0, 1) := by decide +kernel
theorem d_M_personAt_3 : decode prog_5_method_34_code 3 = .ok (.iload_n 1, 1) := by decide +kernel
theorem d_M_personAt_4 : decode prog_5_method_34_code 4 = .ok (.invokevirtual 110, 3) := by decide +kernel
theorem d_M_personAt_7 : decode prog_5_method_34_code 7 = .ok (.ifCond .eq 16, 3) := by decide +kernel
theorem d_M_personAt_10 : decode prog_5_method_34_code 10 = .ok (.iload_n 2, 1) := by decide +kernel
theorem d_M_personAt_11 : decode prog_5_method_34_code 11 = .ok (.iconst 0, 1) := by decide +kernel
theorem d_M_personAt_12 : decode prog_5_method_34_code 12 = .ok (.iconst 2, 1) := by decide +kernel
theorem d_M_personAt_13 : decode prog_5_method_34_code 13 = .ok (.invokestatic 75, 3) := by decide +kernel
theorem d_M_personAt_16 : decode prog_5_method_34_code 16 = .ok (.ifCond .eq 7, 3) := by decide +kernel
theorem d_M_personAt_19 : decode prog_5_method_34_code 19 = .ok (.iconst 1, 1) := by decide +kernel
theorem d_M_personAt_20 : decode prog_5_method_34_code 20 = .ok (.goto 4, 3) := by decide +kernel
theorem d_M_personAt_23 : decode prog_5_method_34_code 23 = .ok (.iconst 0, 1) := by decide +kernel
theorem d_M_personAt_24 : decode prog_5_method_34_code 24 = .ok (.iconst 1, 1) := by decide +kernel
theorem d_M_personAt_25 : decode prog_5_method_34_code 25 = .ok (.iconst 1, 1) := by decide +kernel
theorem d_M_personAt_26 : decode prog_5_method_34_code 26 = .ok (.iconst 1, 1) := by decide +kernel
theorem d_M_personAt_27 : decode prog_5_method_34_code 27 = .ok (.invokevirtual 106, 3) := by decide +kernel
theorem d_M_personAt_30 : decode prog_5_method_34_code 30 = .ok (.ifCond .ne 5, 3) := by decide +kernel
theorem d_M_personAt_33 : decode prog_5_method_34_code 33 = .ok (.iconst 0, 1) := by decide +kernel
theorem d_M_personAt_34 : decode prog_5_method_34_code 34 = .ok (.ireturn, 1) := by decide +kernel
theorem d_M_personAt_35 : decode prog_5_method_34_code 35 = .ok (.iload_n 2, 1) := by decide +kernel
theorem d_M_personAt_36 : decode prog_5_method_34_code 36 = .ok (.ifCond .ne 12, 3) := by decide +kernel
theorem d_M_personAt_39 : decode prog_5_method_34_code 39 = .ok (.aload_n 0, 1) := by decide +kernel
theorem d_M_personAt_40 : decode prog_5_method_34_code 40 = .ok (.getfield 13, 3) := by decide +kernel
theorem d_M_personAt_43 : decode prog_5_method_34_code 43 = .ok (.iload_n 1, 1) := by decide +kernel
theorem d_M_personAt_44 : decode prog_5_method_34_code 44 = .ok (.iaload, 1) := by decide +kernel
theorem d_M_personAt_45 : decode prog_5_method_34_code 45 = .ok (.goto 22, 3) := by decide +kernel
theorem d_M_personAt_48 : decode prog_5_method_34_code 48 = .ok (.iload_n 2, 1) := by decide +kernel
theorem d_M_personAt_49 : decode prog_5_method_34_code 49 = .ok (.iconst 1, 1) := by decide +kernel
theorem d_M_personAt_50 : decode prog_5_method_34_code 50 = .ok (.if_icmp .ne 11, 3) := by decide +kernel
theorem d_M_personAt_53 : decode prog_5_method_34_code 53 = .ok (.aload_n 0, 1) := by decide +kernel
theorem d_M_personAt_54 : decode prog_5_method_34_code 54 = .ok (.iload_n 1, 1) := by decide +kernel
theorem d_M_personAt_55 : decode prog_5_method_34_code 55 = .ok (.invokevirtual 96, 3) := by decide +kernel
theorem d_M_personAt_58 : decode prog_5_method_34_code 58 = .ok (.goto 9, 3) := by decide +kernel
theorem d_M_personAt_61 : decode prog_5_method_34_code 61 = .ok (.aload_n 0, 1) := by decide +kernel
theorem d_M_personAt_62 : decode prog_5_method_34_code 62 = .ok (.getfield 16, 3) := by decide +kernel
theorem d_M_personAt_65 : decode prog_5_method_34_code 65 = .ok (.iload_n 1, 1) := by decide +kernel
theorem d_M_personAt_66 : decode prog_5_method_34_code 66 = .ok (.iaload, 1) := by decide +kernel
theorem d_M_personAt_67 : decode prog_5_method_34_code 67 = .ok (.ireturn, 1) := by decide +kernel
theorem d_M_unitAt_0 : decode prog_5_method_35_code 0 = .ok (.aload_n 0, 1) := by decide +kernel
theorem d_M_unitAt_1 : decode prog_5_method_35_code 1 = .ok (.iconst 1, 1) := by decide +kernel
theorem d_M_unitAt_2 : decode prog_5_method_35_code 2 = .ok (.aload_n 0, 1) := by decide +kernel
theorem d_M_unitAt_3 : decode prog_5_method_35_code 3 = .ok (.iload_n 1, 1) := by decide +kernel
theorem d_M_unitAt_4 : decode prog_5_method_35_code 4 = .ok (.invokevirtual 119, 3) := by decide +kernel
theorem d_M_unitAt_7 : decode prog_5_method_35_code 7 = .ok (.iconst 1, 1) := by decide +kernel
theorem d_M_unitAt_8 : decode prog_5_method_35_code 8 = .ok (.iconst 1, 1) := by decide +kernel
theorem d_M_unitAt_9 : decode prog_5_method_35_code 9 = .ok (.iconst 1, 1) := by decide +kernel
theorem d_M_unitAt_10 : decode prog_5_method_35_code 10 = .ok (.invokevirtual 106, 3) := by decide +kernel
theorem d_M_unitAt_13 : decode prog_5_method_35_code 13 = .ok (.ifCond .ne 5, 3) := by decide +kernel
theorem d_M_unitAt_16 : decode prog_5_method_35_code 16 = .ok (.iconst 0, 1) := by decide +kernel
theorem d_M_unitAt_17 : decode prog_5_method_35_code 17 = .ok (.ireturn, 1) := by decide +kernel
theorem d_M_unitAt_18 : decode prog_5_method_35_code 18 = .ok (.aload_n 0, 1) := by decide +kernel
theorem d_M_unitAt_19 : decode prog_5_method_35_code 19 = .ok (.getfield 19, 3) := by decide +kernel
theorem d_M_unitAt_22 : decode prog_5_method_35_code 22 = .ok (.iload_n 1, 1) := by decide +kernel
theorem d_M_unitAt_23 : decode prog_5_method_35_code 23 = .ok (.iaload, 1) := by decide +kernel
theorem d_M_unitAt_24 : decode prog_5_method_35_code 24 = .ok (.ireturn, 1) := by decide +kernel
theorem d_M_taskAt_0 : decode prog_5_method_36_code 0 = .ok (.aload_n 0, 1) := by decide +kernel
theorem d_M_taskAt_1 : decode prog_5_method_36_code 1 = .ok (.iconst 1, 1) := by decide +kernel
theorem d_M_taskAt_2 : decode prog_5_method_36_code 2 = .ok (.iload_n 1, 1) := by decide +kernel
theorem d_M_taskAt_3 : decode prog_5_method_36_code 3 = .ok (.iconst 0, 1) := by decide +kernel
theorem d_M_taskAt_4 : decode prog_5_method_36_code 4 = .ok (.aload_n 0, 1) := by decide +kernel
theorem d_M_taskAt_5 : decode prog_5_method_36_code 5 = .ok (.getfield 126, 3) := by decide +kernel
theorem d_M_taskAt_8 : decode prog_5_method_36_code 8 = .ok (.iconst 1, 1) := by decide +kernel
theorem d_M_taskAt_9 : decode prog_5_method_36_code 9 = .ok (.isub, 1) := by decide +kernel
theorem d_M_taskAt_10 : decode prog_5_method_36_code 10 = .ok (.invokestatic 75, 3) := by decide +kernel
theorem d_M_taskAt_13 : decode prog_5_method_36_code 13 = .ok (.ifCond .eq 16, 3) := by decide +kernel
theorem d_M_taskAt_16 : decode prog_5_method_36_code 16 = .ok (.iload_n 2, 1) := by decide +kernel
theorem d_M_taskAt_17 : decode prog_5_method_36_code 17 = .ok (.iconst 0, 1) := by decide +kernel
theorem d_M_taskAt_18 : decode prog_5_method_36_code 18 = .ok (.iconst 2, 1) := by decide +kernel
theorem d_M_taskAt_19 : decode prog_5_method_36_code 19 = .ok (.invokestatic 75, 3) := by decide +kernel
theorem d_M_taskAt_22 : decode prog_5_method_36_code 22 = .ok (.ifCond .eq 7, 3) := by decide +kernel
theorem d_M_taskAt_25 : decode prog_5_method_36_code 25 = .ok (.iconst 1, 1) := by decide +kernel
theorem d_M_taskAt_26 : decode prog_5_method_36_code 26 = .ok (.goto 4, 3) := by decide +kernel
theorem d_M_taskAt_29 : decode prog_5_method_36_code 29 = .ok (.iconst 0, 1) := by decide +kernel
theorem d_M_taskAt_30 : decode prog_5_method_36_code 30 = .ok (.iconst 1, 1) := by decide +kernel
theorem d_M_taskAt_31 : decode prog_5_method_36_code 31 = .ok (.iconst 1, 1) := by decide +kernel
theorem d_M_taskAt_32 : decode prog_5_method_36_code 32 = .ok (.iconst 1, 1) := by decide +kernel
theorem d_M_taskAt_33 : decode prog_5_method_36_code 33 = .ok (.invokevirtual 106, 3) := by decide +kernel
theorem d_M_taskAt_36 : decode prog_5_method_36_code 36 = .ok (.ifCond .ne 5, 3) := by decide +kernel
theorem d_M_taskAt_39 : decode prog_5_method_36_code 39 = .ok (.iconst 0, 1) := by decide +kernel
theorem d_M_taskAt_40 : decode prog_5_method_36_code 40 = .ok (.ireturn, 1) := by decide +kernel
theorem d_M_taskAt_41 : decode prog_5_method_36_code 41 = .ok (.iload_n 2, 1) := by decide +kernel
theorem d_M_taskAt_42 : decode prog_5_method_36_code 42 = .ok (.ifCond .ne 12, 3) := by decide +kernel
theorem d_M_taskAt_45 : decode prog_5_method_36_code 45 = .ok (.aload_n 0, 1) := by decide +kernel
theorem d_M_taskAt_46 : decode prog_5_method_36_code 46 = .ok (.getfield 42, 3) := by decide +kernel
theorem d_M_taskAt_49 : decode prog_5_method_36_code 49 = .ok (.iload_n 1, 1) := by decide +kernel
theorem d_M_taskAt_50 : decode prog_5_method_36_code 50 = .ok (.iaload, 1) := by decide +kernel
theorem d_M_taskAt_51 : decode prog_5_method_36_code 51 = .ok (.goto 23, 3) := by decide +kernel
theorem d_M_taskAt_54 : decode prog_5_method_36_code 54 = .ok (.iload_n 2, 1) := by decide +kernel
theorem d_M_taskAt_55 : decode prog_5_method_36_code 55 = .ok (.iconst 1, 1) := by decide +kernel
theorem d_M_taskAt_56 : decode prog_5_method_36_code 56 = .ok (.if_icmp .ne 12, 3) := by decide +kernel
theorem d_M_taskAt_59 : decode prog_5_method_36_code 59 = .ok (.aload_n 0, 1) := by decide +kernel
theorem d_M_taskAt_60 : decode prog_5_method_36_code 60 = .ok (.getfield 48, 3) := by decide +kernel
theorem d_M_taskAt_63 : decode prog_5_method_36_code 63 = .ok (.iload_n 1, 1) := by decide +kernel
theorem d_M_taskAt_64 : decode prog_5_method_36_code 64 = .ok (.iaload, 1) := by decide +kernel
theorem d_M_taskAt_65 : decode prog_5_method_36_code 65 = .ok (.goto 9, 3) := by decide +kernel
theorem d_M_taskAt_68 : decode prog_5_method_36_code 68 = .ok (.aload_n 0, 1) := by decide +kernel
theorem d_M_taskAt_69 : decode prog_5_method_36_code 69 = .ok (.getfield 51, 3) := by decide +kernel
theorem d_M_taskAt_72 : decode prog_5_method_36_code 72 = .ok (.iload_n 1, 1) := by decide +kernel
theorem d_M_taskAt_73 : decode prog_5_method_36_code 73 = .ok (.iaload, 1) := by decide +kernel
theorem d_M_taskAt_74 : decode prog_5_method_36_code 74 = .ok (.ireturn, 1) := by decide +kernel
theorem d_M_passed_0 : decode prog_5_method_37_code 0 = .ok (.aload_n 0, 1) := by decide +kernel
theorem d_M_passed_1 : decode prog_5_method_37_code 1 = .ok (.iconst 2, 1) := by decide +kernel
theorem d_M_passed_2 : decode prog_5_method_37_code 2 = .ok (.iconst 1, 1) := by decide +kernel
theorem d_M_passed_3 : decode prog_5_method_37_code 3 = .ok (.iload_n 1, 1) := by decide +kernel
theorem d_M_passed_4 : decode prog_5_method_37_code 4 = .ok (.ifCond .lt 7, 3) := by decide +kernel
theorem d_M_passed_7 : decode prog_5_method_37_code 7 = .ok (.iconst 1, 1) := by decide +kernel
theorem d_M_passed_8 : decode prog_5_method_37_code 8 = .ok (.goto 4, 3) := by decide +kernel
theorem d_M_passed_11 : decode prog_5_method_37_code 11 = .ok (.iconst 0, 1) := by decide +kernel
theorem d_M_passed_12 : decode prog_5_method_37_code 12 = .ok (.iconst 1, 1) := by decide +kernel
theorem d_M_passed_13 : decode prog_5_method_37_code 13 = .ok (.iconst 1, 1) := by decide +kernel
theorem d_M_passed_14 : decode prog_5_method_37_code 14 = .ok (.invokevirtual 106, 3) := by decide +kernel
theorem d_M_passed_17 : decode prog_5_method_37_code 17 = .ok (.ifCond .ne 5, 3) := by decide +kernel
theorem d_M_passed_20 : decode prog_5_method_37_code 20 = .ok (.iconst 0, 1) := by decide +kernel
theorem d_M_passed_21 : decode prog_5_method_37_code 21 = .ok (.ireturn, 1) := by decide +kernel
theorem d_M_passed_22 : decode prog_5_method_37_code 22 = .ok (.iload_n 1, 1) := by decide +kernel
theorem d_M_passed_23 : decode prog_5_method_37_code 23 = .ok (.istore_n 2, 1) := by decide +kernel
theorem d_M_passed_24 : decode prog_5_method_37_code 24 = .ok (.iconst 0, 1) := by decide +kernel
theorem d_M_passed_25 : decode prog_5_method_37_code 25 = .ok (.istore_n 3, 1) := by decide +kernel
theorem d_M_passed_26 : decode prog_5_method_37_code 26 = .ok (.iload_n 3, 1) := by decide +kernel
theorem d_M_passed_27 : decode prog_5_method_37_code 27 = .ok (.aload_n 0, 1) := by decide +kernel
theorem d_M_passed_28 : decode prog_5_method_37_code 28 = .ok (.getfield 22, 3) := by decide +kernel
theorem d_M_passed_31 : decode prog_5_method_37_code 31 = .ok (.if_icmp .ge 29, 3) := by decide +kernel
theorem d_M_passed_34 : decode prog_5_method_37_code 34 = .ok (.aload_n 0, 1) := by decide +kernel
theorem d_M_passed_35 : decode prog_5_method_37_code 35 = .ok (.iload_n 3, 1) := by decide +kernel
theorem d_M_passed_36 : decode prog_5_method_37_code 36 = .ok (.invokevirtual 136, 3) := by decide +kernel
theorem d_M_passed_39 : decode prog_5_method_37_code 39 = .ok (.ifCond .ne 6, 3) := by decide +kernel
theorem d_M_passed_42 : decode prog_5_method_37_code 42 = .ok (.goto 12, 3) := by decide +kernel
theorem d_M_passed_45 : decode prog_5_method_37_code 45 = .ok (.iload_n 2, 1) := by decide +kernel
theorem d_M_passed_46 : decode prog_5_method_37_code 46 = .ok (.ifCond .ne 5, 3) := by decide +kernel
theorem d_M_passed_49 : decode prog_5_method_37_code 49 = .ok (.iload_n 3, 1) := by decide +kernel
theorem d_M_passed_50 : decode prog_5_method_37_code 50 = .ok (.ireturn, 1) := by decide +kernel
theorem d_M_passed_51 : decode prog_5_method_37_code 51 = .ok (.iinc 2 (-1), 3) := by decide +kernel
theorem d_M_passed_54 : decode prog_5_method_37_code 54 = .ok (.iinc 3 1, 3) := by decide +kernel
theorem d_M_passed_57 : decode prog_5_method_37_code 57 = .ok (.goto (-31), 3) := by decide +kernel
theorem d_M_passed_60 : decode prog_5_method_37_code 60 = .ok (.iconst (-1), 1) := by decide +kernel
theorem d_M_passed_61 : decode prog_5_method_37_code 61 = .ok (.ireturn, 1) := by decide +kernel
theorem d_M_clock_0 : decode prog_5_method_38_code 0 = .ok (.aload_n 0, 1) := by decide +kernel
theorem d_M_clock_1 : decode prog_5_method_38_code 1 = .ok (.iconst 0, 1) := by decide +kernel
theorem d_M_clock_2 : decode prog_5_method_38_code 2 = .ok (.putfield 69, 3) := by decide +kernel
theorem d_M_clock_5 : decode prog_5_method_38_code 5 = .ok (.aload_n 0, 1) := by decide +kernel
theorem d_M_clock_6 : decode prog_5_method_38_code 6 = .ok (.getfield 89, 3) := by decide +kernel
theorem d_M_clock_9 : decode prog_5_method_38_code 9 = .ok (.ireturn, 1) := by decide +kernel
