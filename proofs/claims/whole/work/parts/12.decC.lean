/-! INSTRUCTIONS, printed by wip/whole/names.py -/
theorem d_C_init_0 : decode prog_1_method_1_code 0 = .ok (.aload_n 0, 1) := by decide +kernel
theorem d_C_init_1 : decode prog_1_method_1_code 1 = .ok (.invokespecial 1, 3) := by decide +kernel
theorem d_C_init_4 : decode prog_1_method_1_code 4 = .ok (.aload_n 0, 1) := by decide +kernel
theorem d_C_init_5 : decode prog_1_method_1_code 5 = .ok (.iconst 5, 1) := by decide +kernel
theorem d_C_init_6 : decode prog_1_method_1_code 6 = .ok (.putfield 9, 3) := by decide +kernel
theorem d_C_init_9 : decode prog_1_method_1_code 9 = .ok (.aload_n 0, 1) := by decide +kernel
theorem d_C_init_10 : decode prog_1_method_1_code 10 = .ok (.bipush 40, 2) := by decide +kernel
theorem d_C_init_12 : decode prog_1_method_1_code 12 = .ok (.newarray .int, 2) := by decide +kernel
theorem d_C_init_14 : decode prog_1_method_1_code 14 = .ok (.putfield 13, 3) := by decide +kernel
theorem d_C_init_17 : decode prog_1_method_1_code 17 = .ok (.aload_n 0, 1) := by decide +kernel
theorem d_C_init_18 : decode prog_1_method_1_code 18 = .ok (.bipush 40, 2) := by decide +kernel
theorem d_C_init_20 : decode prog_1_method_1_code 20 = .ok (.newarray .int, 2) := by decide +kernel
theorem d_C_init_22 : decode prog_1_method_1_code 22 = .ok (.putfield 17, 3) := by decide +kernel
theorem d_C_init_25 : decode prog_1_method_1_code 25 = .ok (.aload_n 0, 1) := by decide +kernel
theorem d_C_init_26 : decode prog_1_method_1_code 26 = .ok (.bipush 40, 2) := by decide +kernel
theorem d_C_init_28 : decode prog_1_method_1_code 28 = .ok (.newarray .int, 2) := by decide +kernel
theorem d_C_init_30 : decode prog_1_method_1_code 30 = .ok (.putfield 20, 3) := by decide +kernel
theorem d_C_init_33 : decode prog_1_method_1_code 33 = .ok (.aload_n 0, 1) := by decide +kernel
theorem d_C_init_34 : decode prog_1_method_1_code 34 = .ok (.bipush 40, 2) := by decide +kernel
theorem d_C_init_36 : decode prog_1_method_1_code 36 = .ok (.newarray .int, 2) := by decide +kernel
theorem d_C_init_38 : decode prog_1_method_1_code 38 = .ok (.putfield 23, 3) := by decide +kernel
theorem d_C_init_41 : decode prog_1_method_1_code 41 = .ok (.aload_n 0, 1) := by decide +kernel
theorem d_C_init_42 : decode prog_1_method_1_code 42 = .ok (.getfield 17, 3) := by decide +kernel
theorem d_C_init_45 : decode prog_1_method_1_code 45 = .ok (.iconst (-1), 1) := by decide +kernel
theorem d_C_init_46 : decode prog_1_method_1_code 46 = .ok (.invokestatic 26, 3) := by decide +kernel
theorem d_C_init_49 : decode prog_1_method_1_code 49 = .ok (.aload_n 0, 1) := by decide +kernel
theorem d_C_init_50 : decode prog_1_method_1_code 50 = .ok (.getfield 20, 3) := by decide +kernel
theorem d_C_init_53 : decode prog_1_method_1_code 53 = .ok (.iconst (-1), 1) := by decide +kernel
theorem d_C_init_54 : decode prog_1_method_1_code 54 = .ok (.invokestatic 26, 3) := by decide +kernel
theorem d_C_init_57 : decode prog_1_method_1_code 57 = .ok (.aload_n 0, 1) := by decide +kernel
theorem d_C_init_58 : decode prog_1_method_1_code 58 = .ok (.getfield 23, 3) := by decide +kernel
theorem d_C_init_61 : decode prog_1_method_1_code 61 = .ok (.iconst (-1), 1) := by decide +kernel
theorem d_C_init_62 : decode prog_1_method_1_code 62 = .ok (.invokestatic 26, 3) := by decide +kernel
theorem d_C_init_65 : decode prog_1_method_1_code 65 = .ok (.aload_n 0, 1) := by decide +kernel
theorem d_C_init_66 : decode prog_1_method_1_code 66 = .ok (.bipush 20, 2) := by decide +kernel
theorem d_C_init_68 : decode prog_1_method_1_code 68 = .ok (.newarray .int, 2) := by decide +kernel
theorem d_C_init_70 : decode prog_1_method_1_code 70 = .ok (.putfield 32, 3) := by decide +kernel
theorem d_C_init_73 : decode prog_1_method_1_code 73 = .ok (.aload_n 0, 1) := by decide +kernel
theorem d_C_init_74 : decode prog_1_method_1_code 74 = .ok (.getfield 32, 3) := by decide +kernel
theorem d_C_init_77 : decode prog_1_method_1_code 77 = .ok (.iconst (-1), 1) := by decide +kernel
theorem d_C_init_78 : decode prog_1_method_1_code 78 = .ok (.invokestatic 26, 3) := by decide +kernel
theorem d_C_init_81 : decode prog_1_method_1_code 81 = .ok (.aload_n 0, 1) := by decide +kernel
theorem d_C_init_82 : decode prog_1_method_1_code 82 = .ok (.bipush 20, 2) := by decide +kernel
theorem d_C_init_84 : decode prog_1_method_1_code 84 = .ok (.newarray .boolean, 2) := by decide +kernel
theorem d_C_init_86 : decode prog_1_method_1_code 86 = .ok (.putfield 35, 3) := by decide +kernel
theorem d_C_init_89 : decode prog_1_method_1_code 89 = .ok (.aload_n 0, 1) := by decide +kernel
theorem d_C_init_90 : decode prog_1_method_1_code 90 = .ok (.bipush 20, 2) := by decide +kernel
theorem d_C_init_92 : decode prog_1_method_1_code 92 = .ok (.newarray .int, 2) := by decide +kernel
theorem d_C_init_94 : decode prog_1_method_1_code 94 = .ok (.putfield 39, 3) := by decide +kernel
theorem d_C_init_97 : decode prog_1_method_1_code 97 = .ok (.aload_n 0, 1) := by decide +kernel
theorem d_C_init_98 : decode prog_1_method_1_code 98 = .ok (.bipush 20, 2) := by decide +kernel
theorem d_C_init_100 : decode prog_1_method_1_code 100 = .ok (.newarray .int, 2) := by decide +kernel
theorem d_C_init_102 : decode prog_1_method_1_code 102 = .ok (.putfield 42, 3) := by decide +kernel
theorem d_C_init_105 : decode prog_1_method_1_code 105 = .ok (.aload_n 0, 1) := by decide +kernel
theorem d_C_init_106 : decode prog_1_method_1_code 106 = .ok (.bipush 20, 2) := by decide +kernel
theorem d_C_init_108 : decode prog_1_method_1_code 108 = .ok (.newarray .int, 2) := by decide +kernel
theorem d_C_init_110 : decode prog_1_method_1_code 110 = .ok (.putfield 45, 3) := by decide +kernel
theorem d_C_init_113 : decode prog_1_method_1_code 113 = .ok (.aload_n 0, 1) := by decide +kernel
theorem d_C_init_114 : decode prog_1_method_1_code 114 = .ok (.getfield 39, 3) := by decide +kernel
theorem d_C_init_117 : decode prog_1_method_1_code 117 = .ok (.iconst (-1), 1) := by decide +kernel
theorem d_C_init_118 : decode prog_1_method_1_code 118 = .ok (.invokestatic 26, 3) := by decide +kernel
theorem d_C_init_121 : decode prog_1_method_1_code 121 = .ok (.aload_n 0, 1) := by decide +kernel
theorem d_C_init_122 : decode prog_1_method_1_code 122 = .ok (.getfield 42, 3) := by decide +kernel
theorem d_C_init_125 : decode prog_1_method_1_code 125 = .ok (.iconst (-1), 1) := by decide +kernel
theorem d_C_init_126 : decode prog_1_method_1_code 126 = .ok (.invokestatic 26, 3) := by decide +kernel
theorem d_C_init_129 : decode prog_1_method_1_code 129 = .ok (.aload_n 0, 1) := by decide +kernel
theorem d_C_init_130 : decode prog_1_method_1_code 130 = .ok (.getfield 45, 3) := by decide +kernel
theorem d_C_init_133 : decode prog_1_method_1_code 133 = .ok (.iconst (-1), 1) := by decide +kernel
theorem d_C_init_134 : decode prog_1_method_1_code 134 = .ok (.invokestatic 26, 3) := by decide +kernel
theorem d_C_init_137 : decode prog_1_method_1_code 137 = .ok (.aload_n 0, 1) := by decide +kernel
theorem d_C_init_138 : decode prog_1_method_1_code 138 = .ok (.getfield 35, 3) := by decide +kernel
theorem d_C_init_141 : decode prog_1_method_1_code 141 = .ok (.iconst 0, 1) := by decide +kernel
theorem d_C_init_142 : decode prog_1_method_1_code 142 = .ok (.iconst 1, 1) := by decide +kernel
theorem d_C_init_143 : decode prog_1_method_1_code 143 = .ok (.bastore, 1) := by decide +kernel
theorem d_C_init_144 : decode prog_1_method_1_code 144 = .ok (.aload_n 0, 1) := by decide +kernel
theorem d_C_init_145 : decode prog_1_method_1_code 145 = .ok (.iconst 1, 1) := by decide +kernel
theorem d_C_init_146 : decode prog_1_method_1_code 146 = .ok (.putfield 48, 3) := by decide +kernel
theorem d_C_init_149 : decode prog_1_method_1_code 149 = .ok (.aload_n 0, 1) := by decide +kernel
theorem d_C_init_150 : decode prog_1_method_1_code 150 = .ok (.new 51, 3) := by decide +kernel
theorem d_C_init_153 : decode prog_1_method_1_code 153 = .ok (.dup, 1) := by decide +kernel
theorem d_C_init_154 : decode prog_1_method_1_code 154 = .ok (.invokespecial 53, 3) := by decide +kernel
theorem d_C_init_157 : decode prog_1_method_1_code 157 = .ok (.putfield 54, 3) := by decide +kernel
theorem d_C_init_160 : decode prog_1_method_1_code 160 = .ok (.aload_n 0, 1) := by decide +kernel
theorem d_C_init_161 : decode prog_1_method_1_code 161 = .ok (.new 58, 3) := by decide +kernel
theorem d_C_init_164 : decode prog_1_method_1_code 164 = .ok (.dup, 1) := by decide +kernel
theorem d_C_init_165 : decode prog_1_method_1_code 165 = .ok (.invokespecial 60, 3) := by decide +kernel
theorem d_C_init_168 : decode prog_1_method_1_code 168 = .ok (.putfield 61, 3) := by decide +kernel
theorem d_C_init_171 : decode prog_1_method_1_code 171 = .ok (.return_, 1) := by decide +kernel
theorem d_C_clock_0 : decode prog_1_method_22_code 0 = .ok (.aload_n 0, 1) := by decide +kernel
theorem d_C_clock_1 : decode prog_1_method_22_code 1 = .ok (.getfield 98, 3) := by decide +kernel
theorem d_C_clock_4 : decode prog_1_method_22_code 4 = .ok (.ireturn, 1) := by decide +kernel
theorem d_C_person_0 : decode prog_1_method_2_code 0 = .ok (.iload_n 1, 1) := by decide +kernel
theorem d_C_person_1 : decode prog_1_method_2_code 1 = .ok (.ifCond .lt 9, 3) := by decide +kernel
theorem d_C_person_4 : decode prog_1_method_2_code 4 = .ok (.iload_n 1, 1) := by decide +kernel
theorem d_C_person_5 : decode prog_1_method_2_code 5 = .ok (.bipush 9, 2) := by decide +kernel
theorem d_C_person_7 : decode prog_1_method_2_code 7 = .ok (.if_icmp .le 13, 3) := by decide +kernel
theorem d_C_person_10 : decode prog_1_method_2_code 10 = .ok (.new 65, 3) := by decide +kernel
theorem d_C_person_13 : decode prog_1_method_2_code 13 = .ok (.dup, 1) := by decide +kernel
theorem d_C_person_14 : decode prog_1_method_2_code 14 = .ok (.ldc 67, 2) := by decide +kernel
theorem d_C_person_16 : decode prog_1_method_2_code 16 = .ok (.invokespecial 69, 3) := by decide +kernel
theorem d_C_person_19 : decode prog_1_method_2_code 19 = .ok (.athrow, 1) := by decide +kernel
theorem d_C_person_20 : decode prog_1_method_2_code 20 = .ok (.aload_n 0, 1) := by decide +kernel
theorem d_C_person_21 : decode prog_1_method_2_code 21 = .ok (.getfield 72, 3) := by decide +kernel
theorem d_C_person_24 : decode prog_1_method_2_code 24 = .ok (.bipush 40, 2) := by decide +kernel
theorem d_C_person_26 : decode prog_1_method_2_code 26 = .ok (.if_icmp .lt 13, 3) := by decide +kernel
theorem d_C_person_29 : decode prog_1_method_2_code 29 = .ok (.new 75, 3) := by decide +kernel
theorem d_C_person_32 : decode prog_1_method_2_code 32 = .ok (.dup, 1) := by decide +kernel
theorem d_C_person_33 : decode prog_1_method_2_code 33 = .ok (.ldc 77, 2) := by decide +kernel
theorem d_C_person_35 : decode prog_1_method_2_code 35 = .ok (.invokespecial 79, 3) := by decide +kernel
theorem d_C_person_38 : decode prog_1_method_2_code 38 = .ok (.athrow, 1) := by decide +kernel
theorem d_C_person_39 : decode prog_1_method_2_code 39 = .ok (.aload_n 0, 1) := by decide +kernel
theorem d_C_person_40 : decode prog_1_method_2_code 40 = .ok (.getfield 72, 3) := by decide +kernel
theorem d_C_person_43 : decode prog_1_method_2_code 43 = .ok (.istore_n 2, 1) := by decide +kernel
theorem d_C_person_44 : decode prog_1_method_2_code 44 = .ok (.aload_n 0, 1) := by decide +kernel
theorem d_C_person_45 : decode prog_1_method_2_code 45 = .ok (.getfield 13, 3) := by decide +kernel
theorem d_C_person_48 : decode prog_1_method_2_code 48 = .ok (.iload_n 2, 1) := by decide +kernel
theorem d_C_person_49 : decode prog_1_method_2_code 49 = .ok (.iload_n 1, 1) := by decide +kernel
theorem d_C_person_50 : decode prog_1_method_2_code 50 = .ok (.iastore, 1) := by decide +kernel
theorem d_C_person_51 : decode prog_1_method_2_code 51 = .ok (.aload_n 0, 1) := by decide +kernel
theorem d_C_person_52 : decode prog_1_method_2_code 52 = .ok (.dup, 1) := by decide +kernel
theorem d_C_person_53 : decode prog_1_method_2_code 53 = .ok (.getfield 72, 3) := by decide +kernel
theorem d_C_person_56 : decode prog_1_method_2_code 56 = .ok (.iconst 1, 1) := by decide +kernel
theorem d_C_person_57 : decode prog_1_method_2_code 57 = .ok (.iadd, 1) := by decide +kernel
theorem d_C_person_58 : decode prog_1_method_2_code 58 = .ok (.putfield 72, 3) := by decide +kernel
theorem d_C_person_61 : decode prog_1_method_2_code 61 = .ok (.iload_n 2, 1) := by decide +kernel
theorem d_C_person_62 : decode prog_1_method_2_code 62 = .ok (.ireturn, 1) := by decide +kernel
theorem d_C_unit_0 : decode prog_1_method_3_code 0 = .ok (.aload_n 0, 1) := by decide +kernel
theorem d_C_unit_1 : decode prog_1_method_3_code 1 = .ok (.getfield 80, 3) := by decide +kernel
theorem d_C_unit_4 : decode prog_1_method_3_code 4 = .ok (.bipush 20, 2) := by decide +kernel
theorem d_C_unit_6 : decode prog_1_method_3_code 6 = .ok (.if_icmp .lt 13, 3) := by decide +kernel
theorem d_C_unit_9 : decode prog_1_method_3_code 9 = .ok (.new 75, 3) := by decide +kernel
theorem d_C_unit_12 : decode prog_1_method_3_code 12 = .ok (.dup, 1) := by decide +kernel
theorem d_C_unit_13 : decode prog_1_method_3_code 13 = .ok (.ldc 83, 2) := by decide +kernel
theorem d_C_unit_15 : decode prog_1_method_3_code 15 = .ok (.invokespecial 79, 3) := by decide +kernel
theorem d_C_unit_18 : decode prog_1_method_3_code 18 = .ok (.athrow, 1) := by decide +kernel
theorem d_C_unit_19 : decode prog_1_method_3_code 19 = .ok (.aload_n 0, 1) := by decide +kernel
theorem d_C_unit_20 : decode prog_1_method_3_code 20 = .ok (.getfield 80, 3) := by decide +kernel
theorem d_C_unit_23 : decode prog_1_method_3_code 23 = .ok (.istore_n 1, 1) := by decide +kernel
theorem d_C_unit_24 : decode prog_1_method_3_code 24 = .ok (.aload_n 0, 1) := by decide +kernel
theorem d_C_unit_25 : decode prog_1_method_3_code 25 = .ok (.dup, 1) := by decide +kernel
theorem d_C_unit_26 : decode prog_1_method_3_code 26 = .ok (.getfield 80, 3) := by decide +kernel
theorem d_C_unit_29 : decode prog_1_method_3_code 29 = .ok (.iconst 1, 1) := by decide +kernel
theorem d_C_unit_30 : decode prog_1_method_3_code 30 = .ok (.iadd, 1) := by decide +kernel
theorem d_C_unit_31 : decode prog_1_method_3_code 31 = .ok (.putfield 80, 3) := by decide +kernel
theorem d_C_unit_34 : decode prog_1_method_3_code 34 = .ok (.iload_n 1, 1) := by decide +kernel
theorem d_C_unit_35 : decode prog_1_method_3_code 35 = .ok (.ireturn, 1) := by decide +kernel
theorem d_C_arrive_0 : decode prog_1_method_4_code 0 = .ok (.aload_n 0, 1) := by decide +kernel
theorem d_C_arrive_1 : decode prog_1_method_4_code 1 = .ok (.iload_n 1, 1) := by decide +kernel
theorem d_C_arrive_2 : decode prog_1_method_4_code 2 = .ok (.invokevirtual 85, 3) := by decide +kernel
theorem d_C_arrive_5 : decode prog_1_method_4_code 5 = .ok (.aload_n 0, 1) := by decide +kernel
theorem d_C_arrive_6 : decode prog_1_method_4_code 6 = .ok (.iload_n 1, 1) := by decide +kernel
theorem d_C_arrive_7 : decode prog_1_method_4_code 7 = .ok (.invokevirtual 89, 3) := by decide +kernel
theorem d_C_arrive_10 : decode prog_1_method_4_code 10 = .ok (.ifCond .eq 13, 3) := by decide +kernel
theorem d_C_arrive_13 : decode prog_1_method_4_code 13 = .ok (.new 93, 3) := by decide +kernel
theorem d_C_arrive_16 : decode prog_1_method_4_code 16 = .ok (.dup, 1) := by decide +kernel
theorem d_C_arrive_17 : decode prog_1_method_4_code 17 = .ok (.ldc 95, 2) := by decide +kernel
theorem d_C_arrive_19 : decode prog_1_method_4_code 19 = .ok (.invokespecial 97, 3) := by decide +kernel
theorem d_C_arrive_22 : decode prog_1_method_4_code 22 = .ok (.athrow, 1) := by decide +kernel
theorem d_C_arrive_23 : decode prog_1_method_4_code 23 = .ok (.aload_n 0, 1) := by decide +kernel
theorem d_C_arrive_24 : decode prog_1_method_4_code 24 = .ok (.getfield 17, 3) := by decide +kernel
theorem d_C_arrive_27 : decode prog_1_method_4_code 27 = .ok (.iload_n 1, 1) := by decide +kernel
theorem d_C_arrive_28 : decode prog_1_method_4_code 28 = .ok (.aload_n 0, 1) := by decide +kernel
theorem d_C_arrive_29 : decode prog_1_method_4_code 29 = .ok (.getfield 98, 3) := by decide +kernel
theorem d_C_arrive_32 : decode prog_1_method_4_code 32 = .ok (.iastore, 1) := by decide +kernel
theorem d_C_arrive_33 : decode prog_1_method_4_code 33 = .ok (.aload_n 0, 1) := by decide +kernel
theorem d_C_arrive_34 : decode prog_1_method_4_code 34 = .ok (.iload_n 1, 1) := by decide +kernel
theorem d_C_arrive_35 : decode prog_1_method_4_code 35 = .ok (.iconst 0, 1) := by decide +kernel
theorem d_C_arrive_36 : decode prog_1_method_4_code 36 = .ok (.invokevirtual 101, 3) := by decide +kernel
theorem d_C_arrive_39 : decode prog_1_method_4_code 39 = .ok (.return_, 1) := by decide +kernel
theorem d_C_requirePerson_0 : decode prog_1_method_23_code 0 = .ok (.iload_n 1, 1) := by decide +kernel
theorem d_C_requirePerson_1 : decode prog_1_method_23_code 1 = .ok (.ifCond .lt 11, 3) := by decide +kernel
theorem d_C_requirePerson_4 : decode prog_1_method_23_code 4 = .ok (.iload_n 1, 1) := by decide +kernel
theorem d_C_requirePerson_5 : decode prog_1_method_23_code 5 = .ok (.aload_n 0, 1) := by decide +kernel
theorem d_C_requirePerson_6 : decode prog_1_method_23_code 6 = .ok (.getfield 72, 3) := by decide +kernel
theorem d_C_requirePerson_9 : decode prog_1_method_23_code 9 = .ok (.if_icmp .lt 13, 3) := by decide +kernel
theorem d_C_requirePerson_12 : decode prog_1_method_23_code 12 = .ok (.new 212, 3) := by decide +kernel
theorem d_C_requirePerson_15 : decode prog_1_method_23_code 15 = .ok (.dup, 1) := by decide +kernel
theorem d_C_requirePerson_16 : decode prog_1_method_23_code 16 = .ok (.ldc 228, 2) := by decide +kernel
theorem d_C_requirePerson_18 : decode prog_1_method_23_code 18 = .ok (.invokespecial 216, 3) := by decide +kernel
theorem d_C_requirePerson_21 : decode prog_1_method_23_code 21 = .ok (.athrow, 1) := by decide +kernel
theorem d_C_requirePerson_22 : decode prog_1_method_23_code 22 = .ok (.return_, 1) := by decide +kernel
theorem d_C_isThere_0 : decode prog_1_method_29_code 0 = .ok (.aload_n 0, 1) := by decide +kernel
theorem d_C_isThere_1 : decode prog_1_method_29_code 1 = .ok (.getfield 20, 3) := by decide +kernel
theorem d_C_isThere_4 : decode prog_1_method_29_code 4 = .ok (.iload_n 1, 1) := by decide +kernel
theorem d_C_isThere_5 : decode prog_1_method_29_code 5 = .ok (.iaload, 1) := by decide +kernel
theorem d_C_isThere_6 : decode prog_1_method_29_code 6 = .ok (.iconst (-1), 1) := by decide +kernel
theorem d_C_isThere_7 : decode prog_1_method_29_code 7 = .ok (.if_icmp .eq 7, 3) := by decide +kernel
theorem d_C_isThere_10 : decode prog_1_method_29_code 10 = .ok (.iconst 1, 1) := by decide +kernel
theorem d_C_isThere_11 : decode prog_1_method_29_code 11 = .ok (.goto 4, 3) := by decide +kernel
theorem d_C_isThere_14 : decode prog_1_method_29_code 14 = .ok (.iconst 0, 1) := by decide +kernel
theorem d_C_isThere_15 : decode prog_1_method_29_code 15 = .ok (.ireturn, 1) := by decide +kernel
theorem d_C_comeInto_0 : decode prog_1_method_30_code 0 = .ok (.aload_n 0, 1) := by decide +kernel
theorem d_C_comeInto_1 : decode prog_1_method_30_code 1 = .ok (.getfield 20, 3) := by decide +kernel
theorem d_C_comeInto_4 : decode prog_1_method_30_code 4 = .ok (.iload_n 1, 1) := by decide +kernel
theorem d_C_comeInto_5 : decode prog_1_method_30_code 5 = .ok (.iload_n 2, 1) := by decide +kernel
theorem d_C_comeInto_6 : decode prog_1_method_30_code 6 = .ok (.iastore, 1) := by decide +kernel
theorem d_C_comeInto_7 : decode prog_1_method_30_code 7 = .ok (.aload_n 0, 1) := by decide +kernel
theorem d_C_comeInto_8 : decode prog_1_method_30_code 8 = .ok (.iload_n 1, 1) := by decide +kernel
theorem d_C_comeInto_9 : decode prog_1_method_30_code 9 = .ok (.invokevirtual 111, 3) := by decide +kernel
theorem d_C_comeInto_12 : decode prog_1_method_30_code 12 = .ok (.aload_n 0, 1) := by decide +kernel
theorem d_C_comeInto_13 : decode prog_1_method_30_code 13 = .ok (.getfield 42, 3) := by decide +kernel
theorem d_C_comeInto_16 : decode prog_1_method_30_code 16 = .ok (.iload_n 2, 1) := by decide +kernel
theorem d_C_comeInto_17 : decode prog_1_method_30_code 17 = .ok (.iaload, 1) := by decide +kernel
theorem d_C_comeInto_18 : decode prog_1_method_30_code 18 = .ok (.iconst (-1), 1) := by decide +kernel
theorem d_C_comeInto_19 : decode prog_1_method_30_code 19 = .ok (.if_icmp .ne 9, 3) := by decide +kernel
theorem d_C_comeInto_22 : decode prog_1_method_30_code 22 = .ok (.aload_n 0, 1) := by decide +kernel
theorem d_C_comeInto_23 : decode prog_1_method_30_code 23 = .ok (.iload_n 2, 1) := by decide +kernel
theorem d_C_comeInto_24 : decode prog_1_method_30_code 24 = .ok (.iload_n 1, 1) := by decide +kernel
theorem d_C_comeInto_25 : decode prog_1_method_30_code 25 = .ok (.invokevirtual 137, 3) := by decide +kernel
theorem d_C_comeInto_28 : decode prog_1_method_30_code 28 = .ok (.return_, 1) := by decide +kernel
theorem d_C_leaveLeadToNext_0 : decode prog_1_method_31_code 0 = .ok (.aload_n 0, 1) := by decide +kernel
theorem d_C_leaveLeadToNext_1 : decode prog_1_method_31_code 1 = .ok (.getfield 23, 3) := by decide +kernel
theorem d_C_leaveLeadToNext_4 : decode prog_1_method_31_code 4 = .ok (.iload_n 1, 1) := by decide +kernel
theorem d_C_leaveLeadToNext_5 : decode prog_1_method_31_code 5 = .ok (.iaload, 1) := by decide +kernel
theorem d_C_leaveLeadToNext_6 : decode prog_1_method_31_code 6 = .ok (.istore_n 2, 1) := by decide +kernel
theorem d_C_leaveLeadToNext_7 : decode prog_1_method_31_code 7 = .ok (.iload_n 2, 1) := by decide +kernel
theorem d_C_leaveLeadToNext_8 : decode prog_1_method_31_code 8 = .ok (.ifCond .lt 13, 3) := by decide +kernel
theorem d_C_leaveLeadToNext_11 : decode prog_1_method_31_code 11 = .ok (.aload_n 0, 1) := by decide +kernel
theorem d_C_leaveLeadToNext_12 : decode prog_1_method_31_code 12 = .ok (.iload_n 2, 1) := by decide +kernel
theorem d_C_leaveLeadToNext_13 : decode prog_1_method_31_code 13 = .ok (.aload_n 0, 1) := by decide +kernel
theorem d_C_leaveLeadToNext_14 : decode prog_1_method_31_code 14 = .ok (.iload_n 2, 1) := by decide +kernel
theorem d_C_leaveLeadToNext_15 : decode prog_1_method_31_code 15 = .ok (.invokevirtual 150, 3) := by decide +kernel
theorem d_C_leaveLeadToNext_18 : decode prog_1_method_31_code 18 = .ok (.invokevirtual 137, 3) := by decide +kernel
theorem d_C_leaveLeadToNext_21 : decode prog_1_method_31_code 21 = .ok (.return_, 1) := by decide +kernel
theorem d_C_nextToLead_0 : decode prog_1_method_34_code 0 = .ok (.iconst (-1), 1) := by decide +kernel
theorem d_C_nextToLead_1 : decode prog_1_method_34_code 1 = .ok (.istore_n 2, 1) := by decide +kernel
theorem d_C_nextToLead_2 : decode prog_1_method_34_code 2 = .ok (.iconst 0, 1) := by decide +kernel
theorem d_C_nextToLead_3 : decode prog_1_method_34_code 3 = .ok (.istore_n 3, 1) := by decide +kernel
theorem d_C_nextToLead_4 : decode prog_1_method_34_code 4 = .ok (.iload_n 3, 1) := by decide +kernel
theorem d_C_nextToLead_5 : decode prog_1_method_34_code 5 = .ok (.aload_n 0, 1) := by decide +kernel
theorem d_C_nextToLead_6 : decode prog_1_method_34_code 6 = .ok (.getfield 72, 3) := by decide +kernel
theorem d_C_nextToLead_9 : decode prog_1_method_34_code 9 = .ok (.if_icmp .ge 57, 3) := by decide +kernel
theorem d_C_nextToLead_12 : decode prog_1_method_34_code 12 = .ok (.aload_n 0, 1) := by decide +kernel
theorem d_C_nextToLead_13 : decode prog_1_method_34_code 13 = .ok (.getfield 20, 3) := by decide +kernel
theorem d_C_nextToLead_16 : decode prog_1_method_34_code 16 = .ok (.iload_n 3, 1) := by decide +kernel
theorem d_C_nextToLead_17 : decode prog_1_method_34_code 17 = .ok (.iaload, 1) := by decide +kernel
theorem d_C_nextToLead_18 : decode prog_1_method_34_code 18 = .ok (.iload_n 1, 1) := by decide +kernel
theorem d_C_nextToLead_19 : decode prog_1_method_34_code 19 = .ok (.if_icmp .ne 17, 3) := by decide +kernel
theorem d_C_nextToLead_22 : decode prog_1_method_34_code 22 = .ok (.aload_n 0, 1) := by decide +kernel
theorem d_C_nextToLead_23 : decode prog_1_method_34_code 23 = .ok (.getfield 23, 3) := by decide +kernel
theorem d_C_nextToLead_26 : decode prog_1_method_34_code 26 = .ok (.iload_n 3, 1) := by decide +kernel
theorem d_C_nextToLead_27 : decode prog_1_method_34_code 27 = .ok (.iaload, 1) := by decide +kernel
theorem d_C_nextToLead_28 : decode prog_1_method_34_code 28 = .ok (.iconst (-1), 1) := by decide +kernel
theorem d_C_nextToLead_29 : decode prog_1_method_34_code 29 = .ok (.if_icmp .ne 7, 3) := by decide +kernel
theorem d_C_nextToLead_32 : decode prog_1_method_34_code 32 = .ok (.iconst 1, 1) := by decide +kernel
theorem d_C_nextToLead_33 : decode prog_1_method_34_code 33 = .ok (.goto 4, 3) := by decide +kernel
theorem d_C_nextToLead_36 : decode prog_1_method_34_code 36 = .ok (.iconst 0, 1) := by decide +kernel
theorem d_C_nextToLead_37 : decode prog_1_method_34_code 37 = .ok (.istore 4, 2) := by decide +kernel
theorem d_C_nextToLead_39 : decode prog_1_method_34_code 39 = .ok (.iload 4, 2) := by decide +kernel
theorem d_C_nextToLead_41 : decode prog_1_method_34_code 41 = .ok (.ifCond .eq 19, 3) := by decide +kernel
theorem d_C_nextToLead_44 : decode prog_1_method_34_code 44 = .ok (.iload_n 2, 1) := by decide +kernel
theorem d_C_nextToLead_45 : decode prog_1_method_34_code 45 = .ok (.iconst (-1), 1) := by decide +kernel
theorem d_C_nextToLead_46 : decode prog_1_method_34_code 46 = .ok (.if_icmp .eq 12, 3) := by decide +kernel
theorem d_C_nextToLead_49 : decode prog_1_method_34_code 49 = .ok (.aload_n 0, 1) := by decide +kernel
theorem d_C_nextToLead_50 : decode prog_1_method_34_code 50 = .ok (.iload_n 3, 1) := by decide +kernel
theorem d_C_nextToLead_51 : decode prog_1_method_34_code 51 = .ok (.iload_n 2, 1) := by decide +kernel
theorem d_C_nextToLead_52 : decode prog_1_method_34_code 52 = .ok (.invokevirtual 247, 3) := by decide +kernel
theorem d_C_nextToLead_55 : decode prog_1_method_34_code 55 = .ok (.ifCond .eq 5, 3) := by decide +kernel
theorem d_C_nextToLead_58 : decode prog_1_method_34_code 58 = .ok (.iload_n 3, 1) := by decide +kernel
theorem d_C_nextToLead_59 : decode prog_1_method_34_code 59 = .ok (.istore_n 2, 1) := by decide +kernel
theorem d_C_nextToLead_60 : decode prog_1_method_34_code 60 = .ok (.iinc 3 1, 3) := by decide +kernel
theorem d_C_nextToLead_63 : decode prog_1_method_34_code 63 = .ok (.goto (-59), 3) := by decide +kernel
theorem d_C_nextToLead_66 : decode prog_1_method_34_code 66 = .ok (.iload_n 2, 1) := by decide +kernel
theorem d_C_nextToLead_67 : decode prog_1_method_34_code 67 = .ok (.ireturn, 1) := by decide +kernel
theorem d_C_comesBefore_0 : decode prog_1_method_35_code 0 = .ok (.aload_n 0, 1) := by decide +kernel
theorem d_C_comesBefore_1 : decode prog_1_method_35_code 1 = .ok (.getfield 13, 3) := by decide +kernel
theorem d_C_comesBefore_4 : decode prog_1_method_35_code 4 = .ok (.iload_n 1, 1) := by decide +kernel
theorem d_C_comesBefore_5 : decode prog_1_method_35_code 5 = .ok (.iaload, 1) := by decide +kernel
theorem d_C_comesBefore_6 : decode prog_1_method_35_code 6 = .ok (.aload_n 0, 1) := by decide +kernel
theorem d_C_comesBefore_7 : decode prog_1_method_35_code 7 = .ok (.getfield 13, 3) := by decide +kernel
theorem d_C_comesBefore_10 : decode prog_1_method_35_code 10 = .ok (.iload_n 2, 1) := by decide +kernel
theorem d_C_comesBefore_11 : decode prog_1_method_35_code 11 = .ok (.iaload, 1) := by decide +kernel
theorem d_C_comesBefore_12 : decode prog_1_method_35_code 12 = .ok (.if_icmp .eq 24, 3) := by decide +kernel
theorem d_C_comesBefore_15 : decode prog_1_method_35_code 15 = .ok (.aload_n 0, 1) := by decide +kernel
theorem d_C_comesBefore_16 : decode prog_1_method_35_code 16 = .ok (.getfield 13, 3) := by decide +kernel
theorem d_C_comesBefore_19 : decode prog_1_method_35_code 19 = .ok (.iload_n 1, 1) := by decide +kernel
theorem d_C_comesBefore_20 : decode prog_1_method_35_code 20 = .ok (.iaload, 1) := by decide +kernel
theorem d_C_comesBefore_21 : decode prog_1_method_35_code 21 = .ok (.aload_n 0, 1) := by decide +kernel
theorem d_C_comesBefore_22 : decode prog_1_method_35_code 22 = .ok (.getfield 13, 3) := by decide +kernel
theorem d_C_comesBefore_25 : decode prog_1_method_35_code 25 = .ok (.iload_n 2, 1) := by decide +kernel
theorem d_C_comesBefore_26 : decode prog_1_method_35_code 26 = .ok (.iaload, 1) := by decide +kernel
theorem d_C_comesBefore_27 : decode prog_1_method_35_code 27 = .ok (.if_icmp .le 7, 3) := by decide +kernel
theorem d_C_comesBefore_30 : decode prog_1_method_35_code 30 = .ok (.iconst 1, 1) := by decide +kernel
theorem d_C_comesBefore_31 : decode prog_1_method_35_code 31 = .ok (.goto 4, 3) := by decide +kernel
theorem d_C_comesBefore_34 : decode prog_1_method_35_code 34 = .ok (.iconst 0, 1) := by decide +kernel
theorem d_C_comesBefore_35 : decode prog_1_method_35_code 35 = .ok (.ireturn, 1) := by decide +kernel
theorem d_C_comesBefore_36 : decode prog_1_method_35_code 36 = .ok (.aload_n 0, 1) := by decide +kernel
theorem d_C_comesBefore_37 : decode prog_1_method_35_code 37 = .ok (.getfield 17, 3) := by decide +kernel
theorem d_C_comesBefore_40 : decode prog_1_method_35_code 40 = .ok (.iload_n 1, 1) := by decide +kernel
theorem d_C_comesBefore_41 : decode prog_1_method_35_code 41 = .ok (.iaload, 1) := by decide +kernel
theorem d_C_comesBefore_42 : decode prog_1_method_35_code 42 = .ok (.aload_n 0, 1) := by decide +kernel
theorem d_C_comesBefore_43 : decode prog_1_method_35_code 43 = .ok (.getfield 17, 3) := by decide +kernel
theorem d_C_comesBefore_46 : decode prog_1_method_35_code 46 = .ok (.iload_n 2, 1) := by decide +kernel
theorem d_C_comesBefore_47 : decode prog_1_method_35_code 47 = .ok (.iaload, 1) := by decide +kernel
theorem d_C_comesBefore_48 : decode prog_1_method_35_code 48 = .ok (.if_icmp .ge 7, 3) := by decide +kernel
theorem d_C_comesBefore_51 : decode prog_1_method_35_code 51 = .ok (.iconst 1, 1) := by decide +kernel
theorem d_C_comesBefore_52 : decode prog_1_method_35_code 52 = .ok (.goto 4, 3) := by decide +kernel
theorem d_C_comesBefore_55 : decode prog_1_method_35_code 55 = .ok (.iconst 0, 1) := by decide +kernel
theorem d_C_comesBefore_56 : decode prog_1_method_35_code 56 = .ok (.ireturn, 1) := by decide +kernel
theorem d_C_setLeader_0 : decode prog_1_method_32_code 0 = .ok (.aload_n 0, 1) := by decide +kernel
theorem d_C_setLeader_1 : decode prog_1_method_32_code 1 = .ok (.getfield 42, 3) := by decide +kernel
theorem d_C_setLeader_4 : decode prog_1_method_32_code 4 = .ok (.iload_n 1, 1) := by decide +kernel
theorem d_C_setLeader_5 : decode prog_1_method_32_code 5 = .ok (.iaload, 1) := by decide +kernel
theorem d_C_setLeader_6 : decode prog_1_method_32_code 6 = .ok (.istore_n 3, 1) := by decide +kernel
theorem d_C_setLeader_7 : decode prog_1_method_32_code 7 = .ok (.iload_n 3, 1) := by decide +kernel
theorem d_C_setLeader_8 : decode prog_1_method_32_code 8 = .ok (.iload_n 2, 1) := by decide +kernel
theorem d_C_setLeader_9 : decode prog_1_method_32_code 9 = .ok (.if_icmp .ne 4, 3) := by decide +kernel
theorem d_C_setLeader_12 : decode prog_1_method_32_code 12 = .ok (.return_, 1) := by decide +kernel
theorem d_C_setLeader_13 : decode prog_1_method_32_code 13 = .ok (.iload_n 3, 1) := by decide +kernel
theorem d_C_setLeader_14 : decode prog_1_method_32_code 14 = .ok (.ifCond .lt 10, 3) := by decide +kernel
theorem d_C_setLeader_17 : decode prog_1_method_32_code 17 = .ok (.aload_n 0, 1) := by decide +kernel
theorem d_C_setLeader_18 : decode prog_1_method_32_code 18 = .ok (.getfield 23, 3) := by decide +kernel
theorem d_C_setLeader_21 : decode prog_1_method_32_code 21 = .ok (.iload_n 3, 1) := by decide +kernel
theorem d_C_setLeader_22 : decode prog_1_method_32_code 22 = .ok (.iconst (-1), 1) := by decide +kernel
theorem d_C_setLeader_23 : decode prog_1_method_32_code 23 = .ok (.iastore, 1) := by decide +kernel
theorem d_C_setLeader_24 : decode prog_1_method_32_code 24 = .ok (.aload_n 0, 1) := by decide +kernel
theorem d_C_setLeader_25 : decode prog_1_method_32_code 25 = .ok (.getfield 42, 3) := by decide +kernel
theorem d_C_setLeader_28 : decode prog_1_method_32_code 28 = .ok (.iload_n 1, 1) := by decide +kernel
theorem d_C_setLeader_29 : decode prog_1_method_32_code 29 = .ok (.iload_n 2, 1) := by decide +kernel
theorem d_C_setLeader_30 : decode prog_1_method_32_code 30 = .ok (.iastore, 1) := by decide +kernel
theorem d_C_setLeader_31 : decode prog_1_method_32_code 31 = .ok (.aload_n 0, 1) := by decide +kernel
theorem d_C_setLeader_32 : decode prog_1_method_32_code 32 = .ok (.getfield 45, 3) := by decide +kernel
theorem d_C_setLeader_35 : decode prog_1_method_32_code 35 = .ok (.iload_n 1, 1) := by decide +kernel
theorem d_C_setLeader_36 : decode prog_1_method_32_code 36 = .ok (.iconst (-1), 1) := by decide +kernel
theorem d_C_setLeader_37 : decode prog_1_method_32_code 37 = .ok (.iastore, 1) := by decide +kernel
theorem d_C_setLeader_38 : decode prog_1_method_32_code 38 = .ok (.iload_n 2, 1) := by decide +kernel
theorem d_C_setLeader_39 : decode prog_1_method_32_code 39 = .ok (.ifCond .lt 15, 3) := by decide +kernel
theorem d_C_setLeader_42 : decode prog_1_method_32_code 42 = .ok (.aload_n 0, 1) := by decide +kernel
theorem d_C_setLeader_43 : decode prog_1_method_32_code 43 = .ok (.getfield 23, 3) := by decide +kernel
theorem d_C_setLeader_46 : decode prog_1_method_32_code 46 = .ok (.iload_n 2, 1) := by decide +kernel
theorem d_C_setLeader_47 : decode prog_1_method_32_code 47 = .ok (.iload_n 1, 1) := by decide +kernel
theorem d_C_setLeader_48 : decode prog_1_method_32_code 48 = .ok (.iastore, 1) := by decide +kernel
theorem d_C_setLeader_49 : decode prog_1_method_32_code 49 = .ok (.aload_n 0, 1) := by decide +kernel
theorem d_C_setLeader_50 : decode prog_1_method_32_code 50 = .ok (.iload_n 2, 1) := by decide +kernel
theorem d_C_setLeader_51 : decode prog_1_method_32_code 51 = .ok (.invokevirtual 108, 3) := by decide +kernel
theorem d_C_setLeader_54 : decode prog_1_method_32_code 54 = .ok (.aload_n 0, 1) := by decide +kernel
theorem d_C_setLeader_55 : decode prog_1_method_32_code 55 = .ok (.getfield 61, 3) := by decide +kernel
theorem d_C_setLeader_58 : decode prog_1_method_32_code 58 = .ok (.aload_n 0, 1) := by decide +kernel
theorem d_C_setLeader_59 : decode prog_1_method_32_code 59 = .ok (.getfield 98, 3) := by decide +kernel
theorem d_C_setLeader_62 : decode prog_1_method_32_code 62 = .ok (.iload_n 1, 1) := by decide +kernel
theorem d_C_setLeader_63 : decode prog_1_method_32_code 63 = .ok (.iload_n 2, 1) := by decide +kernel
theorem d_C_setLeader_64 : decode prog_1_method_32_code 64 = .ok (.invokevirtual 243, 3) := by decide +kernel
theorem d_C_setLeader_67 : decode prog_1_method_32_code 67 = .ok (.return_, 1) := by decide +kernel
theorem d_C_withdrawOffersTo_0 : decode prog_1_method_33_code 0 = .ok (.aload_n 0, 1) := by decide +kernel
theorem d_C_withdrawOffersTo_1 : decode prog_1_method_33_code 1 = .ok (.getfield 45, 3) := by decide +kernel
theorem d_C_withdrawOffersTo_4 : decode prog_1_method_33_code 4 = .ok (.aload_n 0, 1) := by decide +kernel
theorem d_C_withdrawOffersTo_5 : decode prog_1_method_33_code 5 = .ok (.getfield 48, 3) := by decide +kernel
theorem d_C_withdrawOffersTo_8 : decode prog_1_method_33_code 8 = .ok (.iload_n 1, 1) := by decide +kernel
theorem d_C_withdrawOffersTo_9 : decode prog_1_method_33_code 9 = .ok (.iconst (-1), 1) := by decide +kernel
theorem d_C_withdrawOffersTo_10 : decode prog_1_method_33_code 10 = .ok (.invokestatic 140, 3) := by decide +kernel
theorem d_C_withdrawOffersTo_13 : decode prog_1_method_33_code 13 = .ok (.return_, 1) := by decide +kernel
theorem d_C_replace_0 : decode prog_1_method_41_code 0 = .ok (.iconst 0, 1) := by decide +kernel
theorem d_C_replace_1 : decode prog_1_method_41_code 1 = .ok (.istore 4, 2) := by decide +kernel
theorem d_C_replace_3 : decode prog_1_method_41_code 3 = .ok (.iload 4, 2) := by decide +kernel
theorem d_C_replace_5 : decode prog_1_method_41_code 5 = .ok (.iload_n 1, 1) := by decide +kernel
theorem d_C_replace_6 : decode prog_1_method_41_code 6 = .ok (.if_icmp .ge 29, 3) := by decide +kernel
theorem d_C_replace_9 : decode prog_1_method_41_code 9 = .ok (.iload 4, 2) := by decide +kernel
theorem d_C_replace_11 : decode prog_1_method_41_code 11 = .ok (.aload_n 0, 1) := by decide +kernel
theorem d_C_replace_12 : decode prog_1_method_41_code 12 = .ok (.arraylength, 1) := by decide +kernel
theorem d_C_replace_13 : decode prog_1_method_41_code 13 = .ok (.if_icmp .ge 22, 3) := by decide +kernel
theorem d_C_replace_16 : decode prog_1_method_41_code 16 = .ok (.aload_n 0, 1) := by decide +kernel
theorem d_C_replace_17 : decode prog_1_method_41_code 17 = .ok (.iload 4, 2) := by decide +kernel
theorem d_C_replace_19 : decode prog_1_method_41_code 19 = .ok (.iaload, 1) := by decide +kernel
theorem d_C_replace_20 : decode prog_1_method_41_code 20 = .ok (.iload_n 2, 1) := by decide +kernel
theorem d_C_replace_21 : decode prog_1_method_41_code 21 = .ok (.if_icmp .ne 8, 3) := by decide +kernel
theorem d_C_replace_24 : decode prog_1_method_41_code 24 = .ok (.aload_n 0, 1) := by decide +kernel
theorem d_C_replace_25 : decode prog_1_method_41_code 25 = .ok (.iload 4, 2) := by decide +kernel
theorem d_C_replace_27 : decode prog_1_method_41_code 27 = .ok (.iload_n 3, 1) := by decide +kernel
theorem d_C_replace_28 : decode prog_1_method_41_code 28 = .ok (.iastore, 1) := by decide +kernel
theorem d_C_replace_29 : decode prog_1_method_41_code 29 = .ok (.iinc 4 1, 3) := by decide +kernel
theorem d_C_replace_32 : decode prog_1_method_41_code 32 = .ok (.goto (-29), 3) := by decide +kernel
theorem d_C_replace_35 : decode prog_1_method_41_code 35 = .ok (.return_, 1) := by decide +kernel
theorem d_C_leave_0 : decode prog_1_method_5_code 0 = .ok (.aload_n 0, 1) := by decide +kernel
theorem d_C_leave_1 : decode prog_1_method_5_code 1 = .ok (.iload_n 1, 1) := by decide +kernel
theorem d_C_leave_2 : decode prog_1_method_5_code 2 = .ok (.invokevirtual 85, 3) := by decide +kernel
theorem d_C_leave_5 : decode prog_1_method_5_code 5 = .ok (.aload_n 0, 1) := by decide +kernel
theorem d_C_leave_6 : decode prog_1_method_5_code 6 = .ok (.iload_n 1, 1) := by decide +kernel
theorem d_C_leave_7 : decode prog_1_method_5_code 7 = .ok (.invokevirtual 105, 3) := by decide +kernel
theorem d_C_leave_10 : decode prog_1_method_5_code 10 = .ok (.aload_n 0, 1) := by decide +kernel
theorem d_C_leave_11 : decode prog_1_method_5_code 11 = .ok (.getfield 20, 3) := by decide +kernel
theorem d_C_leave_14 : decode prog_1_method_5_code 14 = .ok (.iload_n 1, 1) := by decide +kernel
theorem d_C_leave_15 : decode prog_1_method_5_code 15 = .ok (.iconst (-1), 1) := by decide +kernel
theorem d_C_leave_16 : decode prog_1_method_5_code 16 = .ok (.iastore, 1) := by decide +kernel
theorem d_C_leave_17 : decode prog_1_method_5_code 17 = .ok (.aload_n 0, 1) := by decide +kernel
theorem d_C_leave_18 : decode prog_1_method_5_code 18 = .ok (.getfield 17, 3) := by decide +kernel
theorem d_C_leave_21 : decode prog_1_method_5_code 21 = .ok (.iload_n 1, 1) := by decide +kernel
theorem d_C_leave_22 : decode prog_1_method_5_code 22 = .ok (.iconst (-1), 1) := by decide +kernel
theorem d_C_leave_23 : decode prog_1_method_5_code 23 = .ok (.iastore, 1) := by decide +kernel
theorem d_C_leave_24 : decode prog_1_method_5_code 24 = .ok (.aload_n 0, 1) := by decide +kernel
theorem d_C_leave_25 : decode prog_1_method_5_code 25 = .ok (.iload_n 1, 1) := by decide +kernel
theorem d_C_leave_26 : decode prog_1_method_5_code 26 = .ok (.invokevirtual 108, 3) := by decide +kernel
theorem d_C_leave_29 : decode prog_1_method_5_code 29 = .ok (.aload_n 0, 1) := by decide +kernel
theorem d_C_leave_30 : decode prog_1_method_5_code 30 = .ok (.iload_n 1, 1) := by decide +kernel
theorem d_C_leave_31 : decode prog_1_method_5_code 31 = .ok (.invokevirtual 111, 3) := by decide +kernel
theorem d_C_leave_34 : decode prog_1_method_5_code 34 = .ok (.return_, 1) := by decide +kernel
theorem d_C_requireThere_0 : decode prog_1_method_27_code 0 = .ok (.aload_n 0, 1) := by decide +kernel
theorem d_C_requireThere_1 : decode prog_1_method_27_code 1 = .ok (.iload_n 1, 1) := by decide +kernel
theorem d_C_requireThere_2 : decode prog_1_method_27_code 2 = .ok (.invokevirtual 89, 3) := by decide +kernel
theorem d_C_requireThere_5 : decode prog_1_method_27_code 5 = .ok (.ifCond .ne 13, 3) := by decide +kernel
theorem d_C_requireThere_8 : decode prog_1_method_27_code 8 = .ok (.new 93, 3) := by decide +kernel
theorem d_C_requireThere_11 : decode prog_1_method_27_code 11 = .ok (.dup, 1) := by decide +kernel
theorem d_C_requireThere_12 : decode prog_1_method_27_code 12 = .ok (.ldc 239, 2) := by decide +kernel
theorem d_C_requireThere_14 : decode prog_1_method_27_code 14 = .ok (.invokespecial 97, 3) := by decide +kernel
theorem d_C_requireThere_17 : decode prog_1_method_27_code 17 = .ok (.athrow, 1) := by decide +kernel
theorem d_C_requireThere_18 : decode prog_1_method_27_code 18 = .ok (.return_, 1) := by decide +kernel
theorem d_C_go_0 : decode prog_1_method_6_code 0 = .ok (.aload_n 0, 1) := by decide +kernel
theorem d_C_go_1 : decode prog_1_method_6_code 1 = .ok (.iload_n 1, 1) := by decide +kernel
theorem d_C_go_2 : decode prog_1_method_6_code 2 = .ok (.invokevirtual 85, 3) := by decide +kernel
theorem d_C_go_5 : decode prog_1_method_6_code 5 = .ok (.aload_n 0, 1) := by decide +kernel
theorem d_C_go_6 : decode prog_1_method_6_code 6 = .ok (.iload_n 2, 1) := by decide +kernel
theorem d_C_go_7 : decode prog_1_method_6_code 7 = .ok (.invokevirtual 114, 3) := by decide +kernel
theorem d_C_go_10 : decode prog_1_method_6_code 10 = .ok (.aload_n 0, 1) := by decide +kernel
theorem d_C_go_11 : decode prog_1_method_6_code 11 = .ok (.iload_n 1, 1) := by decide +kernel
theorem d_C_go_12 : decode prog_1_method_6_code 12 = .ok (.invokevirtual 105, 3) := by decide +kernel
theorem d_C_go_15 : decode prog_1_method_6_code 15 = .ok (.aload_n 0, 1) := by decide +kernel
theorem d_C_go_16 : decode prog_1_method_6_code 16 = .ok (.getfield 20, 3) := by decide +kernel
theorem d_C_go_19 : decode prog_1_method_6_code 19 = .ok (.iload_n 1, 1) := by decide +kernel
theorem d_C_go_20 : decode prog_1_method_6_code 20 = .ok (.iaload, 1) := by decide +kernel
theorem d_C_go_21 : decode prog_1_method_6_code 21 = .ok (.iload_n 2, 1) := by decide +kernel
theorem d_C_go_22 : decode prog_1_method_6_code 22 = .ok (.if_icmp .ne 13, 3) := by decide +kernel
theorem d_C_go_25 : decode prog_1_method_6_code 25 = .ok (.new 93, 3) := by decide +kernel
theorem d_C_go_28 : decode prog_1_method_6_code 28 = .ok (.dup, 1) := by decide +kernel
theorem d_C_go_29 : decode prog_1_method_6_code 29 = .ok (.ldc 117, 2) := by decide +kernel
theorem d_C_go_31 : decode prog_1_method_6_code 31 = .ok (.invokespecial 97, 3) := by decide +kernel
theorem d_C_go_34 : decode prog_1_method_6_code 34 = .ok (.athrow, 1) := by decide +kernel
theorem d_C_go_35 : decode prog_1_method_6_code 35 = .ok (.aload_n 0, 1) := by decide +kernel
theorem d_C_go_36 : decode prog_1_method_6_code 36 = .ok (.iload_n 2, 1) := by decide +kernel
theorem d_C_go_37 : decode prog_1_method_6_code 37 = .ok (.invokevirtual 119, 3) := by decide +kernel
theorem d_C_go_40 : decode prog_1_method_6_code 40 = .ok (.aload_n 0, 1) := by decide +kernel
theorem d_C_go_41 : decode prog_1_method_6_code 41 = .ok (.iload_n 1, 1) := by decide +kernel
theorem d_C_go_42 : decode prog_1_method_6_code 42 = .ok (.iload_n 2, 1) := by decide +kernel
theorem d_C_go_43 : decode prog_1_method_6_code 43 = .ok (.invokevirtual 101, 3) := by decide +kernel
theorem d_C_go_46 : decode prog_1_method_6_code 46 = .ok (.return_, 1) := by decide +kernel
theorem d_C_requireSector_0 : decode prog_1_method_25_code 0 = .ok (.iload_n 1, 1) := by decide +kernel
theorem d_C_requireSector_1 : decode prog_1_method_25_code 1 = .ok (.ifCond .lt 11, 3) := by decide +kernel
theorem d_C_requireSector_4 : decode prog_1_method_25_code 4 = .ok (.iload_n 1, 1) := by decide +kernel
theorem d_C_requireSector_5 : decode prog_1_method_25_code 5 = .ok (.aload_n 0, 1) := by decide +kernel
theorem d_C_requireSector_6 : decode prog_1_method_25_code 6 = .ok (.getfield 48, 3) := by decide +kernel
theorem d_C_requireSector_9 : decode prog_1_method_25_code 9 = .ok (.if_icmp .lt 13, 3) := by decide +kernel
theorem d_C_requireSector_12 : decode prog_1_method_25_code 12 = .ok (.new 212, 3) := by decide +kernel
theorem d_C_requireSector_15 : decode prog_1_method_25_code 15 = .ok (.dup, 1) := by decide +kernel
theorem d_C_requireSector_16 : decode prog_1_method_25_code 16 = .ok (.ldc 232, 2) := by decide +kernel
theorem d_C_requireSector_18 : decode prog_1_method_25_code 18 = .ok (.invokespecial 216, 3) := by decide +kernel
theorem d_C_requireSector_21 : decode prog_1_method_25_code 21 = .ok (.athrow, 1) := by decide +kernel
theorem d_C_requireSector_22 : decode prog_1_method_25_code 22 = .ok (.return_, 1) := by decide +kernel
theorem d_C_requireOpen_0 : decode prog_1_method_28_code 0 = .ok (.aload_n 0, 1) := by decide +kernel
theorem d_C_requireOpen_1 : decode prog_1_method_28_code 1 = .ok (.getfield 35, 3) := by decide +kernel
theorem d_C_requireOpen_4 : decode prog_1_method_28_code 4 = .ok (.iload_n 1, 1) := by decide +kernel
theorem d_C_requireOpen_5 : decode prog_1_method_28_code 5 = .ok (.baload, 1) := by decide +kernel
theorem d_C_requireOpen_6 : decode prog_1_method_28_code 6 = .ok (.ifCond .ne 13, 3) := by decide +kernel
theorem d_C_requireOpen_9 : decode prog_1_method_28_code 9 = .ok (.new 93, 3) := by decide +kernel
theorem d_C_requireOpen_12 : decode prog_1_method_28_code 12 = .ok (.dup, 1) := by decide +kernel
theorem d_C_requireOpen_13 : decode prog_1_method_28_code 13 = .ok (.ldc 241, 2) := by decide +kernel
theorem d_C_requireOpen_15 : decode prog_1_method_28_code 15 = .ok (.invokespecial 97, 3) := by decide +kernel
theorem d_C_requireOpen_18 : decode prog_1_method_28_code 18 = .ok (.athrow, 1) := by decide +kernel
theorem d_C_requireOpen_19 : decode prog_1_method_28_code 19 = .ok (.return_, 1) := by decide +kernel
theorem d_C_place_0 : decode prog_1_method_7_code 0 = .ok (.aload_n 0, 1) := by decide +kernel
theorem d_C_place_1 : decode prog_1_method_7_code 1 = .ok (.iload_n 1, 1) := by decide +kernel
theorem d_C_place_2 : decode prog_1_method_7_code 2 = .ok (.invokevirtual 122, 3) := by decide +kernel
theorem d_C_place_5 : decode prog_1_method_7_code 5 = .ok (.iload_n 2, 1) := by decide +kernel
theorem d_C_place_6 : decode prog_1_method_7_code 6 = .ok (.iconst (-1), 1) := by decide +kernel
theorem d_C_place_7 : decode prog_1_method_7_code 7 = .ok (.if_icmp .eq 8, 3) := by decide +kernel
theorem d_C_place_10 : decode prog_1_method_7_code 10 = .ok (.aload_n 0, 1) := by decide +kernel
theorem d_C_place_11 : decode prog_1_method_7_code 11 = .ok (.iload_n 2, 1) := by decide +kernel
theorem d_C_place_12 : decode prog_1_method_7_code 12 = .ok (.invokevirtual 114, 3) := by decide +kernel
theorem d_C_place_15 : decode prog_1_method_7_code 15 = .ok (.aload_n 0, 1) := by decide +kernel
theorem d_C_place_16 : decode prog_1_method_7_code 16 = .ok (.getfield 32, 3) := by decide +kernel
theorem d_C_place_19 : decode prog_1_method_7_code 19 = .ok (.iload_n 1, 1) := by decide +kernel
theorem d_C_place_20 : decode prog_1_method_7_code 20 = .ok (.iaload, 1) := by decide +kernel
theorem d_C_place_21 : decode prog_1_method_7_code 21 = .ok (.iload_n 2, 1) := by decide +kernel
theorem d_C_place_22 : decode prog_1_method_7_code 22 = .ok (.if_icmp .ne 13, 3) := by decide +kernel
theorem d_C_place_25 : decode prog_1_method_7_code 25 = .ok (.new 93, 3) := by decide +kernel
theorem d_C_place_28 : decode prog_1_method_7_code 28 = .ok (.dup, 1) := by decide +kernel
theorem d_C_place_29 : decode prog_1_method_7_code 29 = .ok (.ldc 125, 2) := by decide +kernel
theorem d_C_place_31 : decode prog_1_method_7_code 31 = .ok (.invokespecial 97, 3) := by decide +kernel
theorem d_C_place_34 : decode prog_1_method_7_code 34 = .ok (.athrow, 1) := by decide +kernel
theorem d_C_place_35 : decode prog_1_method_7_code 35 = .ok (.iload_n 2, 1) := by decide +kernel
theorem d_C_place_36 : decode prog_1_method_7_code 36 = .ok (.iconst (-1), 1) := by decide +kernel
theorem d_C_place_37 : decode prog_1_method_7_code 37 = .ok (.if_icmp .eq 8, 3) := by decide +kernel
theorem d_C_place_40 : decode prog_1_method_7_code 40 = .ok (.aload_n 0, 1) := by decide +kernel
theorem d_C_place_41 : decode prog_1_method_7_code 41 = .ok (.iload_n 2, 1) := by decide +kernel
theorem d_C_place_42 : decode prog_1_method_7_code 42 = .ok (.invokevirtual 119, 3) := by decide +kernel
theorem d_C_place_45 : decode prog_1_method_7_code 45 = .ok (.aload_n 0, 1) := by decide +kernel
theorem d_C_place_46 : decode prog_1_method_7_code 46 = .ok (.getfield 32, 3) := by decide +kernel
theorem d_C_place_49 : decode prog_1_method_7_code 49 = .ok (.iload_n 1, 1) := by decide +kernel
theorem d_C_place_50 : decode prog_1_method_7_code 50 = .ok (.iload_n 2, 1) := by decide +kernel
theorem d_C_place_51 : decode prog_1_method_7_code 51 = .ok (.iastore, 1) := by decide +kernel
theorem d_C_place_52 : decode prog_1_method_7_code 52 = .ok (.return_, 1) := by decide +kernel
theorem d_C_requireUnit_0 : decode prog_1_method_24_code 0 = .ok (.iload_n 1, 1) := by decide +kernel
theorem d_C_requireUnit_1 : decode prog_1_method_24_code 1 = .ok (.ifCond .lt 11, 3) := by decide +kernel
theorem d_C_requireUnit_4 : decode prog_1_method_24_code 4 = .ok (.iload_n 1, 1) := by decide +kernel
theorem d_C_requireUnit_5 : decode prog_1_method_24_code 5 = .ok (.aload_n 0, 1) := by decide +kernel
theorem d_C_requireUnit_6 : decode prog_1_method_24_code 6 = .ok (.getfield 80, 3) := by decide +kernel
theorem d_C_requireUnit_9 : decode prog_1_method_24_code 9 = .ok (.if_icmp .lt 13, 3) := by decide +kernel
theorem d_C_requireUnit_12 : decode prog_1_method_24_code 12 = .ok (.new 212, 3) := by decide +kernel
theorem d_C_requireUnit_15 : decode prog_1_method_24_code 15 = .ok (.dup, 1) := by decide +kernel
theorem d_C_requireUnit_16 : decode prog_1_method_24_code 16 = .ok (.ldc 230, 2) := by decide +kernel
theorem d_C_requireUnit_18 : decode prog_1_method_24_code 18 = .ok (.invokespecial 216, 3) := by decide +kernel
theorem d_C_requireUnit_21 : decode prog_1_method_24_code 21 = .ok (.athrow, 1) := by decide +kernel
theorem d_C_requireUnit_22 : decode prog_1_method_24_code 22 = .ok (.return_, 1) := by decide +kernel
theorem d_C_split_0 : decode prog_1_method_8_code 0 = .ok (.aload_n 0, 1) := by decide +kernel
theorem d_C_split_1 : decode prog_1_method_8_code 1 = .ok (.iload_n 1, 1) := by decide +kernel
theorem d_C_split_2 : decode prog_1_method_8_code 2 = .ok (.invokevirtual 114, 3) := by decide +kernel
theorem d_C_split_5 : decode prog_1_method_8_code 5 = .ok (.aload_n 0, 1) := by decide +kernel
theorem d_C_split_6 : decode prog_1_method_8_code 6 = .ok (.iload_n 1, 1) := by decide +kernel
theorem d_C_split_7 : decode prog_1_method_8_code 7 = .ok (.invokevirtual 119, 3) := by decide +kernel
theorem d_C_split_10 : decode prog_1_method_8_code 10 = .ok (.aload_n 0, 1) := by decide +kernel
theorem d_C_split_11 : decode prog_1_method_8_code 11 = .ok (.getfield 48, 3) := by decide +kernel
theorem d_C_split_14 : decode prog_1_method_8_code 14 = .ok (.bipush 20, 2) := by decide +kernel
theorem d_C_split_16 : decode prog_1_method_8_code 16 = .ok (.if_icmp .lt 13, 3) := by decide +kernel
theorem d_C_split_19 : decode prog_1_method_8_code 19 = .ok (.new 75, 3) := by decide +kernel
theorem d_C_split_22 : decode prog_1_method_8_code 22 = .ok (.dup, 1) := by decide +kernel
theorem d_C_split_23 : decode prog_1_method_8_code 23 = .ok (.ldc 127, 2) := by decide +kernel
theorem d_C_split_25 : decode prog_1_method_8_code 25 = .ok (.invokespecial 79, 3) := by decide +kernel
theorem d_C_split_28 : decode prog_1_method_8_code 28 = .ok (.athrow, 1) := by decide +kernel
theorem d_C_split_29 : decode prog_1_method_8_code 29 = .ok (.aload_n 0, 1) := by decide +kernel
theorem d_C_split_30 : decode prog_1_method_8_code 30 = .ok (.getfield 48, 3) := by decide +kernel
theorem d_C_split_33 : decode prog_1_method_8_code 33 = .ok (.istore_n 2, 1) := by decide +kernel
theorem d_C_split_34 : decode prog_1_method_8_code 34 = .ok (.aload_n 0, 1) := by decide +kernel
theorem d_C_split_35 : decode prog_1_method_8_code 35 = .ok (.getfield 35, 3) := by decide +kernel
theorem d_C_split_38 : decode prog_1_method_8_code 38 = .ok (.iload_n 2, 1) := by decide +kernel
theorem d_C_split_39 : decode prog_1_method_8_code 39 = .ok (.iconst 1, 1) := by decide +kernel
theorem d_C_split_40 : decode prog_1_method_8_code 40 = .ok (.bastore, 1) := by decide +kernel
theorem d_C_split_41 : decode prog_1_method_8_code 41 = .ok (.aload_n 0, 1) := by decide +kernel
theorem d_C_split_42 : decode prog_1_method_8_code 42 = .ok (.getfield 39, 3) := by decide +kernel
theorem d_C_split_45 : decode prog_1_method_8_code 45 = .ok (.iload_n 2, 1) := by decide +kernel
theorem d_C_split_46 : decode prog_1_method_8_code 46 = .ok (.iload_n 1, 1) := by decide +kernel
theorem d_C_split_47 : decode prog_1_method_8_code 47 = .ok (.iastore, 1) := by decide +kernel
theorem d_C_split_48 : decode prog_1_method_8_code 48 = .ok (.aload_n 0, 1) := by decide +kernel
theorem d_C_split_49 : decode prog_1_method_8_code 49 = .ok (.dup, 1) := by decide +kernel
theorem d_C_split_50 : decode prog_1_method_8_code 50 = .ok (.getfield 48, 3) := by decide +kernel
theorem d_C_split_53 : decode prog_1_method_8_code 53 = .ok (.iconst 1, 1) := by decide +kernel
theorem d_C_split_54 : decode prog_1_method_8_code 54 = .ok (.iadd, 1) := by decide +kernel
theorem d_C_split_55 : decode prog_1_method_8_code 55 = .ok (.putfield 48, 3) := by decide +kernel
theorem d_C_split_58 : decode prog_1_method_8_code 58 = .ok (.iload_n 2, 1) := by decide +kernel
theorem d_C_split_59 : decode prog_1_method_8_code 59 = .ok (.ireturn, 1) := by decide +kernel
theorem d_C_join_0 : decode prog_1_method_9_code 0 = .ok (.aload_n 0, 1) := by decide +kernel
theorem d_C_join_1 : decode prog_1_method_9_code 1 = .ok (.iload_n 1, 1) := by decide +kernel
theorem d_C_join_2 : decode prog_1_method_9_code 2 = .ok (.invokevirtual 114, 3) := by decide +kernel
theorem d_C_join_5 : decode prog_1_method_9_code 5 = .ok (.aload_n 0, 1) := by decide +kernel
theorem d_C_join_6 : decode prog_1_method_9_code 6 = .ok (.iload_n 2, 1) := by decide +kernel
theorem d_C_join_7 : decode prog_1_method_9_code 7 = .ok (.invokevirtual 114, 3) := by decide +kernel
theorem d_C_join_10 : decode prog_1_method_9_code 10 = .ok (.aload_n 0, 1) := by decide +kernel
theorem d_C_join_11 : decode prog_1_method_9_code 11 = .ok (.iload_n 1, 1) := by decide +kernel
theorem d_C_join_12 : decode prog_1_method_9_code 12 = .ok (.invokevirtual 119, 3) := by decide +kernel
theorem d_C_join_15 : decode prog_1_method_9_code 15 = .ok (.aload_n 0, 1) := by decide +kernel
theorem d_C_join_16 : decode prog_1_method_9_code 16 = .ok (.iload_n 2, 1) := by decide +kernel
theorem d_C_join_17 : decode prog_1_method_9_code 17 = .ok (.invokevirtual 119, 3) := by decide +kernel
theorem d_C_join_20 : decode prog_1_method_9_code 20 = .ok (.iload_n 1, 1) := by decide +kernel
theorem d_C_join_21 : decode prog_1_method_9_code 21 = .ok (.ifCond .ne 13, 3) := by decide +kernel
theorem d_C_join_24 : decode prog_1_method_9_code 24 = .ok (.new 93, 3) := by decide +kernel
theorem d_C_join_27 : decode prog_1_method_9_code 27 = .ok (.dup, 1) := by decide +kernel
theorem d_C_join_28 : decode prog_1_method_9_code 28 = .ok (.ldc 129, 2) := by decide +kernel
theorem d_C_join_30 : decode prog_1_method_9_code 30 = .ok (.invokespecial 97, 3) := by decide +kernel
theorem d_C_join_33 : decode prog_1_method_9_code 33 = .ok (.athrow, 1) := by decide +kernel
theorem d_C_join_34 : decode prog_1_method_9_code 34 = .ok (.aload_n 0, 1) := by decide +kernel
theorem d_C_join_35 : decode prog_1_method_9_code 35 = .ok (.iload_n 2, 1) := by decide +kernel
theorem d_C_join_36 : decode prog_1_method_9_code 36 = .ok (.iload_n 1, 1) := by decide +kernel
theorem d_C_join_37 : decode prog_1_method_9_code 37 = .ok (.invokevirtual 131, 3) := by decide +kernel
theorem d_C_join_40 : decode prog_1_method_9_code 40 = .ok (.ifCond .eq 13, 3) := by decide +kernel
theorem d_C_join_43 : decode prog_1_method_9_code 43 = .ok (.new 93, 3) := by decide +kernel
theorem d_C_join_46 : decode prog_1_method_9_code 46 = .ok (.dup, 1) := by decide +kernel
theorem d_C_join_47 : decode prog_1_method_9_code 47 = .ok (.ldc 135, 2) := by decide +kernel
theorem d_C_join_49 : decode prog_1_method_9_code 49 = .ok (.invokespecial 97, 3) := by decide +kernel
theorem d_C_join_52 : decode prog_1_method_9_code 52 = .ok (.athrow, 1) := by decide +kernel
theorem d_C_join_53 : decode prog_1_method_9_code 53 = .ok (.aload_n 0, 1) := by decide +kernel
theorem d_C_join_54 : decode prog_1_method_9_code 54 = .ok (.iload_n 1, 1) := by decide +kernel
theorem d_C_join_55 : decode prog_1_method_9_code 55 = .ok (.iconst (-1), 1) := by decide +kernel
theorem d_C_join_56 : decode prog_1_method_9_code 56 = .ok (.invokevirtual 137, 3) := by decide +kernel
theorem d_C_join_59 : decode prog_1_method_9_code 59 = .ok (.aload_n 0, 1) := by decide +kernel
theorem d_C_join_60 : decode prog_1_method_9_code 60 = .ok (.getfield 35, 3) := by decide +kernel
theorem d_C_join_63 : decode prog_1_method_9_code 63 = .ok (.iload_n 1, 1) := by decide +kernel
theorem d_C_join_64 : decode prog_1_method_9_code 64 = .ok (.iconst 0, 1) := by decide +kernel
theorem d_C_join_65 : decode prog_1_method_9_code 65 = .ok (.bastore, 1) := by decide +kernel
theorem d_C_join_66 : decode prog_1_method_9_code 66 = .ok (.aload_n 0, 1) := by decide +kernel
theorem d_C_join_67 : decode prog_1_method_9_code 67 = .ok (.getfield 20, 3) := by decide +kernel
theorem d_C_join_70 : decode prog_1_method_9_code 70 = .ok (.aload_n 0, 1) := by decide +kernel
theorem d_C_join_71 : decode prog_1_method_9_code 71 = .ok (.getfield 72, 3) := by decide +kernel
theorem d_C_join_74 : decode prog_1_method_9_code 74 = .ok (.iload_n 1, 1) := by decide +kernel
theorem d_C_join_75 : decode prog_1_method_9_code 75 = .ok (.iload_n 2, 1) := by decide +kernel
theorem d_C_join_76 : decode prog_1_method_9_code 76 = .ok (.invokestatic 140, 3) := by decide +kernel
theorem d_C_join_79 : decode prog_1_method_9_code 79 = .ok (.aload_n 0, 1) := by decide +kernel
theorem d_C_join_80 : decode prog_1_method_9_code 80 = .ok (.getfield 32, 3) := by decide +kernel
theorem d_C_join_83 : decode prog_1_method_9_code 83 = .ok (.aload_n 0, 1) := by decide +kernel
theorem d_C_join_84 : decode prog_1_method_9_code 84 = .ok (.getfield 80, 3) := by decide +kernel
theorem d_C_join_87 : decode prog_1_method_9_code 87 = .ok (.iload_n 1, 1) := by decide +kernel
theorem d_C_join_88 : decode prog_1_method_9_code 88 = .ok (.iload_n 2, 1) := by decide +kernel
theorem d_C_join_89 : decode prog_1_method_9_code 89 = .ok (.invokestatic 140, 3) := by decide +kernel
theorem d_C_join_92 : decode prog_1_method_9_code 92 = .ok (.aload_n 0, 1) := by decide +kernel
theorem d_C_join_93 : decode prog_1_method_9_code 93 = .ok (.iload_n 1, 1) := by decide +kernel
theorem d_C_join_94 : decode prog_1_method_9_code 94 = .ok (.iload_n 2, 1) := by decide +kernel
theorem d_C_join_95 : decode prog_1_method_9_code 95 = .ok (.invokevirtual 144, 3) := by decide +kernel
theorem d_C_join_98 : decode prog_1_method_9_code 98 = .ok (.aload_n 0, 1) := by decide +kernel
theorem d_C_join_99 : decode prog_1_method_9_code 99 = .ok (.getfield 54, 3) := by decide +kernel
theorem d_C_join_102 : decode prog_1_method_9_code 102 = .ok (.iload_n 1, 1) := by decide +kernel
theorem d_C_join_103 : decode prog_1_method_9_code 103 = .ok (.iload_n 2, 1) := by decide +kernel
theorem d_C_join_104 : decode prog_1_method_9_code 104 = .ok (.invokevirtual 147, 3) := by decide +kernel
theorem d_C_join_107 : decode prog_1_method_9_code 107 = .ok (.aload_n 0, 1) := by decide +kernel
theorem d_C_join_108 : decode prog_1_method_9_code 108 = .ok (.getfield 42, 3) := by decide +kernel
theorem d_C_join_111 : decode prog_1_method_9_code 111 = .ok (.iload_n 2, 1) := by decide +kernel
theorem d_C_join_112 : decode prog_1_method_9_code 112 = .ok (.iaload, 1) := by decide +kernel
theorem d_C_join_113 : decode prog_1_method_9_code 113 = .ok (.iconst (-1), 1) := by decide +kernel
theorem d_C_join_114 : decode prog_1_method_9_code 114 = .ok (.if_icmp .ne 13, 3) := by decide +kernel
theorem d_C_join_117 : decode prog_1_method_9_code 117 = .ok (.aload_n 0, 1) := by decide +kernel
theorem d_C_join_118 : decode prog_1_method_9_code 118 = .ok (.iload_n 2, 1) := by decide +kernel
theorem d_C_join_119 : decode prog_1_method_9_code 119 = .ok (.aload_n 0, 1) := by decide +kernel
theorem d_C_join_120 : decode prog_1_method_9_code 120 = .ok (.iload_n 2, 1) := by decide +kernel
theorem d_C_join_121 : decode prog_1_method_9_code 121 = .ok (.invokevirtual 150, 3) := by decide +kernel
theorem d_C_join_124 : decode prog_1_method_9_code 124 = .ok (.invokevirtual 137, 3) := by decide +kernel
theorem d_C_join_127 : decode prog_1_method_9_code 127 = .ok (.return_, 1) := by decide +kernel
theorem d_C_isSameOrBelow_0 : decode prog_1_method_36_code 0 = .ok (.iload_n 1, 1) := by decide +kernel
theorem d_C_isSameOrBelow_1 : decode prog_1_method_36_code 1 = .ok (.istore_n 3, 1) := by decide +kernel
theorem d_C_isSameOrBelow_2 : decode prog_1_method_36_code 2 = .ok (.iconst 0, 1) := by decide +kernel
theorem d_C_isSameOrBelow_3 : decode prog_1_method_36_code 3 = .ok (.istore 4, 2) := by decide +kernel
theorem d_C_isSameOrBelow_5 : decode prog_1_method_36_code 5 = .ok (.iload 4, 2) := by decide +kernel
theorem d_C_isSameOrBelow_7 : decode prog_1_method_36_code 7 = .ok (.bipush 20, 2) := by decide +kernel
theorem d_C_isSameOrBelow_9 : decode prog_1_method_36_code 9 = .ok (.if_icmp .ge 27, 3) := by decide +kernel
theorem d_C_isSameOrBelow_12 : decode prog_1_method_36_code 12 = .ok (.iload_n 3, 1) := by decide +kernel
theorem d_C_isSameOrBelow_13 : decode prog_1_method_36_code 13 = .ok (.ifCond .lt 23, 3) := by decide +kernel
theorem d_C_isSameOrBelow_16 : decode prog_1_method_36_code 16 = .ok (.iload_n 3, 1) := by decide +kernel
theorem d_C_isSameOrBelow_17 : decode prog_1_method_36_code 17 = .ok (.iload_n 2, 1) := by decide +kernel
theorem d_C_isSameOrBelow_18 : decode prog_1_method_36_code 18 = .ok (.if_icmp .ne 5, 3) := by decide +kernel
theorem d_C_isSameOrBelow_21 : decode prog_1_method_36_code 21 = .ok (.iconst 1, 1) := by decide +kernel
theorem d_C_isSameOrBelow_22 : decode prog_1_method_36_code 22 = .ok (.ireturn, 1) := by decide +kernel
theorem d_C_isSameOrBelow_23 : decode prog_1_method_36_code 23 = .ok (.aload_n 0, 1) := by decide +kernel
theorem d_C_isSameOrBelow_24 : decode prog_1_method_36_code 24 = .ok (.getfield 39, 3) := by decide +kernel
theorem d_C_isSameOrBelow_27 : decode prog_1_method_36_code 27 = .ok (.iload_n 3, 1) := by decide +kernel
theorem d_C_isSameOrBelow_28 : decode prog_1_method_36_code 28 = .ok (.iaload, 1) := by decide +kernel
theorem d_C_isSameOrBelow_29 : decode prog_1_method_36_code 29 = .ok (.istore_n 3, 1) := by decide +kernel
theorem d_C_isSameOrBelow_30 : decode prog_1_method_36_code 30 = .ok (.iinc 4 1, 3) := by decide +kernel
theorem d_C_isSameOrBelow_33 : decode prog_1_method_36_code 33 = .ok (.goto (-28), 3) := by decide +kernel
theorem d_C_isSameOrBelow_36 : decode prog_1_method_36_code 36 = .ok (.iconst 0, 1) := by decide +kernel
theorem d_C_isSameOrBelow_37 : decode prog_1_method_36_code 37 = .ok (.ireturn, 1) := by decide +kernel
theorem d_C_moveSectorsBelow_0 : decode prog_1_method_37_code 0 = .ok (.iconst 0, 1) := by decide +kernel
theorem d_C_moveSectorsBelow_1 : decode prog_1_method_37_code 1 = .ok (.istore_n 3, 1) := by decide +kernel
theorem d_C_moveSectorsBelow_2 : decode prog_1_method_37_code 2 = .ok (.iload_n 3, 1) := by decide +kernel
theorem d_C_moveSectorsBelow_3 : decode prog_1_method_37_code 3 = .ok (.aload_n 0, 1) := by decide +kernel
theorem d_C_moveSectorsBelow_4 : decode prog_1_method_37_code 4 = .ok (.getfield 48, 3) := by decide +kernel
theorem d_C_moveSectorsBelow_7 : decode prog_1_method_37_code 7 = .ok (.if_icmp .ge 35, 3) := by decide +kernel
theorem d_C_moveSectorsBelow_10 : decode prog_1_method_37_code 10 = .ok (.aload_n 0, 1) := by decide +kernel
theorem d_C_moveSectorsBelow_11 : decode prog_1_method_37_code 11 = .ok (.getfield 35, 3) := by decide +kernel
theorem d_C_moveSectorsBelow_14 : decode prog_1_method_37_code 14 = .ok (.iload_n 3, 1) := by decide +kernel
theorem d_C_moveSectorsBelow_15 : decode prog_1_method_37_code 15 = .ok (.baload, 1) := by decide +kernel
theorem d_C_moveSectorsBelow_16 : decode prog_1_method_37_code 16 = .ok (.ifCond .eq 20, 3) := by decide +kernel
theorem d_C_moveSectorsBelow_19 : decode prog_1_method_37_code 19 = .ok (.aload_n 0, 1) := by decide +kernel
theorem d_C_moveSectorsBelow_20 : decode prog_1_method_37_code 20 = .ok (.getfield 39, 3) := by decide +kernel
theorem d_C_moveSectorsBelow_23 : decode prog_1_method_37_code 23 = .ok (.iload_n 3, 1) := by decide +kernel
theorem d_C_moveSectorsBelow_24 : decode prog_1_method_37_code 24 = .ok (.iaload, 1) := by decide +kernel
theorem d_C_moveSectorsBelow_25 : decode prog_1_method_37_code 25 = .ok (.iload_n 1, 1) := by decide +kernel
theorem d_C_moveSectorsBelow_26 : decode prog_1_method_37_code 26 = .ok (.if_icmp .ne 10, 3) := by decide +kernel
theorem d_C_moveSectorsBelow_29 : decode prog_1_method_37_code 29 = .ok (.aload_n 0, 1) := by decide +kernel
theorem d_C_moveSectorsBelow_30 : decode prog_1_method_37_code 30 = .ok (.getfield 39, 3) := by decide +kernel
theorem d_C_moveSectorsBelow_33 : decode prog_1_method_37_code 33 = .ok (.iload_n 3, 1) := by decide +kernel
theorem d_C_moveSectorsBelow_34 : decode prog_1_method_37_code 34 = .ok (.iload_n 2, 1) := by decide +kernel
theorem d_C_moveSectorsBelow_35 : decode prog_1_method_37_code 35 = .ok (.iastore, 1) := by decide +kernel
theorem d_C_moveSectorsBelow_36 : decode prog_1_method_37_code 36 = .ok (.iinc 3 1, 3) := by decide +kernel
theorem d_C_moveSectorsBelow_39 : decode prog_1_method_37_code 39 = .ok (.goto (-37), 3) := by decide +kernel
theorem d_C_moveSectorsBelow_42 : decode prog_1_method_37_code 42 = .ok (.return_, 1) := by decide +kernel
theorem d_C_offer_0 : decode prog_1_method_10_code 0 = .ok (.aload_n 0, 1) := by decide +kernel
theorem d_C_offer_1 : decode prog_1_method_10_code 1 = .ok (.iload_n 1, 1) := by decide +kernel
theorem d_C_offer_2 : decode prog_1_method_10_code 2 = .ok (.invokevirtual 114, 3) := by decide +kernel
theorem d_C_offer_5 : decode prog_1_method_10_code 5 = .ok (.aload_n 0, 1) := by decide +kernel
theorem d_C_offer_6 : decode prog_1_method_10_code 6 = .ok (.iload_n 2, 1) := by decide +kernel
theorem d_C_offer_7 : decode prog_1_method_10_code 7 = .ok (.invokevirtual 85, 3) := by decide +kernel
theorem d_C_offer_10 : decode prog_1_method_10_code 10 = .ok (.aload_n 0, 1) := by decide +kernel
theorem d_C_offer_11 : decode prog_1_method_10_code 11 = .ok (.iload_n 1, 1) := by decide +kernel
theorem d_C_offer_12 : decode prog_1_method_10_code 12 = .ok (.invokevirtual 119, 3) := by decide +kernel
theorem d_C_offer_15 : decode prog_1_method_10_code 15 = .ok (.aload_n 0, 1) := by decide +kernel
theorem d_C_offer_16 : decode prog_1_method_10_code 16 = .ok (.getfield 42, 3) := by decide +kernel
theorem d_C_offer_19 : decode prog_1_method_10_code 19 = .ok (.iload_n 1, 1) := by decide +kernel
theorem d_C_offer_20 : decode prog_1_method_10_code 20 = .ok (.iaload, 1) := by decide +kernel
theorem d_C_offer_21 : decode prog_1_method_10_code 21 = .ok (.iconst (-1), 1) := by decide +kernel
theorem d_C_offer_22 : decode prog_1_method_10_code 22 = .ok (.if_icmp .ne 13, 3) := by decide +kernel
theorem d_C_offer_25 : decode prog_1_method_10_code 25 = .ok (.new 93, 3) := by decide +kernel
theorem d_C_offer_28 : decode prog_1_method_10_code 28 = .ok (.dup, 1) := by decide +kernel
theorem d_C_offer_29 : decode prog_1_method_10_code 29 = .ok (.ldc 154, 2) := by decide +kernel
theorem d_C_offer_31 : decode prog_1_method_10_code 31 = .ok (.invokespecial 97, 3) := by decide +kernel
theorem d_C_offer_34 : decode prog_1_method_10_code 34 = .ok (.athrow, 1) := by decide +kernel
theorem d_C_offer_35 : decode prog_1_method_10_code 35 = .ok (.aload_n 0, 1) := by decide +kernel
theorem d_C_offer_36 : decode prog_1_method_10_code 36 = .ok (.iload_n 2, 1) := by decide +kernel
theorem d_C_offer_37 : decode prog_1_method_10_code 37 = .ok (.invokevirtual 105, 3) := by decide +kernel
theorem d_C_offer_40 : decode prog_1_method_10_code 40 = .ok (.aload_n 0, 1) := by decide +kernel
theorem d_C_offer_41 : decode prog_1_method_10_code 41 = .ok (.getfield 23, 3) := by decide +kernel
theorem d_C_offer_44 : decode prog_1_method_10_code 44 = .ok (.iload_n 2, 1) := by decide +kernel
theorem d_C_offer_45 : decode prog_1_method_10_code 45 = .ok (.iaload, 1) := by decide +kernel
theorem d_C_offer_46 : decode prog_1_method_10_code 46 = .ok (.iconst (-1), 1) := by decide +kernel
theorem d_C_offer_47 : decode prog_1_method_10_code 47 = .ok (.if_icmp .eq 13, 3) := by decide +kernel
theorem d_C_offer_50 : decode prog_1_method_10_code 50 = .ok (.new 93, 3) := by decide +kernel
theorem d_C_offer_53 : decode prog_1_method_10_code 53 = .ok (.dup, 1) := by decide +kernel
theorem d_C_offer_54 : decode prog_1_method_10_code 54 = .ok (.ldc 156, 2) := by decide +kernel
theorem d_C_offer_56 : decode prog_1_method_10_code 56 = .ok (.invokespecial 97, 3) := by decide +kernel
theorem d_C_offer_59 : decode prog_1_method_10_code 59 = .ok (.athrow, 1) := by decide +kernel
theorem d_C_offer_60 : decode prog_1_method_10_code 60 = .ok (.aload_n 0, 1) := by decide +kernel
theorem d_C_offer_61 : decode prog_1_method_10_code 61 = .ok (.getfield 45, 3) := by decide +kernel
theorem d_C_offer_64 : decode prog_1_method_10_code 64 = .ok (.iload_n 1, 1) := by decide +kernel
theorem d_C_offer_65 : decode prog_1_method_10_code 65 = .ok (.iload_n 2, 1) := by decide +kernel
theorem d_C_offer_66 : decode prog_1_method_10_code 66 = .ok (.iastore, 1) := by decide +kernel
theorem d_C_offer_67 : decode prog_1_method_10_code 67 = .ok (.return_, 1) := by decide +kernel
theorem d_C_take_0 : decode prog_1_method_11_code 0 = .ok (.aload_n 0, 1) := by decide +kernel
theorem d_C_take_1 : decode prog_1_method_11_code 1 = .ok (.iload_n 1, 1) := by decide +kernel
theorem d_C_take_2 : decode prog_1_method_11_code 2 = .ok (.invokevirtual 114, 3) := by decide +kernel
theorem d_C_take_5 : decode prog_1_method_11_code 5 = .ok (.aload_n 0, 1) := by decide +kernel
theorem d_C_take_6 : decode prog_1_method_11_code 6 = .ok (.iload_n 2, 1) := by decide +kernel
theorem d_C_take_7 : decode prog_1_method_11_code 7 = .ok (.invokevirtual 85, 3) := by decide +kernel
theorem d_C_take_10 : decode prog_1_method_11_code 10 = .ok (.aload_n 0, 1) := by decide +kernel
theorem d_C_take_11 : decode prog_1_method_11_code 11 = .ok (.getfield 45, 3) := by decide +kernel
theorem d_C_take_14 : decode prog_1_method_11_code 14 = .ok (.iload_n 1, 1) := by decide +kernel
theorem d_C_take_15 : decode prog_1_method_11_code 15 = .ok (.iaload, 1) := by decide +kernel
theorem d_C_take_16 : decode prog_1_method_11_code 16 = .ok (.iload_n 2, 1) := by decide +kernel
theorem d_C_take_17 : decode prog_1_method_11_code 17 = .ok (.if_icmp .eq 13, 3) := by decide +kernel
theorem d_C_take_20 : decode prog_1_method_11_code 20 = .ok (.new 93, 3) := by decide +kernel
theorem d_C_take_23 : decode prog_1_method_11_code 23 = .ok (.dup, 1) := by decide +kernel
theorem d_C_take_24 : decode prog_1_method_11_code 24 = .ok (.ldc 158, 2) := by decide +kernel
theorem d_C_take_26 : decode prog_1_method_11_code 26 = .ok (.invokespecial 97, 3) := by decide +kernel
theorem d_C_take_29 : decode prog_1_method_11_code 29 = .ok (.athrow, 1) := by decide +kernel
theorem d_C_take_30 : decode prog_1_method_11_code 30 = .ok (.aload_n 0, 1) := by decide +kernel
theorem d_C_take_31 : decode prog_1_method_11_code 31 = .ok (.getfield 20, 3) := by decide +kernel
theorem d_C_take_34 : decode prog_1_method_11_code 34 = .ok (.iload_n 2, 1) := by decide +kernel
theorem d_C_take_35 : decode prog_1_method_11_code 35 = .ok (.iload_n 1, 1) := by decide +kernel
theorem d_C_take_36 : decode prog_1_method_11_code 36 = .ok (.iastore, 1) := by decide +kernel
theorem d_C_take_37 : decode prog_1_method_11_code 37 = .ok (.aload_n 0, 1) := by decide +kernel
theorem d_C_take_38 : decode prog_1_method_11_code 38 = .ok (.iload_n 1, 1) := by decide +kernel
theorem d_C_take_39 : decode prog_1_method_11_code 39 = .ok (.iload_n 2, 1) := by decide +kernel
theorem d_C_take_40 : decode prog_1_method_11_code 40 = .ok (.invokevirtual 137, 3) := by decide +kernel
theorem d_C_take_43 : decode prog_1_method_11_code 43 = .ok (.return_, 1) := by decide +kernel
theorem d_C_task_0 : decode prog_1_method_12_code 0 = .ok (.aload_n 0, 1) := by decide +kernel
theorem d_C_task_1 : decode prog_1_method_12_code 1 = .ok (.iload_n 1, 1) := by decide +kernel
theorem d_C_task_2 : decode prog_1_method_12_code 2 = .ok (.invokevirtual 114, 3) := by decide +kernel
theorem d_C_task_5 : decode prog_1_method_12_code 5 = .ok (.iload_n 2, 1) := by decide +kernel
theorem d_C_task_6 : decode prog_1_method_12_code 6 = .ok (.aload_n 0, 1) := by decide +kernel
theorem d_C_task_7 : decode prog_1_method_12_code 7 = .ok (.getfield 98, 3) := by decide +kernel
theorem d_C_task_10 : decode prog_1_method_12_code 10 = .ok (.if_icmp .lt 9, 3) := by decide +kernel
theorem d_C_task_13 : decode prog_1_method_12_code 13 = .ok (.iload_n 2, 1) := by decide +kernel
theorem d_C_task_14 : decode prog_1_method_12_code 14 = .ok (.ldc 160, 2) := by decide +kernel
theorem d_C_task_16 : decode prog_1_method_12_code 16 = .ok (.if_icmp .le 13, 3) := by decide +kernel
theorem d_C_task_19 : decode prog_1_method_12_code 19 = .ok (.new 65, 3) := by decide +kernel
theorem d_C_task_22 : decode prog_1_method_12_code 22 = .ok (.dup, 1) := by decide +kernel
theorem d_C_task_23 : decode prog_1_method_12_code 23 = .ok (.ldc 161, 2) := by decide +kernel
theorem d_C_task_25 : decode prog_1_method_12_code 25 = .ok (.invokespecial 69, 3) := by decide +kernel
theorem d_C_task_28 : decode prog_1_method_12_code 28 = .ok (.athrow, 1) := by decide +kernel
theorem d_C_task_29 : decode prog_1_method_12_code 29 = .ok (.aload_n 0, 1) := by decide +kernel
theorem d_C_task_30 : decode prog_1_method_12_code 30 = .ok (.iload_n 1, 1) := by decide +kernel
theorem d_C_task_31 : decode prog_1_method_12_code 31 = .ok (.invokevirtual 119, 3) := by decide +kernel
theorem d_C_task_34 : decode prog_1_method_12_code 34 = .ok (.aload_n 0, 1) := by decide +kernel
theorem d_C_task_35 : decode prog_1_method_12_code 35 = .ok (.getfield 54, 3) := by decide +kernel
theorem d_C_task_38 : decode prog_1_method_12_code 38 = .ok (.invokevirtual 163, 3) := by decide +kernel
theorem d_C_task_41 : decode prog_1_method_12_code 41 = .ok (.ifCond .eq 13, 3) := by decide +kernel
theorem d_C_task_44 : decode prog_1_method_12_code 44 = .ok (.new 75, 3) := by decide +kernel
theorem d_C_task_47 : decode prog_1_method_12_code 47 = .ok (.dup, 1) := by decide +kernel
theorem d_C_task_48 : decode prog_1_method_12_code 48 = .ok (.ldc 167, 2) := by decide +kernel
theorem d_C_task_50 : decode prog_1_method_12_code 50 = .ok (.invokespecial 79, 3) := by decide +kernel
theorem d_C_task_53 : decode prog_1_method_12_code 53 = .ok (.athrow, 1) := by decide +kernel
theorem d_C_task_54 : decode prog_1_method_12_code 54 = .ok (.aload_n 0, 1) := by decide +kernel
theorem d_C_task_55 : decode prog_1_method_12_code 55 = .ok (.getfield 54, 3) := by decide +kernel
theorem d_C_task_58 : decode prog_1_method_12_code 58 = .ok (.iload_n 1, 1) := by decide +kernel
theorem d_C_task_59 : decode prog_1_method_12_code 59 = .ok (.iload_n 2, 1) := by decide +kernel
theorem d_C_task_60 : decode prog_1_method_12_code 60 = .ok (.invokevirtual 169, 3) := by decide +kernel
theorem d_C_task_63 : decode prog_1_method_12_code 63 = .ok (.ireturn, 1) := by decide +kernel
theorem d_C_answer_0 : decode prog_1_method_13_code 0 = .ok (.aload_n 0, 1) := by decide +kernel
theorem d_C_answer_1 : decode prog_1_method_13_code 1 = .ok (.iload_n 1, 1) := by decide +kernel
theorem d_C_answer_2 : decode prog_1_method_13_code 2 = .ok (.invokevirtual 173, 3) := by decide +kernel
theorem d_C_answer_5 : decode prog_1_method_13_code 5 = .ok (.aload_n 0, 1) := by decide +kernel
theorem d_C_answer_6 : decode prog_1_method_13_code 6 = .ok (.getfield 54, 3) := by decide +kernel
theorem d_C_answer_9 : decode prog_1_method_13_code 9 = .ok (.iload_n 1, 1) := by decide +kernel
theorem d_C_answer_10 : decode prog_1_method_13_code 10 = .ok (.invokevirtual 176, 3) := by decide +kernel
theorem d_C_answer_13 : decode prog_1_method_13_code 13 = .ok (.ifCond .eq 13, 3) := by decide +kernel
theorem d_C_answer_16 : decode prog_1_method_13_code 16 = .ok (.new 93, 3) := by decide +kernel
theorem d_C_answer_19 : decode prog_1_method_13_code 19 = .ok (.dup, 1) := by decide +kernel
theorem d_C_answer_20 : decode prog_1_method_13_code 20 = .ok (.ldc 179, 2) := by decide +kernel
theorem d_C_answer_22 : decode prog_1_method_13_code 22 = .ok (.invokespecial 97, 3) := by decide +kernel
theorem d_C_answer_25 : decode prog_1_method_13_code 25 = .ok (.athrow, 1) := by decide +kernel
theorem d_C_answer_26 : decode prog_1_method_13_code 26 = .ok (.aload_n 0, 1) := by decide +kernel
theorem d_C_answer_27 : decode prog_1_method_13_code 27 = .ok (.getfield 54, 3) := by decide +kernel
theorem d_C_answer_30 : decode prog_1_method_13_code 30 = .ok (.iload_n 1, 1) := by decide +kernel
theorem d_C_answer_31 : decode prog_1_method_13_code 31 = .ok (.iload_n 2, 1) := by decide +kernel
theorem d_C_answer_32 : decode prog_1_method_13_code 32 = .ok (.aload_n 0, 1) := by decide +kernel
theorem d_C_answer_33 : decode prog_1_method_13_code 33 = .ok (.getfield 98, 3) := by decide +kernel
theorem d_C_answer_36 : decode prog_1_method_13_code 36 = .ok (.invokevirtual 181, 3) := by decide +kernel
theorem d_C_answer_39 : decode prog_1_method_13_code 39 = .ok (.return_, 1) := by decide +kernel
theorem d_C_requireTask_0 : decode prog_1_method_26_code 0 = .ok (.aload_n 0, 1) := by decide +kernel
theorem d_C_requireTask_1 : decode prog_1_method_26_code 1 = .ok (.getfield 54, 3) := by decide +kernel
theorem d_C_requireTask_4 : decode prog_1_method_26_code 4 = .ok (.iload_n 1, 1) := by decide +kernel
theorem d_C_requireTask_5 : decode prog_1_method_26_code 5 = .ok (.invokevirtual 234, 3) := by decide +kernel
theorem d_C_requireTask_8 : decode prog_1_method_26_code 8 = .ok (.ifCond .ne 13, 3) := by decide +kernel
theorem d_C_requireTask_11 : decode prog_1_method_26_code 11 = .ok (.new 212, 3) := by decide +kernel
theorem d_C_requireTask_14 : decode prog_1_method_26_code 14 = .ok (.dup, 1) := by decide +kernel
theorem d_C_requireTask_15 : decode prog_1_method_26_code 15 = .ok (.ldc 237, 2) := by decide +kernel
theorem d_C_requireTask_17 : decode prog_1_method_26_code 17 = .ok (.invokespecial 216, 3) := by decide +kernel
theorem d_C_requireTask_20 : decode prog_1_method_26_code 20 = .ok (.athrow, 1) := by decide +kernel
theorem d_C_requireTask_21 : decode prog_1_method_26_code 21 = .ok (.return_, 1) := by decide +kernel
theorem d_C_span_0 : decode prog_1_method_14_code 0 = .ok (.iload_n 1, 1) := by decide +kernel
theorem d_C_span_1 : decode prog_1_method_14_code 1 = .ok (.iconst 1, 1) := by decide +kernel
theorem d_C_span_2 : decode prog_1_method_14_code 2 = .ok (.if_icmp .lt 9, 3) := by decide +kernel
theorem d_C_span_5 : decode prog_1_method_14_code 5 = .ok (.iload_n 1, 1) := by decide +kernel
theorem d_C_span_6 : decode prog_1_method_14_code 6 = .ok (.bipush 20, 2) := by decide +kernel
theorem d_C_span_8 : decode prog_1_method_14_code 8 = .ok (.if_icmp .le 13, 3) := by decide +kernel
theorem d_C_span_11 : decode prog_1_method_14_code 11 = .ok (.new 65, 3) := by decide +kernel
theorem d_C_span_14 : decode prog_1_method_14_code 14 = .ok (.dup, 1) := by decide +kernel
theorem d_C_span_15 : decode prog_1_method_14_code 15 = .ok (.ldc 185, 2) := by decide +kernel
theorem d_C_span_17 : decode prog_1_method_14_code 17 = .ok (.invokespecial 69, 3) := by decide +kernel
theorem d_C_span_20 : decode prog_1_method_14_code 20 = .ok (.athrow, 1) := by decide +kernel
theorem d_C_span_21 : decode prog_1_method_14_code 21 = .ok (.aload_n 0, 1) := by decide +kernel
theorem d_C_span_22 : decode prog_1_method_14_code 22 = .ok (.iload_n 1, 1) := by decide +kernel
theorem d_C_span_23 : decode prog_1_method_14_code 23 = .ok (.putfield 9, 3) := by decide +kernel
theorem d_C_span_26 : decode prog_1_method_14_code 26 = .ok (.iconst 0, 1) := by decide +kernel
theorem d_C_span_27 : decode prog_1_method_14_code 27 = .ok (.istore_n 2, 1) := by decide +kernel
theorem d_C_span_28 : decode prog_1_method_14_code 28 = .ok (.iconst 0, 1) := by decide +kernel
theorem d_C_span_29 : decode prog_1_method_14_code 29 = .ok (.istore_n 3, 1) := by decide +kernel
theorem d_C_span_30 : decode prog_1_method_14_code 30 = .ok (.iload_n 3, 1) := by decide +kernel
theorem d_C_span_31 : decode prog_1_method_14_code 31 = .ok (.aload_n 0, 1) := by decide +kernel
theorem d_C_span_32 : decode prog_1_method_14_code 32 = .ok (.getfield 48, 3) := by decide +kernel
theorem d_C_span_35 : decode prog_1_method_14_code 35 = .ok (.if_icmp .ge 20, 3) := by decide +kernel
theorem d_C_span_38 : decode prog_1_method_14_code 38 = .ok (.aload_n 0, 1) := by decide +kernel
theorem d_C_span_39 : decode prog_1_method_14_code 39 = .ok (.iload_n 3, 1) := by decide +kernel
theorem d_C_span_40 : decode prog_1_method_14_code 40 = .ok (.invokevirtual 187, 3) := by decide +kernel
theorem d_C_span_43 : decode prog_1_method_14_code 43 = .ok (.ifCond .eq 6, 3) := by decide +kernel
theorem d_C_span_46 : decode prog_1_method_14_code 46 = .ok (.iinc 2 1, 3) := by decide +kernel
theorem d_C_span_49 : decode prog_1_method_14_code 49 = .ok (.iinc 3 1, 3) := by decide +kernel
theorem d_C_span_52 : decode prog_1_method_14_code 52 = .ok (.goto (-22), 3) := by decide +kernel
theorem d_C_span_55 : decode prog_1_method_14_code 55 = .ok (.iload_n 2, 1) := by decide +kernel
theorem d_C_span_56 : decode prog_1_method_14_code 56 = .ok (.ireturn, 1) := by decide +kernel
theorem d_C_isPassed_0 : decode prog_1_method_38_code 0 = .ok (.aload_n 0, 1) := by decide +kernel
theorem d_C_isPassed_1 : decode prog_1_method_38_code 1 = .ok (.getfield 42, 3) := by decide +kernel
theorem d_C_isPassed_4 : decode prog_1_method_38_code 4 = .ok (.iload_n 1, 1) := by decide +kernel
theorem d_C_isPassed_5 : decode prog_1_method_38_code 5 = .ok (.iaload, 1) := by decide +kernel
theorem d_C_isPassed_6 : decode prog_1_method_38_code 6 = .ok (.iconst (-1), 1) := by decide +kernel
theorem d_C_isPassed_7 : decode prog_1_method_38_code 7 = .ok (.if_icmp .ne 5, 3) := by decide +kernel
theorem d_C_isPassed_10 : decode prog_1_method_38_code 10 = .ok (.iconst 0, 1) := by decide +kernel
theorem d_C_isPassed_11 : decode prog_1_method_38_code 11 = .ok (.ireturn, 1) := by decide +kernel
theorem d_C_isPassed_12 : decode prog_1_method_38_code 12 = .ok (.aload_n 0, 1) := by decide +kernel
theorem d_C_isPassed_13 : decode prog_1_method_38_code 13 = .ok (.iload_n 1, 1) := by decide +kernel
theorem d_C_isPassed_14 : decode prog_1_method_38_code 14 = .ok (.invokevirtual 209, 3) := by decide +kernel
theorem d_C_isPassed_17 : decode prog_1_method_38_code 17 = .ok (.aload_n 0, 1) := by decide +kernel
theorem d_C_isPassed_18 : decode prog_1_method_38_code 18 = .ok (.getfield 32, 3) := by decide +kernel
theorem d_C_isPassed_21 : decode prog_1_method_38_code 21 = .ok (.aload_n 0, 1) := by decide +kernel
theorem d_C_isPassed_22 : decode prog_1_method_38_code 22 = .ok (.getfield 80, 3) := by decide +kernel
theorem d_C_isPassed_25 : decode prog_1_method_38_code 25 = .ok (.iload_n 1, 1) := by decide +kernel
theorem d_C_isPassed_26 : decode prog_1_method_38_code 26 = .ok (.invokestatic 205, 3) := by decide +kernel
theorem d_C_isPassed_29 : decode prog_1_method_38_code 29 = .ok (.iadd, 1) := by decide +kernel
theorem d_C_isPassed_30 : decode prog_1_method_38_code 30 = .ok (.aload_n 0, 1) := by decide +kernel
theorem d_C_isPassed_31 : decode prog_1_method_38_code 31 = .ok (.getfield 9, 3) := by decide +kernel
theorem d_C_isPassed_34 : decode prog_1_method_38_code 34 = .ok (.if_icmp .le 7, 3) := by decide +kernel
theorem d_C_isPassed_37 : decode prog_1_method_38_code 37 = .ok (.iconst 1, 1) := by decide +kernel
theorem d_C_isPassed_38 : decode prog_1_method_38_code 38 = .ok (.goto 4, 3) := by decide +kernel
theorem d_C_isPassed_41 : decode prog_1_method_38_code 41 = .ok (.iconst 0, 1) := by decide +kernel
theorem d_C_isPassed_42 : decode prog_1_method_38_code 42 = .ok (.ireturn, 1) := by decide +kernel
theorem d_C_countOpenBelow_0 : decode prog_1_method_39_code 0 = .ok (.iconst 0, 1) := by decide +kernel
theorem d_C_countOpenBelow_1 : decode prog_1_method_39_code 1 = .ok (.istore_n 2, 1) := by decide +kernel
theorem d_C_countOpenBelow_2 : decode prog_1_method_39_code 2 = .ok (.iconst 0, 1) := by decide +kernel
theorem d_C_countOpenBelow_3 : decode prog_1_method_39_code 3 = .ok (.istore_n 3, 1) := by decide +kernel
theorem d_C_countOpenBelow_4 : decode prog_1_method_39_code 4 = .ok (.iload_n 3, 1) := by decide +kernel
theorem d_C_countOpenBelow_5 : decode prog_1_method_39_code 5 = .ok (.aload_n 0, 1) := by decide +kernel
theorem d_C_countOpenBelow_6 : decode prog_1_method_39_code 6 = .ok (.getfield 48, 3) := by decide +kernel
theorem d_C_countOpenBelow_9 : decode prog_1_method_39_code 9 = .ok (.if_icmp .ge 31, 3) := by decide +kernel
theorem d_C_countOpenBelow_12 : decode prog_1_method_39_code 12 = .ok (.aload_n 0, 1) := by decide +kernel
theorem d_C_countOpenBelow_13 : decode prog_1_method_39_code 13 = .ok (.getfield 35, 3) := by decide +kernel
theorem d_C_countOpenBelow_16 : decode prog_1_method_39_code 16 = .ok (.iload_n 3, 1) := by decide +kernel
theorem d_C_countOpenBelow_17 : decode prog_1_method_39_code 17 = .ok (.baload, 1) := by decide +kernel
theorem d_C_countOpenBelow_18 : decode prog_1_method_39_code 18 = .ok (.ifCond .eq 16, 3) := by decide +kernel
theorem d_C_countOpenBelow_21 : decode prog_1_method_39_code 21 = .ok (.aload_n 0, 1) := by decide +kernel
theorem d_C_countOpenBelow_22 : decode prog_1_method_39_code 22 = .ok (.getfield 39, 3) := by decide +kernel
theorem d_C_countOpenBelow_25 : decode prog_1_method_39_code 25 = .ok (.iload_n 3, 1) := by decide +kernel
theorem d_C_countOpenBelow_26 : decode prog_1_method_39_code 26 = .ok (.iaload, 1) := by decide +kernel
theorem d_C_countOpenBelow_27 : decode prog_1_method_39_code 27 = .ok (.iload_n 1, 1) := by decide +kernel
theorem d_C_countOpenBelow_28 : decode prog_1_method_39_code 28 = .ok (.if_icmp .ne 6, 3) := by decide +kernel
theorem d_C_countOpenBelow_31 : decode prog_1_method_39_code 31 = .ok (.iinc 2 1, 3) := by decide +kernel
theorem d_C_countOpenBelow_34 : decode prog_1_method_39_code 34 = .ok (.iinc 3 1, 3) := by decide +kernel
theorem d_C_countOpenBelow_37 : decode prog_1_method_39_code 37 = .ok (.goto (-33), 3) := by decide +kernel
theorem d_C_countOpenBelow_40 : decode prog_1_method_39_code 40 = .ok (.iload_n 2, 1) := by decide +kernel
theorem d_C_countOpenBelow_41 : decode prog_1_method_39_code 41 = .ok (.ireturn, 1) := by decide +kernel
theorem d_C_count_0 : decode prog_1_method_40_code 0 = .ok (.iconst 0, 1) := by decide +kernel
theorem d_C_count_1 : decode prog_1_method_40_code 1 = .ok (.istore_n 3, 1) := by decide +kernel
theorem d_C_count_2 : decode prog_1_method_40_code 2 = .ok (.iconst 0, 1) := by decide +kernel
theorem d_C_count_3 : decode prog_1_method_40_code 3 = .ok (.istore 4, 2) := by decide +kernel
theorem d_C_count_5 : decode prog_1_method_40_code 5 = .ok (.iload 4, 2) := by decide +kernel
theorem d_C_count_7 : decode prog_1_method_40_code 7 = .ok (.iload_n 1, 1) := by decide +kernel
theorem d_C_count_8 : decode prog_1_method_40_code 8 = .ok (.if_icmp .ge 27, 3) := by decide +kernel
theorem d_C_count_11 : decode prog_1_method_40_code 11 = .ok (.iload 4, 2) := by decide +kernel
theorem d_C_count_13 : decode prog_1_method_40_code 13 = .ok (.aload_n 0, 1) := by decide +kernel
theorem d_C_count_14 : decode prog_1_method_40_code 14 = .ok (.arraylength, 1) := by decide +kernel
theorem d_C_count_15 : decode prog_1_method_40_code 15 = .ok (.if_icmp .ge 20, 3) := by decide +kernel
theorem d_C_count_18 : decode prog_1_method_40_code 18 = .ok (.aload_n 0, 1) := by decide +kernel
theorem d_C_count_19 : decode prog_1_method_40_code 19 = .ok (.iload 4, 2) := by decide +kernel
theorem d_C_count_21 : decode prog_1_method_40_code 21 = .ok (.iaload, 1) := by decide +kernel
theorem d_C_count_22 : decode prog_1_method_40_code 22 = .ok (.iload_n 2, 1) := by decide +kernel
theorem d_C_count_23 : decode prog_1_method_40_code 23 = .ok (.if_icmp .ne 6, 3) := by decide +kernel
theorem d_C_count_26 : decode prog_1_method_40_code 26 = .ok (.iinc 3 1, 3) := by decide +kernel
theorem d_C_count_29 : decode prog_1_method_40_code 29 = .ok (.iinc 4 1, 3) := by decide +kernel
theorem d_C_count_32 : decode prog_1_method_40_code 32 = .ok (.goto (-27), 3) := by decide +kernel
theorem d_C_count_35 : decode prog_1_method_40_code 35 = .ok (.iload_n 3, 1) := by decide +kernel
theorem d_C_count_36 : decode prog_1_method_40_code 36 = .ok (.ireturn, 1) := by decide +kernel
theorem d_C_tick_0 : decode prog_1_method_15_code 0 = .ok (.iload_n 1, 1) := by decide +kernel
theorem d_C_tick_1 : decode prog_1_method_15_code 1 = .ok (.iconst 1, 1) := by decide +kernel
theorem d_C_tick_2 : decode prog_1_method_15_code 2 = .ok (.if_icmp .lt 21, 3) := by decide +kernel
theorem d_C_tick_5 : decode prog_1_method_15_code 5 = .ok (.iload_n 1, 1) := by decide +kernel
theorem d_C_tick_6 : decode prog_1_method_15_code 6 = .ok (.sipush 5000, 3) := by decide +kernel
theorem d_C_tick_9 : decode prog_1_method_15_code 9 = .ok (.if_icmp .gt 14, 3) := by decide +kernel
theorem d_C_tick_12 : decode prog_1_method_15_code 12 = .ok (.iload_n 1, 1) := by decide +kernel
theorem d_C_tick_13 : decode prog_1_method_15_code 13 = .ok (.ldc 160, 2) := by decide +kernel
theorem d_C_tick_15 : decode prog_1_method_15_code 15 = .ok (.aload_n 0, 1) := by decide +kernel
theorem d_C_tick_16 : decode prog_1_method_15_code 16 = .ok (.getfield 98, 3) := by decide +kernel
theorem d_C_tick_19 : decode prog_1_method_15_code 19 = .ok (.isub, 1) := by decide +kernel
theorem d_C_tick_20 : decode prog_1_method_15_code 20 = .ok (.if_icmp .le 13, 3) := by decide +kernel
theorem d_C_tick_23 : decode prog_1_method_15_code 23 = .ok (.new 65, 3) := by decide +kernel
theorem d_C_tick_26 : decode prog_1_method_15_code 26 = .ok (.dup, 1) := by decide +kernel
theorem d_C_tick_27 : decode prog_1_method_15_code 27 = .ok (.ldc 190, 2) := by decide +kernel
theorem d_C_tick_29 : decode prog_1_method_15_code 29 = .ok (.invokespecial 69, 3) := by decide +kernel
theorem d_C_tick_32 : decode prog_1_method_15_code 32 = .ok (.athrow, 1) := by decide +kernel
theorem d_C_tick_33 : decode prog_1_method_15_code 33 = .ok (.aload_n 0, 1) := by decide +kernel
theorem d_C_tick_34 : decode prog_1_method_15_code 34 = .ok (.getfield 98, 3) := by decide +kernel
theorem d_C_tick_37 : decode prog_1_method_15_code 37 = .ok (.istore_n 2, 1) := by decide +kernel
theorem d_C_tick_38 : decode prog_1_method_15_code 38 = .ok (.aload_n 0, 1) := by decide +kernel
theorem d_C_tick_39 : decode prog_1_method_15_code 39 = .ok (.iload_n 2, 1) := by decide +kernel
theorem d_C_tick_40 : decode prog_1_method_15_code 40 = .ok (.iload_n 1, 1) := by decide +kernel
theorem d_C_tick_41 : decode prog_1_method_15_code 41 = .ok (.iadd, 1) := by decide +kernel
theorem d_C_tick_42 : decode prog_1_method_15_code 42 = .ok (.putfield 98, 3) := by decide +kernel
theorem d_C_tick_45 : decode prog_1_method_15_code 45 = .ok (.aload_n 0, 1) := by decide +kernel
theorem d_C_tick_46 : decode prog_1_method_15_code 46 = .ok (.getfield 54, 3) := by decide +kernel
theorem d_C_tick_49 : decode prog_1_method_15_code 49 = .ok (.iload_n 2, 1) := by decide +kernel
theorem d_C_tick_50 : decode prog_1_method_15_code 50 = .ok (.aload_n 0, 1) := by decide +kernel
theorem d_C_tick_51 : decode prog_1_method_15_code 51 = .ok (.getfield 98, 3) := by decide +kernel
theorem d_C_tick_54 : decode prog_1_method_15_code 54 = .ok (.invokevirtual 192, 3) := by decide +kernel
theorem d_C_tick_57 : decode prog_1_method_15_code 57 = .ok (.ireturn, 1) := by decide +kernel
theorem d_C_led_0 : decode prog_1_method_16_code 0 = .ok (.aload_n 0, 1) := by decide +kernel
theorem d_C_led_1 : decode prog_1_method_16_code 1 = .ok (.iload_n 1, 1) := by decide +kernel
theorem d_C_led_2 : decode prog_1_method_16_code 2 = .ok (.invokevirtual 114, 3) := by decide +kernel
theorem d_C_led_5 : decode prog_1_method_16_code 5 = .ok (.iload_n 2, 1) := by decide +kernel
theorem d_C_led_6 : decode prog_1_method_16_code 6 = .ok (.ifCond .lt 11, 3) := by decide +kernel
theorem d_C_led_9 : decode prog_1_method_16_code 9 = .ok (.iload_n 2, 1) := by decide +kernel
theorem d_C_led_10 : decode prog_1_method_16_code 10 = .ok (.aload_n 0, 1) := by decide +kernel
theorem d_C_led_11 : decode prog_1_method_16_code 11 = .ok (.getfield 98, 3) := by decide +kernel
theorem d_C_led_14 : decode prog_1_method_16_code 14 = .ok (.if_icmp .le 13, 3) := by decide +kernel
theorem d_C_led_17 : decode prog_1_method_16_code 17 = .ok (.new 65, 3) := by decide +kernel
theorem d_C_led_20 : decode prog_1_method_16_code 20 = .ok (.dup, 1) := by decide +kernel
theorem d_C_led_21 : decode prog_1_method_16_code 21 = .ok (.ldc 195, 2) := by decide +kernel
theorem d_C_led_23 : decode prog_1_method_16_code 23 = .ok (.invokespecial 69, 3) := by decide +kernel
theorem d_C_led_26 : decode prog_1_method_16_code 26 = .ok (.athrow, 1) := by decide +kernel
theorem d_C_led_27 : decode prog_1_method_16_code 27 = .ok (.aload_n 0, 1) := by decide +kernel
theorem d_C_led_28 : decode prog_1_method_16_code 28 = .ok (.getfield 61, 3) := by decide +kernel
theorem d_C_led_31 : decode prog_1_method_16_code 31 = .ok (.iload_n 2, 1) := by decide +kernel
theorem d_C_led_32 : decode prog_1_method_16_code 32 = .ok (.invokevirtual 197, 3) := by decide +kernel
theorem d_C_led_35 : decode prog_1_method_16_code 35 = .ok (.ifCond .ne 13, 3) := by decide +kernel
theorem d_C_led_38 : decode prog_1_method_16_code 38 = .ok (.new 75, 3) := by decide +kernel
theorem d_C_led_41 : decode prog_1_method_16_code 41 = .ok (.dup, 1) := by decide +kernel
theorem d_C_led_42 : decode prog_1_method_16_code 42 = .ok (.ldc 200, 2) := by decide +kernel
theorem d_C_led_44 : decode prog_1_method_16_code 44 = .ok (.invokespecial 79, 3) := by decide +kernel
theorem d_C_led_47 : decode prog_1_method_16_code 47 = .ok (.athrow, 1) := by decide +kernel
theorem d_C_led_48 : decode prog_1_method_16_code 48 = .ok (.aload_n 0, 1) := by decide +kernel
theorem d_C_led_49 : decode prog_1_method_16_code 49 = .ok (.getfield 61, 3) := by decide +kernel
theorem d_C_led_52 : decode prog_1_method_16_code 52 = .ok (.iload_n 1, 1) := by decide +kernel
theorem d_C_led_53 : decode prog_1_method_16_code 53 = .ok (.iload_n 2, 1) := by decide +kernel
theorem d_C_led_54 : decode prog_1_method_16_code 54 = .ok (.invokevirtual 202, 3) := by decide +kernel
theorem d_C_led_57 : decode prog_1_method_16_code 57 = .ok (.ireturn, 1) := by decide +kernel
theorem d_C_sectorAt_0 : decode prog_1_method_17_code 0 = .ok (.aload_n 0, 1) := by decide +kernel
theorem d_C_sectorAt_1 : decode prog_1_method_17_code 1 = .ok (.iload_n 1, 1) := by decide +kernel
theorem d_C_sectorAt_2 : decode prog_1_method_17_code 2 = .ok (.invokevirtual 114, 3) := by decide +kernel
theorem d_C_sectorAt_5 : decode prog_1_method_17_code 5 = .ok (.iload_n 2, 1) := by decide +kernel
theorem d_C_sectorAt_6 : decode prog_1_method_17_code 6 = .ok (.tableswitch 128 0 7 #[46, 61, 68, 75, 88, 101, 108, 122], 46) := by decide +kernel
theorem d_C_sectorAt_52 : decode prog_1_method_17_code 52 = .ok (.aload_n 0, 1) := by decide +kernel
theorem d_C_sectorAt_53 : decode prog_1_method_17_code 53 = .ok (.getfield 35, 3) := by decide +kernel
theorem d_C_sectorAt_56 : decode prog_1_method_17_code 56 = .ok (.iload_n 1, 1) := by decide +kernel
theorem d_C_sectorAt_57 : decode prog_1_method_17_code 57 = .ok (.baload, 1) := by decide +kernel
theorem d_C_sectorAt_58 : decode prog_1_method_17_code 58 = .ok (.ifCond .eq 7, 3) := by decide +kernel
theorem d_C_sectorAt_61 : decode prog_1_method_17_code 61 = .ok (.iconst 1, 1) := by decide +kernel
theorem d_C_sectorAt_62 : decode prog_1_method_17_code 62 = .ok (.goto 4, 3) := by decide +kernel
theorem d_C_sectorAt_65 : decode prog_1_method_17_code 65 = .ok (.iconst 0, 1) := by decide +kernel
theorem d_C_sectorAt_66 : decode prog_1_method_17_code 66 = .ok (.ireturn, 1) := by decide +kernel
theorem d_C_sectorAt_67 : decode prog_1_method_17_code 67 = .ok (.aload_n 0, 1) := by decide +kernel
theorem d_C_sectorAt_68 : decode prog_1_method_17_code 68 = .ok (.getfield 42, 3) := by decide +kernel
theorem d_C_sectorAt_71 : decode prog_1_method_17_code 71 = .ok (.iload_n 1, 1) := by decide +kernel
theorem d_C_sectorAt_72 : decode prog_1_method_17_code 72 = .ok (.iaload, 1) := by decide +kernel
theorem d_C_sectorAt_73 : decode prog_1_method_17_code 73 = .ok (.ireturn, 1) := by decide +kernel
theorem d_C_sectorAt_74 : decode prog_1_method_17_code 74 = .ok (.aload_n 0, 1) := by decide +kernel
theorem d_C_sectorAt_75 : decode prog_1_method_17_code 75 = .ok (.getfield 39, 3) := by decide +kernel
theorem d_C_sectorAt_78 : decode prog_1_method_17_code 78 = .ok (.iload_n 1, 1) := by decide +kernel
theorem d_C_sectorAt_79 : decode prog_1_method_17_code 79 = .ok (.iaload, 1) := by decide +kernel
theorem d_C_sectorAt_80 : decode prog_1_method_17_code 80 = .ok (.ireturn, 1) := by decide +kernel
theorem d_C_sectorAt_81 : decode prog_1_method_17_code 81 = .ok (.aload_n 0, 1) := by decide +kernel
theorem d_C_sectorAt_82 : decode prog_1_method_17_code 82 = .ok (.getfield 20, 3) := by decide +kernel
theorem d_C_sectorAt_85 : decode prog_1_method_17_code 85 = .ok (.aload_n 0, 1) := by decide +kernel
theorem d_C_sectorAt_86 : decode prog_1_method_17_code 86 = .ok (.getfield 72, 3) := by decide +kernel
theorem d_C_sectorAt_89 : decode prog_1_method_17_code 89 = .ok (.iload_n 1, 1) := by decide +kernel
theorem d_C_sectorAt_90 : decode prog_1_method_17_code 90 = .ok (.invokestatic 205, 3) := by decide +kernel
theorem d_C_sectorAt_93 : decode prog_1_method_17_code 93 = .ok (.ireturn, 1) := by decide +kernel
theorem d_C_sectorAt_94 : decode prog_1_method_17_code 94 = .ok (.aload_n 0, 1) := by decide +kernel
theorem d_C_sectorAt_95 : decode prog_1_method_17_code 95 = .ok (.getfield 32, 3) := by decide +kernel
theorem d_C_sectorAt_98 : decode prog_1_method_17_code 98 = .ok (.aload_n 0, 1) := by decide +kernel
theorem d_C_sectorAt_99 : decode prog_1_method_17_code 99 = .ok (.getfield 80, 3) := by decide +kernel
theorem d_C_sectorAt_102 : decode prog_1_method_17_code 102 = .ok (.iload_n 1, 1) := by decide +kernel
theorem d_C_sectorAt_103 : decode prog_1_method_17_code 103 = .ok (.invokestatic 205, 3) := by decide +kernel
theorem d_C_sectorAt_106 : decode prog_1_method_17_code 106 = .ok (.ireturn, 1) := by decide +kernel
theorem d_C_sectorAt_107 : decode prog_1_method_17_code 107 = .ok (.aload_n 0, 1) := by decide +kernel
theorem d_C_sectorAt_108 : decode prog_1_method_17_code 108 = .ok (.getfield 45, 3) := by decide +kernel
theorem d_C_sectorAt_111 : decode prog_1_method_17_code 111 = .ok (.iload_n 1, 1) := by decide +kernel
theorem d_C_sectorAt_112 : decode prog_1_method_17_code 112 = .ok (.iaload, 1) := by decide +kernel
theorem d_C_sectorAt_113 : decode prog_1_method_17_code 113 = .ok (.ireturn, 1) := by decide +kernel
theorem d_C_sectorAt_114 : decode prog_1_method_17_code 114 = .ok (.aload_n 0, 1) := by decide +kernel
theorem d_C_sectorAt_115 : decode prog_1_method_17_code 115 = .ok (.iload_n 1, 1) := by decide +kernel
theorem d_C_sectorAt_116 : decode prog_1_method_17_code 116 = .ok (.invokevirtual 187, 3) := by decide +kernel
theorem d_C_sectorAt_119 : decode prog_1_method_17_code 119 = .ok (.ifCond .eq 7, 3) := by decide +kernel
theorem d_C_sectorAt_122 : decode prog_1_method_17_code 122 = .ok (.iconst 1, 1) := by decide +kernel
theorem d_C_sectorAt_123 : decode prog_1_method_17_code 123 = .ok (.goto 4, 3) := by decide +kernel
theorem d_C_sectorAt_126 : decode prog_1_method_17_code 126 = .ok (.iconst 0, 1) := by decide +kernel
theorem d_C_sectorAt_127 : decode prog_1_method_17_code 127 = .ok (.ireturn, 1) := by decide +kernel
theorem d_C_sectorAt_128 : decode prog_1_method_17_code 128 = .ok (.aload_n 0, 1) := by decide +kernel
theorem d_C_sectorAt_129 : decode prog_1_method_17_code 129 = .ok (.iload_n 1, 1) := by decide +kernel
theorem d_C_sectorAt_130 : decode prog_1_method_17_code 130 = .ok (.invokevirtual 209, 3) := by decide +kernel
theorem d_C_sectorAt_133 : decode prog_1_method_17_code 133 = .ok (.ireturn, 1) := by decide +kernel
theorem d_C_sectorAt_134 : decode prog_1_method_17_code 134 = .ok (.new 212, 3) := by decide +kernel
theorem d_C_sectorAt_137 : decode prog_1_method_17_code 137 = .ok (.dup, 1) := by decide +kernel
theorem d_C_sectorAt_138 : decode prog_1_method_17_code 138 = .ok (.ldc 214, 2) := by decide +kernel
theorem d_C_sectorAt_140 : decode prog_1_method_17_code 140 = .ok (.invokespecial 216, 3) := by decide +kernel
theorem d_C_sectorAt_143 : decode prog_1_method_17_code 143 = .ok (.athrow, 1) := by decide +kernel
theorem d_C_personAt_0 : decode prog_1_method_18_code 0 = .ok (.aload_n 0, 1) := by decide +kernel
theorem d_C_personAt_1 : decode prog_1_method_18_code 1 = .ok (.iload_n 1, 1) := by decide +kernel
theorem d_C_personAt_2 : decode prog_1_method_18_code 2 = .ok (.invokevirtual 85, 3) := by decide +kernel
theorem d_C_personAt_5 : decode prog_1_method_18_code 5 = .ok (.iload_n 2, 1) := by decide +kernel
theorem d_C_personAt_6 : decode prog_1_method_18_code 6 = .ok (.tableswitch 47 0 2 #[26, 33, 40], 26) := by decide +kernel
theorem d_C_personAt_32 : decode prog_1_method_18_code 32 = .ok (.aload_n 0, 1) := by decide +kernel
theorem d_C_personAt_33 : decode prog_1_method_18_code 33 = .ok (.getfield 20, 3) := by decide +kernel
theorem d_C_personAt_36 : decode prog_1_method_18_code 36 = .ok (.iload_n 1, 1) := by decide +kernel
theorem d_C_personAt_37 : decode prog_1_method_18_code 37 = .ok (.iaload, 1) := by decide +kernel
theorem d_C_personAt_38 : decode prog_1_method_18_code 38 = .ok (.ireturn, 1) := by decide +kernel
theorem d_C_personAt_39 : decode prog_1_method_18_code 39 = .ok (.aload_n 0, 1) := by decide +kernel
theorem d_C_personAt_40 : decode prog_1_method_18_code 40 = .ok (.getfield 23, 3) := by decide +kernel
theorem d_C_personAt_43 : decode prog_1_method_18_code 43 = .ok (.iload_n 1, 1) := by decide +kernel
theorem d_C_personAt_44 : decode prog_1_method_18_code 44 = .ok (.iaload, 1) := by decide +kernel
theorem d_C_personAt_45 : decode prog_1_method_18_code 45 = .ok (.ireturn, 1) := by decide +kernel
theorem d_C_personAt_46 : decode prog_1_method_18_code 46 = .ok (.aload_n 0, 1) := by decide +kernel
theorem d_C_personAt_47 : decode prog_1_method_18_code 47 = .ok (.getfield 17, 3) := by decide +kernel
theorem d_C_personAt_50 : decode prog_1_method_18_code 50 = .ok (.iload_n 1, 1) := by decide +kernel
theorem d_C_personAt_51 : decode prog_1_method_18_code 51 = .ok (.iaload, 1) := by decide +kernel
theorem d_C_personAt_52 : decode prog_1_method_18_code 52 = .ok (.ireturn, 1) := by decide +kernel
theorem d_C_personAt_53 : decode prog_1_method_18_code 53 = .ok (.new 212, 3) := by decide +kernel
theorem d_C_personAt_56 : decode prog_1_method_18_code 56 = .ok (.dup, 1) := by decide +kernel
theorem d_C_personAt_57 : decode prog_1_method_18_code 57 = .ok (.ldc 214, 2) := by decide +kernel
theorem d_C_personAt_59 : decode prog_1_method_18_code 59 = .ok (.invokespecial 216, 3) := by decide +kernel
theorem d_C_personAt_62 : decode prog_1_method_18_code 62 = .ok (.athrow, 1) := by decide +kernel
theorem d_C_unitAt_0 : decode prog_1_method_19_code 0 = .ok (.aload_n 0, 1) := by decide +kernel
theorem d_C_unitAt_1 : decode prog_1_method_19_code 1 = .ok (.iload_n 1, 1) := by decide +kernel
theorem d_C_unitAt_2 : decode prog_1_method_19_code 2 = .ok (.invokevirtual 122, 3) := by decide +kernel
theorem d_C_unitAt_5 : decode prog_1_method_19_code 5 = .ok (.aload_n 0, 1) := by decide +kernel
theorem d_C_unitAt_6 : decode prog_1_method_19_code 6 = .ok (.getfield 32, 3) := by decide +kernel
theorem d_C_unitAt_9 : decode prog_1_method_19_code 9 = .ok (.iload_n 1, 1) := by decide +kernel
theorem d_C_unitAt_10 : decode prog_1_method_19_code 10 = .ok (.iaload, 1) := by decide +kernel
theorem d_C_unitAt_11 : decode prog_1_method_19_code 11 = .ok (.ireturn, 1) := by decide +kernel
theorem d_C_taskAt_0 : decode prog_1_method_20_code 0 = .ok (.aload_n 0, 1) := by decide +kernel
theorem d_C_taskAt_1 : decode prog_1_method_20_code 1 = .ok (.iload_n 1, 1) := by decide +kernel
theorem d_C_taskAt_2 : decode prog_1_method_20_code 2 = .ok (.invokevirtual 173, 3) := by decide +kernel
theorem d_C_taskAt_5 : decode prog_1_method_20_code 5 = .ok (.iload_n 2, 1) := by decide +kernel
theorem d_C_taskAt_6 : decode prog_1_method_20_code 6 = .ok (.tableswitch 57 0 2 #[26, 35, 48], 26) := by decide +kernel
theorem d_C_taskAt_32 : decode prog_1_method_20_code 32 = .ok (.aload_n 0, 1) := by decide +kernel
theorem d_C_taskAt_33 : decode prog_1_method_20_code 33 = .ok (.getfield 54, 3) := by decide +kernel
theorem d_C_taskAt_36 : decode prog_1_method_20_code 36 = .ok (.iload_n 1, 1) := by decide +kernel
theorem d_C_taskAt_37 : decode prog_1_method_20_code 37 = .ok (.invokevirtual 217, 3) := by decide +kernel
theorem d_C_taskAt_40 : decode prog_1_method_20_code 40 = .ok (.ireturn, 1) := by decide +kernel
theorem d_C_taskAt_41 : decode prog_1_method_20_code 41 = .ok (.aload_n 0, 1) := by decide +kernel
theorem d_C_taskAt_42 : decode prog_1_method_20_code 42 = .ok (.getfield 54, 3) := by decide +kernel
theorem d_C_taskAt_45 : decode prog_1_method_20_code 45 = .ok (.iload_n 1, 1) := by decide +kernel
theorem d_C_taskAt_46 : decode prog_1_method_20_code 46 = .ok (.aload_n 0, 1) := by decide +kernel
theorem d_C_taskAt_47 : decode prog_1_method_20_code 47 = .ok (.getfield 98, 3) := by decide +kernel
theorem d_C_taskAt_50 : decode prog_1_method_20_code 50 = .ok (.invokevirtual 220, 3) := by decide +kernel
theorem d_C_taskAt_53 : decode prog_1_method_20_code 53 = .ok (.ireturn, 1) := by decide +kernel
theorem d_C_taskAt_54 : decode prog_1_method_20_code 54 = .ok (.aload_n 0, 1) := by decide +kernel
theorem d_C_taskAt_55 : decode prog_1_method_20_code 55 = .ok (.getfield 54, 3) := by decide +kernel
theorem d_C_taskAt_58 : decode prog_1_method_20_code 58 = .ok (.iload_n 1, 1) := by decide +kernel
theorem d_C_taskAt_59 : decode prog_1_method_20_code 59 = .ok (.invokevirtual 223, 3) := by decide +kernel
theorem d_C_taskAt_62 : decode prog_1_method_20_code 62 = .ok (.ireturn, 1) := by decide +kernel
theorem d_C_taskAt_63 : decode prog_1_method_20_code 63 = .ok (.new 212, 3) := by decide +kernel
theorem d_C_taskAt_66 : decode prog_1_method_20_code 66 = .ok (.dup, 1) := by decide +kernel
theorem d_C_taskAt_67 : decode prog_1_method_20_code 67 = .ok (.ldc 214, 2) := by decide +kernel
theorem d_C_taskAt_69 : decode prog_1_method_20_code 69 = .ok (.invokespecial 216, 3) := by decide +kernel
theorem d_C_taskAt_72 : decode prog_1_method_20_code 72 = .ok (.athrow, 1) := by decide +kernel
theorem d_C_passed_0 : decode prog_1_method_21_code 0 = .ok (.iload_n 1, 1) := by decide +kernel
theorem d_C_passed_1 : decode prog_1_method_21_code 1 = .ok (.ifCond .ge 13, 3) := by decide +kernel
theorem d_C_passed_4 : decode prog_1_method_21_code 4 = .ok (.new 65, 3) := by decide +kernel
theorem d_C_passed_7 : decode prog_1_method_21_code 7 = .ok (.dup, 1) := by decide +kernel
theorem d_C_passed_8 : decode prog_1_method_21_code 8 = .ok (.ldc 226, 2) := by decide +kernel
theorem d_C_passed_10 : decode prog_1_method_21_code 10 = .ok (.invokespecial 69, 3) := by decide +kernel
theorem d_C_passed_13 : decode prog_1_method_21_code 13 = .ok (.athrow, 1) := by decide +kernel
theorem d_C_passed_14 : decode prog_1_method_21_code 14 = .ok (.iconst 0, 1) := by decide +kernel
theorem d_C_passed_15 : decode prog_1_method_21_code 15 = .ok (.istore_n 2, 1) := by decide +kernel
theorem d_C_passed_16 : decode prog_1_method_21_code 16 = .ok (.iconst 0, 1) := by decide +kernel
theorem d_C_passed_17 : decode prog_1_method_21_code 17 = .ok (.istore_n 3, 1) := by decide +kernel
theorem d_C_passed_18 : decode prog_1_method_21_code 18 = .ok (.iload_n 3, 1) := by decide +kernel
theorem d_C_passed_19 : decode prog_1_method_21_code 19 = .ok (.aload_n 0, 1) := by decide +kernel
theorem d_C_passed_20 : decode prog_1_method_21_code 20 = .ok (.getfield 48, 3) := by decide +kernel
theorem d_C_passed_23 : decode prog_1_method_21_code 23 = .ok (.if_icmp .ge 27, 3) := by decide +kernel
theorem d_C_passed_26 : decode prog_1_method_21_code 26 = .ok (.aload_n 0, 1) := by decide +kernel
theorem d_C_passed_27 : decode prog_1_method_21_code 27 = .ok (.iload_n 3, 1) := by decide +kernel
theorem d_C_passed_28 : decode prog_1_method_21_code 28 = .ok (.invokevirtual 187, 3) := by decide +kernel
theorem d_C_passed_31 : decode prog_1_method_21_code 31 = .ok (.ifCond .eq 13, 3) := by decide +kernel
theorem d_C_passed_34 : decode prog_1_method_21_code 34 = .ok (.iload_n 2, 1) := by decide +kernel
theorem d_C_passed_35 : decode prog_1_method_21_code 35 = .ok (.iload_n 1, 1) := by decide +kernel
theorem d_C_passed_36 : decode prog_1_method_21_code 36 = .ok (.if_icmp .ne 5, 3) := by decide +kernel
theorem d_C_passed_39 : decode prog_1_method_21_code 39 = .ok (.iload_n 3, 1) := by decide +kernel
theorem d_C_passed_40 : decode prog_1_method_21_code 40 = .ok (.ireturn, 1) := by decide +kernel
theorem d_C_passed_41 : decode prog_1_method_21_code 41 = .ok (.iinc 2 1, 3) := by decide +kernel
theorem d_C_passed_44 : decode prog_1_method_21_code 44 = .ok (.iinc 3 1, 3) := by decide +kernel
theorem d_C_passed_47 : decode prog_1_method_21_code 47 = .ok (.goto (-29), 3) := by decide +kernel
theorem d_C_passed_50 : decode prog_1_method_21_code 50 = .ok (.iconst (-1), 1) := by decide +kernel
theorem d_C_passed_51 : decode prog_1_method_21_code 51 = .ok (.ireturn, 1) := by decide +kernel
