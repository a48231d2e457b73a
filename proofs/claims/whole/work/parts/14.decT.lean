/-! INSTRUCTIONS, printed by wip/whole/names.py -/
theorem d_A_fill_0 : decode prog_14_method_103_code 0 = .ok (.iconst 0, 1) := by decide +kernel
theorem d_A_fill_1 : decode prog_14_method_103_code 1 = .ok (.istore_n 2, 1) := by decide +kernel
theorem d_A_fill_2 : decode prog_14_method_103_code 2 = .ok (.aload_n 0, 1) := by decide +kernel
theorem d_A_fill_3 : decode prog_14_method_103_code 3 = .ok (.arraylength, 1) := by decide +kernel
theorem d_A_fill_4 : decode prog_14_method_103_code 4 = .ok (.istore_n 3, 1) := by decide +kernel
theorem d_A_fill_5 : decode prog_14_method_103_code 5 = .ok (.iload_n 2, 1) := by decide +kernel
theorem d_A_fill_6 : decode prog_14_method_103_code 6 = .ok (.iload_n 3, 1) := by decide +kernel
theorem d_A_fill_7 : decode prog_14_method_103_code 7 = .ok (.if_icmp .ge 13, 3) := by decide +kernel
theorem d_A_fill_10 : decode prog_14_method_103_code 10 = .ok (.aload_n 0, 1) := by decide +kernel
theorem d_A_fill_11 : decode prog_14_method_103_code 11 = .ok (.iload_n 2, 1) := by decide +kernel
theorem d_A_fill_12 : decode prog_14_method_103_code 12 = .ok (.iload_n 1, 1) := by decide +kernel
theorem d_A_fill_13 : decode prog_14_method_103_code 13 = .ok (.iastore, 1) := by decide +kernel
theorem d_A_fill_14 : decode prog_14_method_103_code 14 = .ok (.iinc 2 1, 3) := by decide +kernel
theorem d_A_fill_17 : decode prog_14_method_103_code 17 = .ok (.goto (-12), 3) := by decide +kernel
theorem d_A_fill_20 : decode prog_14_method_103_code 20 = .ok (.return_, 1) := by decide +kernel
theorem d_T_init_0 : decode prog_3_method_1_code 0 = .ok (.aload_n 0, 1) := by decide +kernel
theorem d_T_init_1 : decode prog_3_method_1_code 1 = .ok (.invokespecial 3, 3) := by decide +kernel
theorem d_T_init_4 : decode prog_3_method_1_code 4 = .ok (.aload_n 0, 1) := by decide +kernel
theorem d_T_init_5 : decode prog_3_method_1_code 5 = .ok (.bipush 60, 2) := by decide +kernel
theorem d_T_init_7 : decode prog_3_method_1_code 7 = .ok (.newarray .int, 2) := by decide +kernel
theorem d_T_init_9 : decode prog_3_method_1_code 9 = .ok (.putfield 9, 3) := by decide +kernel
theorem d_T_init_12 : decode prog_3_method_1_code 12 = .ok (.aload_n 0, 1) := by decide +kernel
theorem d_T_init_13 : decode prog_3_method_1_code 13 = .ok (.bipush 60, 2) := by decide +kernel
theorem d_T_init_15 : decode prog_3_method_1_code 15 = .ok (.newarray .int, 2) := by decide +kernel
theorem d_T_init_17 : decode prog_3_method_1_code 17 = .ok (.putfield 15, 3) := by decide +kernel
theorem d_T_init_20 : decode prog_3_method_1_code 20 = .ok (.aload_n 0, 1) := by decide +kernel
theorem d_T_init_21 : decode prog_3_method_1_code 21 = .ok (.bipush 60, 2) := by decide +kernel
theorem d_T_init_23 : decode prog_3_method_1_code 23 = .ok (.newarray .int, 2) := by decide +kernel
theorem d_T_init_25 : decode prog_3_method_1_code 25 = .ok (.putfield 18, 3) := by decide +kernel
theorem d_T_init_28 : decode prog_3_method_1_code 28 = .ok (.aload_n 0, 1) := by decide +kernel
theorem d_T_init_29 : decode prog_3_method_1_code 29 = .ok (.bipush 60, 2) := by decide +kernel
theorem d_T_init_31 : decode prog_3_method_1_code 31 = .ok (.newarray .int, 2) := by decide +kernel
theorem d_T_init_33 : decode prog_3_method_1_code 33 = .ok (.putfield 21, 3) := by decide +kernel
theorem d_T_init_36 : decode prog_3_method_1_code 36 = .ok (.aload_n 0, 1) := by decide +kernel
theorem d_T_init_37 : decode prog_3_method_1_code 37 = .ok (.getfield 21, 3) := by decide +kernel
theorem d_T_init_40 : decode prog_3_method_1_code 40 = .ok (.iconst (-1), 1) := by decide +kernel
theorem d_T_init_41 : decode prog_3_method_1_code 41 = .ok (.invokestatic 24, 3) := by decide +kernel
theorem d_T_init_44 : decode prog_3_method_1_code 44 = .ok (.return_, 1) := by decide +kernel
theorem d_R_init_0 : decode prog_2_method_1_code 0 = .ok (.aload_n 0, 1) := by decide +kernel
theorem d_R_init_1 : decode prog_2_method_1_code 1 = .ok (.invokespecial 3, 3) := by decide +kernel
theorem d_R_init_4 : decode prog_2_method_1_code 4 = .ok (.aload_n 0, 1) := by decide +kernel
theorem d_R_init_5 : decode prog_2_method_1_code 5 = .ok (.sipush 400, 3) := by decide +kernel
theorem d_R_init_8 : decode prog_2_method_1_code 8 = .ok (.newarray .int, 2) := by decide +kernel
theorem d_R_init_10 : decode prog_2_method_1_code 10 = .ok (.putfield 9, 3) := by decide +kernel
theorem d_R_init_13 : decode prog_2_method_1_code 13 = .ok (.aload_n 0, 1) := by decide +kernel
theorem d_R_init_14 : decode prog_2_method_1_code 14 = .ok (.sipush 400, 3) := by decide +kernel
theorem d_R_init_17 : decode prog_2_method_1_code 17 = .ok (.newarray .int, 2) := by decide +kernel
theorem d_R_init_19 : decode prog_2_method_1_code 19 = .ok (.putfield 15, 3) := by decide +kernel
theorem d_R_init_22 : decode prog_2_method_1_code 22 = .ok (.aload_n 0, 1) := by decide +kernel
theorem d_R_init_23 : decode prog_2_method_1_code 23 = .ok (.sipush 400, 3) := by decide +kernel
theorem d_R_init_26 : decode prog_2_method_1_code 26 = .ok (.newarray .int, 2) := by decide +kernel
theorem d_R_init_28 : decode prog_2_method_1_code 28 = .ok (.putfield 18, 3) := by decide +kernel
theorem d_R_init_31 : decode prog_2_method_1_code 31 = .ok (.aload_n 0, 1) := by decide +kernel
theorem d_R_init_32 : decode prog_2_method_1_code 32 = .ok (.bipush 20, 2) := by decide +kernel
theorem d_R_init_34 : decode prog_2_method_1_code 34 = .ok (.newarray .int, 2) := by decide +kernel
theorem d_R_init_36 : decode prog_2_method_1_code 36 = .ok (.putfield 21, 3) := by decide +kernel
theorem d_R_init_39 : decode prog_2_method_1_code 39 = .ok (.aload_n 0, 1) := by decide +kernel
theorem d_R_init_40 : decode prog_2_method_1_code 40 = .ok (.getfield 21, 3) := by decide +kernel
theorem d_R_init_43 : decode prog_2_method_1_code 43 = .ok (.iconst (-1), 1) := by decide +kernel
theorem d_R_init_44 : decode prog_2_method_1_code 44 = .ok (.invokestatic 24, 3) := by decide +kernel
theorem d_R_init_47 : decode prog_2_method_1_code 47 = .ok (.return_, 1) := by decide +kernel
theorem d_R_note_0 : decode prog_2_method_2_code 0 = .ok (.aload_n 0, 1) := by decide +kernel
theorem d_R_note_1 : decode prog_2_method_2_code 1 = .ok (.getfield 30, 3) := by decide +kernel
theorem d_R_note_4 : decode prog_2_method_2_code 4 = .ok (.sipush 400, 3) := by decide +kernel
theorem d_R_note_7 : decode prog_2_method_2_code 7 = .ok (.if_icmp .lt 7, 3) := by decide +kernel
theorem d_R_note_10 : decode prog_2_method_2_code 10 = .ok (.aload_n 0, 1) := by decide +kernel
theorem d_R_note_11 : decode prog_2_method_2_code 11 = .ok (.invokevirtual 34, 3) := by decide +kernel
theorem d_R_note_14 : decode prog_2_method_2_code 14 = .ok (.aload_n 0, 1) := by decide +kernel
theorem d_R_note_15 : decode prog_2_method_2_code 15 = .ok (.aload_n 0, 1) := by decide +kernel
theorem d_R_note_16 : decode prog_2_method_2_code 16 = .ok (.getfield 30, 3) := by decide +kernel
theorem d_R_note_19 : decode prog_2_method_2_code 19 = .ok (.invokevirtual 37, 3) := by decide +kernel
theorem d_R_note_22 : decode prog_2_method_2_code 22 = .ok (.istore 4, 2) := by decide +kernel
theorem d_R_note_24 : decode prog_2_method_2_code 24 = .ok (.aload_n 0, 1) := by decide +kernel
theorem d_R_note_25 : decode prog_2_method_2_code 25 = .ok (.getfield 9, 3) := by decide +kernel
theorem d_R_note_28 : decode prog_2_method_2_code 28 = .ok (.iload 4, 2) := by decide +kernel
theorem d_R_note_30 : decode prog_2_method_2_code 30 = .ok (.iload_n 1, 1) := by decide +kernel
theorem d_R_note_31 : decode prog_2_method_2_code 31 = .ok (.iastore, 1) := by decide +kernel
theorem d_R_note_32 : decode prog_2_method_2_code 32 = .ok (.aload_n 0, 1) := by decide +kernel
theorem d_R_note_33 : decode prog_2_method_2_code 33 = .ok (.getfield 15, 3) := by decide +kernel
theorem d_R_note_36 : decode prog_2_method_2_code 36 = .ok (.iload 4, 2) := by decide +kernel
theorem d_R_note_38 : decode prog_2_method_2_code 38 = .ok (.iload_n 2, 1) := by decide +kernel
theorem d_R_note_39 : decode prog_2_method_2_code 39 = .ok (.iastore, 1) := by decide +kernel
theorem d_R_note_40 : decode prog_2_method_2_code 40 = .ok (.aload_n 0, 1) := by decide +kernel
theorem d_R_note_41 : decode prog_2_method_2_code 41 = .ok (.getfield 18, 3) := by decide +kernel
theorem d_R_note_44 : decode prog_2_method_2_code 44 = .ok (.iload 4, 2) := by decide +kernel
theorem d_R_note_46 : decode prog_2_method_2_code 46 = .ok (.iload_n 3, 1) := by decide +kernel
theorem d_R_note_47 : decode prog_2_method_2_code 47 = .ok (.iastore, 1) := by decide +kernel
theorem d_R_note_48 : decode prog_2_method_2_code 48 = .ok (.aload_n 0, 1) := by decide +kernel
theorem d_R_note_49 : decode prog_2_method_2_code 49 = .ok (.dup, 1) := by decide +kernel
theorem d_R_note_50 : decode prog_2_method_2_code 50 = .ok (.getfield 30, 3) := by decide +kernel
theorem d_R_note_53 : decode prog_2_method_2_code 53 = .ok (.iconst 1, 1) := by decide +kernel
theorem d_R_note_54 : decode prog_2_method_2_code 54 = .ok (.iadd, 1) := by decide +kernel
theorem d_R_note_55 : decode prog_2_method_2_code 55 = .ok (.putfield 30, 3) := by decide +kernel
theorem d_R_note_58 : decode prog_2_method_2_code 58 = .ok (.return_, 1) := by decide +kernel
theorem d_R_dropOldest_0 : decode prog_2_method_3_code 0 = .ok (.aload_n 0, 1) := by decide +kernel
theorem d_R_dropOldest_1 : decode prog_2_method_3_code 1 = .ok (.getfield 21, 3) := by decide +kernel
theorem d_R_dropOldest_4 : decode prog_2_method_3_code 4 = .ok (.aload_n 0, 1) := by decide +kernel
theorem d_R_dropOldest_5 : decode prog_2_method_3_code 5 = .ok (.getfield 15, 3) := by decide +kernel
theorem d_R_dropOldest_8 : decode prog_2_method_3_code 8 = .ok (.aload_n 0, 1) := by decide +kernel
theorem d_R_dropOldest_9 : decode prog_2_method_3_code 9 = .ok (.getfield 41, 3) := by decide +kernel
theorem d_R_dropOldest_12 : decode prog_2_method_3_code 12 = .ok (.iaload, 1) := by decide +kernel
theorem d_R_dropOldest_13 : decode prog_2_method_3_code 13 = .ok (.aload_n 0, 1) := by decide +kernel
theorem d_R_dropOldest_14 : decode prog_2_method_3_code 14 = .ok (.getfield 18, 3) := by decide +kernel
theorem d_R_dropOldest_17 : decode prog_2_method_3_code 17 = .ok (.aload_n 0, 1) := by decide +kernel
theorem d_R_dropOldest_18 : decode prog_2_method_3_code 18 = .ok (.getfield 41, 3) := by decide +kernel
theorem d_R_dropOldest_21 : decode prog_2_method_3_code 21 = .ok (.iaload, 1) := by decide +kernel
theorem d_R_dropOldest_22 : decode prog_2_method_3_code 22 = .ok (.iastore, 1) := by decide +kernel
theorem d_R_dropOldest_23 : decode prog_2_method_3_code 23 = .ok (.aload_n 0, 1) := by decide +kernel
theorem d_R_dropOldest_24 : decode prog_2_method_3_code 24 = .ok (.aload_n 0, 1) := by decide +kernel
theorem d_R_dropOldest_25 : decode prog_2_method_3_code 25 = .ok (.getfield 9, 3) := by decide +kernel
theorem d_R_dropOldest_28 : decode prog_2_method_3_code 28 = .ok (.aload_n 0, 1) := by decide +kernel
theorem d_R_dropOldest_29 : decode prog_2_method_3_code 29 = .ok (.getfield 41, 3) := by decide +kernel
theorem d_R_dropOldest_32 : decode prog_2_method_3_code 32 = .ok (.iaload, 1) := by decide +kernel
theorem d_R_dropOldest_33 : decode prog_2_method_3_code 33 = .ok (.putfield 44, 3) := by decide +kernel
theorem d_R_dropOldest_36 : decode prog_2_method_3_code 36 = .ok (.aload_n 0, 1) := by decide +kernel
theorem d_R_dropOldest_37 : decode prog_2_method_3_code 37 = .ok (.aload_n 0, 1) := by decide +kernel
theorem d_R_dropOldest_38 : decode prog_2_method_3_code 38 = .ok (.iconst 1, 1) := by decide +kernel
theorem d_R_dropOldest_39 : decode prog_2_method_3_code 39 = .ok (.invokevirtual 37, 3) := by decide +kernel
theorem d_R_dropOldest_42 : decode prog_2_method_3_code 42 = .ok (.putfield 41, 3) := by decide +kernel
theorem d_R_dropOldest_45 : decode prog_2_method_3_code 45 = .ok (.aload_n 0, 1) := by decide +kernel
theorem d_R_dropOldest_46 : decode prog_2_method_3_code 46 = .ok (.dup, 1) := by decide +kernel
theorem d_R_dropOldest_47 : decode prog_2_method_3_code 47 = .ok (.getfield 30, 3) := by decide +kernel
theorem d_R_dropOldest_50 : decode prog_2_method_3_code 50 = .ok (.iconst 1, 1) := by decide +kernel
theorem d_R_dropOldest_51 : decode prog_2_method_3_code 51 = .ok (.isub, 1) := by decide +kernel
theorem d_R_dropOldest_52 : decode prog_2_method_3_code 52 = .ok (.putfield 30, 3) := by decide +kernel
theorem d_R_dropOldest_55 : decode prog_2_method_3_code 55 = .ok (.return_, 1) := by decide +kernel
theorem d_R_ringIndex_0 : decode prog_2_method_4_code 0 = .ok (.aload_n 0, 1) := by decide +kernel
theorem d_R_ringIndex_1 : decode prog_2_method_4_code 1 = .ok (.getfield 41, 3) := by decide +kernel
theorem d_R_ringIndex_4 : decode prog_2_method_4_code 4 = .ok (.iload_n 1, 1) := by decide +kernel
theorem d_R_ringIndex_5 : decode prog_2_method_4_code 5 = .ok (.iadd, 1) := by decide +kernel
theorem d_R_ringIndex_6 : decode prog_2_method_4_code 6 = .ok (.istore_n 2, 1) := by decide +kernel
theorem d_R_ringIndex_7 : decode prog_2_method_4_code 7 = .ok (.iload_n 2, 1) := by decide +kernel
theorem d_R_ringIndex_8 : decode prog_2_method_4_code 8 = .ok (.sipush 400, 3) := by decide +kernel
theorem d_R_ringIndex_11 : decode prog_2_method_4_code 11 = .ok (.if_icmp .ge 7, 3) := by decide +kernel
theorem d_R_ringIndex_14 : decode prog_2_method_4_code 14 = .ok (.iload_n 2, 1) := by decide +kernel
theorem d_R_ringIndex_15 : decode prog_2_method_4_code 15 = .ok (.goto 8, 3) := by decide +kernel
theorem d_R_ringIndex_18 : decode prog_2_method_4_code 18 = .ok (.iload_n 2, 1) := by decide +kernel
theorem d_R_ringIndex_19 : decode prog_2_method_4_code 19 = .ok (.sipush 400, 3) := by decide +kernel
theorem d_R_ringIndex_22 : decode prog_2_method_4_code 22 = .ok (.isub, 1) := by decide +kernel
theorem d_R_ringIndex_23 : decode prog_2_method_4_code 23 = .ok (.ireturn, 1) := by decide +kernel
theorem d_T_giveUnanswered_0 : decode prog_3_method_11_code 0 = .ok (.iconst 0, 1) := by decide +kernel
theorem d_T_giveUnanswered_1 : decode prog_3_method_11_code 1 = .ok (.istore_n 3, 1) := by decide +kernel
theorem d_T_giveUnanswered_2 : decode prog_3_method_11_code 2 = .ok (.iload_n 3, 1) := by decide +kernel
theorem d_T_giveUnanswered_3 : decode prog_3_method_11_code 3 = .ok (.aload_n 0, 1) := by decide +kernel
theorem d_T_giveUnanswered_4 : decode prog_3_method_11_code 4 = .ok (.getfield 30, 3) := by decide +kernel
theorem d_T_giveUnanswered_7 : decode prog_3_method_11_code 7 = .ok (.if_icmp .ge 34, 3) := by decide +kernel
theorem d_T_giveUnanswered_10 : decode prog_3_method_11_code 10 = .ok (.aload_n 0, 1) := by decide +kernel
theorem d_T_giveUnanswered_11 : decode prog_3_method_11_code 11 = .ok (.getfield 9, 3) := by decide +kernel
theorem d_T_giveUnanswered_14 : decode prog_3_method_11_code 14 = .ok (.iload_n 3, 1) := by decide +kernel
theorem d_T_giveUnanswered_15 : decode prog_3_method_11_code 15 = .ok (.iaload, 1) := by decide +kernel
theorem d_T_giveUnanswered_16 : decode prog_3_method_11_code 16 = .ok (.iload_n 1, 1) := by decide +kernel
theorem d_T_giveUnanswered_17 : decode prog_3_method_11_code 17 = .ok (.if_icmp .ne 18, 3) := by decide +kernel
theorem d_T_giveUnanswered_20 : decode prog_3_method_11_code 20 = .ok (.aload_n 0, 1) := by decide +kernel
theorem d_T_giveUnanswered_21 : decode prog_3_method_11_code 21 = .ok (.iload_n 3, 1) := by decide +kernel
theorem d_T_giveUnanswered_22 : decode prog_3_method_11_code 22 = .ok (.invokevirtual 38, 3) := by decide +kernel
theorem d_T_giveUnanswered_25 : decode prog_3_method_11_code 25 = .ok (.ifCond .ne 10, 3) := by decide +kernel
theorem d_T_giveUnanswered_28 : decode prog_3_method_11_code 28 = .ok (.aload_n 0, 1) := by decide +kernel
theorem d_T_giveUnanswered_29 : decode prog_3_method_11_code 29 = .ok (.getfield 9, 3) := by decide +kernel
theorem d_T_giveUnanswered_32 : decode prog_3_method_11_code 32 = .ok (.iload_n 3, 1) := by decide +kernel
theorem d_T_giveUnanswered_33 : decode prog_3_method_11_code 33 = .ok (.iload_n 2, 1) := by decide +kernel
theorem d_T_giveUnanswered_34 : decode prog_3_method_11_code 34 = .ok (.iastore, 1) := by decide +kernel
theorem d_T_giveUnanswered_35 : decode prog_3_method_11_code 35 = .ok (.iinc 3 1, 3) := by decide +kernel
theorem d_T_giveUnanswered_38 : decode prog_3_method_11_code 38 = .ok (.goto (-36), 3) := by decide +kernel
theorem d_T_giveUnanswered_41 : decode prog_3_method_11_code 41 = .ok (.return_, 1) := by decide +kernel
theorem d_T_isAnswered_0 : decode prog_3_method_5_code 0 = .ok (.aload_n 0, 1) := by decide +kernel
theorem d_T_isAnswered_1 : decode prog_3_method_5_code 1 = .ok (.getfield 18, 3) := by decide +kernel
theorem d_T_isAnswered_4 : decode prog_3_method_5_code 4 = .ok (.iload_n 1, 1) := by decide +kernel
theorem d_T_isAnswered_5 : decode prog_3_method_5_code 5 = .ok (.iaload, 1) := by decide +kernel
theorem d_T_isAnswered_6 : decode prog_3_method_5_code 6 = .ok (.ifCond .eq 7, 3) := by decide +kernel
theorem d_T_isAnswered_9 : decode prog_3_method_5_code 9 = .ok (.iconst 1, 1) := by decide +kernel
theorem d_T_isAnswered_10 : decode prog_3_method_5_code 10 = .ok (.goto 4, 3) := by decide +kernel
theorem d_T_isAnswered_13 : decode prog_3_method_5_code 13 = .ok (.iconst 0, 1) := by decide +kernel
theorem d_T_isAnswered_14 : decode prog_3_method_5_code 14 = .ok (.ireturn, 1) := by decide +kernel
theorem d_T_isFull_0 : decode prog_3_method_2_code 0 = .ok (.aload_n 0, 1) := by decide +kernel
theorem d_T_isFull_1 : decode prog_3_method_2_code 1 = .ok (.getfield 30, 3) := by decide +kernel
theorem d_T_isFull_4 : decode prog_3_method_2_code 4 = .ok (.bipush 60, 2) := by decide +kernel
theorem d_T_isFull_6 : decode prog_3_method_2_code 6 = .ok (.if_icmp .lt 7, 3) := by decide +kernel
theorem d_T_isFull_9 : decode prog_3_method_2_code 9 = .ok (.iconst 1, 1) := by decide +kernel
theorem d_T_isFull_10 : decode prog_3_method_2_code 10 = .ok (.goto 4, 3) := by decide +kernel
theorem d_T_isFull_13 : decode prog_3_method_2_code 13 = .ok (.iconst 0, 1) := by decide +kernel
theorem d_T_isFull_14 : decode prog_3_method_2_code 14 = .ok (.ireturn, 1) := by decide +kernel
theorem d_T_add_0 : decode prog_3_method_4_code 0 = .ok (.aload_n 0, 1) := by decide +kernel
theorem d_T_add_1 : decode prog_3_method_4_code 1 = .ok (.invokevirtual 34, 3) := by decide +kernel
theorem d_T_add_4 : decode prog_3_method_4_code 4 = .ok (.ifCond .eq 5, 3) := by decide +kernel
theorem d_T_add_7 : decode prog_3_method_4_code 7 = .ok (.iconst (-1), 1) := by decide +kernel
theorem d_T_add_8 : decode prog_3_method_4_code 8 = .ok (.ireturn, 1) := by decide +kernel
theorem d_T_add_9 : decode prog_3_method_4_code 9 = .ok (.aload_n 0, 1) := by decide +kernel
theorem d_T_add_10 : decode prog_3_method_4_code 10 = .ok (.getfield 30, 3) := by decide +kernel
theorem d_T_add_13 : decode prog_3_method_4_code 13 = .ok (.istore_n 3, 1) := by decide +kernel
theorem d_T_add_14 : decode prog_3_method_4_code 14 = .ok (.aload_n 0, 1) := by decide +kernel
theorem d_T_add_15 : decode prog_3_method_4_code 15 = .ok (.getfield 9, 3) := by decide +kernel
theorem d_T_add_18 : decode prog_3_method_4_code 18 = .ok (.iload_n 3, 1) := by decide +kernel
theorem d_T_add_19 : decode prog_3_method_4_code 19 = .ok (.iload_n 1, 1) := by decide +kernel
theorem d_T_add_20 : decode prog_3_method_4_code 20 = .ok (.iastore, 1) := by decide +kernel
theorem d_T_add_21 : decode prog_3_method_4_code 21 = .ok (.aload_n 0, 1) := by decide +kernel
theorem d_T_add_22 : decode prog_3_method_4_code 22 = .ok (.getfield 15, 3) := by decide +kernel
theorem d_T_add_25 : decode prog_3_method_4_code 25 = .ok (.iload_n 3, 1) := by decide +kernel
theorem d_T_add_26 : decode prog_3_method_4_code 26 = .ok (.iload_n 2, 1) := by decide +kernel
theorem d_T_add_27 : decode prog_3_method_4_code 27 = .ok (.iastore, 1) := by decide +kernel
theorem d_T_add_28 : decode prog_3_method_4_code 28 = .ok (.aload_n 0, 1) := by decide +kernel
theorem d_T_add_29 : decode prog_3_method_4_code 29 = .ok (.dup, 1) := by decide +kernel
theorem d_T_add_30 : decode prog_3_method_4_code 30 = .ok (.getfield 30, 3) := by decide +kernel
theorem d_T_add_33 : decode prog_3_method_4_code 33 = .ok (.iconst 1, 1) := by decide +kernel
theorem d_T_add_34 : decode prog_3_method_4_code 34 = .ok (.iadd, 1) := by decide +kernel
theorem d_T_add_35 : decode prog_3_method_4_code 35 = .ok (.putfield 30, 3) := by decide +kernel
theorem d_T_add_38 : decode prog_3_method_4_code 38 = .ok (.iload_n 3, 1) := by decide +kernel
theorem d_T_add_39 : decode prog_3_method_4_code 39 = .ok (.ireturn, 1) := by decide +kernel
theorem d_T_has_0 : decode prog_3_method_3_code 0 = .ok (.iload_n 1, 1) := by decide +kernel
theorem d_T_has_1 : decode prog_3_method_3_code 1 = .ok (.ifCond .lt 15, 3) := by decide +kernel
theorem d_T_has_4 : decode prog_3_method_3_code 4 = .ok (.iload_n 1, 1) := by decide +kernel
theorem d_T_has_5 : decode prog_3_method_3_code 5 = .ok (.aload_n 0, 1) := by decide +kernel
theorem d_T_has_6 : decode prog_3_method_3_code 6 = .ok (.getfield 30, 3) := by decide +kernel
theorem d_T_has_9 : decode prog_3_method_3_code 9 = .ok (.if_icmp .ge 7, 3) := by decide +kernel
theorem d_T_has_12 : decode prog_3_method_3_code 12 = .ok (.iconst 1, 1) := by decide +kernel
theorem d_T_has_13 : decode prog_3_method_3_code 13 = .ok (.goto 4, 3) := by decide +kernel
theorem d_T_has_16 : decode prog_3_method_3_code 16 = .ok (.iconst 0, 1) := by decide +kernel
theorem d_T_has_17 : decode prog_3_method_3_code 17 = .ok (.ireturn, 1) := by decide +kernel
theorem d_T_setAnswer_0 : decode prog_3_method_6_code 0 = .ok (.aload_n 0, 1) := by decide +kernel
theorem d_T_setAnswer_1 : decode prog_3_method_6_code 1 = .ok (.getfield 18, 3) := by decide +kernel
theorem d_T_setAnswer_4 : decode prog_3_method_6_code 4 = .ok (.iload_n 1, 1) := by decide +kernel
theorem d_T_setAnswer_5 : decode prog_3_method_6_code 5 = .ok (.iload_n 2, 1) := by decide +kernel
theorem d_T_setAnswer_6 : decode prog_3_method_6_code 6 = .ok (.ifCond .eq 7, 3) := by decide +kernel
theorem d_T_setAnswer_9 : decode prog_3_method_6_code 9 = .ok (.iconst 1, 1) := by decide +kernel
theorem d_T_setAnswer_10 : decode prog_3_method_6_code 10 = .ok (.goto 4, 3) := by decide +kernel
theorem d_T_setAnswer_13 : decode prog_3_method_6_code 13 = .ok (.iconst 2, 1) := by decide +kernel
theorem d_T_setAnswer_14 : decode prog_3_method_6_code 14 = .ok (.iastore, 1) := by decide +kernel
theorem d_T_setAnswer_15 : decode prog_3_method_6_code 15 = .ok (.aload_n 0, 1) := by decide +kernel
theorem d_T_setAnswer_16 : decode prog_3_method_6_code 16 = .ok (.getfield 21, 3) := by decide +kernel
theorem d_T_setAnswer_19 : decode prog_3_method_6_code 19 = .ok (.iload_n 1, 1) := by decide +kernel
theorem d_T_setAnswer_20 : decode prog_3_method_6_code 20 = .ok (.iload_n 3, 1) := by decide +kernel
theorem d_T_setAnswer_21 : decode prog_3_method_6_code 21 = .ok (.iastore, 1) := by decide +kernel
theorem d_T_setAnswer_22 : decode prog_3_method_6_code 22 = .ok (.return_, 1) := by decide +kernel
theorem d_T_countNewlyOverdue_0 : decode prog_3_method_10_code 0 = .ok (.iconst 0, 1) := by decide +kernel
theorem d_T_countNewlyOverdue_1 : decode prog_3_method_10_code 1 = .ok (.istore_n 3, 1) := by decide +kernel
theorem d_T_countNewlyOverdue_2 : decode prog_3_method_10_code 2 = .ok (.iconst 0, 1) := by decide +kernel
theorem d_T_countNewlyOverdue_3 : decode prog_3_method_10_code 3 = .ok (.istore 4, 2) := by decide +kernel
theorem d_T_countNewlyOverdue_5 : decode prog_3_method_10_code 5 = .ok (.iload 4, 2) := by decide +kernel
theorem d_T_countNewlyOverdue_7 : decode prog_3_method_10_code 7 = .ok (.aload_n 0, 1) := by decide +kernel
theorem d_T_countNewlyOverdue_8 : decode prog_3_method_10_code 8 = .ok (.getfield 30, 3) := by decide +kernel
theorem d_T_countNewlyOverdue_11 : decode prog_3_method_10_code 11 = .ok (.if_icmp .ge 33, 3) := by decide +kernel
theorem d_T_countNewlyOverdue_14 : decode prog_3_method_10_code 14 = .ok (.aload_n 0, 1) := by decide +kernel
theorem d_T_countNewlyOverdue_15 : decode prog_3_method_10_code 15 = .ok (.iload 4, 2) := by decide +kernel
theorem d_T_countNewlyOverdue_17 : decode prog_3_method_10_code 17 = .ok (.iload_n 1, 1) := by decide +kernel
theorem d_T_countNewlyOverdue_18 : decode prog_3_method_10_code 18 = .ok (.invokevirtual 42, 3) := by decide +kernel
theorem d_T_countNewlyOverdue_21 : decode prog_3_method_10_code 21 = .ok (.ifCond .ne 17, 3) := by decide +kernel
theorem d_T_countNewlyOverdue_24 : decode prog_3_method_10_code 24 = .ok (.aload_n 0, 1) := by decide +kernel
theorem d_T_countNewlyOverdue_25 : decode prog_3_method_10_code 25 = .ok (.iload 4, 2) := by decide +kernel
theorem d_T_countNewlyOverdue_27 : decode prog_3_method_10_code 27 = .ok (.iload_n 2, 1) := by decide +kernel
theorem d_T_countNewlyOverdue_28 : decode prog_3_method_10_code 28 = .ok (.invokevirtual 42, 3) := by decide +kernel
theorem d_T_countNewlyOverdue_31 : decode prog_3_method_10_code 31 = .ok (.iconst 3, 1) := by decide +kernel
theorem d_T_countNewlyOverdue_32 : decode prog_3_method_10_code 32 = .ok (.if_icmp .ne 6, 3) := by decide +kernel
theorem d_T_countNewlyOverdue_35 : decode prog_3_method_10_code 35 = .ok (.iinc 3 1, 3) := by decide +kernel
theorem d_T_countNewlyOverdue_38 : decode prog_3_method_10_code 38 = .ok (.iinc 4 1, 3) := by decide +kernel
theorem d_T_countNewlyOverdue_41 : decode prog_3_method_10_code 41 = .ok (.goto (-36), 3) := by decide +kernel
theorem d_T_countNewlyOverdue_44 : decode prog_3_method_10_code 44 = .ok (.iload_n 3, 1) := by decide +kernel
theorem d_T_countNewlyOverdue_45 : decode prog_3_method_10_code 45 = .ok (.ireturn, 1) := by decide +kernel
theorem d_T_stateOf_0 : decode prog_3_method_8_code 0 = .ok (.aload_n 0, 1) := by decide +kernel
theorem d_T_stateOf_1 : decode prog_3_method_8_code 1 = .ok (.iload_n 1, 1) := by decide +kernel
theorem d_T_stateOf_2 : decode prog_3_method_8_code 2 = .ok (.invokevirtual 38, 3) := by decide +kernel
theorem d_T_stateOf_5 : decode prog_3_method_8_code 5 = .ok (.ifCond .eq 10, 3) := by decide +kernel
theorem d_T_stateOf_8 : decode prog_3_method_8_code 8 = .ok (.aload_n 0, 1) := by decide +kernel
theorem d_T_stateOf_9 : decode prog_3_method_8_code 9 = .ok (.getfield 18, 3) := by decide +kernel
theorem d_T_stateOf_12 : decode prog_3_method_8_code 12 = .ok (.iload_n 1, 1) := by decide +kernel
theorem d_T_stateOf_13 : decode prog_3_method_8_code 13 = .ok (.iaload, 1) := by decide +kernel
theorem d_T_stateOf_14 : decode prog_3_method_8_code 14 = .ok (.ireturn, 1) := by decide +kernel
theorem d_T_stateOf_15 : decode prog_3_method_8_code 15 = .ok (.iload_n 2, 1) := by decide +kernel
theorem d_T_stateOf_16 : decode prog_3_method_8_code 16 = .ok (.aload_n 0, 1) := by decide +kernel
theorem d_T_stateOf_17 : decode prog_3_method_8_code 17 = .ok (.getfield 15, 3) := by decide +kernel
theorem d_T_stateOf_20 : decode prog_3_method_8_code 20 = .ok (.iload_n 1, 1) := by decide +kernel
theorem d_T_stateOf_21 : decode prog_3_method_8_code 21 = .ok (.iaload, 1) := by decide +kernel
theorem d_T_stateOf_22 : decode prog_3_method_8_code 22 = .ok (.if_icmp .le 7, 3) := by decide +kernel
theorem d_T_stateOf_25 : decode prog_3_method_8_code 25 = .ok (.iconst 3, 1) := by decide +kernel
theorem d_T_stateOf_26 : decode prog_3_method_8_code 26 = .ok (.goto 4, 3) := by decide +kernel
theorem d_T_stateOf_29 : decode prog_3_method_8_code 29 = .ok (.iconst 0, 1) := by decide +kernel
theorem d_T_stateOf_30 : decode prog_3_method_8_code 30 = .ok (.ireturn, 1) := by decide +kernel
theorem d_R_reachBackTo_0 : decode prog_2_method_5_code 0 = .ok (.iload_n 1, 1) := by decide +kernel
theorem d_R_reachBackTo_1 : decode prog_2_method_5_code 1 = .ok (.aload_n 0, 1) := by decide +kernel
theorem d_R_reachBackTo_2 : decode prog_2_method_5_code 2 = .ok (.getfield 44, 3) := by decide +kernel
theorem d_R_reachBackTo_5 : decode prog_2_method_5_code 5 = .ok (.if_icmp .lt 7, 3) := by decide +kernel
theorem d_R_reachBackTo_8 : decode prog_2_method_5_code 8 = .ok (.iconst 1, 1) := by decide +kernel
theorem d_R_reachBackTo_9 : decode prog_2_method_5_code 9 = .ok (.goto 4, 3) := by decide +kernel
theorem d_R_reachBackTo_12 : decode prog_2_method_5_code 12 = .ok (.iconst 0, 1) := by decide +kernel
theorem d_R_reachBackTo_13 : decode prog_2_method_5_code 13 = .ok (.ireturn, 1) := by decide +kernel
theorem d_R_leaderBehind_0 : decode prog_2_method_6_code 0 = .ok (.aload_n 0, 1) := by decide +kernel
theorem d_R_leaderBehind_1 : decode prog_2_method_6_code 1 = .ok (.getfield 21, 3) := by decide +kernel
theorem d_R_leaderBehind_4 : decode prog_2_method_6_code 4 = .ok (.iload_n 1, 1) := by decide +kernel
theorem d_R_leaderBehind_5 : decode prog_2_method_6_code 5 = .ok (.iaload, 1) := by decide +kernel
theorem d_R_leaderBehind_6 : decode prog_2_method_6_code 6 = .ok (.istore_n 3, 1) := by decide +kernel
theorem d_R_leaderBehind_7 : decode prog_2_method_6_code 7 = .ok (.iconst 0, 1) := by decide +kernel
theorem d_R_leaderBehind_8 : decode prog_2_method_6_code 8 = .ok (.istore 4, 2) := by decide +kernel
theorem d_R_leaderBehind_10 : decode prog_2_method_6_code 10 = .ok (.iload 4, 2) := by decide +kernel
theorem d_R_leaderBehind_12 : decode prog_2_method_6_code 12 = .ok (.aload_n 0, 1) := by decide +kernel
theorem d_R_leaderBehind_13 : decode prog_2_method_6_code 13 = .ok (.getfield 30, 3) := by decide +kernel
theorem d_R_leaderBehind_16 : decode prog_2_method_6_code 16 = .ok (.if_icmp .ge 49, 3) := by decide +kernel
theorem d_R_leaderBehind_19 : decode prog_2_method_6_code 19 = .ok (.aload_n 0, 1) := by decide +kernel
theorem d_R_leaderBehind_20 : decode prog_2_method_6_code 20 = .ok (.iload 4, 2) := by decide +kernel
theorem d_R_leaderBehind_22 : decode prog_2_method_6_code 22 = .ok (.invokevirtual 37, 3) := by decide +kernel
theorem d_R_leaderBehind_25 : decode prog_2_method_6_code 25 = .ok (.istore 5, 2) := by decide +kernel
theorem d_R_leaderBehind_27 : decode prog_2_method_6_code 27 = .ok (.aload_n 0, 1) := by decide +kernel
theorem d_R_leaderBehind_28 : decode prog_2_method_6_code 28 = .ok (.getfield 9, 3) := by decide +kernel
theorem d_R_leaderBehind_31 : decode prog_2_method_6_code 31 = .ok (.iload 5, 2) := by decide +kernel
theorem d_R_leaderBehind_33 : decode prog_2_method_6_code 33 = .ok (.iaload, 1) := by decide +kernel
theorem d_R_leaderBehind_34 : decode prog_2_method_6_code 34 = .ok (.iload_n 2, 1) := by decide +kernel
theorem d_R_leaderBehind_35 : decode prog_2_method_6_code 35 = .ok (.if_icmp .le 5, 3) := by decide +kernel
theorem d_R_leaderBehind_38 : decode prog_2_method_6_code 38 = .ok (.iload_n 3, 1) := by decide +kernel
theorem d_R_leaderBehind_39 : decode prog_2_method_6_code 39 = .ok (.ireturn, 1) := by decide +kernel
theorem d_R_leaderBehind_40 : decode prog_2_method_6_code 40 = .ok (.aload_n 0, 1) := by decide +kernel
theorem d_R_leaderBehind_41 : decode prog_2_method_6_code 41 = .ok (.getfield 15, 3) := by decide +kernel
theorem d_R_leaderBehind_44 : decode prog_2_method_6_code 44 = .ok (.iload 5, 2) := by decide +kernel
theorem d_R_leaderBehind_46 : decode prog_2_method_6_code 46 = .ok (.iaload, 1) := by decide +kernel
theorem d_R_leaderBehind_47 : decode prog_2_method_6_code 47 = .ok (.iload_n 1, 1) := by decide +kernel
theorem d_R_leaderBehind_48 : decode prog_2_method_6_code 48 = .ok (.if_icmp .ne 11, 3) := by decide +kernel
theorem d_R_leaderBehind_51 : decode prog_2_method_6_code 51 = .ok (.aload_n 0, 1) := by decide +kernel
theorem d_R_leaderBehind_52 : decode prog_2_method_6_code 52 = .ok (.getfield 18, 3) := by decide +kernel
theorem d_R_leaderBehind_55 : decode prog_2_method_6_code 55 = .ok (.iload 5, 2) := by decide +kernel
theorem d_R_leaderBehind_57 : decode prog_2_method_6_code 57 = .ok (.iaload, 1) := by decide +kernel
theorem d_R_leaderBehind_58 : decode prog_2_method_6_code 58 = .ok (.istore_n 3, 1) := by decide +kernel
theorem d_R_leaderBehind_59 : decode prog_2_method_6_code 59 = .ok (.iinc 4 1, 3) := by decide +kernel
theorem d_R_leaderBehind_62 : decode prog_2_method_6_code 62 = .ok (.goto (-52), 3) := by decide +kernel
theorem d_R_leaderBehind_65 : decode prog_2_method_6_code 65 = .ok (.iload_n 3, 1) := by decide +kernel
theorem d_R_leaderBehind_66 : decode prog_2_method_6_code 66 = .ok (.ireturn, 1) := by decide +kernel
theorem d_T_sectorOf_0 : decode prog_3_method_7_code 0 = .ok (.aload_n 0, 1) := by decide +kernel
theorem d_T_sectorOf_1 : decode prog_3_method_7_code 1 = .ok (.getfield 9, 3) := by decide +kernel
theorem d_T_sectorOf_4 : decode prog_3_method_7_code 4 = .ok (.iload_n 1, 1) := by decide +kernel
theorem d_T_sectorOf_5 : decode prog_3_method_7_code 5 = .ok (.iaload, 1) := by decide +kernel
theorem d_T_sectorOf_6 : decode prog_3_method_7_code 6 = .ok (.ireturn, 1) := by decide +kernel
theorem d_T_answeredAt_0 : decode prog_3_method_9_code 0 = .ok (.aload_n 0, 1) := by decide +kernel
theorem d_T_answeredAt_1 : decode prog_3_method_9_code 1 = .ok (.getfield 21, 3) := by decide +kernel
theorem d_T_answeredAt_4 : decode prog_3_method_9_code 4 = .ok (.iload_n 1, 1) := by decide +kernel
theorem d_T_answeredAt_5 : decode prog_3_method_9_code 5 = .ok (.iaload, 1) := by decide +kernel
theorem d_T_answeredAt_6 : decode prog_3_method_9_code 6 = .ok (.ireturn, 1) := by decide +kernel
