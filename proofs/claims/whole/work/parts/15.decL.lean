/-! INSTRUCTIONS, printed by wip/whole/names.py -/
theorem d_L_person_0 : decode method_3_code 0 = .ok (.aload_n 2, 1) := by decide +kernel
theorem d_L_person_1 : decode method_3_code 1 = .ok (.iconst 0, 1) := by decide +kernel
theorem d_L_person_2 : decode method_3_code 2 = .ok (.aload_n 0, 1) := by decide +kernel
theorem d_L_person_3 : decode method_3_code 3 = .ok (.iload_n 1, 1) := by decide +kernel
theorem d_L_person_4 : decode method_3_code 4 = .ok (.invokevirtual 7, 3) := by decide +kernel
theorem d_L_person_7 : decode method_3_code 7 = .ok (.i2l, 1) := by decide +kernel
theorem d_L_person_8 : decode method_3_code 8 = .ok (.lastore, 1) := by decide +kernel
theorem d_L_person_9 : decode method_3_code 9 = .ok (.goto 9, 3) := by decide +kernel
theorem d_L_person_12 : decode method_3_code 12 = .ok (.astore_n 3, 1) := by decide +kernel
theorem d_L_person_13 : decode method_3_code 13 = .ok (.iconst 1, 1) := by decide +kernel
theorem d_L_person_14 : decode method_3_code 14 = .ok (.ireturn, 1) := by decide +kernel
theorem d_L_person_15 : decode method_3_code 15 = .ok (.astore_n 3, 1) := by decide +kernel
theorem d_L_person_16 : decode method_3_code 16 = .ok (.iconst 2, 1) := by decide +kernel
theorem d_L_person_17 : decode method_3_code 17 = .ok (.ireturn, 1) := by decide +kernel
theorem d_L_person_18 : decode method_3_code 18 = .ok (.iconst 0, 1) := by decide +kernel
theorem d_L_person_19 : decode method_3_code 19 = .ok (.ireturn, 1) := by decide +kernel
theorem d_L_unit_0 : decode method_4_code 0 = .ok (.aload_n 1, 1) := by decide +kernel
theorem d_L_unit_1 : decode method_4_code 1 = .ok (.iconst 0, 1) := by decide +kernel
theorem d_L_unit_2 : decode method_4_code 2 = .ok (.aload_n 0, 1) := by decide +kernel
theorem d_L_unit_3 : decode method_4_code 3 = .ok (.invokevirtual 17, 3) := by decide +kernel
theorem d_L_unit_6 : decode method_4_code 6 = .ok (.i2l, 1) := by decide +kernel
theorem d_L_unit_7 : decode method_4_code 7 = .ok (.lastore, 1) := by decide +kernel
theorem d_L_unit_8 : decode method_4_code 8 = .ok (.goto 6, 3) := by decide +kernel
theorem d_L_unit_11 : decode method_4_code 11 = .ok (.astore_n 2, 1) := by decide +kernel
theorem d_L_unit_12 : decode method_4_code 12 = .ok (.iconst 1, 1) := by decide +kernel
theorem d_L_unit_13 : decode method_4_code 13 = .ok (.ireturn, 1) := by decide +kernel
theorem d_L_unit_14 : decode method_4_code 14 = .ok (.iconst 0, 1) := by decide +kernel
theorem d_L_unit_15 : decode method_4_code 15 = .ok (.ireturn, 1) := by decide +kernel
theorem d_L_arrive_0 : decode method_5_code 0 = .ok (.aload_n 0, 1) := by decide +kernel
theorem d_L_arrive_1 : decode method_5_code 1 = .ok (.iload_n 1, 1) := by decide +kernel
theorem d_L_arrive_2 : decode method_5_code 2 = .ok (.invokevirtual 21, 3) := by decide +kernel
theorem d_L_arrive_5 : decode method_5_code 5 = .ok (.goto 9, 3) := by decide +kernel
theorem d_L_arrive_8 : decode method_5_code 8 = .ok (.astore_n 2, 1) := by decide +kernel
theorem d_L_arrive_9 : decode method_5_code 9 = .ok (.iconst 1, 1) := by decide +kernel
theorem d_L_arrive_10 : decode method_5_code 10 = .ok (.ireturn, 1) := by decide +kernel
theorem d_L_arrive_11 : decode method_5_code 11 = .ok (.astore_n 2, 1) := by decide +kernel
theorem d_L_arrive_12 : decode method_5_code 12 = .ok (.iconst 2, 1) := by decide +kernel
theorem d_L_arrive_13 : decode method_5_code 13 = .ok (.ireturn, 1) := by decide +kernel
theorem d_L_arrive_14 : decode method_5_code 14 = .ok (.iconst 0, 1) := by decide +kernel
theorem d_L_arrive_15 : decode method_5_code 15 = .ok (.ireturn, 1) := by decide +kernel
theorem d_L_leave_0 : decode method_6_code 0 = .ok (.aload_n 0, 1) := by decide +kernel
theorem d_L_leave_1 : decode method_6_code 1 = .ok (.iload_n 1, 1) := by decide +kernel
theorem d_L_leave_2 : decode method_6_code 2 = .ok (.invokevirtual 29, 3) := by decide +kernel
theorem d_L_leave_5 : decode method_6_code 5 = .ok (.goto 9, 3) := by decide +kernel
theorem d_L_leave_8 : decode method_6_code 8 = .ok (.astore_n 2, 1) := by decide +kernel
theorem d_L_leave_9 : decode method_6_code 9 = .ok (.iconst 1, 1) := by decide +kernel
theorem d_L_leave_10 : decode method_6_code 10 = .ok (.ireturn, 1) := by decide +kernel
theorem d_L_leave_11 : decode method_6_code 11 = .ok (.astore_n 2, 1) := by decide +kernel
theorem d_L_leave_12 : decode method_6_code 12 = .ok (.iconst 2, 1) := by decide +kernel
theorem d_L_leave_13 : decode method_6_code 13 = .ok (.ireturn, 1) := by decide +kernel
theorem d_L_leave_14 : decode method_6_code 14 = .ok (.iconst 0, 1) := by decide +kernel
theorem d_L_leave_15 : decode method_6_code 15 = .ok (.ireturn, 1) := by decide +kernel
theorem d_L_go_0 : decode method_7_code 0 = .ok (.aload_n 0, 1) := by decide +kernel
theorem d_L_go_1 : decode method_7_code 1 = .ok (.iload_n 1, 1) := by decide +kernel
theorem d_L_go_2 : decode method_7_code 2 = .ok (.iload_n 2, 1) := by decide +kernel
theorem d_L_go_3 : decode method_7_code 3 = .ok (.invokevirtual 32, 3) := by decide +kernel
theorem d_L_go_6 : decode method_7_code 6 = .ok (.goto 9, 3) := by decide +kernel
theorem d_L_go_9 : decode method_7_code 9 = .ok (.astore_n 3, 1) := by decide +kernel
theorem d_L_go_10 : decode method_7_code 10 = .ok (.iconst 1, 1) := by decide +kernel
theorem d_L_go_11 : decode method_7_code 11 = .ok (.ireturn, 1) := by decide +kernel
theorem d_L_go_12 : decode method_7_code 12 = .ok (.astore_n 3, 1) := by decide +kernel
theorem d_L_go_13 : decode method_7_code 13 = .ok (.iconst 2, 1) := by decide +kernel
theorem d_L_go_14 : decode method_7_code 14 = .ok (.ireturn, 1) := by decide +kernel
theorem d_L_go_15 : decode method_7_code 15 = .ok (.iconst 0, 1) := by decide +kernel
theorem d_L_go_16 : decode method_7_code 16 = .ok (.ireturn, 1) := by decide +kernel
theorem d_L_place_0 : decode method_8_code 0 = .ok (.aload_n 0, 1) := by decide +kernel
theorem d_L_place_1 : decode method_8_code 1 = .ok (.iload_n 1, 1) := by decide +kernel
theorem d_L_place_2 : decode method_8_code 2 = .ok (.iload_n 2, 1) := by decide +kernel
theorem d_L_place_3 : decode method_8_code 3 = .ok (.invokevirtual 36, 3) := by decide +kernel
theorem d_L_place_6 : decode method_8_code 6 = .ok (.goto 9, 3) := by decide +kernel
theorem d_L_place_9 : decode method_8_code 9 = .ok (.astore_n 3, 1) := by decide +kernel
theorem d_L_place_10 : decode method_8_code 10 = .ok (.iconst 1, 1) := by decide +kernel
theorem d_L_place_11 : decode method_8_code 11 = .ok (.ireturn, 1) := by decide +kernel
theorem d_L_place_12 : decode method_8_code 12 = .ok (.astore_n 3, 1) := by decide +kernel
theorem d_L_place_13 : decode method_8_code 13 = .ok (.iconst 2, 1) := by decide +kernel
theorem d_L_place_14 : decode method_8_code 14 = .ok (.ireturn, 1) := by decide +kernel
theorem d_L_place_15 : decode method_8_code 15 = .ok (.iconst 0, 1) := by decide +kernel
theorem d_L_place_16 : decode method_8_code 16 = .ok (.ireturn, 1) := by decide +kernel
theorem d_L_split_0 : decode method_9_code 0 = .ok (.aload_n 2, 1) := by decide +kernel
theorem d_L_split_1 : decode method_9_code 1 = .ok (.iconst 0, 1) := by decide +kernel
theorem d_L_split_2 : decode method_9_code 2 = .ok (.aload_n 0, 1) := by decide +kernel
theorem d_L_split_3 : decode method_9_code 3 = .ok (.iload_n 1, 1) := by decide +kernel
theorem d_L_split_4 : decode method_9_code 4 = .ok (.invokevirtual 39, 3) := by decide +kernel
theorem d_L_split_7 : decode method_9_code 7 = .ok (.i2l, 1) := by decide +kernel
theorem d_L_split_8 : decode method_9_code 8 = .ok (.lastore, 1) := by decide +kernel
theorem d_L_split_9 : decode method_9_code 9 = .ok (.goto 12, 3) := by decide +kernel
theorem d_L_split_12 : decode method_9_code 12 = .ok (.astore_n 3, 1) := by decide +kernel
theorem d_L_split_13 : decode method_9_code 13 = .ok (.iconst 1, 1) := by decide +kernel
theorem d_L_split_14 : decode method_9_code 14 = .ok (.ireturn, 1) := by decide +kernel
theorem d_L_split_15 : decode method_9_code 15 = .ok (.astore_n 3, 1) := by decide +kernel
theorem d_L_split_16 : decode method_9_code 16 = .ok (.iconst 2, 1) := by decide +kernel
theorem d_L_split_17 : decode method_9_code 17 = .ok (.ireturn, 1) := by decide +kernel
theorem d_L_split_18 : decode method_9_code 18 = .ok (.astore_n 3, 1) := by decide +kernel
theorem d_L_split_19 : decode method_9_code 19 = .ok (.iconst 3, 1) := by decide +kernel
theorem d_L_split_20 : decode method_9_code 20 = .ok (.ireturn, 1) := by decide +kernel
theorem d_L_split_21 : decode method_9_code 21 = .ok (.iconst 0, 1) := by decide +kernel
theorem d_L_split_22 : decode method_9_code 22 = .ok (.ireturn, 1) := by decide +kernel
theorem d_L_join_0 : decode method_10_code 0 = .ok (.aload_n 0, 1) := by decide +kernel
theorem d_L_join_1 : decode method_10_code 1 = .ok (.iload_n 1, 1) := by decide +kernel
theorem d_L_join_2 : decode method_10_code 2 = .ok (.iload_n 2, 1) := by decide +kernel
theorem d_L_join_3 : decode method_10_code 3 = .ok (.invokevirtual 42, 3) := by decide +kernel
theorem d_L_join_6 : decode method_10_code 6 = .ok (.goto 9, 3) := by decide +kernel
theorem d_L_join_9 : decode method_10_code 9 = .ok (.astore_n 3, 1) := by decide +kernel
theorem d_L_join_10 : decode method_10_code 10 = .ok (.iconst 1, 1) := by decide +kernel
theorem d_L_join_11 : decode method_10_code 11 = .ok (.ireturn, 1) := by decide +kernel
theorem d_L_join_12 : decode method_10_code 12 = .ok (.astore_n 3, 1) := by decide +kernel
theorem d_L_join_13 : decode method_10_code 13 = .ok (.iconst 2, 1) := by decide +kernel
theorem d_L_join_14 : decode method_10_code 14 = .ok (.ireturn, 1) := by decide +kernel
theorem d_L_join_15 : decode method_10_code 15 = .ok (.iconst 0, 1) := by decide +kernel
theorem d_L_join_16 : decode method_10_code 16 = .ok (.ireturn, 1) := by decide +kernel
theorem d_L_offer_0 : decode method_11_code 0 = .ok (.aload_n 0, 1) := by decide +kernel
theorem d_L_offer_1 : decode method_11_code 1 = .ok (.iload_n 1, 1) := by decide +kernel
theorem d_L_offer_2 : decode method_11_code 2 = .ok (.iload_n 2, 1) := by decide +kernel
theorem d_L_offer_3 : decode method_11_code 3 = .ok (.invokevirtual 45, 3) := by decide +kernel
theorem d_L_offer_6 : decode method_11_code 6 = .ok (.goto 9, 3) := by decide +kernel
theorem d_L_offer_9 : decode method_11_code 9 = .ok (.astore_n 3, 1) := by decide +kernel
theorem d_L_offer_10 : decode method_11_code 10 = .ok (.iconst 1, 1) := by decide +kernel
theorem d_L_offer_11 : decode method_11_code 11 = .ok (.ireturn, 1) := by decide +kernel
theorem d_L_offer_12 : decode method_11_code 12 = .ok (.astore_n 3, 1) := by decide +kernel
theorem d_L_offer_13 : decode method_11_code 13 = .ok (.iconst 2, 1) := by decide +kernel
theorem d_L_offer_14 : decode method_11_code 14 = .ok (.ireturn, 1) := by decide +kernel
theorem d_L_offer_15 : decode method_11_code 15 = .ok (.iconst 0, 1) := by decide +kernel
theorem d_L_offer_16 : decode method_11_code 16 = .ok (.ireturn, 1) := by decide +kernel
theorem d_L_take_0 : decode method_12_code 0 = .ok (.aload_n 0, 1) := by decide +kernel
theorem d_L_take_1 : decode method_12_code 1 = .ok (.iload_n 1, 1) := by decide +kernel
theorem d_L_take_2 : decode method_12_code 2 = .ok (.iload_n 2, 1) := by decide +kernel
theorem d_L_take_3 : decode method_12_code 3 = .ok (.invokevirtual 48, 3) := by decide +kernel
theorem d_L_take_6 : decode method_12_code 6 = .ok (.goto 9, 3) := by decide +kernel
theorem d_L_take_9 : decode method_12_code 9 = .ok (.astore_n 3, 1) := by decide +kernel
theorem d_L_take_10 : decode method_12_code 10 = .ok (.iconst 1, 1) := by decide +kernel
theorem d_L_take_11 : decode method_12_code 11 = .ok (.ireturn, 1) := by decide +kernel
theorem d_L_take_12 : decode method_12_code 12 = .ok (.astore_n 3, 1) := by decide +kernel
theorem d_L_take_13 : decode method_12_code 13 = .ok (.iconst 2, 1) := by decide +kernel
theorem d_L_take_14 : decode method_12_code 14 = .ok (.ireturn, 1) := by decide +kernel
theorem d_L_take_15 : decode method_12_code 15 = .ok (.iconst 0, 1) := by decide +kernel
theorem d_L_take_16 : decode method_12_code 16 = .ok (.ireturn, 1) := by decide +kernel
theorem d_L_task_0 : decode method_13_code 0 = .ok (.aload_n 3, 1) := by decide +kernel
theorem d_L_task_1 : decode method_13_code 1 = .ok (.iconst 0, 1) := by decide +kernel
theorem d_L_task_2 : decode method_13_code 2 = .ok (.aload_n 0, 1) := by decide +kernel
theorem d_L_task_3 : decode method_13_code 3 = .ok (.iload_n 1, 1) := by decide +kernel
theorem d_L_task_4 : decode method_13_code 4 = .ok (.iload_n 2, 1) := by decide +kernel
theorem d_L_task_5 : decode method_13_code 5 = .ok (.invokevirtual 51, 3) := by decide +kernel
theorem d_L_task_8 : decode method_13_code 8 = .ok (.i2l, 1) := by decide +kernel
theorem d_L_task_9 : decode method_13_code 9 = .ok (.lastore, 1) := by decide +kernel
theorem d_L_task_10 : decode method_13_code 10 = .ok (.goto 19, 3) := by decide +kernel
theorem d_L_task_13 : decode method_13_code 13 = .ok (.astore 4, 2) := by decide +kernel
theorem d_L_task_15 : decode method_13_code 15 = .ok (.iconst 1, 1) := by decide +kernel
theorem d_L_task_16 : decode method_13_code 16 = .ok (.ireturn, 1) := by decide +kernel
theorem d_L_task_17 : decode method_13_code 17 = .ok (.astore 4, 2) := by decide +kernel
theorem d_L_task_19 : decode method_13_code 19 = .ok (.iconst 2, 1) := by decide +kernel
theorem d_L_task_20 : decode method_13_code 20 = .ok (.ireturn, 1) := by decide +kernel
theorem d_L_task_21 : decode method_13_code 21 = .ok (.astore 4, 2) := by decide +kernel
theorem d_L_task_23 : decode method_13_code 23 = .ok (.iconst 3, 1) := by decide +kernel
theorem d_L_task_24 : decode method_13_code 24 = .ok (.ireturn, 1) := by decide +kernel
theorem d_L_task_25 : decode method_13_code 25 = .ok (.astore 4, 2) := by decide +kernel
theorem d_L_task_27 : decode method_13_code 27 = .ok (.iconst 4, 1) := by decide +kernel
theorem d_L_task_28 : decode method_13_code 28 = .ok (.ireturn, 1) := by decide +kernel
theorem d_L_task_29 : decode method_13_code 29 = .ok (.iconst 0, 1) := by decide +kernel
theorem d_L_task_30 : decode method_13_code 30 = .ok (.ireturn, 1) := by decide +kernel
theorem d_L_answer_0 : decode method_14_code 0 = .ok (.aload_n 0, 1) := by decide +kernel
theorem d_L_answer_1 : decode method_14_code 1 = .ok (.iload_n 1, 1) := by decide +kernel
theorem d_L_answer_2 : decode method_14_code 2 = .ok (.iload_n 2, 1) := by decide +kernel
theorem d_L_answer_3 : decode method_14_code 3 = .ok (.invokevirtual 55, 3) := by decide +kernel
theorem d_L_answer_6 : decode method_14_code 6 = .ok (.goto 9, 3) := by decide +kernel
theorem d_L_answer_9 : decode method_14_code 9 = .ok (.astore_n 3, 1) := by decide +kernel
theorem d_L_answer_10 : decode method_14_code 10 = .ok (.iconst 1, 1) := by decide +kernel
theorem d_L_answer_11 : decode method_14_code 11 = .ok (.ireturn, 1) := by decide +kernel
theorem d_L_answer_12 : decode method_14_code 12 = .ok (.astore_n 3, 1) := by decide +kernel
theorem d_L_answer_13 : decode method_14_code 13 = .ok (.iconst 2, 1) := by decide +kernel
theorem d_L_answer_14 : decode method_14_code 14 = .ok (.ireturn, 1) := by decide +kernel
theorem d_L_answer_15 : decode method_14_code 15 = .ok (.iconst 0, 1) := by decide +kernel
theorem d_L_answer_16 : decode method_14_code 16 = .ok (.ireturn, 1) := by decide +kernel
theorem d_L_span_0 : decode method_15_code 0 = .ok (.aload_n 2, 1) := by decide +kernel
theorem d_L_span_1 : decode method_15_code 1 = .ok (.iconst 0, 1) := by decide +kernel
theorem d_L_span_2 : decode method_15_code 2 = .ok (.aload_n 0, 1) := by decide +kernel
theorem d_L_span_3 : decode method_15_code 3 = .ok (.iload_n 1, 1) := by decide +kernel
theorem d_L_span_4 : decode method_15_code 4 = .ok (.invokevirtual 59, 3) := by decide +kernel
theorem d_L_span_7 : decode method_15_code 7 = .ok (.i2l, 1) := by decide +kernel
theorem d_L_span_8 : decode method_15_code 8 = .ok (.lastore, 1) := by decide +kernel
theorem d_L_span_9 : decode method_15_code 9 = .ok (.goto 6, 3) := by decide +kernel
theorem d_L_span_12 : decode method_15_code 12 = .ok (.astore_n 3, 1) := by decide +kernel
theorem d_L_span_13 : decode method_15_code 13 = .ok (.iconst 1, 1) := by decide +kernel
theorem d_L_span_14 : decode method_15_code 14 = .ok (.ireturn, 1) := by decide +kernel
theorem d_L_span_15 : decode method_15_code 15 = .ok (.iconst 0, 1) := by decide +kernel
theorem d_L_span_16 : decode method_15_code 16 = .ok (.ireturn, 1) := by decide +kernel
theorem d_L_tick_0 : decode method_16_code 0 = .ok (.aload_n 2, 1) := by decide +kernel
theorem d_L_tick_1 : decode method_16_code 1 = .ok (.iconst 0, 1) := by decide +kernel
theorem d_L_tick_2 : decode method_16_code 2 = .ok (.aload_n 0, 1) := by decide +kernel
theorem d_L_tick_3 : decode method_16_code 3 = .ok (.iload_n 1, 1) := by decide +kernel
theorem d_L_tick_4 : decode method_16_code 4 = .ok (.invokevirtual 62, 3) := by decide +kernel
theorem d_L_tick_7 : decode method_16_code 7 = .ok (.i2l, 1) := by decide +kernel
theorem d_L_tick_8 : decode method_16_code 8 = .ok (.lastore, 1) := by decide +kernel
theorem d_L_tick_9 : decode method_16_code 9 = .ok (.goto 6, 3) := by decide +kernel
theorem d_L_tick_12 : decode method_16_code 12 = .ok (.astore_n 3, 1) := by decide +kernel
theorem d_L_tick_13 : decode method_16_code 13 = .ok (.iconst 1, 1) := by decide +kernel
theorem d_L_tick_14 : decode method_16_code 14 = .ok (.ireturn, 1) := by decide +kernel
theorem d_L_tick_15 : decode method_16_code 15 = .ok (.iconst 0, 1) := by decide +kernel
theorem d_L_tick_16 : decode method_16_code 16 = .ok (.ireturn, 1) := by decide +kernel
theorem d_L_led_0 : decode method_17_code 0 = .ok (.aload_n 3, 1) := by decide +kernel
theorem d_L_led_1 : decode method_17_code 1 = .ok (.iconst 0, 1) := by decide +kernel
theorem d_L_led_2 : decode method_17_code 2 = .ok (.aload_n 0, 1) := by decide +kernel
theorem d_L_led_3 : decode method_17_code 3 = .ok (.iload_n 1, 1) := by decide +kernel
theorem d_L_led_4 : decode method_17_code 4 = .ok (.iload_n 2, 1) := by decide +kernel
theorem d_L_led_5 : decode method_17_code 5 = .ok (.invokevirtual 65, 3) := by decide +kernel
theorem d_L_led_8 : decode method_17_code 8 = .ok (.i2l, 1) := by decide +kernel
theorem d_L_led_9 : decode method_17_code 9 = .ok (.lastore, 1) := by decide +kernel
theorem d_L_led_10 : decode method_17_code 10 = .ok (.goto 15, 3) := by decide +kernel
theorem d_L_led_13 : decode method_17_code 13 = .ok (.astore 4, 2) := by decide +kernel
theorem d_L_led_15 : decode method_17_code 15 = .ok (.iconst 1, 1) := by decide +kernel
theorem d_L_led_16 : decode method_17_code 16 = .ok (.ireturn, 1) := by decide +kernel
theorem d_L_led_17 : decode method_17_code 17 = .ok (.astore 4, 2) := by decide +kernel
theorem d_L_led_19 : decode method_17_code 19 = .ok (.iconst 2, 1) := by decide +kernel
theorem d_L_led_20 : decode method_17_code 20 = .ok (.ireturn, 1) := by decide +kernel
theorem d_L_led_21 : decode method_17_code 21 = .ok (.astore 4, 2) := by decide +kernel
theorem d_L_led_23 : decode method_17_code 23 = .ok (.iconst 3, 1) := by decide +kernel
theorem d_L_led_24 : decode method_17_code 24 = .ok (.ireturn, 1) := by decide +kernel
theorem d_L_led_25 : decode method_17_code 25 = .ok (.iconst 0, 1) := by decide +kernel
theorem d_L_led_26 : decode method_17_code 26 = .ok (.ireturn, 1) := by decide +kernel
theorem d_L_sectorAt_0 : decode method_18_code 0 = .ok (.aload_n 3, 1) := by decide +kernel
theorem d_L_sectorAt_1 : decode method_18_code 1 = .ok (.iconst 0, 1) := by decide +kernel
theorem d_L_sectorAt_2 : decode method_18_code 2 = .ok (.aload_n 0, 1) := by decide +kernel
theorem d_L_sectorAt_3 : decode method_18_code 3 = .ok (.iload_n 1, 1) := by decide +kernel
theorem d_L_sectorAt_4 : decode method_18_code 4 = .ok (.iload_n 2, 1) := by decide +kernel
theorem d_L_sectorAt_5 : decode method_18_code 5 = .ok (.invokevirtual 68, 3) := by decide +kernel
theorem d_L_sectorAt_8 : decode method_18_code 8 = .ok (.i2l, 1) := by decide +kernel
theorem d_L_sectorAt_9 : decode method_18_code 9 = .ok (.lastore, 1) := by decide +kernel
theorem d_L_sectorAt_10 : decode method_18_code 10 = .ok (.goto 7, 3) := by decide +kernel
theorem d_L_sectorAt_13 : decode method_18_code 13 = .ok (.astore 4, 2) := by decide +kernel
theorem d_L_sectorAt_15 : decode method_18_code 15 = .ok (.iconst 1, 1) := by decide +kernel
theorem d_L_sectorAt_16 : decode method_18_code 16 = .ok (.ireturn, 1) := by decide +kernel
theorem d_L_sectorAt_17 : decode method_18_code 17 = .ok (.iconst 0, 1) := by decide +kernel
theorem d_L_sectorAt_18 : decode method_18_code 18 = .ok (.ireturn, 1) := by decide +kernel
theorem d_L_personAt_0 : decode method_19_code 0 = .ok (.aload_n 3, 1) := by decide +kernel
theorem d_L_personAt_1 : decode method_19_code 1 = .ok (.iconst 0, 1) := by decide +kernel
theorem d_L_personAt_2 : decode method_19_code 2 = .ok (.aload_n 0, 1) := by decide +kernel
theorem d_L_personAt_3 : decode method_19_code 3 = .ok (.iload_n 1, 1) := by decide +kernel
theorem d_L_personAt_4 : decode method_19_code 4 = .ok (.iload_n 2, 1) := by decide +kernel
theorem d_L_personAt_5 : decode method_19_code 5 = .ok (.invokevirtual 71, 3) := by decide +kernel
theorem d_L_personAt_8 : decode method_19_code 8 = .ok (.i2l, 1) := by decide +kernel
theorem d_L_personAt_9 : decode method_19_code 9 = .ok (.lastore, 1) := by decide +kernel
theorem d_L_personAt_10 : decode method_19_code 10 = .ok (.goto 7, 3) := by decide +kernel
theorem d_L_personAt_13 : decode method_19_code 13 = .ok (.astore 4, 2) := by decide +kernel
theorem d_L_personAt_15 : decode method_19_code 15 = .ok (.iconst 1, 1) := by decide +kernel
theorem d_L_personAt_16 : decode method_19_code 16 = .ok (.ireturn, 1) := by decide +kernel
theorem d_L_personAt_17 : decode method_19_code 17 = .ok (.iconst 0, 1) := by decide +kernel
theorem d_L_personAt_18 : decode method_19_code 18 = .ok (.ireturn, 1) := by decide +kernel
theorem d_L_unitAt_0 : decode method_20_code 0 = .ok (.aload_n 2, 1) := by decide +kernel
theorem d_L_unitAt_1 : decode method_20_code 1 = .ok (.iconst 0, 1) := by decide +kernel
theorem d_L_unitAt_2 : decode method_20_code 2 = .ok (.aload_n 0, 1) := by decide +kernel
theorem d_L_unitAt_3 : decode method_20_code 3 = .ok (.iload_n 1, 1) := by decide +kernel
theorem d_L_unitAt_4 : decode method_20_code 4 = .ok (.invokevirtual 74, 3) := by decide +kernel
theorem d_L_unitAt_7 : decode method_20_code 7 = .ok (.i2l, 1) := by decide +kernel
theorem d_L_unitAt_8 : decode method_20_code 8 = .ok (.lastore, 1) := by decide +kernel
theorem d_L_unitAt_9 : decode method_20_code 9 = .ok (.goto 6, 3) := by decide +kernel
theorem d_L_unitAt_12 : decode method_20_code 12 = .ok (.astore_n 3, 1) := by decide +kernel
theorem d_L_unitAt_13 : decode method_20_code 13 = .ok (.iconst 1, 1) := by decide +kernel
theorem d_L_unitAt_14 : decode method_20_code 14 = .ok (.ireturn, 1) := by decide +kernel
theorem d_L_unitAt_15 : decode method_20_code 15 = .ok (.iconst 0, 1) := by decide +kernel
theorem d_L_unitAt_16 : decode method_20_code 16 = .ok (.ireturn, 1) := by decide +kernel
theorem d_L_taskAt_0 : decode method_21_code 0 = .ok (.aload_n 3, 1) := by decide +kernel
theorem d_L_taskAt_1 : decode method_21_code 1 = .ok (.iconst 0, 1) := by decide +kernel
theorem d_L_taskAt_2 : decode method_21_code 2 = .ok (.aload_n 0, 1) := by decide +kernel
theorem d_L_taskAt_3 : decode method_21_code 3 = .ok (.iload_n 1, 1) := by decide +kernel
theorem d_L_taskAt_4 : decode method_21_code 4 = .ok (.iload_n 2, 1) := by decide +kernel
theorem d_L_taskAt_5 : decode method_21_code 5 = .ok (.invokevirtual 77, 3) := by decide +kernel
theorem d_L_taskAt_8 : decode method_21_code 8 = .ok (.i2l, 1) := by decide +kernel
theorem d_L_taskAt_9 : decode method_21_code 9 = .ok (.lastore, 1) := by decide +kernel
theorem d_L_taskAt_10 : decode method_21_code 10 = .ok (.goto 7, 3) := by decide +kernel
theorem d_L_taskAt_13 : decode method_21_code 13 = .ok (.astore 4, 2) := by decide +kernel
theorem d_L_taskAt_15 : decode method_21_code 15 = .ok (.iconst 1, 1) := by decide +kernel
theorem d_L_taskAt_16 : decode method_21_code 16 = .ok (.ireturn, 1) := by decide +kernel
theorem d_L_taskAt_17 : decode method_21_code 17 = .ok (.iconst 0, 1) := by decide +kernel
theorem d_L_taskAt_18 : decode method_21_code 18 = .ok (.ireturn, 1) := by decide +kernel
theorem d_L_passed_0 : decode method_22_code 0 = .ok (.aload_n 2, 1) := by decide +kernel
theorem d_L_passed_1 : decode method_22_code 1 = .ok (.iconst 0, 1) := by decide +kernel
theorem d_L_passed_2 : decode method_22_code 2 = .ok (.aload_n 0, 1) := by decide +kernel
theorem d_L_passed_3 : decode method_22_code 3 = .ok (.iload_n 1, 1) := by decide +kernel
theorem d_L_passed_4 : decode method_22_code 4 = .ok (.invokevirtual 80, 3) := by decide +kernel
theorem d_L_passed_7 : decode method_22_code 7 = .ok (.i2l, 1) := by decide +kernel
theorem d_L_passed_8 : decode method_22_code 8 = .ok (.lastore, 1) := by decide +kernel
theorem d_L_passed_9 : decode method_22_code 9 = .ok (.goto 6, 3) := by decide +kernel
theorem d_L_passed_12 : decode method_22_code 12 = .ok (.astore_n 3, 1) := by decide +kernel
theorem d_L_passed_13 : decode method_22_code 13 = .ok (.iconst 1, 1) := by decide +kernel
theorem d_L_passed_14 : decode method_22_code 14 = .ok (.ireturn, 1) := by decide +kernel
theorem d_L_passed_15 : decode method_22_code 15 = .ok (.iconst 0, 1) := by decide +kernel
theorem d_L_passed_16 : decode method_22_code 16 = .ok (.ireturn, 1) := by decide +kernel
theorem d_L_law_0 : decode code 0 = .ok (.new 8, 3) := by decide +kernel
theorem d_L_law_3 : decode code 3 = .ok (.dup, 1) := by decide +kernel
theorem d_L_law_4 : decode code 4 = .ok (.invokespecial 83, 3) := by decide +kernel
theorem d_L_law_7 : decode code 7 = .ok (.astore_n 1, 1) := by decide +kernel
theorem d_L_law_8 : decode code 8 = .ok (.new 84, 3) := by decide +kernel
theorem d_L_law_11 : decode code 11 = .ok (.dup, 1) := by decide +kernel
theorem d_L_law_12 : decode code 12 = .ok (.invokespecial 86, 3) := by decide +kernel
theorem d_L_law_15 : decode code 15 = .ok (.astore_n 2, 1) := by decide +kernel
theorem d_L_law_16 : decode code 16 = .ok (.iconst 1, 1) := by decide +kernel
theorem d_L_law_17 : decode code 17 = .ok (.newarray .long, 2) := by decide +kernel
theorem d_L_law_19 : decode code 19 = .ok (.astore_n 3, 1) := by decide +kernel
theorem d_L_law_20 : decode code 20 = .ok (.iconst 0, 1) := by decide +kernel
theorem d_L_law_21 : decode code 21 = .ok (.istore 4, 2) := by decide +kernel
theorem d_L_law_23 : decode code 23 = .ok (.iload 4, 2) := by decide +kernel
theorem d_L_law_25 : decode code 25 = .ok (.aload_n 0, 1) := by decide +kernel
theorem d_L_law_26 : decode code 26 = .ok (.arraylength, 1) := by decide +kernel
theorem d_L_law_27 : decode code 27 = .ok (.iconst 3, 1) := by decide +kernel
theorem d_L_law_28 : decode code 28 = .ok (.isub, 1) := by decide +kernel
theorem d_L_law_29 : decode code 29 = .ok (.if_icmp .gt 1222, 3) := by decide +kernel
theorem d_L_law_32 : decode code 32 = .ok (.aload_n 0, 1) := by decide +kernel
theorem d_L_law_33 : decode code 33 = .ok (.iload 4, 2) := by decide +kernel
theorem d_L_law_35 : decode code 35 = .ok (.iaload, 1) := by decide +kernel
theorem d_L_law_36 : decode code 36 = .ok (.bipush 31, 2) := by decide +kernel
theorem d_L_law_38 : decode code 38 = .ok (.iand, 1) := by decide +kernel
theorem d_L_law_39 : decode code 39 = .ok (.tableswitch 1206 0 20 #[97, 153, 197, 233, 269, 317, 365, 421, 469, 517, 565, 633, 697, 753, 809, 877, 945, 1013, 1069, 1137, 1193], 97) := by decide +kernel
theorem d_L_law_136 : decode code 136 = .ok (.aload_n 1, 1) := by decide +kernel
theorem d_L_law_137 : decode code 137 = .ok (.aload_n 0, 1) := by decide +kernel
theorem d_L_law_138 : decode code 138 = .ok (.iload 4, 2) := by decide +kernel
theorem d_L_law_140 : decode code 140 = .ok (.iconst 1, 1) := by decide +kernel
theorem d_L_law_141 : decode code 141 = .ok (.iadd, 1) := by decide +kernel
theorem d_L_law_142 : decode code 142 = .ok (.iaload, 1) := by decide +kernel
theorem d_L_law_143 : decode code 143 = .ok (.aload_n 3, 1) := by decide +kernel
theorem d_L_law_144 : decode code 144 = .ok (.invokestatic 87, 3) := by decide +kernel
theorem d_L_law_147 : decode code 147 = .ok (.istore 5, 2) := by decide +kernel
theorem d_L_law_149 : decode code 149 = .ok (.aload_n 2, 1) := by decide +kernel
theorem d_L_law_150 : decode code 150 = .ok (.aload_n 0, 1) := by decide +kernel
theorem d_L_law_151 : decode code 151 = .ok (.iload 4, 2) := by decide +kernel
theorem d_L_law_153 : decode code 153 = .ok (.iconst 1, 1) := by decide +kernel
theorem d_L_law_154 : decode code 154 = .ok (.iadd, 1) := by decide +kernel
theorem d_L_law_155 : decode code 155 = .ok (.iaload, 1) := by decide +kernel
theorem d_L_law_156 : decode code 156 = .ok (.invokevirtual 92, 3) := by decide +kernel
theorem d_L_law_159 : decode code 159 = .ok (.istore 6, 2) := by decide +kernel
theorem d_L_law_161 : decode code 161 = .ok (.aload_n 2, 1) := by decide +kernel
theorem d_L_law_162 : decode code 162 = .ok (.invokevirtual 93, 3) := by decide +kernel
theorem d_L_law_165 : decode code 165 = .ok (.iload 5, 2) := by decide +kernel
theorem d_L_law_167 : decode code 167 = .ok (.if_icmp .eq 5, 3) := by decide +kernel
theorem d_L_law_170 : decode code 170 = .ok (.iconst 0, 1) := by decide +kernel
theorem d_L_law_171 : decode code 171 = .ok (.ireturn, 1) := by decide +kernel
theorem d_L_law_172 : decode code 172 = .ok (.iload 5, 2) := by decide +kernel
theorem d_L_law_174 : decode code 174 = .ok (.ifCond .ne 15, 3) := by decide +kernel
theorem d_L_law_177 : decode code 177 = .ok (.aload_n 3, 1) := by decide +kernel
theorem d_L_law_178 : decode code 178 = .ok (.iconst 0, 1) := by decide +kernel
theorem d_L_law_179 : decode code 179 = .ok (.laload, 1) := by decide +kernel
theorem d_L_law_180 : decode code 180 = .ok (.iload 6, 2) := by decide +kernel
theorem d_L_law_182 : decode code 182 = .ok (.i2l, 1) := by decide +kernel
theorem d_L_law_183 : decode code 183 = .ok (.lcmp, 1) := by decide +kernel
theorem d_L_law_184 : decode code 184 = .ok (.ifCond .eq 5, 3) := by decide +kernel
theorem d_L_law_187 : decode code 187 = .ok (.iconst 0, 1) := by decide +kernel
theorem d_L_law_188 : decode code 188 = .ok (.ireturn, 1) := by decide +kernel
theorem d_L_law_189 : decode code 189 = .ok (.goto 1056, 3) := by decide +kernel
theorem d_L_law_192 : decode code 192 = .ok (.aload_n 1, 1) := by decide +kernel
theorem d_L_law_193 : decode code 193 = .ok (.aload_n 3, 1) := by decide +kernel
theorem d_L_law_194 : decode code 194 = .ok (.invokestatic 96, 3) := by decide +kernel
theorem d_L_law_197 : decode code 197 = .ok (.istore 5, 2) := by decide +kernel
theorem d_L_law_199 : decode code 199 = .ok (.aload_n 2, 1) := by decide +kernel
theorem d_L_law_200 : decode code 200 = .ok (.invokevirtual 99, 3) := by decide +kernel
theorem d_L_law_203 : decode code 203 = .ok (.istore 6, 2) := by decide +kernel
theorem d_L_law_205 : decode code 205 = .ok (.aload_n 2, 1) := by decide +kernel
theorem d_L_law_206 : decode code 206 = .ok (.invokevirtual 93, 3) := by decide +kernel
theorem d_L_law_209 : decode code 209 = .ok (.iload 5, 2) := by decide +kernel
theorem d_L_law_211 : decode code 211 = .ok (.if_icmp .eq 5, 3) := by decide +kernel
theorem d_L_law_214 : decode code 214 = .ok (.iconst 0, 1) := by decide +kernel
theorem d_L_law_215 : decode code 215 = .ok (.ireturn, 1) := by decide +kernel
theorem d_L_law_216 : decode code 216 = .ok (.iload 5, 2) := by decide +kernel
theorem d_L_law_218 : decode code 218 = .ok (.ifCond .ne 15, 3) := by decide +kernel
theorem d_L_law_221 : decode code 221 = .ok (.aload_n 3, 1) := by decide +kernel
theorem d_L_law_222 : decode code 222 = .ok (.iconst 0, 1) := by decide +kernel
theorem d_L_law_223 : decode code 223 = .ok (.laload, 1) := by decide +kernel
theorem d_L_law_224 : decode code 224 = .ok (.iload 6, 2) := by decide +kernel
theorem d_L_law_226 : decode code 226 = .ok (.i2l, 1) := by decide +kernel
theorem d_L_law_227 : decode code 227 = .ok (.lcmp, 1) := by decide +kernel
theorem d_L_law_228 : decode code 228 = .ok (.ifCond .eq 5, 3) := by decide +kernel
theorem d_L_law_231 : decode code 231 = .ok (.iconst 0, 1) := by decide +kernel
theorem d_L_law_232 : decode code 232 = .ok (.ireturn, 1) := by decide +kernel
theorem d_L_law_233 : decode code 233 = .ok (.goto 1012, 3) := by decide +kernel
theorem d_L_law_236 : decode code 236 = .ok (.aload_n 1, 1) := by decide +kernel
theorem d_L_law_237 : decode code 237 = .ok (.aload_n 0, 1) := by decide +kernel
theorem d_L_law_238 : decode code 238 = .ok (.iload 4, 2) := by decide +kernel
theorem d_L_law_240 : decode code 240 = .ok (.iconst 1, 1) := by decide +kernel
theorem d_L_law_241 : decode code 241 = .ok (.iadd, 1) := by decide +kernel
theorem d_L_law_242 : decode code 242 = .ok (.iaload, 1) := by decide +kernel
theorem d_L_law_243 : decode code 243 = .ok (.invokestatic 100, 3) := by decide +kernel
theorem d_L_law_246 : decode code 246 = .ok (.istore 5, 2) := by decide +kernel
theorem d_L_law_248 : decode code 248 = .ok (.aload_n 2, 1) := by decide +kernel
theorem d_L_law_249 : decode code 249 = .ok (.aload_n 0, 1) := by decide +kernel
theorem d_L_law_250 : decode code 250 = .ok (.iload 4, 2) := by decide +kernel
theorem d_L_law_252 : decode code 252 = .ok (.iconst 1, 1) := by decide +kernel
theorem d_L_law_253 : decode code 253 = .ok (.iadd, 1) := by decide +kernel
theorem d_L_law_254 : decode code 254 = .ok (.iaload, 1) := by decide +kernel
theorem d_L_law_255 : decode code 255 = .ok (.invokevirtual 103, 3) := by decide +kernel
theorem d_L_law_258 : decode code 258 = .ok (.aload_n 2, 1) := by decide +kernel
theorem d_L_law_259 : decode code 259 = .ok (.invokevirtual 93, 3) := by decide +kernel
theorem d_L_law_262 : decode code 262 = .ok (.iload 5, 2) := by decide +kernel
theorem d_L_law_264 : decode code 264 = .ok (.if_icmp .eq 5, 3) := by decide +kernel
theorem d_L_law_267 : decode code 267 = .ok (.iconst 0, 1) := by decide +kernel
theorem d_L_law_268 : decode code 268 = .ok (.ireturn, 1) := by decide +kernel
theorem d_L_law_269 : decode code 269 = .ok (.goto 976, 3) := by decide +kernel
theorem d_L_law_272 : decode code 272 = .ok (.aload_n 1, 1) := by decide +kernel
theorem d_L_law_273 : decode code 273 = .ok (.aload_n 0, 1) := by decide +kernel
theorem d_L_law_274 : decode code 274 = .ok (.iload 4, 2) := by decide +kernel
theorem d_L_law_276 : decode code 276 = .ok (.iconst 1, 1) := by decide +kernel
theorem d_L_law_277 : decode code 277 = .ok (.iadd, 1) := by decide +kernel
theorem d_L_law_278 : decode code 278 = .ok (.iaload, 1) := by decide +kernel
theorem d_L_law_279 : decode code 279 = .ok (.invokestatic 104, 3) := by decide +kernel
theorem d_L_law_282 : decode code 282 = .ok (.istore 5, 2) := by decide +kernel
theorem d_L_law_284 : decode code 284 = .ok (.aload_n 2, 1) := by decide +kernel
theorem d_L_law_285 : decode code 285 = .ok (.aload_n 0, 1) := by decide +kernel
theorem d_L_law_286 : decode code 286 = .ok (.iload 4, 2) := by decide +kernel
theorem d_L_law_288 : decode code 288 = .ok (.iconst 1, 1) := by decide +kernel
theorem d_L_law_289 : decode code 289 = .ok (.iadd, 1) := by decide +kernel
theorem d_L_law_290 : decode code 290 = .ok (.iaload, 1) := by decide +kernel
theorem d_L_law_291 : decode code 291 = .ok (.invokevirtual 106, 3) := by decide +kernel
theorem d_L_law_294 : decode code 294 = .ok (.aload_n 2, 1) := by decide +kernel
theorem d_L_law_295 : decode code 295 = .ok (.invokevirtual 93, 3) := by decide +kernel
theorem d_L_law_298 : decode code 298 = .ok (.iload 5, 2) := by decide +kernel
theorem d_L_law_300 : decode code 300 = .ok (.if_icmp .eq 5, 3) := by decide +kernel
theorem d_L_law_303 : decode code 303 = .ok (.iconst 0, 1) := by decide +kernel
theorem d_L_law_304 : decode code 304 = .ok (.ireturn, 1) := by decide +kernel
theorem d_L_law_305 : decode code 305 = .ok (.goto 940, 3) := by decide +kernel
theorem d_L_law_308 : decode code 308 = .ok (.aload_n 1, 1) := by decide +kernel
theorem d_L_law_309 : decode code 309 = .ok (.aload_n 0, 1) := by decide +kernel
theorem d_L_law_310 : decode code 310 = .ok (.iload 4, 2) := by decide +kernel
theorem d_L_law_312 : decode code 312 = .ok (.iconst 1, 1) := by decide +kernel
theorem d_L_law_313 : decode code 313 = .ok (.iadd, 1) := by decide +kernel
theorem d_L_law_314 : decode code 314 = .ok (.iaload, 1) := by decide +kernel
theorem d_L_law_315 : decode code 315 = .ok (.aload_n 0, 1) := by decide +kernel
theorem d_L_law_316 : decode code 316 = .ok (.iload 4, 2) := by decide +kernel
theorem d_L_law_318 : decode code 318 = .ok (.iconst 2, 1) := by decide +kernel
theorem d_L_law_319 : decode code 319 = .ok (.iadd, 1) := by decide +kernel
theorem d_L_law_320 : decode code 320 = .ok (.iaload, 1) := by decide +kernel
theorem d_L_law_321 : decode code 321 = .ok (.invokestatic 107, 3) := by decide +kernel
theorem d_L_law_324 : decode code 324 = .ok (.istore 5, 2) := by decide +kernel
theorem d_L_law_326 : decode code 326 = .ok (.aload_n 2, 1) := by decide +kernel
theorem d_L_law_327 : decode code 327 = .ok (.aload_n 0, 1) := by decide +kernel
theorem d_L_law_328 : decode code 328 = .ok (.iload 4, 2) := by decide +kernel
theorem d_L_law_330 : decode code 330 = .ok (.iconst 1, 1) := by decide +kernel
theorem d_L_law_331 : decode code 331 = .ok (.iadd, 1) := by decide +kernel
theorem d_L_law_332 : decode code 332 = .ok (.iaload, 1) := by decide +kernel
theorem d_L_law_333 : decode code 333 = .ok (.aload_n 0, 1) := by decide +kernel
theorem d_L_law_334 : decode code 334 = .ok (.iload 4, 2) := by decide +kernel
theorem d_L_law_336 : decode code 336 = .ok (.iconst 2, 1) := by decide +kernel
theorem d_L_law_337 : decode code 337 = .ok (.iadd, 1) := by decide +kernel
theorem d_L_law_338 : decode code 338 = .ok (.iaload, 1) := by decide +kernel
theorem d_L_law_339 : decode code 339 = .ok (.invokevirtual 110, 3) := by decide +kernel
theorem d_L_law_342 : decode code 342 = .ok (.aload_n 2, 1) := by decide +kernel
theorem d_L_law_343 : decode code 343 = .ok (.invokevirtual 93, 3) := by decide +kernel
theorem d_L_law_346 : decode code 346 = .ok (.iload 5, 2) := by decide +kernel
theorem d_L_law_348 : decode code 348 = .ok (.if_icmp .eq 5, 3) := by decide +kernel
theorem d_L_law_351 : decode code 351 = .ok (.iconst 0, 1) := by decide +kernel
theorem d_L_law_352 : decode code 352 = .ok (.ireturn, 1) := by decide +kernel
theorem d_L_law_353 : decode code 353 = .ok (.goto 892, 3) := by decide +kernel
theorem d_L_law_356 : decode code 356 = .ok (.aload_n 1, 1) := by decide +kernel
theorem d_L_law_357 : decode code 357 = .ok (.aload_n 0, 1) := by decide +kernel
theorem d_L_law_358 : decode code 358 = .ok (.iload 4, 2) := by decide +kernel
theorem d_L_law_360 : decode code 360 = .ok (.iconst 1, 1) := by decide +kernel
theorem d_L_law_361 : decode code 361 = .ok (.iadd, 1) := by decide +kernel
theorem d_L_law_362 : decode code 362 = .ok (.iaload, 1) := by decide +kernel
theorem d_L_law_363 : decode code 363 = .ok (.aload_n 0, 1) := by decide +kernel
theorem d_L_law_364 : decode code 364 = .ok (.iload 4, 2) := by decide +kernel
theorem d_L_law_366 : decode code 366 = .ok (.iconst 2, 1) := by decide +kernel
theorem d_L_law_367 : decode code 367 = .ok (.iadd, 1) := by decide +kernel
theorem d_L_law_368 : decode code 368 = .ok (.iaload, 1) := by decide +kernel
theorem d_L_law_369 : decode code 369 = .ok (.invokestatic 111, 3) := by decide +kernel
theorem d_L_law_372 : decode code 372 = .ok (.istore 5, 2) := by decide +kernel
theorem d_L_law_374 : decode code 374 = .ok (.aload_n 2, 1) := by decide +kernel
theorem d_L_law_375 : decode code 375 = .ok (.aload_n 0, 1) := by decide +kernel
theorem d_L_law_376 : decode code 376 = .ok (.iload 4, 2) := by decide +kernel
theorem d_L_law_378 : decode code 378 = .ok (.iconst 1, 1) := by decide +kernel
theorem d_L_law_379 : decode code 379 = .ok (.iadd, 1) := by decide +kernel
theorem d_L_law_380 : decode code 380 = .ok (.iaload, 1) := by decide +kernel
theorem d_L_law_381 : decode code 381 = .ok (.aload_n 0, 1) := by decide +kernel
theorem d_L_law_382 : decode code 382 = .ok (.iload 4, 2) := by decide +kernel
theorem d_L_law_384 : decode code 384 = .ok (.iconst 2, 1) := by decide +kernel
theorem d_L_law_385 : decode code 385 = .ok (.iadd, 1) := by decide +kernel
theorem d_L_law_386 : decode code 386 = .ok (.iaload, 1) := by decide +kernel
theorem d_L_law_387 : decode code 387 = .ok (.invokevirtual 113, 3) := by decide +kernel
theorem d_L_law_390 : decode code 390 = .ok (.aload_n 2, 1) := by decide +kernel
theorem d_L_law_391 : decode code 391 = .ok (.invokevirtual 93, 3) := by decide +kernel
theorem d_L_law_394 : decode code 394 = .ok (.iload 5, 2) := by decide +kernel
theorem d_L_law_396 : decode code 396 = .ok (.if_icmp .eq 5, 3) := by decide +kernel
theorem d_L_law_399 : decode code 399 = .ok (.iconst 0, 1) := by decide +kernel
theorem d_L_law_400 : decode code 400 = .ok (.ireturn, 1) := by decide +kernel
theorem d_L_law_401 : decode code 401 = .ok (.goto 844, 3) := by decide +kernel
theorem d_L_law_404 : decode code 404 = .ok (.aload_n 1, 1) := by decide +kernel
theorem d_L_law_405 : decode code 405 = .ok (.aload_n 0, 1) := by decide +kernel
theorem d_L_law_406 : decode code 406 = .ok (.iload 4, 2) := by decide +kernel
theorem d_L_law_408 : decode code 408 = .ok (.iconst 1, 1) := by decide +kernel
theorem d_L_law_409 : decode code 409 = .ok (.iadd, 1) := by decide +kernel
theorem d_L_law_410 : decode code 410 = .ok (.iaload, 1) := by decide +kernel
theorem d_L_law_411 : decode code 411 = .ok (.aload_n 3, 1) := by decide +kernel
theorem d_L_law_412 : decode code 412 = .ok (.invokestatic 114, 3) := by decide +kernel
theorem d_L_law_415 : decode code 415 = .ok (.istore 5, 2) := by decide +kernel
theorem d_L_law_417 : decode code 417 = .ok (.aload_n 2, 1) := by decide +kernel
theorem d_L_law_418 : decode code 418 = .ok (.aload_n 0, 1) := by decide +kernel
theorem d_L_law_419 : decode code 419 = .ok (.iload 4, 2) := by decide +kernel
theorem d_L_law_421 : decode code 421 = .ok (.iconst 1, 1) := by decide +kernel
theorem d_L_law_422 : decode code 422 = .ok (.iadd, 1) := by decide +kernel
theorem d_L_law_423 : decode code 423 = .ok (.iaload, 1) := by decide +kernel
theorem d_L_law_424 : decode code 424 = .ok (.invokevirtual 116, 3) := by decide +kernel
theorem d_L_law_427 : decode code 427 = .ok (.istore 6, 2) := by decide +kernel
theorem d_L_law_429 : decode code 429 = .ok (.aload_n 2, 1) := by decide +kernel
theorem d_L_law_430 : decode code 430 = .ok (.invokevirtual 93, 3) := by decide +kernel
theorem d_L_law_433 : decode code 433 = .ok (.iload 5, 2) := by decide +kernel
theorem d_L_law_435 : decode code 435 = .ok (.if_icmp .eq 5, 3) := by decide +kernel
theorem d_L_law_438 : decode code 438 = .ok (.iconst 0, 1) := by decide +kernel
theorem d_L_law_439 : decode code 439 = .ok (.ireturn, 1) := by decide +kernel
theorem d_L_law_440 : decode code 440 = .ok (.iload 5, 2) := by decide +kernel
theorem d_L_law_442 : decode code 442 = .ok (.ifCond .ne 15, 3) := by decide +kernel
theorem d_L_law_445 : decode code 445 = .ok (.aload_n 3, 1) := by decide +kernel
theorem d_L_law_446 : decode code 446 = .ok (.iconst 0, 1) := by decide +kernel
theorem d_L_law_447 : decode code 447 = .ok (.laload, 1) := by decide +kernel
theorem d_L_law_448 : decode code 448 = .ok (.iload 6, 2) := by decide +kernel
theorem d_L_law_450 : decode code 450 = .ok (.i2l, 1) := by decide +kernel
theorem d_L_law_451 : decode code 451 = .ok (.lcmp, 1) := by decide +kernel
theorem d_L_law_452 : decode code 452 = .ok (.ifCond .eq 5, 3) := by decide +kernel
theorem d_L_law_455 : decode code 455 = .ok (.iconst 0, 1) := by decide +kernel
theorem d_L_law_456 : decode code 456 = .ok (.ireturn, 1) := by decide +kernel
theorem d_L_law_457 : decode code 457 = .ok (.goto 788, 3) := by decide +kernel
theorem d_L_law_460 : decode code 460 = .ok (.aload_n 1, 1) := by decide +kernel
theorem d_L_law_461 : decode code 461 = .ok (.aload_n 0, 1) := by decide +kernel
theorem d_L_law_462 : decode code 462 = .ok (.iload 4, 2) := by decide +kernel
theorem d_L_law_464 : decode code 464 = .ok (.iconst 1, 1) := by decide +kernel
theorem d_L_law_465 : decode code 465 = .ok (.iadd, 1) := by decide +kernel
theorem d_L_law_466 : decode code 466 = .ok (.iaload, 1) := by decide +kernel
theorem d_L_law_467 : decode code 467 = .ok (.aload_n 0, 1) := by decide +kernel
theorem d_L_law_468 : decode code 468 = .ok (.iload 4, 2) := by decide +kernel
theorem d_L_law_470 : decode code 470 = .ok (.iconst 2, 1) := by decide +kernel
theorem d_L_law_471 : decode code 471 = .ok (.iadd, 1) := by decide +kernel
theorem d_L_law_472 : decode code 472 = .ok (.iaload, 1) := by decide +kernel
theorem d_L_law_473 : decode code 473 = .ok (.invokestatic 117, 3) := by decide +kernel
theorem d_L_law_476 : decode code 476 = .ok (.istore 5, 2) := by decide +kernel
theorem d_L_law_478 : decode code 478 = .ok (.aload_n 2, 1) := by decide +kernel
theorem d_L_law_479 : decode code 479 = .ok (.aload_n 0, 1) := by decide +kernel
theorem d_L_law_480 : decode code 480 = .ok (.iload 4, 2) := by decide +kernel
theorem d_L_law_482 : decode code 482 = .ok (.iconst 1, 1) := by decide +kernel
theorem d_L_law_483 : decode code 483 = .ok (.iadd, 1) := by decide +kernel
theorem d_L_law_484 : decode code 484 = .ok (.iaload, 1) := by decide +kernel
theorem d_L_law_485 : decode code 485 = .ok (.aload_n 0, 1) := by decide +kernel
theorem d_L_law_486 : decode code 486 = .ok (.iload 4, 2) := by decide +kernel
theorem d_L_law_488 : decode code 488 = .ok (.iconst 2, 1) := by decide +kernel
theorem d_L_law_489 : decode code 489 = .ok (.iadd, 1) := by decide +kernel
theorem d_L_law_490 : decode code 490 = .ok (.iaload, 1) := by decide +kernel
theorem d_L_law_491 : decode code 491 = .ok (.invokevirtual 119, 3) := by decide +kernel
theorem d_L_law_494 : decode code 494 = .ok (.aload_n 2, 1) := by decide +kernel
theorem d_L_law_495 : decode code 495 = .ok (.invokevirtual 93, 3) := by decide +kernel
theorem d_L_law_498 : decode code 498 = .ok (.iload 5, 2) := by decide +kernel
theorem d_L_law_500 : decode code 500 = .ok (.if_icmp .eq 5, 3) := by decide +kernel
theorem d_L_law_503 : decode code 503 = .ok (.iconst 0, 1) := by decide +kernel
theorem d_L_law_504 : decode code 504 = .ok (.ireturn, 1) := by decide +kernel
theorem d_L_law_505 : decode code 505 = .ok (.goto 740, 3) := by decide +kernel
theorem d_L_law_508 : decode code 508 = .ok (.aload_n 1, 1) := by decide +kernel
theorem d_L_law_509 : decode code 509 = .ok (.aload_n 0, 1) := by decide +kernel
theorem d_L_law_510 : decode code 510 = .ok (.iload 4, 2) := by decide +kernel
theorem d_L_law_512 : decode code 512 = .ok (.iconst 1, 1) := by decide +kernel
theorem d_L_law_513 : decode code 513 = .ok (.iadd, 1) := by decide +kernel
theorem d_L_law_514 : decode code 514 = .ok (.iaload, 1) := by decide +kernel
theorem d_L_law_515 : decode code 515 = .ok (.aload_n 0, 1) := by decide +kernel
theorem d_L_law_516 : decode code 516 = .ok (.iload 4, 2) := by decide +kernel
theorem d_L_law_518 : decode code 518 = .ok (.iconst 2, 1) := by decide +kernel
theorem d_L_law_519 : decode code 519 = .ok (.iadd, 1) := by decide +kernel
theorem d_L_law_520 : decode code 520 = .ok (.iaload, 1) := by decide +kernel
theorem d_L_law_521 : decode code 521 = .ok (.invokestatic 120, 3) := by decide +kernel
theorem d_L_law_524 : decode code 524 = .ok (.istore 5, 2) := by decide +kernel
theorem d_L_law_526 : decode code 526 = .ok (.aload_n 2, 1) := by decide +kernel
theorem d_L_law_527 : decode code 527 = .ok (.aload_n 0, 1) := by decide +kernel
theorem d_L_law_528 : decode code 528 = .ok (.iload 4, 2) := by decide +kernel
theorem d_L_law_530 : decode code 530 = .ok (.iconst 1, 1) := by decide +kernel
theorem d_L_law_531 : decode code 531 = .ok (.iadd, 1) := by decide +kernel
theorem d_L_law_532 : decode code 532 = .ok (.iaload, 1) := by decide +kernel
theorem d_L_law_533 : decode code 533 = .ok (.aload_n 0, 1) := by decide +kernel
theorem d_L_law_534 : decode code 534 = .ok (.iload 4, 2) := by decide +kernel
theorem d_L_law_536 : decode code 536 = .ok (.iconst 2, 1) := by decide +kernel
theorem d_L_law_537 : decode code 537 = .ok (.iadd, 1) := by decide +kernel
theorem d_L_law_538 : decode code 538 = .ok (.iaload, 1) := by decide +kernel
theorem d_L_law_539 : decode code 539 = .ok (.invokevirtual 122, 3) := by decide +kernel
theorem d_L_law_542 : decode code 542 = .ok (.aload_n 2, 1) := by decide +kernel
theorem d_L_law_543 : decode code 543 = .ok (.invokevirtual 93, 3) := by decide +kernel
theorem d_L_law_546 : decode code 546 = .ok (.iload 5, 2) := by decide +kernel
theorem d_L_law_548 : decode code 548 = .ok (.if_icmp .eq 5, 3) := by decide +kernel
theorem d_L_law_551 : decode code 551 = .ok (.iconst 0, 1) := by decide +kernel
theorem d_L_law_552 : decode code 552 = .ok (.ireturn, 1) := by decide +kernel
theorem d_L_law_553 : decode code 553 = .ok (.goto 692, 3) := by decide +kernel
theorem d_L_law_556 : decode code 556 = .ok (.aload_n 1, 1) := by decide +kernel
theorem d_L_law_557 : decode code 557 = .ok (.aload_n 0, 1) := by decide +kernel
theorem d_L_law_558 : decode code 558 = .ok (.iload 4, 2) := by decide +kernel
theorem d_L_law_560 : decode code 560 = .ok (.iconst 1, 1) := by decide +kernel
theorem d_L_law_561 : decode code 561 = .ok (.iadd, 1) := by decide +kernel
theorem d_L_law_562 : decode code 562 = .ok (.iaload, 1) := by decide +kernel
theorem d_L_law_563 : decode code 563 = .ok (.aload_n 0, 1) := by decide +kernel
theorem d_L_law_564 : decode code 564 = .ok (.iload 4, 2) := by decide +kernel
theorem d_L_law_566 : decode code 566 = .ok (.iconst 2, 1) := by decide +kernel
theorem d_L_law_567 : decode code 567 = .ok (.iadd, 1) := by decide +kernel
theorem d_L_law_568 : decode code 568 = .ok (.iaload, 1) := by decide +kernel
theorem d_L_law_569 : decode code 569 = .ok (.invokestatic 123, 3) := by decide +kernel
theorem d_L_law_572 : decode code 572 = .ok (.istore 5, 2) := by decide +kernel
theorem d_L_law_574 : decode code 574 = .ok (.aload_n 2, 1) := by decide +kernel
theorem d_L_law_575 : decode code 575 = .ok (.aload_n 0, 1) := by decide +kernel
theorem d_L_law_576 : decode code 576 = .ok (.iload 4, 2) := by decide +kernel
theorem d_L_law_578 : decode code 578 = .ok (.iconst 1, 1) := by decide +kernel
theorem d_L_law_579 : decode code 579 = .ok (.iadd, 1) := by decide +kernel
theorem d_L_law_580 : decode code 580 = .ok (.iaload, 1) := by decide +kernel
theorem d_L_law_581 : decode code 581 = .ok (.aload_n 0, 1) := by decide +kernel
theorem d_L_law_582 : decode code 582 = .ok (.iload 4, 2) := by decide +kernel
theorem d_L_law_584 : decode code 584 = .ok (.iconst 2, 1) := by decide +kernel
theorem d_L_law_585 : decode code 585 = .ok (.iadd, 1) := by decide +kernel
theorem d_L_law_586 : decode code 586 = .ok (.iaload, 1) := by decide +kernel
theorem d_L_law_587 : decode code 587 = .ok (.invokevirtual 125, 3) := by decide +kernel
theorem d_L_law_590 : decode code 590 = .ok (.aload_n 2, 1) := by decide +kernel
theorem d_L_law_591 : decode code 591 = .ok (.invokevirtual 93, 3) := by decide +kernel
theorem d_L_law_594 : decode code 594 = .ok (.iload 5, 2) := by decide +kernel
theorem d_L_law_596 : decode code 596 = .ok (.if_icmp .eq 5, 3) := by decide +kernel
theorem d_L_law_599 : decode code 599 = .ok (.iconst 0, 1) := by decide +kernel
theorem d_L_law_600 : decode code 600 = .ok (.ireturn, 1) := by decide +kernel
theorem d_L_law_601 : decode code 601 = .ok (.goto 644, 3) := by decide +kernel
theorem d_L_law_604 : decode code 604 = .ok (.aload_n 1, 1) := by decide +kernel
theorem d_L_law_605 : decode code 605 = .ok (.aload_n 0, 1) := by decide +kernel
theorem d_L_law_606 : decode code 606 = .ok (.iload 4, 2) := by decide +kernel
theorem d_L_law_608 : decode code 608 = .ok (.iconst 1, 1) := by decide +kernel
theorem d_L_law_609 : decode code 609 = .ok (.iadd, 1) := by decide +kernel
theorem d_L_law_610 : decode code 610 = .ok (.iaload, 1) := by decide +kernel
theorem d_L_law_611 : decode code 611 = .ok (.aload_n 0, 1) := by decide +kernel
theorem d_L_law_612 : decode code 612 = .ok (.iload 4, 2) := by decide +kernel
theorem d_L_law_614 : decode code 614 = .ok (.iconst 2, 1) := by decide +kernel
theorem d_L_law_615 : decode code 615 = .ok (.iadd, 1) := by decide +kernel
theorem d_L_law_616 : decode code 616 = .ok (.iaload, 1) := by decide +kernel
theorem d_L_law_617 : decode code 617 = .ok (.aload_n 3, 1) := by decide +kernel
theorem d_L_law_618 : decode code 618 = .ok (.invokestatic 126, 3) := by decide +kernel
theorem d_L_law_621 : decode code 621 = .ok (.istore 5, 2) := by decide +kernel
theorem d_L_law_623 : decode code 623 = .ok (.aload_n 2, 1) := by decide +kernel
theorem d_L_law_624 : decode code 624 = .ok (.aload_n 0, 1) := by decide +kernel
theorem d_L_law_625 : decode code 625 = .ok (.iload 4, 2) := by decide +kernel
theorem d_L_law_627 : decode code 627 = .ok (.iconst 1, 1) := by decide +kernel
theorem d_L_law_628 : decode code 628 = .ok (.iadd, 1) := by decide +kernel
theorem d_L_law_629 : decode code 629 = .ok (.iaload, 1) := by decide +kernel
theorem d_L_law_630 : decode code 630 = .ok (.aload_n 0, 1) := by decide +kernel
theorem d_L_law_631 : decode code 631 = .ok (.iload 4, 2) := by decide +kernel
theorem d_L_law_633 : decode code 633 = .ok (.iconst 2, 1) := by decide +kernel
theorem d_L_law_634 : decode code 634 = .ok (.iadd, 1) := by decide +kernel
theorem d_L_law_635 : decode code 635 = .ok (.iaload, 1) := by decide +kernel
theorem d_L_law_636 : decode code 636 = .ok (.invokevirtual 129, 3) := by decide +kernel
theorem d_L_law_639 : decode code 639 = .ok (.istore 6, 2) := by decide +kernel
theorem d_L_law_641 : decode code 641 = .ok (.aload_n 2, 1) := by decide +kernel
theorem d_L_law_642 : decode code 642 = .ok (.invokevirtual 93, 3) := by decide +kernel
theorem d_L_law_645 : decode code 645 = .ok (.iload 5, 2) := by decide +kernel
theorem d_L_law_647 : decode code 647 = .ok (.if_icmp .eq 5, 3) := by decide +kernel
theorem d_L_law_650 : decode code 650 = .ok (.iconst 0, 1) := by decide +kernel
theorem d_L_law_651 : decode code 651 = .ok (.ireturn, 1) := by decide +kernel
theorem d_L_law_652 : decode code 652 = .ok (.iload 5, 2) := by decide +kernel
theorem d_L_law_654 : decode code 654 = .ok (.ifCond .ne 15, 3) := by decide +kernel
theorem d_L_law_657 : decode code 657 = .ok (.aload_n 3, 1) := by decide +kernel
theorem d_L_law_658 : decode code 658 = .ok (.iconst 0, 1) := by decide +kernel
theorem d_L_law_659 : decode code 659 = .ok (.laload, 1) := by decide +kernel
theorem d_L_law_660 : decode code 660 = .ok (.iload 6, 2) := by decide +kernel
theorem d_L_law_662 : decode code 662 = .ok (.i2l, 1) := by decide +kernel
theorem d_L_law_663 : decode code 663 = .ok (.lcmp, 1) := by decide +kernel
theorem d_L_law_664 : decode code 664 = .ok (.ifCond .eq 5, 3) := by decide +kernel
theorem d_L_law_667 : decode code 667 = .ok (.iconst 0, 1) := by decide +kernel
theorem d_L_law_668 : decode code 668 = .ok (.ireturn, 1) := by decide +kernel
theorem d_L_law_669 : decode code 669 = .ok (.goto 576, 3) := by decide +kernel
theorem d_L_law_672 : decode code 672 = .ok (.aload_n 1, 1) := by decide +kernel
theorem d_L_law_673 : decode code 673 = .ok (.aload_n 0, 1) := by decide +kernel
theorem d_L_law_674 : decode code 674 = .ok (.iload 4, 2) := by decide +kernel
theorem d_L_law_676 : decode code 676 = .ok (.iconst 1, 1) := by decide +kernel
theorem d_L_law_677 : decode code 677 = .ok (.iadd, 1) := by decide +kernel
theorem d_L_law_678 : decode code 678 = .ok (.iaload, 1) := by decide +kernel
theorem d_L_law_679 : decode code 679 = .ok (.aload_n 0, 1) := by decide +kernel
theorem d_L_law_680 : decode code 680 = .ok (.iload 4, 2) := by decide +kernel
theorem d_L_law_682 : decode code 682 = .ok (.iconst 2, 1) := by decide +kernel
theorem d_L_law_683 : decode code 683 = .ok (.iadd, 1) := by decide +kernel
theorem d_L_law_684 : decode code 684 = .ok (.iaload, 1) := by decide +kernel
theorem d_L_law_685 : decode code 685 = .ok (.ifCond .eq 7, 3) := by decide +kernel
theorem d_L_law_688 : decode code 688 = .ok (.iconst 1, 1) := by decide +kernel
theorem d_L_law_689 : decode code 689 = .ok (.goto 4, 3) := by decide +kernel
theorem d_L_law_692 : decode code 692 = .ok (.iconst 0, 1) := by decide +kernel
theorem d_L_law_693 : decode code 693 = .ok (.invokestatic 130, 3) := by decide +kernel
theorem d_L_law_696 : decode code 696 = .ok (.istore 5, 2) := by decide +kernel
theorem d_L_law_698 : decode code 698 = .ok (.aload_n 2, 1) := by decide +kernel
theorem d_L_law_699 : decode code 699 = .ok (.aload_n 0, 1) := by decide +kernel
theorem d_L_law_700 : decode code 700 = .ok (.iload 4, 2) := by decide +kernel
theorem d_L_law_702 : decode code 702 = .ok (.iconst 1, 1) := by decide +kernel
theorem d_L_law_703 : decode code 703 = .ok (.iadd, 1) := by decide +kernel
theorem d_L_law_704 : decode code 704 = .ok (.iaload, 1) := by decide +kernel
theorem d_L_law_705 : decode code 705 = .ok (.aload_n 0, 1) := by decide +kernel
theorem d_L_law_706 : decode code 706 = .ok (.iload 4, 2) := by decide +kernel
theorem d_L_law_708 : decode code 708 = .ok (.iconst 2, 1) := by decide +kernel
theorem d_L_law_709 : decode code 709 = .ok (.iadd, 1) := by decide +kernel
theorem d_L_law_710 : decode code 710 = .ok (.iaload, 1) := by decide +kernel
theorem d_L_law_711 : decode code 711 = .ok (.ifCond .eq 7, 3) := by decide +kernel
theorem d_L_law_714 : decode code 714 = .ok (.iconst 1, 1) := by decide +kernel
theorem d_L_law_715 : decode code 715 = .ok (.goto 4, 3) := by decide +kernel
theorem d_L_law_718 : decode code 718 = .ok (.iconst 0, 1) := by decide +kernel
theorem d_L_law_719 : decode code 719 = .ok (.invokevirtual 133, 3) := by decide +kernel
theorem d_L_law_722 : decode code 722 = .ok (.aload_n 2, 1) := by decide +kernel
theorem d_L_law_723 : decode code 723 = .ok (.invokevirtual 93, 3) := by decide +kernel
theorem d_L_law_726 : decode code 726 = .ok (.iload 5, 2) := by decide +kernel
theorem d_L_law_728 : decode code 728 = .ok (.if_icmp .eq 5, 3) := by decide +kernel
theorem d_L_law_731 : decode code 731 = .ok (.iconst 0, 1) := by decide +kernel
theorem d_L_law_732 : decode code 732 = .ok (.ireturn, 1) := by decide +kernel
theorem d_L_law_733 : decode code 733 = .ok (.goto 512, 3) := by decide +kernel
theorem d_L_law_736 : decode code 736 = .ok (.aload_n 1, 1) := by decide +kernel
theorem d_L_law_737 : decode code 737 = .ok (.aload_n 0, 1) := by decide +kernel
theorem d_L_law_738 : decode code 738 = .ok (.iload 4, 2) := by decide +kernel
theorem d_L_law_740 : decode code 740 = .ok (.iconst 1, 1) := by decide +kernel
theorem d_L_law_741 : decode code 741 = .ok (.iadd, 1) := by decide +kernel
theorem d_L_law_742 : decode code 742 = .ok (.iaload, 1) := by decide +kernel
theorem d_L_law_743 : decode code 743 = .ok (.aload_n 3, 1) := by decide +kernel
theorem d_L_law_744 : decode code 744 = .ok (.invokestatic 134, 3) := by decide +kernel
theorem d_L_law_747 : decode code 747 = .ok (.istore 5, 2) := by decide +kernel
theorem d_L_law_749 : decode code 749 = .ok (.aload_n 2, 1) := by decide +kernel
theorem d_L_law_750 : decode code 750 = .ok (.aload_n 0, 1) := by decide +kernel
theorem d_L_law_751 : decode code 751 = .ok (.iload 4, 2) := by decide +kernel
theorem d_L_law_753 : decode code 753 = .ok (.iconst 1, 1) := by decide +kernel
theorem d_L_law_754 : decode code 754 = .ok (.iadd, 1) := by decide +kernel
theorem d_L_law_755 : decode code 755 = .ok (.iaload, 1) := by decide +kernel
theorem d_L_law_756 : decode code 756 = .ok (.invokevirtual 136, 3) := by decide +kernel
theorem d_L_law_759 : decode code 759 = .ok (.istore 6, 2) := by decide +kernel
theorem d_L_law_761 : decode code 761 = .ok (.aload_n 2, 1) := by decide +kernel
theorem d_L_law_762 : decode code 762 = .ok (.invokevirtual 93, 3) := by decide +kernel
theorem d_L_law_765 : decode code 765 = .ok (.iload 5, 2) := by decide +kernel
theorem d_L_law_767 : decode code 767 = .ok (.if_icmp .eq 5, 3) := by decide +kernel
theorem d_L_law_770 : decode code 770 = .ok (.iconst 0, 1) := by decide +kernel
theorem d_L_law_771 : decode code 771 = .ok (.ireturn, 1) := by decide +kernel
theorem d_L_law_772 : decode code 772 = .ok (.iload 5, 2) := by decide +kernel
theorem d_L_law_774 : decode code 774 = .ok (.ifCond .ne 15, 3) := by decide +kernel
theorem d_L_law_777 : decode code 777 = .ok (.aload_n 3, 1) := by decide +kernel
theorem d_L_law_778 : decode code 778 = .ok (.iconst 0, 1) := by decide +kernel
theorem d_L_law_779 : decode code 779 = .ok (.laload, 1) := by decide +kernel
theorem d_L_law_780 : decode code 780 = .ok (.iload 6, 2) := by decide +kernel
theorem d_L_law_782 : decode code 782 = .ok (.i2l, 1) := by decide +kernel
theorem d_L_law_783 : decode code 783 = .ok (.lcmp, 1) := by decide +kernel
theorem d_L_law_784 : decode code 784 = .ok (.ifCond .eq 5, 3) := by decide +kernel
theorem d_L_law_787 : decode code 787 = .ok (.iconst 0, 1) := by decide +kernel
theorem d_L_law_788 : decode code 788 = .ok (.ireturn, 1) := by decide +kernel
theorem d_L_law_789 : decode code 789 = .ok (.goto 456, 3) := by decide +kernel
theorem d_L_law_792 : decode code 792 = .ok (.aload_n 1, 1) := by decide +kernel
theorem d_L_law_793 : decode code 793 = .ok (.aload_n 0, 1) := by decide +kernel
theorem d_L_law_794 : decode code 794 = .ok (.iload 4, 2) := by decide +kernel
theorem d_L_law_796 : decode code 796 = .ok (.iconst 1, 1) := by decide +kernel
theorem d_L_law_797 : decode code 797 = .ok (.iadd, 1) := by decide +kernel
theorem d_L_law_798 : decode code 798 = .ok (.iaload, 1) := by decide +kernel
theorem d_L_law_799 : decode code 799 = .ok (.aload_n 3, 1) := by decide +kernel
theorem d_L_law_800 : decode code 800 = .ok (.invokestatic 137, 3) := by decide +kernel
theorem d_L_law_803 : decode code 803 = .ok (.istore 5, 2) := by decide +kernel
theorem d_L_law_805 : decode code 805 = .ok (.aload_n 2, 1) := by decide +kernel
theorem d_L_law_806 : decode code 806 = .ok (.aload_n 0, 1) := by decide +kernel
theorem d_L_law_807 : decode code 807 = .ok (.iload 4, 2) := by decide +kernel
theorem d_L_law_809 : decode code 809 = .ok (.iconst 1, 1) := by decide +kernel
theorem d_L_law_810 : decode code 810 = .ok (.iadd, 1) := by decide +kernel
theorem d_L_law_811 : decode code 811 = .ok (.iaload, 1) := by decide +kernel
theorem d_L_law_812 : decode code 812 = .ok (.invokevirtual 139, 3) := by decide +kernel
theorem d_L_law_815 : decode code 815 = .ok (.istore 6, 2) := by decide +kernel
theorem d_L_law_817 : decode code 817 = .ok (.aload_n 2, 1) := by decide +kernel
theorem d_L_law_818 : decode code 818 = .ok (.invokevirtual 93, 3) := by decide +kernel
theorem d_L_law_821 : decode code 821 = .ok (.iload 5, 2) := by decide +kernel
theorem d_L_law_823 : decode code 823 = .ok (.if_icmp .eq 5, 3) := by decide +kernel
theorem d_L_law_826 : decode code 826 = .ok (.iconst 0, 1) := by decide +kernel
theorem d_L_law_827 : decode code 827 = .ok (.ireturn, 1) := by decide +kernel
theorem d_L_law_828 : decode code 828 = .ok (.iload 5, 2) := by decide +kernel
theorem d_L_law_830 : decode code 830 = .ok (.ifCond .ne 15, 3) := by decide +kernel
theorem d_L_law_833 : decode code 833 = .ok (.aload_n 3, 1) := by decide +kernel
theorem d_L_law_834 : decode code 834 = .ok (.iconst 0, 1) := by decide +kernel
theorem d_L_law_835 : decode code 835 = .ok (.laload, 1) := by decide +kernel
theorem d_L_law_836 : decode code 836 = .ok (.iload 6, 2) := by decide +kernel
theorem d_L_law_838 : decode code 838 = .ok (.i2l, 1) := by decide +kernel
theorem d_L_law_839 : decode code 839 = .ok (.lcmp, 1) := by decide +kernel
theorem d_L_law_840 : decode code 840 = .ok (.ifCond .eq 5, 3) := by decide +kernel
theorem d_L_law_843 : decode code 843 = .ok (.iconst 0, 1) := by decide +kernel
theorem d_L_law_844 : decode code 844 = .ok (.ireturn, 1) := by decide +kernel
theorem d_L_law_845 : decode code 845 = .ok (.goto 400, 3) := by decide +kernel
theorem d_L_law_848 : decode code 848 = .ok (.aload_n 1, 1) := by decide +kernel
theorem d_L_law_849 : decode code 849 = .ok (.aload_n 0, 1) := by decide +kernel
theorem d_L_law_850 : decode code 850 = .ok (.iload 4, 2) := by decide +kernel
theorem d_L_law_852 : decode code 852 = .ok (.iconst 1, 1) := by decide +kernel
theorem d_L_law_853 : decode code 853 = .ok (.iadd, 1) := by decide +kernel
theorem d_L_law_854 : decode code 854 = .ok (.iaload, 1) := by decide +kernel
theorem d_L_law_855 : decode code 855 = .ok (.aload_n 0, 1) := by decide +kernel
theorem d_L_law_856 : decode code 856 = .ok (.iload 4, 2) := by decide +kernel
theorem d_L_law_858 : decode code 858 = .ok (.iconst 2, 1) := by decide +kernel
theorem d_L_law_859 : decode code 859 = .ok (.iadd, 1) := by decide +kernel
theorem d_L_law_860 : decode code 860 = .ok (.iaload, 1) := by decide +kernel
theorem d_L_law_861 : decode code 861 = .ok (.aload_n 3, 1) := by decide +kernel
theorem d_L_law_862 : decode code 862 = .ok (.invokestatic 140, 3) := by decide +kernel
theorem d_L_law_865 : decode code 865 = .ok (.istore 5, 2) := by decide +kernel
theorem d_L_law_867 : decode code 867 = .ok (.aload_n 2, 1) := by decide +kernel
theorem d_L_law_868 : decode code 868 = .ok (.aload_n 0, 1) := by decide +kernel
theorem d_L_law_869 : decode code 869 = .ok (.iload 4, 2) := by decide +kernel
theorem d_L_law_871 : decode code 871 = .ok (.iconst 1, 1) := by decide +kernel
theorem d_L_law_872 : decode code 872 = .ok (.iadd, 1) := by decide +kernel
theorem d_L_law_873 : decode code 873 = .ok (.iaload, 1) := by decide +kernel
theorem d_L_law_874 : decode code 874 = .ok (.aload_n 0, 1) := by decide +kernel
theorem d_L_law_875 : decode code 875 = .ok (.iload 4, 2) := by decide +kernel
theorem d_L_law_877 : decode code 877 = .ok (.iconst 2, 1) := by decide +kernel
theorem d_L_law_878 : decode code 878 = .ok (.iadd, 1) := by decide +kernel
theorem d_L_law_879 : decode code 879 = .ok (.iaload, 1) := by decide +kernel
theorem d_L_law_880 : decode code 880 = .ok (.invokevirtual 142, 3) := by decide +kernel
theorem d_L_law_883 : decode code 883 = .ok (.istore 6, 2) := by decide +kernel
theorem d_L_law_885 : decode code 885 = .ok (.aload_n 2, 1) := by decide +kernel
theorem d_L_law_886 : decode code 886 = .ok (.invokevirtual 93, 3) := by decide +kernel
theorem d_L_law_889 : decode code 889 = .ok (.iload 5, 2) := by decide +kernel
theorem d_L_law_891 : decode code 891 = .ok (.if_icmp .eq 5, 3) := by decide +kernel
theorem d_L_law_894 : decode code 894 = .ok (.iconst 0, 1) := by decide +kernel
theorem d_L_law_895 : decode code 895 = .ok (.ireturn, 1) := by decide +kernel
theorem d_L_law_896 : decode code 896 = .ok (.iload 5, 2) := by decide +kernel
theorem d_L_law_898 : decode code 898 = .ok (.ifCond .ne 15, 3) := by decide +kernel
theorem d_L_law_901 : decode code 901 = .ok (.aload_n 3, 1) := by decide +kernel
theorem d_L_law_902 : decode code 902 = .ok (.iconst 0, 1) := by decide +kernel
theorem d_L_law_903 : decode code 903 = .ok (.laload, 1) := by decide +kernel
theorem d_L_law_904 : decode code 904 = .ok (.iload 6, 2) := by decide +kernel
theorem d_L_law_906 : decode code 906 = .ok (.i2l, 1) := by decide +kernel
theorem d_L_law_907 : decode code 907 = .ok (.lcmp, 1) := by decide +kernel
theorem d_L_law_908 : decode code 908 = .ok (.ifCond .eq 5, 3) := by decide +kernel
theorem d_L_law_911 : decode code 911 = .ok (.iconst 0, 1) := by decide +kernel
theorem d_L_law_912 : decode code 912 = .ok (.ireturn, 1) := by decide +kernel
theorem d_L_law_913 : decode code 913 = .ok (.goto 332, 3) := by decide +kernel
theorem d_L_law_916 : decode code 916 = .ok (.aload_n 1, 1) := by decide +kernel
theorem d_L_law_917 : decode code 917 = .ok (.aload_n 0, 1) := by decide +kernel
theorem d_L_law_918 : decode code 918 = .ok (.iload 4, 2) := by decide +kernel
theorem d_L_law_920 : decode code 920 = .ok (.iconst 1, 1) := by decide +kernel
theorem d_L_law_921 : decode code 921 = .ok (.iadd, 1) := by decide +kernel
theorem d_L_law_922 : decode code 922 = .ok (.iaload, 1) := by decide +kernel
theorem d_L_law_923 : decode code 923 = .ok (.aload_n 0, 1) := by decide +kernel
theorem d_L_law_924 : decode code 924 = .ok (.iload 4, 2) := by decide +kernel
theorem d_L_law_926 : decode code 926 = .ok (.iconst 2, 1) := by decide +kernel
theorem d_L_law_927 : decode code 927 = .ok (.iadd, 1) := by decide +kernel
theorem d_L_law_928 : decode code 928 = .ok (.iaload, 1) := by decide +kernel
theorem d_L_law_929 : decode code 929 = .ok (.aload_n 3, 1) := by decide +kernel
theorem d_L_law_930 : decode code 930 = .ok (.invokestatic 143, 3) := by decide +kernel
theorem d_L_law_933 : decode code 933 = .ok (.istore 5, 2) := by decide +kernel
theorem d_L_law_935 : decode code 935 = .ok (.aload_n 2, 1) := by decide +kernel
theorem d_L_law_936 : decode code 936 = .ok (.aload_n 0, 1) := by decide +kernel
theorem d_L_law_937 : decode code 937 = .ok (.iload 4, 2) := by decide +kernel
theorem d_L_law_939 : decode code 939 = .ok (.iconst 1, 1) := by decide +kernel
theorem d_L_law_940 : decode code 940 = .ok (.iadd, 1) := by decide +kernel
theorem d_L_law_941 : decode code 941 = .ok (.iaload, 1) := by decide +kernel
theorem d_L_law_942 : decode code 942 = .ok (.aload_n 0, 1) := by decide +kernel
theorem d_L_law_943 : decode code 943 = .ok (.iload 4, 2) := by decide +kernel
theorem d_L_law_945 : decode code 945 = .ok (.iconst 2, 1) := by decide +kernel
theorem d_L_law_946 : decode code 946 = .ok (.iadd, 1) := by decide +kernel
theorem d_L_law_947 : decode code 947 = .ok (.iaload, 1) := by decide +kernel
theorem d_L_law_948 : decode code 948 = .ok (.invokevirtual 145, 3) := by decide +kernel
theorem d_L_law_951 : decode code 951 = .ok (.istore 6, 2) := by decide +kernel
theorem d_L_law_953 : decode code 953 = .ok (.aload_n 2, 1) := by decide +kernel
theorem d_L_law_954 : decode code 954 = .ok (.invokevirtual 93, 3) := by decide +kernel
theorem d_L_law_957 : decode code 957 = .ok (.iload 5, 2) := by decide +kernel
theorem d_L_law_959 : decode code 959 = .ok (.if_icmp .eq 5, 3) := by decide +kernel
theorem d_L_law_962 : decode code 962 = .ok (.iconst 0, 1) := by decide +kernel
theorem d_L_law_963 : decode code 963 = .ok (.ireturn, 1) := by decide +kernel
theorem d_L_law_964 : decode code 964 = .ok (.iload 5, 2) := by decide +kernel
theorem d_L_law_966 : decode code 966 = .ok (.ifCond .ne 15, 3) := by decide +kernel
theorem d_L_law_969 : decode code 969 = .ok (.aload_n 3, 1) := by decide +kernel
theorem d_L_law_970 : decode code 970 = .ok (.iconst 0, 1) := by decide +kernel
theorem d_L_law_971 : decode code 971 = .ok (.laload, 1) := by decide +kernel
theorem d_L_law_972 : decode code 972 = .ok (.iload 6, 2) := by decide +kernel
theorem d_L_law_974 : decode code 974 = .ok (.i2l, 1) := by decide +kernel
theorem d_L_law_975 : decode code 975 = .ok (.lcmp, 1) := by decide +kernel
theorem d_L_law_976 : decode code 976 = .ok (.ifCond .eq 5, 3) := by decide +kernel
theorem d_L_law_979 : decode code 979 = .ok (.iconst 0, 1) := by decide +kernel
theorem d_L_law_980 : decode code 980 = .ok (.ireturn, 1) := by decide +kernel
theorem d_L_law_981 : decode code 981 = .ok (.goto 264, 3) := by decide +kernel
theorem d_L_law_984 : decode code 984 = .ok (.aload_n 1, 1) := by decide +kernel
theorem d_L_law_985 : decode code 985 = .ok (.aload_n 0, 1) := by decide +kernel
theorem d_L_law_986 : decode code 986 = .ok (.iload 4, 2) := by decide +kernel
theorem d_L_law_988 : decode code 988 = .ok (.iconst 1, 1) := by decide +kernel
theorem d_L_law_989 : decode code 989 = .ok (.iadd, 1) := by decide +kernel
theorem d_L_law_990 : decode code 990 = .ok (.iaload, 1) := by decide +kernel
theorem d_L_law_991 : decode code 991 = .ok (.aload_n 0, 1) := by decide +kernel
theorem d_L_law_992 : decode code 992 = .ok (.iload 4, 2) := by decide +kernel
theorem d_L_law_994 : decode code 994 = .ok (.iconst 2, 1) := by decide +kernel
theorem d_L_law_995 : decode code 995 = .ok (.iadd, 1) := by decide +kernel
theorem d_L_law_996 : decode code 996 = .ok (.iaload, 1) := by decide +kernel
theorem d_L_law_997 : decode code 997 = .ok (.aload_n 3, 1) := by decide +kernel
theorem d_L_law_998 : decode code 998 = .ok (.invokestatic 146, 3) := by decide +kernel
theorem d_L_law_1001 : decode code 1001 = .ok (.istore 5, 2) := by decide +kernel
theorem d_L_law_1003 : decode code 1003 = .ok (.aload_n 2, 1) := by decide +kernel
theorem d_L_law_1004 : decode code 1004 = .ok (.aload_n 0, 1) := by decide +kernel
theorem d_L_law_1005 : decode code 1005 = .ok (.iload 4, 2) := by decide +kernel
theorem d_L_law_1007 : decode code 1007 = .ok (.iconst 1, 1) := by decide +kernel
theorem d_L_law_1008 : decode code 1008 = .ok (.iadd, 1) := by decide +kernel
theorem d_L_law_1009 : decode code 1009 = .ok (.iaload, 1) := by decide +kernel
theorem d_L_law_1010 : decode code 1010 = .ok (.aload_n 0, 1) := by decide +kernel
theorem d_L_law_1011 : decode code 1011 = .ok (.iload 4, 2) := by decide +kernel
theorem d_L_law_1013 : decode code 1013 = .ok (.iconst 2, 1) := by decide +kernel
theorem d_L_law_1014 : decode code 1014 = .ok (.iadd, 1) := by decide +kernel
theorem d_L_law_1015 : decode code 1015 = .ok (.iaload, 1) := by decide +kernel
theorem d_L_law_1016 : decode code 1016 = .ok (.invokevirtual 148, 3) := by decide +kernel
theorem d_L_law_1019 : decode code 1019 = .ok (.istore 6, 2) := by decide +kernel
theorem d_L_law_1021 : decode code 1021 = .ok (.aload_n 2, 1) := by decide +kernel
theorem d_L_law_1022 : decode code 1022 = .ok (.invokevirtual 93, 3) := by decide +kernel
theorem d_L_law_1025 : decode code 1025 = .ok (.iload 5, 2) := by decide +kernel
theorem d_L_law_1027 : decode code 1027 = .ok (.if_icmp .eq 5, 3) := by decide +kernel
theorem d_L_law_1030 : decode code 1030 = .ok (.iconst 0, 1) := by decide +kernel
theorem d_L_law_1031 : decode code 1031 = .ok (.ireturn, 1) := by decide +kernel
theorem d_L_law_1032 : decode code 1032 = .ok (.iload 5, 2) := by decide +kernel
theorem d_L_law_1034 : decode code 1034 = .ok (.ifCond .ne 15, 3) := by decide +kernel
theorem d_L_law_1037 : decode code 1037 = .ok (.aload_n 3, 1) := by decide +kernel
theorem d_L_law_1038 : decode code 1038 = .ok (.iconst 0, 1) := by decide +kernel
theorem d_L_law_1039 : decode code 1039 = .ok (.laload, 1) := by decide +kernel
theorem d_L_law_1040 : decode code 1040 = .ok (.iload 6, 2) := by decide +kernel
theorem d_L_law_1042 : decode code 1042 = .ok (.i2l, 1) := by decide +kernel
theorem d_L_law_1043 : decode code 1043 = .ok (.lcmp, 1) := by decide +kernel
theorem d_L_law_1044 : decode code 1044 = .ok (.ifCond .eq 5, 3) := by decide +kernel
theorem d_L_law_1047 : decode code 1047 = .ok (.iconst 0, 1) := by decide +kernel
theorem d_L_law_1048 : decode code 1048 = .ok (.ireturn, 1) := by decide +kernel
theorem d_L_law_1049 : decode code 1049 = .ok (.goto 196, 3) := by decide +kernel
theorem d_L_law_1052 : decode code 1052 = .ok (.aload_n 1, 1) := by decide +kernel
theorem d_L_law_1053 : decode code 1053 = .ok (.aload_n 0, 1) := by decide +kernel
theorem d_L_law_1054 : decode code 1054 = .ok (.iload 4, 2) := by decide +kernel
theorem d_L_law_1056 : decode code 1056 = .ok (.iconst 1, 1) := by decide +kernel
theorem d_L_law_1057 : decode code 1057 = .ok (.iadd, 1) := by decide +kernel
theorem d_L_law_1058 : decode code 1058 = .ok (.iaload, 1) := by decide +kernel
theorem d_L_law_1059 : decode code 1059 = .ok (.aload_n 3, 1) := by decide +kernel
theorem d_L_law_1060 : decode code 1060 = .ok (.invokestatic 149, 3) := by decide +kernel
theorem d_L_law_1063 : decode code 1063 = .ok (.istore 5, 2) := by decide +kernel
theorem d_L_law_1065 : decode code 1065 = .ok (.aload_n 2, 1) := by decide +kernel
theorem d_L_law_1066 : decode code 1066 = .ok (.aload_n 0, 1) := by decide +kernel
theorem d_L_law_1067 : decode code 1067 = .ok (.iload 4, 2) := by decide +kernel
theorem d_L_law_1069 : decode code 1069 = .ok (.iconst 1, 1) := by decide +kernel
theorem d_L_law_1070 : decode code 1070 = .ok (.iadd, 1) := by decide +kernel
theorem d_L_law_1071 : decode code 1071 = .ok (.iaload, 1) := by decide +kernel
theorem d_L_law_1072 : decode code 1072 = .ok (.invokevirtual 151, 3) := by decide +kernel
theorem d_L_law_1075 : decode code 1075 = .ok (.istore 6, 2) := by decide +kernel
theorem d_L_law_1077 : decode code 1077 = .ok (.aload_n 2, 1) := by decide +kernel
theorem d_L_law_1078 : decode code 1078 = .ok (.invokevirtual 93, 3) := by decide +kernel
theorem d_L_law_1081 : decode code 1081 = .ok (.iload 5, 2) := by decide +kernel
theorem d_L_law_1083 : decode code 1083 = .ok (.if_icmp .eq 5, 3) := by decide +kernel
theorem d_L_law_1086 : decode code 1086 = .ok (.iconst 0, 1) := by decide +kernel
theorem d_L_law_1087 : decode code 1087 = .ok (.ireturn, 1) := by decide +kernel
theorem d_L_law_1088 : decode code 1088 = .ok (.iload 5, 2) := by decide +kernel
theorem d_L_law_1090 : decode code 1090 = .ok (.ifCond .ne 15, 3) := by decide +kernel
theorem d_L_law_1093 : decode code 1093 = .ok (.aload_n 3, 1) := by decide +kernel
theorem d_L_law_1094 : decode code 1094 = .ok (.iconst 0, 1) := by decide +kernel
theorem d_L_law_1095 : decode code 1095 = .ok (.laload, 1) := by decide +kernel
theorem d_L_law_1096 : decode code 1096 = .ok (.iload 6, 2) := by decide +kernel
theorem d_L_law_1098 : decode code 1098 = .ok (.i2l, 1) := by decide +kernel
theorem d_L_law_1099 : decode code 1099 = .ok (.lcmp, 1) := by decide +kernel
theorem d_L_law_1100 : decode code 1100 = .ok (.ifCond .eq 5, 3) := by decide +kernel
theorem d_L_law_1103 : decode code 1103 = .ok (.iconst 0, 1) := by decide +kernel
theorem d_L_law_1104 : decode code 1104 = .ok (.ireturn, 1) := by decide +kernel
theorem d_L_law_1105 : decode code 1105 = .ok (.goto 140, 3) := by decide +kernel
theorem d_L_law_1108 : decode code 1108 = .ok (.aload_n 1, 1) := by decide +kernel
theorem d_L_law_1109 : decode code 1109 = .ok (.aload_n 0, 1) := by decide +kernel
theorem d_L_law_1110 : decode code 1110 = .ok (.iload 4, 2) := by decide +kernel
theorem d_L_law_1112 : decode code 1112 = .ok (.iconst 1, 1) := by decide +kernel
theorem d_L_law_1113 : decode code 1113 = .ok (.iadd, 1) := by decide +kernel
theorem d_L_law_1114 : decode code 1114 = .ok (.iaload, 1) := by decide +kernel
theorem d_L_law_1115 : decode code 1115 = .ok (.aload_n 0, 1) := by decide +kernel
theorem d_L_law_1116 : decode code 1116 = .ok (.iload 4, 2) := by decide +kernel
theorem d_L_law_1118 : decode code 1118 = .ok (.iconst 2, 1) := by decide +kernel
theorem d_L_law_1119 : decode code 1119 = .ok (.iadd, 1) := by decide +kernel
theorem d_L_law_1120 : decode code 1120 = .ok (.iaload, 1) := by decide +kernel
theorem d_L_law_1121 : decode code 1121 = .ok (.aload_n 3, 1) := by decide +kernel
theorem d_L_law_1122 : decode code 1122 = .ok (.invokestatic 152, 3) := by decide +kernel
theorem d_L_law_1125 : decode code 1125 = .ok (.istore 5, 2) := by decide +kernel
theorem d_L_law_1127 : decode code 1127 = .ok (.aload_n 2, 1) := by decide +kernel
theorem d_L_law_1128 : decode code 1128 = .ok (.aload_n 0, 1) := by decide +kernel
theorem d_L_law_1129 : decode code 1129 = .ok (.iload 4, 2) := by decide +kernel
theorem d_L_law_1131 : decode code 1131 = .ok (.iconst 1, 1) := by decide +kernel
theorem d_L_law_1132 : decode code 1132 = .ok (.iadd, 1) := by decide +kernel
theorem d_L_law_1133 : decode code 1133 = .ok (.iaload, 1) := by decide +kernel
theorem d_L_law_1134 : decode code 1134 = .ok (.aload_n 0, 1) := by decide +kernel
theorem d_L_law_1135 : decode code 1135 = .ok (.iload 4, 2) := by decide +kernel
theorem d_L_law_1137 : decode code 1137 = .ok (.iconst 2, 1) := by decide +kernel
theorem d_L_law_1138 : decode code 1138 = .ok (.iadd, 1) := by decide +kernel
theorem d_L_law_1139 : decode code 1139 = .ok (.iaload, 1) := by decide +kernel
theorem d_L_law_1140 : decode code 1140 = .ok (.invokevirtual 154, 3) := by decide +kernel
theorem d_L_law_1143 : decode code 1143 = .ok (.istore 6, 2) := by decide +kernel
theorem d_L_law_1145 : decode code 1145 = .ok (.aload_n 2, 1) := by decide +kernel
theorem d_L_law_1146 : decode code 1146 = .ok (.invokevirtual 93, 3) := by decide +kernel
theorem d_L_law_1149 : decode code 1149 = .ok (.iload 5, 2) := by decide +kernel
theorem d_L_law_1151 : decode code 1151 = .ok (.if_icmp .eq 5, 3) := by decide +kernel
theorem d_L_law_1154 : decode code 1154 = .ok (.iconst 0, 1) := by decide +kernel
theorem d_L_law_1155 : decode code 1155 = .ok (.ireturn, 1) := by decide +kernel
theorem d_L_law_1156 : decode code 1156 = .ok (.iload 5, 2) := by decide +kernel
theorem d_L_law_1158 : decode code 1158 = .ok (.ifCond .ne 15, 3) := by decide +kernel
theorem d_L_law_1161 : decode code 1161 = .ok (.aload_n 3, 1) := by decide +kernel
theorem d_L_law_1162 : decode code 1162 = .ok (.iconst 0, 1) := by decide +kernel
theorem d_L_law_1163 : decode code 1163 = .ok (.laload, 1) := by decide +kernel
theorem d_L_law_1164 : decode code 1164 = .ok (.iload 6, 2) := by decide +kernel
theorem d_L_law_1166 : decode code 1166 = .ok (.i2l, 1) := by decide +kernel
theorem d_L_law_1167 : decode code 1167 = .ok (.lcmp, 1) := by decide +kernel
theorem d_L_law_1168 : decode code 1168 = .ok (.ifCond .eq 5, 3) := by decide +kernel
theorem d_L_law_1171 : decode code 1171 = .ok (.iconst 0, 1) := by decide +kernel
theorem d_L_law_1172 : decode code 1172 = .ok (.ireturn, 1) := by decide +kernel
theorem d_L_law_1173 : decode code 1173 = .ok (.goto 72, 3) := by decide +kernel
theorem d_L_law_1176 : decode code 1176 = .ok (.aload_n 1, 1) := by decide +kernel
theorem d_L_law_1177 : decode code 1177 = .ok (.aload_n 0, 1) := by decide +kernel
theorem d_L_law_1178 : decode code 1178 = .ok (.iload 4, 2) := by decide +kernel
theorem d_L_law_1180 : decode code 1180 = .ok (.iconst 1, 1) := by decide +kernel
theorem d_L_law_1181 : decode code 1181 = .ok (.iadd, 1) := by decide +kernel
theorem d_L_law_1182 : decode code 1182 = .ok (.iaload, 1) := by decide +kernel
theorem d_L_law_1183 : decode code 1183 = .ok (.aload_n 3, 1) := by decide +kernel
theorem d_L_law_1184 : decode code 1184 = .ok (.invokestatic 155, 3) := by decide +kernel
theorem d_L_law_1187 : decode code 1187 = .ok (.istore 5, 2) := by decide +kernel
theorem d_L_law_1189 : decode code 1189 = .ok (.aload_n 2, 1) := by decide +kernel
theorem d_L_law_1190 : decode code 1190 = .ok (.aload_n 0, 1) := by decide +kernel
theorem d_L_law_1191 : decode code 1191 = .ok (.iload 4, 2) := by decide +kernel
theorem d_L_law_1193 : decode code 1193 = .ok (.iconst 1, 1) := by decide +kernel
theorem d_L_law_1194 : decode code 1194 = .ok (.iadd, 1) := by decide +kernel
theorem d_L_law_1195 : decode code 1195 = .ok (.iaload, 1) := by decide +kernel
theorem d_L_law_1196 : decode code 1196 = .ok (.invokevirtual 157, 3) := by decide +kernel
theorem d_L_law_1199 : decode code 1199 = .ok (.istore 6, 2) := by decide +kernel
theorem d_L_law_1201 : decode code 1201 = .ok (.aload_n 2, 1) := by decide +kernel
theorem d_L_law_1202 : decode code 1202 = .ok (.invokevirtual 93, 3) := by decide +kernel
theorem d_L_law_1205 : decode code 1205 = .ok (.iload 5, 2) := by decide +kernel
theorem d_L_law_1207 : decode code 1207 = .ok (.if_icmp .eq 5, 3) := by decide +kernel
theorem d_L_law_1210 : decode code 1210 = .ok (.iconst 0, 1) := by decide +kernel
theorem d_L_law_1211 : decode code 1211 = .ok (.ireturn, 1) := by decide +kernel
theorem d_L_law_1212 : decode code 1212 = .ok (.iload 5, 2) := by decide +kernel
theorem d_L_law_1214 : decode code 1214 = .ok (.ifCond .ne 15, 3) := by decide +kernel
theorem d_L_law_1217 : decode code 1217 = .ok (.aload_n 3, 1) := by decide +kernel
theorem d_L_law_1218 : decode code 1218 = .ok (.iconst 0, 1) := by decide +kernel
theorem d_L_law_1219 : decode code 1219 = .ok (.laload, 1) := by decide +kernel
theorem d_L_law_1220 : decode code 1220 = .ok (.iload 6, 2) := by decide +kernel
theorem d_L_law_1222 : decode code 1222 = .ok (.i2l, 1) := by decide +kernel
theorem d_L_law_1223 : decode code 1223 = .ok (.lcmp, 1) := by decide +kernel
theorem d_L_law_1224 : decode code 1224 = .ok (.ifCond .eq 5, 3) := by decide +kernel
theorem d_L_law_1227 : decode code 1227 = .ok (.iconst 0, 1) := by decide +kernel
theorem d_L_law_1228 : decode code 1228 = .ok (.ireturn, 1) := by decide +kernel
theorem d_L_law_1229 : decode code 1229 = .ok (.goto 16, 3) := by decide +kernel
theorem d_L_law_1232 : decode code 1232 = .ok (.aload_n 1, 1) := by decide +kernel
theorem d_L_law_1233 : decode code 1233 = .ok (.invokevirtual 158, 3) := by decide +kernel
theorem d_L_law_1236 : decode code 1236 = .ok (.aload_n 2, 1) := by decide +kernel
theorem d_L_law_1237 : decode code 1237 = .ok (.invokevirtual 161, 3) := by decide +kernel
theorem d_L_law_1240 : decode code 1240 = .ok (.if_icmp .eq 5, 3) := by decide +kernel
theorem d_L_law_1243 : decode code 1243 = .ok (.iconst 0, 1) := by decide +kernel
theorem d_L_law_1244 : decode code 1244 = .ok (.ireturn, 1) := by decide +kernel
theorem d_L_law_1245 : decode code 1245 = .ok (.iinc 4 3, 3) := by decide +kernel
theorem d_L_law_1248 : decode code 1248 = .ok (.goto (-1225), 3) := by decide +kernel
theorem d_L_law_1251 : decode code 1251 = .ok (.iconst 1, 1) := by decide +kernel
theorem d_L_law_1252 : decode code 1252 = .ok (.ireturn, 1) := by decide +kernel
