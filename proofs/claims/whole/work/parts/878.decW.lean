/-! decode rows of the wrappers, out of the printed names -/
theorem dL_append_0 : decode cL_append 0 = .ok (.aload 6, 2) := by decide +kernel
theorem dL_append_2 : decode cL_append 2 = .ok (.iconst 0, 1) := by decide +kernel
theorem dL_append_3 : decode cL_append 3 = .ok (.aload_n 0, 1) := by decide +kernel
theorem dL_append_4 : decode cL_append 4 = .ok (.iload_n 1, 1) := by decide +kernel
theorem dL_append_5 : decode cL_append 5 = .ok (.iload_n 2, 1) := by decide +kernel
theorem dL_append_6 : decode cL_append 6 = .ok (.iload_n 3, 1) := by decide +kernel
theorem dL_append_7 : decode cL_append 7 = .ok (.iload 4, 2) := by decide +kernel
theorem dL_append_9 : decode cL_append 9 = .ok (.iload 5, 2) := by decide +kernel
theorem dL_append_11 : decode cL_append 11 = .ok (.invokevirtual 7, 3) := by decide +kernel
theorem dL_append_14 : decode cL_append 14 = .ok (.i2l, 1) := by decide +kernel
theorem dL_append_15 : decode cL_append 15 = .ok (.lastore, 1) := by decide +kernel
theorem dL_append_16 : decode cL_append 16 = .ok (.goto 7, 3) := by decide +kernel
theorem dL_append_19 : decode cL_append 19 = .ok (.astore 7, 2) := by decide +kernel
theorem dL_append_21 : decode cL_append 21 = .ok (.iconst 1, 1) := by decide +kernel
theorem dL_append_22 : decode cL_append 22 = .ok (.ireturn, 1) := by decide +kernel
theorem dL_append_23 : decode cL_append 23 = .ok (.iconst 0, 1) := by decide +kernel
theorem dL_append_24 : decode cL_append 24 = .ok (.ireturn, 1) := by decide +kernel
theorem dL_truncate_0 : decode cL_truncate 0 = .ok (.aload_n 0, 1) := by decide +kernel
theorem dL_truncate_1 : decode cL_truncate 1 = .ok (.iload_n 1, 1) := by decide +kernel
theorem dL_truncate_2 : decode cL_truncate 2 = .ok (.invokevirtual 15, 3) := by decide +kernel
theorem dL_truncate_5 : decode cL_truncate 5 = .ok (.goto 6, 3) := by decide +kernel
theorem dL_truncate_8 : decode cL_truncate 8 = .ok (.astore_n 2, 1) := by decide +kernel
theorem dL_truncate_9 : decode cL_truncate 9 = .ok (.iconst 1, 1) := by decide +kernel
theorem dL_truncate_10 : decode cL_truncate 10 = .ok (.ireturn, 1) := by decide +kernel
theorem dL_truncate_11 : decode cL_truncate 11 = .ok (.iconst 0, 1) := by decide +kernel
theorem dL_truncate_12 : decode cL_truncate 12 = .ok (.ireturn, 1) := by decide +kernel
theorem dL_property_0 : decode cL_property 0 = .ok (.aload_n 2, 1) := by decide +kernel
theorem dL_property_1 : decode cL_property 1 = .ok (.iconst 0, 1) := by decide +kernel
theorem dL_property_2 : decode cL_property 2 = .ok (.aload_n 0, 1) := by decide +kernel
theorem dL_property_3 : decode cL_property 3 = .ok (.iload_n 1, 1) := by decide +kernel
theorem dL_property_4 : decode cL_property 4 = .ok (.invokevirtual 21, 3) := by decide +kernel
theorem dL_property_7 : decode cL_property 7 = .ok (.i2l, 1) := by decide +kernel
theorem dL_property_8 : decode cL_property 8 = .ok (.lastore, 1) := by decide +kernel
theorem dL_property_9 : decode cL_property 9 = .ok (.goto 6, 3) := by decide +kernel
theorem dL_property_12 : decode cL_property 12 = .ok (.astore_n 3, 1) := by decide +kernel
theorem dL_property_13 : decode cL_property 13 = .ok (.iconst 1, 1) := by decide +kernel
theorem dL_property_14 : decode cL_property 14 = .ok (.ireturn, 1) := by decide +kernel
theorem dL_property_15 : decode cL_property 15 = .ok (.iconst 0, 1) := by decide +kernel
theorem dL_property_16 : decode cL_property 16 = .ok (.ireturn, 1) := by decide +kernel
theorem dL_room_0 : decode cL_room 0 = .ok (.aload_n 3, 1) := by decide +kernel
theorem dL_room_1 : decode cL_room 1 = .ok (.iconst 0, 1) := by decide +kernel
theorem dL_room_2 : decode cL_room 2 = .ok (.aload_n 0, 1) := by decide +kernel
theorem dL_room_3 : decode cL_room 3 = .ok (.iload_n 1, 1) := by decide +kernel
theorem dL_room_4 : decode cL_room 4 = .ok (.iload_n 2, 1) := by decide +kernel
theorem dL_room_5 : decode cL_room 5 = .ok (.invokevirtual 25, 3) := by decide +kernel
theorem dL_room_8 : decode cL_room 8 = .ok (.i2l, 1) := by decide +kernel
theorem dL_room_9 : decode cL_room 9 = .ok (.lastore, 1) := by decide +kernel
theorem dL_room_10 : decode cL_room 10 = .ok (.goto 11, 3) := by decide +kernel
theorem dL_room_13 : decode cL_room 13 = .ok (.astore 4, 2) := by decide +kernel
theorem dL_room_15 : decode cL_room 15 = .ok (.iconst 1, 1) := by decide +kernel
theorem dL_room_16 : decode cL_room 16 = .ok (.ireturn, 1) := by decide +kernel
theorem dL_room_17 : decode cL_room 17 = .ok (.astore 4, 2) := by decide +kernel
theorem dL_room_19 : decode cL_room 19 = .ok (.iconst 2, 1) := by decide +kernel
theorem dL_room_20 : decode cL_room 20 = .ok (.ireturn, 1) := by decide +kernel
theorem dL_room_21 : decode cL_room 21 = .ok (.iconst 0, 1) := by decide +kernel
theorem dL_room_22 : decode cL_room 22 = .ok (.ireturn, 1) := by decide +kernel
theorem dL_count_0 : decode cL_count 0 = .ok (.aload_n 3, 1) := by decide +kernel
theorem dL_count_1 : decode cL_count 1 = .ok (.iconst 0, 1) := by decide +kernel
theorem dL_count_2 : decode cL_count 2 = .ok (.aload_n 0, 1) := by decide +kernel
theorem dL_count_3 : decode cL_count 3 = .ok (.iload_n 1, 1) := by decide +kernel
theorem dL_count_4 : decode cL_count 4 = .ok (.iload_n 2, 1) := by decide +kernel
theorem dL_count_5 : decode cL_count 5 = .ok (.invokevirtual 31, 3) := by decide +kernel
theorem dL_count_8 : decode cL_count 8 = .ok (.i2l, 1) := by decide +kernel
theorem dL_count_9 : decode cL_count 9 = .ok (.lastore, 1) := by decide +kernel
theorem dL_count_10 : decode cL_count 10 = .ok (.goto 11, 3) := by decide +kernel
theorem dL_count_13 : decode cL_count 13 = .ok (.astore 4, 2) := by decide +kernel
theorem dL_count_15 : decode cL_count 15 = .ok (.iconst 1, 1) := by decide +kernel
theorem dL_count_16 : decode cL_count 16 = .ok (.ireturn, 1) := by decide +kernel
theorem dL_count_17 : decode cL_count 17 = .ok (.astore 4, 2) := by decide +kernel
theorem dL_count_19 : decode cL_count 19 = .ok (.iconst 2, 1) := by decide +kernel
theorem dL_count_20 : decode cL_count 20 = .ok (.ireturn, 1) := by decide +kernel
theorem dL_count_21 : decode cL_count 21 = .ok (.iconst 0, 1) := by decide +kernel
theorem dL_count_22 : decode cL_count 22 = .ok (.ireturn, 1) := by decide +kernel
theorem dL_target_0 : decode cL_target 0 = .ok (.aload_n 2, 1) := by decide +kernel
theorem dL_target_1 : decode cL_target 1 = .ok (.iconst 0, 1) := by decide +kernel
theorem dL_target_2 : decode cL_target 2 = .ok (.aload_n 0, 1) := by decide +kernel
theorem dL_target_3 : decode cL_target 3 = .ok (.iload_n 1, 1) := by decide +kernel
theorem dL_target_4 : decode cL_target 4 = .ok (.invokevirtual 34, 3) := by decide +kernel
theorem dL_target_7 : decode cL_target 7 = .ok (.i2l, 1) := by decide +kernel
theorem dL_target_8 : decode cL_target 8 = .ok (.lastore, 1) := by decide +kernel
theorem dL_target_9 : decode cL_target 9 = .ok (.goto 6, 3) := by decide +kernel
theorem dL_target_12 : decode cL_target 12 = .ok (.astore_n 3, 1) := by decide +kernel
theorem dL_target_13 : decode cL_target 13 = .ok (.iconst 1, 1) := by decide +kernel
theorem dL_target_14 : decode cL_target 14 = .ok (.ireturn, 1) := by decide +kernel
theorem dL_target_15 : decode cL_target 15 = .ok (.iconst 0, 1) := by decide +kernel
theorem dL_target_16 : decode cL_target 16 = .ok (.ireturn, 1) := by decide +kernel
theorem dL_programmed_0 : decode cL_programmed 0 = .ok (.aload_n 3, 1) := by decide +kernel
theorem dL_programmed_1 : decode cL_programmed 1 = .ok (.iconst 0, 1) := by decide +kernel
theorem dL_programmed_2 : decode cL_programmed 2 = .ok (.aload_n 0, 1) := by decide +kernel
theorem dL_programmed_3 : decode cL_programmed 3 = .ok (.iload_n 1, 1) := by decide +kernel
theorem dL_programmed_4 : decode cL_programmed 4 = .ok (.iload_n 2, 1) := by decide +kernel
theorem dL_programmed_5 : decode cL_programmed 5 = .ok (.invokevirtual 37, 3) := by decide +kernel
theorem dL_programmed_8 : decode cL_programmed 8 = .ok (.i2l, 1) := by decide +kernel
theorem dL_programmed_9 : decode cL_programmed 9 = .ok (.lastore, 1) := by decide +kernel
theorem dL_programmed_10 : decode cL_programmed 10 = .ok (.goto 11, 3) := by decide +kernel
theorem dL_programmed_13 : decode cL_programmed 13 = .ok (.astore 4, 2) := by decide +kernel
theorem dL_programmed_15 : decode cL_programmed 15 = .ok (.iconst 1, 1) := by decide +kernel
theorem dL_programmed_16 : decode cL_programmed 16 = .ok (.ireturn, 1) := by decide +kernel
theorem dL_programmed_17 : decode cL_programmed 17 = .ok (.astore 4, 2) := by decide +kernel
theorem dL_programmed_19 : decode cL_programmed 19 = .ok (.iconst 2, 1) := by decide +kernel
theorem dL_programmed_20 : decode cL_programmed 20 = .ok (.ireturn, 1) := by decide +kernel
theorem dL_programmed_21 : decode cL_programmed 21 = .ok (.iconst 0, 1) := by decide +kernel
theorem dL_programmed_22 : decode cL_programmed 22 = .ok (.ireturn, 1) := by decide +kernel
theorem dL_entry_0 : decode cL_entry 0 = .ok (.aload_n 3, 1) := by decide +kernel
theorem dL_entry_1 : decode cL_entry 1 = .ok (.iconst 0, 1) := by decide +kernel
theorem dL_entry_2 : decode cL_entry 2 = .ok (.aload_n 0, 1) := by decide +kernel
theorem dL_entry_3 : decode cL_entry 3 = .ok (.iload_n 1, 1) := by decide +kernel
theorem dL_entry_4 : decode cL_entry 4 = .ok (.iload_n 2, 1) := by decide +kernel
theorem dL_entry_5 : decode cL_entry 5 = .ok (.invokevirtual 40, 3) := by decide +kernel
theorem dL_entry_8 : decode cL_entry 8 = .ok (.i2l, 1) := by decide +kernel
theorem dL_entry_9 : decode cL_entry 9 = .ok (.lastore, 1) := by decide +kernel
theorem dL_entry_10 : decode cL_entry 10 = .ok (.goto 11, 3) := by decide +kernel
theorem dL_entry_13 : decode cL_entry 13 = .ok (.astore 4, 2) := by decide +kernel
theorem dL_entry_15 : decode cL_entry 15 = .ok (.iconst 1, 1) := by decide +kernel
theorem dL_entry_16 : decode cL_entry 16 = .ok (.ireturn, 1) := by decide +kernel
theorem dL_entry_17 : decode cL_entry 17 = .ok (.astore 4, 2) := by decide +kernel
theorem dL_entry_19 : decode cL_entry 19 = .ok (.iconst 2, 1) := by decide +kernel
theorem dL_entry_20 : decode cL_entry 20 = .ok (.ireturn, 1) := by decide +kernel
theorem dL_entry_21 : decode cL_entry 21 = .ok (.iconst 0, 1) := by decide +kernel
theorem dL_entry_22 : decode cL_entry 22 = .ok (.ireturn, 1) := by decide +kernel
theorem dL_wanted_0 : decode cL_wanted 0 = .ok (.aload_n 2, 1) := by decide +kernel
theorem dL_wanted_1 : decode cL_wanted 1 = .ok (.iconst 0, 1) := by decide +kernel
theorem dL_wanted_2 : decode cL_wanted 2 = .ok (.aload_n 0, 1) := by decide +kernel
theorem dL_wanted_3 : decode cL_wanted 3 = .ok (.iload_n 1, 1) := by decide +kernel
theorem dL_wanted_4 : decode cL_wanted 4 = .ok (.invokevirtual 45, 3) := by decide +kernel
theorem dL_wanted_7 : decode cL_wanted 7 = .ok (.i2l, 1) := by decide +kernel
theorem dL_wanted_8 : decode cL_wanted 8 = .ok (.lastore, 1) := by decide +kernel
theorem dL_wanted_9 : decode cL_wanted 9 = .ok (.goto 6, 3) := by decide +kernel
theorem dL_wanted_12 : decode cL_wanted 12 = .ok (.astore_n 3, 1) := by decide +kernel
theorem dL_wanted_13 : decode cL_wanted 13 = .ok (.iconst 1, 1) := by decide +kernel
theorem dL_wanted_14 : decode cL_wanted 14 = .ok (.ireturn, 1) := by decide +kernel
theorem dL_wanted_15 : decode cL_wanted 15 = .ok (.iconst 0, 1) := by decide +kernel
theorem dL_wanted_16 : decode cL_wanted 16 = .ok (.ireturn, 1) := by decide +kernel
theorem dL_why_0 : decode cL_why 0 = .ok (.aload_n 2, 1) := by decide +kernel
theorem dL_why_1 : decode cL_why 1 = .ok (.iconst 0, 1) := by decide +kernel
theorem dL_why_2 : decode cL_why 2 = .ok (.aload_n 0, 1) := by decide +kernel
theorem dL_why_3 : decode cL_why 3 = .ok (.iload_n 1, 1) := by decide +kernel
theorem dL_why_4 : decode cL_why 4 = .ok (.invokevirtual 48, 3) := by decide +kernel
theorem dL_why_7 : decode cL_why 7 = .ok (.i2l, 1) := by decide +kernel
theorem dL_why_8 : decode cL_why 8 = .ok (.lastore, 1) := by decide +kernel
theorem dL_why_9 : decode cL_why 9 = .ok (.goto 6, 3) := by decide +kernel
theorem dL_why_12 : decode cL_why 12 = .ok (.astore_n 3, 1) := by decide +kernel
theorem dL_why_13 : decode cL_why 13 = .ok (.iconst 1, 1) := by decide +kernel
theorem dL_why_14 : decode cL_why 14 = .ok (.ireturn, 1) := by decide +kernel
theorem dL_why_15 : decode cL_why 15 = .ok (.iconst 0, 1) := by decide +kernel
theorem dL_why_16 : decode cL_why 16 = .ok (.ireturn, 1) := by decide +kernel
theorem dL_planned_0 : decode cL_planned 0 = .ok (.aload_n 3, 1) := by decide +kernel
theorem dL_planned_1 : decode cL_planned 1 = .ok (.iconst 0, 1) := by decide +kernel
theorem dL_planned_2 : decode cL_planned 2 = .ok (.aload_n 0, 1) := by decide +kernel
theorem dL_planned_3 : decode cL_planned 3 = .ok (.iload_n 1, 1) := by decide +kernel
theorem dL_planned_4 : decode cL_planned 4 = .ok (.iload_n 2, 1) := by decide +kernel
theorem dL_planned_5 : decode cL_planned 5 = .ok (.invokevirtual 51, 3) := by decide +kernel
theorem dL_planned_8 : decode cL_planned 8 = .ok (.i2l, 1) := by decide +kernel
theorem dL_planned_9 : decode cL_planned 9 = .ok (.lastore, 1) := by decide +kernel
theorem dL_planned_10 : decode cL_planned 10 = .ok (.goto 11, 3) := by decide +kernel
theorem dL_planned_13 : decode cL_planned 13 = .ok (.astore 4, 2) := by decide +kernel
theorem dL_planned_15 : decode cL_planned 15 = .ok (.iconst 1, 1) := by decide +kernel
theorem dL_planned_16 : decode cL_planned 16 = .ok (.ireturn, 1) := by decide +kernel
theorem dL_planned_17 : decode cL_planned 17 = .ok (.astore 4, 2) := by decide +kernel
theorem dL_planned_19 : decode cL_planned 19 = .ok (.iconst 2, 1) := by decide +kernel
theorem dL_planned_20 : decode cL_planned 20 = .ok (.ireturn, 1) := by decide +kernel
theorem dL_planned_21 : decode cL_planned 21 = .ok (.iconst 0, 1) := by decide +kernel
theorem dL_planned_22 : decode cL_planned 22 = .ok (.ireturn, 1) := by decide +kernel
theorem dL_tempIn_0 : decode cL_tempIn 0 = .ok (.aload_n 3, 1) := by decide +kernel
theorem dL_tempIn_1 : decode cL_tempIn 1 = .ok (.iconst 0, 1) := by decide +kernel
theorem dL_tempIn_2 : decode cL_tempIn 2 = .ok (.aload_n 0, 1) := by decide +kernel
theorem dL_tempIn_3 : decode cL_tempIn 3 = .ok (.iload_n 1, 1) := by decide +kernel
theorem dL_tempIn_4 : decode cL_tempIn 4 = .ok (.iload_n 2, 1) := by decide +kernel
theorem dL_tempIn_5 : decode cL_tempIn 5 = .ok (.invokevirtual 54, 3) := by decide +kernel
theorem dL_tempIn_8 : decode cL_tempIn 8 = .ok (.i2l, 1) := by decide +kernel
theorem dL_tempIn_9 : decode cL_tempIn 9 = .ok (.lastore, 1) := by decide +kernel
theorem dL_tempIn_10 : decode cL_tempIn 10 = .ok (.goto 11, 3) := by decide +kernel
theorem dL_tempIn_13 : decode cL_tempIn 13 = .ok (.astore 4, 2) := by decide +kernel
theorem dL_tempIn_15 : decode cL_tempIn 15 = .ok (.iconst 1, 1) := by decide +kernel
theorem dL_tempIn_16 : decode cL_tempIn 16 = .ok (.ireturn, 1) := by decide +kernel
theorem dL_tempIn_17 : decode cL_tempIn 17 = .ok (.astore 4, 2) := by decide +kernel
theorem dL_tempIn_19 : decode cL_tempIn 19 = .ok (.iconst 2, 1) := by decide +kernel
theorem dL_tempIn_20 : decode cL_tempIn 20 = .ok (.ireturn, 1) := by decide +kernel
theorem dL_tempIn_21 : decode cL_tempIn 21 = .ok (.iconst 0, 1) := by decide +kernel
theorem dL_tempIn_22 : decode cL_tempIn 22 = .ok (.ireturn, 1) := by decide +kernel
theorem dL_valveIn_0 : decode cL_valveIn 0 = .ok (.aload_n 3, 1) := by decide +kernel
theorem dL_valveIn_1 : decode cL_valveIn 1 = .ok (.iconst 0, 1) := by decide +kernel
theorem dL_valveIn_2 : decode cL_valveIn 2 = .ok (.aload_n 0, 1) := by decide +kernel
theorem dL_valveIn_3 : decode cL_valveIn 3 = .ok (.iload_n 1, 1) := by decide +kernel
theorem dL_valveIn_4 : decode cL_valveIn 4 = .ok (.iload_n 2, 1) := by decide +kernel
theorem dL_valveIn_5 : decode cL_valveIn 5 = .ok (.invokevirtual 57, 3) := by decide +kernel
theorem dL_valveIn_8 : decode cL_valveIn 8 = .ok (.i2l, 1) := by decide +kernel
theorem dL_valveIn_9 : decode cL_valveIn 9 = .ok (.lastore, 1) := by decide +kernel
theorem dL_valveIn_10 : decode cL_valveIn 10 = .ok (.goto 11, 3) := by decide +kernel
theorem dL_valveIn_13 : decode cL_valveIn 13 = .ok (.astore 4, 2) := by decide +kernel
theorem dL_valveIn_15 : decode cL_valveIn 15 = .ok (.iconst 1, 1) := by decide +kernel
theorem dL_valveIn_16 : decode cL_valveIn 16 = .ok (.ireturn, 1) := by decide +kernel
theorem dL_valveIn_17 : decode cL_valveIn 17 = .ok (.astore 4, 2) := by decide +kernel
theorem dL_valveIn_19 : decode cL_valveIn 19 = .ok (.iconst 2, 1) := by decide +kernel
theorem dL_valveIn_20 : decode cL_valveIn 20 = .ok (.ireturn, 1) := by decide +kernel
theorem dL_valveIn_21 : decode cL_valveIn 21 = .ok (.iconst 0, 1) := by decide +kernel
theorem dL_valveIn_22 : decode cL_valveIn 22 = .ok (.ireturn, 1) := by decide +kernel
theorem dL_warmIn_0 : decode cL_warmIn 0 = .ok (.aload_n 2, 1) := by decide +kernel
theorem dL_warmIn_1 : decode cL_warmIn 1 = .ok (.iconst 0, 1) := by decide +kernel
theorem dL_warmIn_2 : decode cL_warmIn 2 = .ok (.aload_n 0, 1) := by decide +kernel
theorem dL_warmIn_3 : decode cL_warmIn 3 = .ok (.iload_n 1, 1) := by decide +kernel
theorem dL_warmIn_4 : decode cL_warmIn 4 = .ok (.invokevirtual 60, 3) := by decide +kernel
theorem dL_warmIn_7 : decode cL_warmIn 7 = .ok (.i2l, 1) := by decide +kernel
theorem dL_warmIn_8 : decode cL_warmIn 8 = .ok (.lastore, 1) := by decide +kernel
theorem dL_warmIn_9 : decode cL_warmIn 9 = .ok (.goto 6, 3) := by decide +kernel
theorem dL_warmIn_12 : decode cL_warmIn 12 = .ok (.astore_n 3, 1) := by decide +kernel
theorem dL_warmIn_13 : decode cL_warmIn 13 = .ok (.iconst 1, 1) := by decide +kernel
theorem dL_warmIn_14 : decode cL_warmIn 14 = .ok (.ireturn, 1) := by decide +kernel
theorem dL_warmIn_15 : decode cL_warmIn 15 = .ok (.iconst 0, 1) := by decide +kernel
theorem dL_warmIn_16 : decode cL_warmIn 16 = .ok (.ireturn, 1) := by decide +kernel
theorem dL_emptyIn_0 : decode cL_emptyIn 0 = .ok (.aload_n 2, 1) := by decide +kernel
theorem dL_emptyIn_1 : decode cL_emptyIn 1 = .ok (.iconst 0, 1) := by decide +kernel
theorem dL_emptyIn_2 : decode cL_emptyIn 2 = .ok (.aload_n 0, 1) := by decide +kernel
theorem dL_emptyIn_3 : decode cL_emptyIn 3 = .ok (.iload_n 1, 1) := by decide +kernel
theorem dL_emptyIn_4 : decode cL_emptyIn 4 = .ok (.invokevirtual 63, 3) := by decide +kernel
theorem dL_emptyIn_7 : decode cL_emptyIn 7 = .ok (.i2l, 1) := by decide +kernel
theorem dL_emptyIn_8 : decode cL_emptyIn 8 = .ok (.lastore, 1) := by decide +kernel
theorem dL_emptyIn_9 : decode cL_emptyIn 9 = .ok (.goto 6, 3) := by decide +kernel
theorem dL_emptyIn_12 : decode cL_emptyIn 12 = .ok (.astore_n 3, 1) := by decide +kernel
theorem dL_emptyIn_13 : decode cL_emptyIn 13 = .ok (.iconst 1, 1) := by decide +kernel
theorem dL_emptyIn_14 : decode cL_emptyIn 14 = .ok (.ireturn, 1) := by decide +kernel
theorem dL_emptyIn_15 : decode cL_emptyIn 15 = .ok (.iconst 0, 1) := by decide +kernel
theorem dL_emptyIn_16 : decode cL_emptyIn 16 = .ok (.ireturn, 1) := by decide +kernel
theorem dL_exerciseIn_0 : decode cL_exerciseIn 0 = .ok (.aload_n 2, 1) := by decide +kernel
theorem dL_exerciseIn_1 : decode cL_exerciseIn 1 = .ok (.iconst 0, 1) := by decide +kernel
theorem dL_exerciseIn_2 : decode cL_exerciseIn 2 = .ok (.aload_n 0, 1) := by decide +kernel
theorem dL_exerciseIn_3 : decode cL_exerciseIn 3 = .ok (.iload_n 1, 1) := by decide +kernel
theorem dL_exerciseIn_4 : decode cL_exerciseIn 4 = .ok (.invokevirtual 66, 3) := by decide +kernel
theorem dL_exerciseIn_7 : decode cL_exerciseIn 7 = .ok (.i2l, 1) := by decide +kernel
theorem dL_exerciseIn_8 : decode cL_exerciseIn 8 = .ok (.lastore, 1) := by decide +kernel
theorem dL_exerciseIn_9 : decode cL_exerciseIn 9 = .ok (.goto 6, 3) := by decide +kernel
theorem dL_exerciseIn_12 : decode cL_exerciseIn 12 = .ok (.astore_n 3, 1) := by decide +kernel
theorem dL_exerciseIn_13 : decode cL_exerciseIn 13 = .ok (.iconst 1, 1) := by decide +kernel
theorem dL_exerciseIn_14 : decode cL_exerciseIn 14 = .ok (.ireturn, 1) := by decide +kernel
theorem dL_exerciseIn_15 : decode cL_exerciseIn 15 = .ok (.iconst 0, 1) := by decide +kernel
theorem dL_exerciseIn_16 : decode cL_exerciseIn 16 = .ok (.ireturn, 1) := by decide +kernel
theorem dL_lack_0 : decode cL_lack 0 = .ok (.aload_n 3, 1) := by decide +kernel
theorem dL_lack_1 : decode cL_lack 1 = .ok (.iconst 0, 1) := by decide +kernel
theorem dL_lack_2 : decode cL_lack 2 = .ok (.aload_n 0, 1) := by decide +kernel
theorem dL_lack_3 : decode cL_lack 3 = .ok (.iload_n 1, 1) := by decide +kernel
theorem dL_lack_4 : decode cL_lack 4 = .ok (.iload_n 2, 1) := by decide +kernel
theorem dL_lack_5 : decode cL_lack 5 = .ok (.invokevirtual 69, 3) := by decide +kernel
theorem dL_lack_8 : decode cL_lack 8 = .ok (.i2l, 1) := by decide +kernel
theorem dL_lack_9 : decode cL_lack 9 = .ok (.lastore, 1) := by decide +kernel
theorem dL_lack_10 : decode cL_lack 10 = .ok (.goto 11, 3) := by decide +kernel
theorem dL_lack_13 : decode cL_lack 13 = .ok (.astore 4, 2) := by decide +kernel
theorem dL_lack_15 : decode cL_lack 15 = .ok (.iconst 1, 1) := by decide +kernel
theorem dL_lack_16 : decode cL_lack 16 = .ok (.ireturn, 1) := by decide +kernel
theorem dL_lack_17 : decode cL_lack 17 = .ok (.astore 4, 2) := by decide +kernel
theorem dL_lack_19 : decode cL_lack 19 = .ok (.iconst 2, 1) := by decide +kernel
theorem dL_lack_20 : decode cL_lack 20 = .ok (.ireturn, 1) := by decide +kernel
theorem dL_lack_21 : decode cL_lack 21 = .ok (.iconst 0, 1) := by decide +kernel
theorem dL_lack_22 : decode cL_lack 22 = .ok (.ireturn, 1) := by decide +kernel
theorem dL_heatIn_0 : decode cL_heatIn 0 = .ok (.aload_n 2, 1) := by decide +kernel
theorem dL_heatIn_1 : decode cL_heatIn 1 = .ok (.iconst 0, 1) := by decide +kernel
theorem dL_heatIn_2 : decode cL_heatIn 2 = .ok (.aload_n 0, 1) := by decide +kernel
theorem dL_heatIn_3 : decode cL_heatIn 3 = .ok (.iload_n 1, 1) := by decide +kernel
theorem dL_heatIn_4 : decode cL_heatIn 4 = .ok (.invokevirtual 72, 3) := by decide +kernel
theorem dL_heatIn_7 : decode cL_heatIn 7 = .ok (.i2l, 1) := by decide +kernel
theorem dL_heatIn_8 : decode cL_heatIn 8 = .ok (.lastore, 1) := by decide +kernel
theorem dL_heatIn_9 : decode cL_heatIn 9 = .ok (.goto 6, 3) := by decide +kernel
theorem dL_heatIn_12 : decode cL_heatIn 12 = .ok (.astore_n 3, 1) := by decide +kernel
theorem dL_heatIn_13 : decode cL_heatIn 13 = .ok (.iconst 1, 1) := by decide +kernel
theorem dL_heatIn_14 : decode cL_heatIn 14 = .ok (.ireturn, 1) := by decide +kernel
theorem dL_heatIn_15 : decode cL_heatIn 15 = .ok (.iconst 0, 1) := by decide +kernel
theorem dL_heatIn_16 : decode cL_heatIn 16 = .ok (.ireturn, 1) := by decide +kernel
theorem dL_bestGain_0 : decode cL_bestGain 0 = .ok (.aload_n 2, 1) := by decide +kernel
theorem dL_bestGain_1 : decode cL_bestGain 1 = .ok (.iconst 0, 1) := by decide +kernel
theorem dL_bestGain_2 : decode cL_bestGain 2 = .ok (.aload_n 0, 1) := by decide +kernel
theorem dL_bestGain_3 : decode cL_bestGain 3 = .ok (.iload_n 1, 1) := by decide +kernel
theorem dL_bestGain_4 : decode cL_bestGain 4 = .ok (.invokevirtual 75, 3) := by decide +kernel
theorem dL_bestGain_7 : decode cL_bestGain 7 = .ok (.i2l, 1) := by decide +kernel
theorem dL_bestGain_8 : decode cL_bestGain 8 = .ok (.lastore, 1) := by decide +kernel
theorem dL_bestGain_9 : decode cL_bestGain 9 = .ok (.goto 6, 3) := by decide +kernel
theorem dL_bestGain_12 : decode cL_bestGain 12 = .ok (.astore_n 3, 1) := by decide +kernel
theorem dL_bestGain_13 : decode cL_bestGain 13 = .ok (.iconst 1, 1) := by decide +kernel
theorem dL_bestGain_14 : decode cL_bestGain 14 = .ok (.ireturn, 1) := by decide +kernel
theorem dL_bestGain_15 : decode cL_bestGain 15 = .ok (.iconst 0, 1) := by decide +kernel
theorem dL_bestGain_16 : decode cL_bestGain 16 = .ok (.ireturn, 1) := by decide +kernel
theorem dL_tempIf_0 : decode cL_tempIf 0 = .ok (.aload 4, 2) := by decide +kernel
theorem dL_tempIf_2 : decode cL_tempIf 2 = .ok (.iconst 0, 1) := by decide +kernel
theorem dL_tempIf_3 : decode cL_tempIf 3 = .ok (.aload_n 0, 1) := by decide +kernel
theorem dL_tempIf_4 : decode cL_tempIf 4 = .ok (.iload_n 1, 1) := by decide +kernel
theorem dL_tempIf_5 : decode cL_tempIf 5 = .ok (.iload_n 2, 1) := by decide +kernel
theorem dL_tempIf_6 : decode cL_tempIf 6 = .ok (.iload_n 3, 1) := by decide +kernel
theorem dL_tempIf_7 : decode cL_tempIf 7 = .ok (.invokevirtual 78, 3) := by decide +kernel
theorem dL_tempIf_10 : decode cL_tempIf 10 = .ok (.i2l, 1) := by decide +kernel
theorem dL_tempIf_11 : decode cL_tempIf 11 = .ok (.lastore, 1) := by decide +kernel
theorem dL_tempIf_12 : decode cL_tempIf 12 = .ok (.goto 11, 3) := by decide +kernel
theorem dL_tempIf_15 : decode cL_tempIf 15 = .ok (.astore 5, 2) := by decide +kernel
theorem dL_tempIf_17 : decode cL_tempIf 17 = .ok (.iconst 1, 1) := by decide +kernel
theorem dL_tempIf_18 : decode cL_tempIf 18 = .ok (.ireturn, 1) := by decide +kernel
theorem dL_tempIf_19 : decode cL_tempIf 19 = .ok (.astore 5, 2) := by decide +kernel
theorem dL_tempIf_21 : decode cL_tempIf 21 = .ok (.iconst 2, 1) := by decide +kernel
theorem dL_tempIf_22 : decode cL_tempIf 22 = .ok (.ireturn, 1) := by decide +kernel
theorem dL_tempIf_23 : decode cL_tempIf 23 = .ok (.iconst 0, 1) := by decide +kernel
theorem dL_tempIf_24 : decode cL_tempIf 24 = .ok (.ireturn, 1) := by decide +kernel
theorem dL_coldBy_0 : decode cL_coldBy 0 = .ok (.aload_n 3, 1) := by decide +kernel
theorem dL_coldBy_1 : decode cL_coldBy 1 = .ok (.iconst 0, 1) := by decide +kernel
theorem dL_coldBy_2 : decode cL_coldBy 2 = .ok (.aload_n 0, 1) := by decide +kernel
theorem dL_coldBy_3 : decode cL_coldBy 3 = .ok (.iload_n 1, 1) := by decide +kernel
theorem dL_coldBy_4 : decode cL_coldBy 4 = .ok (.iload_n 2, 1) := by decide +kernel
theorem dL_coldBy_5 : decode cL_coldBy 5 = .ok (.invokevirtual 82, 3) := by decide +kernel
theorem dL_coldBy_8 : decode cL_coldBy 8 = .ok (.i2l, 1) := by decide +kernel
theorem dL_coldBy_9 : decode cL_coldBy 9 = .ok (.lastore, 1) := by decide +kernel
theorem dL_coldBy_10 : decode cL_coldBy 10 = .ok (.goto 11, 3) := by decide +kernel
theorem dL_coldBy_13 : decode cL_coldBy 13 = .ok (.astore 4, 2) := by decide +kernel
theorem dL_coldBy_15 : decode cL_coldBy 15 = .ok (.iconst 1, 1) := by decide +kernel
theorem dL_coldBy_16 : decode cL_coldBy 16 = .ok (.ireturn, 1) := by decide +kernel
theorem dL_coldBy_17 : decode cL_coldBy 17 = .ok (.astore 4, 2) := by decide +kernel
theorem dL_coldBy_19 : decode cL_coldBy 19 = .ok (.iconst 2, 1) := by decide +kernel
theorem dL_coldBy_20 : decode cL_coldBy 20 = .ok (.ireturn, 1) := by decide +kernel
theorem dL_coldBy_21 : decode cL_coldBy 21 = .ok (.iconst 0, 1) := by decide +kernel
theorem dL_coldBy_22 : decode cL_coldBy 22 = .ok (.ireturn, 1) := by decide +kernel
theorem dL_sum_0 : decode cL_sum 0 = .ok (.aload_n 2, 1) := by decide +kernel
theorem dL_sum_1 : decode cL_sum 1 = .ok (.iconst 0, 1) := by decide +kernel
theorem dL_sum_2 : decode cL_sum 2 = .ok (.aload_n 0, 1) := by decide +kernel
theorem dL_sum_3 : decode cL_sum 3 = .ok (.iload_n 1, 1) := by decide +kernel
theorem dL_sum_4 : decode cL_sum 4 = .ok (.invokevirtual 85, 3) := by decide +kernel
theorem dL_sum_7 : decode cL_sum 7 = .ok (.i2l, 1) := by decide +kernel
theorem dL_sum_8 : decode cL_sum 8 = .ok (.lastore, 1) := by decide +kernel
theorem dL_sum_9 : decode cL_sum 9 = .ok (.goto 6, 3) := by decide +kernel
theorem dL_sum_12 : decode cL_sum 12 = .ok (.astore_n 3, 1) := by decide +kernel
theorem dL_sum_13 : decode cL_sum 13 = .ok (.iconst 1, 1) := by decide +kernel
theorem dL_sum_14 : decode cL_sum 14 = .ok (.ireturn, 1) := by decide +kernel
theorem dL_sum_15 : decode cL_sum 15 = .ok (.iconst 0, 1) := by decide +kernel
theorem dL_sum_16 : decode cL_sum 16 = .ok (.ireturn, 1) := by decide +kernel
theorem dL_warmth_0 : decode cL_warmth 0 = .ok (.aload_n 2, 1) := by decide +kernel
theorem dL_warmth_1 : decode cL_warmth 1 = .ok (.iconst 0, 1) := by decide +kernel
theorem dL_warmth_2 : decode cL_warmth 2 = .ok (.aload_n 0, 1) := by decide +kernel
theorem dL_warmth_3 : decode cL_warmth 3 = .ok (.iload_n 1, 1) := by decide +kernel
theorem dL_warmth_4 : decode cL_warmth 4 = .ok (.invokevirtual 88, 3) := by decide +kernel
theorem dL_warmth_7 : decode cL_warmth 7 = .ok (.f2d, 1) := by decide +kernel
theorem dL_warmth_8 : decode cL_warmth 8 = .ok (.dastore, 1) := by decide +kernel
theorem dL_warmth_9 : decode cL_warmth 9 = .ok (.goto 6, 3) := by decide +kernel
theorem dL_warmth_12 : decode cL_warmth 12 = .ok (.astore_n 3, 1) := by decide +kernel
theorem dL_warmth_13 : decode cL_warmth 13 = .ok (.iconst 1, 1) := by decide +kernel
theorem dL_warmth_14 : decode cL_warmth 14 = .ok (.ireturn, 1) := by decide +kernel
theorem dL_warmth_15 : decode cL_warmth 15 = .ok (.iconst 0, 1) := by decide +kernel
theorem dL_warmth_16 : decode cL_warmth 16 = .ok (.ireturn, 1) := by decide +kernel
theorem dL_reckoned_0 : decode cL_reckoned 0 = .ok (.aload_n 2, 1) := by decide +kernel
theorem dL_reckoned_1 : decode cL_reckoned 1 = .ok (.iconst 0, 1) := by decide +kernel
theorem dL_reckoned_2 : decode cL_reckoned 2 = .ok (.aload_n 0, 1) := by decide +kernel
theorem dL_reckoned_3 : decode cL_reckoned 3 = .ok (.iload_n 1, 1) := by decide +kernel
theorem dL_reckoned_4 : decode cL_reckoned 4 = .ok (.invokevirtual 92, 3) := by decide +kernel
theorem dL_reckoned_7 : decode cL_reckoned 7 = .ok (.i2l, 1) := by decide +kernel
theorem dL_reckoned_8 : decode cL_reckoned 8 = .ok (.lastore, 1) := by decide +kernel
theorem dL_reckoned_9 : decode cL_reckoned 9 = .ok (.goto 6, 3) := by decide +kernel
theorem dL_reckoned_12 : decode cL_reckoned 12 = .ok (.astore_n 3, 1) := by decide +kernel
theorem dL_reckoned_13 : decode cL_reckoned 13 = .ok (.iconst 1, 1) := by decide +kernel
theorem dL_reckoned_14 : decode cL_reckoned 14 = .ok (.ireturn, 1) := by decide +kernel
theorem dL_reckoned_15 : decode cL_reckoned 15 = .ok (.iconst 0, 1) := by decide +kernel
theorem dL_reckoned_16 : decode cL_reckoned 16 = .ok (.ireturn, 1) := by decide +kernel
theorem dL_tick_0 : decode cL_tick 0 = .ok (.aload_n 2, 1) := by decide +kernel
theorem dL_tick_1 : decode cL_tick 1 = .ok (.iconst 0, 1) := by decide +kernel
theorem dL_tick_2 : decode cL_tick 2 = .ok (.aload_n 0, 1) := by decide +kernel
theorem dL_tick_3 : decode cL_tick 3 = .ok (.iload_n 1, 1) := by decide +kernel
theorem dL_tick_4 : decode cL_tick 4 = .ok (.invokevirtual 95, 3) := by decide +kernel
theorem dL_tick_7 : decode cL_tick 7 = .ok (.i2l, 1) := by decide +kernel
theorem dL_tick_8 : decode cL_tick 8 = .ok (.lastore, 1) := by decide +kernel
theorem dL_tick_9 : decode cL_tick 9 = .ok (.goto 6, 3) := by decide +kernel
theorem dL_tick_12 : decode cL_tick 12 = .ok (.astore_n 3, 1) := by decide +kernel
theorem dL_tick_13 : decode cL_tick 13 = .ok (.iconst 1, 1) := by decide +kernel
theorem dL_tick_14 : decode cL_tick 14 = .ok (.ireturn, 1) := by decide +kernel
theorem dL_tick_15 : decode cL_tick 15 = .ok (.iconst 0, 1) := by decide +kernel
theorem dL_tick_16 : decode cL_tick 16 = .ok (.ireturn, 1) := by decide +kernel
theorem dL_setProgram_0 : decode cL_setProgram 0 = .ok (.aload 4, 2) := by decide +kernel
theorem dL_setProgram_2 : decode cL_setProgram 2 = .ok (.iconst 0, 1) := by decide +kernel
theorem dL_setProgram_3 : decode cL_setProgram 3 = .ok (.aload_n 0, 1) := by decide +kernel
theorem dL_setProgram_4 : decode cL_setProgram 4 = .ok (.iload_n 1, 1) := by decide +kernel
theorem dL_setProgram_5 : decode cL_setProgram 5 = .ok (.iload_n 2, 1) := by decide +kernel
theorem dL_setProgram_6 : decode cL_setProgram 6 = .ok (.iload_n 3, 1) := by decide +kernel
theorem dL_setProgram_7 : decode cL_setProgram 7 = .ok (.invokevirtual 98, 3) := by decide +kernel
theorem dL_setProgram_10 : decode cL_setProgram 10 = .ok (.i2l, 1) := by decide +kernel
theorem dL_setProgram_11 : decode cL_setProgram 11 = .ok (.lastore, 1) := by decide +kernel
theorem dL_setProgram_12 : decode cL_setProgram 12 = .ok (.goto 11, 3) := by decide +kernel
theorem dL_setProgram_15 : decode cL_setProgram 15 = .ok (.astore 5, 2) := by decide +kernel
theorem dL_setProgram_17 : decode cL_setProgram 17 = .ok (.iconst 1, 1) := by decide +kernel
theorem dL_setProgram_18 : decode cL_setProgram 18 = .ok (.ireturn, 1) := by decide +kernel
theorem dL_setProgram_19 : decode cL_setProgram 19 = .ok (.astore 5, 2) := by decide +kernel
theorem dL_setProgram_21 : decode cL_setProgram 21 = .ok (.iconst 2, 1) := by decide +kernel
theorem dL_setProgram_22 : decode cL_setProgram 22 = .ok (.ireturn, 1) := by decide +kernel
theorem dL_setProgram_23 : decode cL_setProgram 23 = .ok (.iconst 0, 1) := by decide +kernel
theorem dL_setProgram_24 : decode cL_setProgram 24 = .ok (.ireturn, 1) := by decide +kernel
theorem dL_clearProgram_0 : decode cL_clearProgram 0 = .ok (.aload_n 3, 1) := by decide +kernel
theorem dL_clearProgram_1 : decode cL_clearProgram 1 = .ok (.iconst 0, 1) := by decide +kernel
theorem dL_clearProgram_2 : decode cL_clearProgram 2 = .ok (.aload_n 0, 1) := by decide +kernel
theorem dL_clearProgram_3 : decode cL_clearProgram 3 = .ok (.iload_n 1, 1) := by decide +kernel
theorem dL_clearProgram_4 : decode cL_clearProgram 4 = .ok (.iload_n 2, 1) := by decide +kernel
theorem dL_clearProgram_5 : decode cL_clearProgram 5 = .ok (.invokevirtual 101, 3) := by decide +kernel
theorem dL_clearProgram_8 : decode cL_clearProgram 8 = .ok (.i2l, 1) := by decide +kernel
theorem dL_clearProgram_9 : decode cL_clearProgram 9 = .ok (.lastore, 1) := by decide +kernel
theorem dL_clearProgram_10 : decode cL_clearProgram 10 = .ok (.goto 15, 3) := by decide +kernel
theorem dL_clearProgram_13 : decode cL_clearProgram 13 = .ok (.astore 4, 2) := by decide +kernel
theorem dL_clearProgram_15 : decode cL_clearProgram 15 = .ok (.iconst 1, 1) := by decide +kernel
theorem dL_clearProgram_16 : decode cL_clearProgram 16 = .ok (.ireturn, 1) := by decide +kernel
theorem dL_clearProgram_17 : decode cL_clearProgram 17 = .ok (.astore 4, 2) := by decide +kernel
theorem dL_clearProgram_19 : decode cL_clearProgram 19 = .ok (.iconst 2, 1) := by decide +kernel
theorem dL_clearProgram_20 : decode cL_clearProgram 20 = .ok (.ireturn, 1) := by decide +kernel
theorem dL_clearProgram_21 : decode cL_clearProgram 21 = .ok (.astore 4, 2) := by decide +kernel
theorem dL_clearProgram_23 : decode cL_clearProgram 23 = .ok (.iconst 3, 1) := by decide +kernel
theorem dL_clearProgram_24 : decode cL_clearProgram 24 = .ok (.ireturn, 1) := by decide +kernel
theorem dL_clearProgram_25 : decode cL_clearProgram 25 = .ok (.iconst 0, 1) := by decide +kernel
theorem dL_clearProgram_26 : decode cL_clearProgram 26 = .ok (.ireturn, 1) := by decide +kernel
theorem dL_override_0 : decode cL_override 0 = .ok (.aload 4, 2) := by decide +kernel
theorem dL_override_2 : decode cL_override 2 = .ok (.iconst 0, 1) := by decide +kernel
theorem dL_override_3 : decode cL_override 3 = .ok (.aload_n 0, 1) := by decide +kernel
theorem dL_override_4 : decode cL_override 4 = .ok (.iload_n 1, 1) := by decide +kernel
theorem dL_override_5 : decode cL_override 5 = .ok (.iload_n 2, 1) := by decide +kernel
theorem dL_override_6 : decode cL_override 6 = .ok (.iload_n 3, 1) := by decide +kernel
theorem dL_override_7 : decode cL_override 7 = .ok (.invokevirtual 104, 3) := by decide +kernel
theorem dL_override_10 : decode cL_override 10 = .ok (.i2l, 1) := by decide +kernel
theorem dL_override_11 : decode cL_override 11 = .ok (.lastore, 1) := by decide +kernel
theorem dL_override_12 : decode cL_override 12 = .ok (.goto 11, 3) := by decide +kernel
theorem dL_override_15 : decode cL_override 15 = .ok (.astore 5, 2) := by decide +kernel
theorem dL_override_17 : decode cL_override 17 = .ok (.iconst 1, 1) := by decide +kernel
theorem dL_override_18 : decode cL_override 18 = .ok (.ireturn, 1) := by decide +kernel
theorem dL_override_19 : decode cL_override 19 = .ok (.astore 5, 2) := by decide +kernel
theorem dL_override_21 : decode cL_override 21 = .ok (.iconst 2, 1) := by decide +kernel
theorem dL_override_22 : decode cL_override 22 = .ok (.ireturn, 1) := by decide +kernel
theorem dL_override_23 : decode cL_override 23 = .ok (.iconst 0, 1) := by decide +kernel
theorem dL_override_24 : decode cL_override 24 = .ok (.ireturn, 1) := by decide +kernel
theorem dL_setWindow_0 : decode cL_setWindow 0 = .ok (.aload_n 3, 1) := by decide +kernel
theorem dL_setWindow_1 : decode cL_setWindow 1 = .ok (.iconst 0, 1) := by decide +kernel
theorem dL_setWindow_2 : decode cL_setWindow 2 = .ok (.aload_n 0, 1) := by decide +kernel
theorem dL_setWindow_3 : decode cL_setWindow 3 = .ok (.iload_n 1, 1) := by decide +kernel
theorem dL_setWindow_4 : decode cL_setWindow 4 = .ok (.iload_n 2, 1) := by decide +kernel
theorem dL_setWindow_5 : decode cL_setWindow 5 = .ok (.invokevirtual 107, 3) := by decide +kernel
theorem dL_setWindow_8 : decode cL_setWindow 8 = .ok (.ifCond .eq 7, 3) := by decide +kernel
theorem dL_setWindow_11 : decode cL_setWindow 11 = .ok (.lconst 1, 1) := by decide +kernel
theorem dL_setWindow_12 : decode cL_setWindow 12 = .ok (.goto 4, 3) := by decide +kernel
theorem dL_setWindow_15 : decode cL_setWindow 15 = .ok (.lconst 0, 1) := by decide +kernel
theorem dL_setWindow_16 : decode cL_setWindow 16 = .ok (.lastore, 1) := by decide +kernel
theorem dL_setWindow_17 : decode cL_setWindow 17 = .ok (.goto 7, 3) := by decide +kernel
theorem dL_setWindow_20 : decode cL_setWindow 20 = .ok (.astore 4, 2) := by decide +kernel
theorem dL_setWindow_22 : decode cL_setWindow 22 = .ok (.iconst 1, 1) := by decide +kernel
theorem dL_setWindow_23 : decode cL_setWindow 23 = .ok (.ireturn, 1) := by decide +kernel
theorem dL_setWindow_24 : decode cL_setWindow 24 = .ok (.iconst 0, 1) := by decide +kernel
theorem dL_setWindow_25 : decode cL_setWindow 25 = .ok (.ireturn, 1) := by decide +kernel
theorem dL_setPresent_0 : decode cL_setPresent 0 = .ok (.aload_n 3, 1) := by decide +kernel
theorem dL_setPresent_1 : decode cL_setPresent 1 = .ok (.iconst 0, 1) := by decide +kernel
theorem dL_setPresent_2 : decode cL_setPresent 2 = .ok (.aload_n 0, 1) := by decide +kernel
theorem dL_setPresent_3 : decode cL_setPresent 3 = .ok (.iload_n 1, 1) := by decide +kernel
theorem dL_setPresent_4 : decode cL_setPresent 4 = .ok (.iload_n 2, 1) := by decide +kernel
theorem dL_setPresent_5 : decode cL_setPresent 5 = .ok (.invokevirtual 111, 3) := by decide +kernel
theorem dL_setPresent_8 : decode cL_setPresent 8 = .ok (.i2l, 1) := by decide +kernel
theorem dL_setPresent_9 : decode cL_setPresent 9 = .ok (.lastore, 1) := by decide +kernel
theorem dL_setPresent_10 : decode cL_setPresent 10 = .ok (.goto 7, 3) := by decide +kernel
theorem dL_setPresent_13 : decode cL_setPresent 13 = .ok (.astore 4, 2) := by decide +kernel
theorem dL_setPresent_15 : decode cL_setPresent 15 = .ok (.iconst 1, 1) := by decide +kernel
theorem dL_setPresent_16 : decode cL_setPresent 16 = .ok (.ireturn, 1) := by decide +kernel
theorem dL_setPresent_17 : decode cL_setPresent 17 = .ok (.iconst 0, 1) := by decide +kernel
theorem dL_setPresent_18 : decode cL_setPresent 18 = .ok (.ireturn, 1) := by decide +kernel
theorem dL_plan_0 : decode cL_plan 0 = .ok (.aload 4, 2) := by decide +kernel
theorem dL_plan_2 : decode cL_plan 2 = .ok (.iconst 0, 1) := by decide +kernel
theorem dL_plan_3 : decode cL_plan 3 = .ok (.aload_n 0, 1) := by decide +kernel
theorem dL_plan_4 : decode cL_plan 4 = .ok (.iload_n 1, 1) := by decide +kernel
theorem dL_plan_5 : decode cL_plan 5 = .ok (.iload_n 2, 1) := by decide +kernel
theorem dL_plan_6 : decode cL_plan 6 = .ok (.iload_n 3, 1) := by decide +kernel
theorem dL_plan_7 : decode cL_plan 7 = .ok (.invokevirtual 115, 3) := by decide +kernel
theorem dL_plan_10 : decode cL_plan 10 = .ok (.i2l, 1) := by decide +kernel
theorem dL_plan_11 : decode cL_plan 11 = .ok (.lastore, 1) := by decide +kernel
theorem dL_plan_12 : decode cL_plan 12 = .ok (.goto 15, 3) := by decide +kernel
theorem dL_plan_15 : decode cL_plan 15 = .ok (.astore 5, 2) := by decide +kernel
theorem dL_plan_17 : decode cL_plan 17 = .ok (.iconst 1, 1) := by decide +kernel
theorem dL_plan_18 : decode cL_plan 18 = .ok (.ireturn, 1) := by decide +kernel
theorem dL_plan_19 : decode cL_plan 19 = .ok (.astore 5, 2) := by decide +kernel
theorem dL_plan_21 : decode cL_plan 21 = .ok (.iconst 2, 1) := by decide +kernel
theorem dL_plan_22 : decode cL_plan 22 = .ok (.ireturn, 1) := by decide +kernel
theorem dL_plan_23 : decode cL_plan 23 = .ok (.astore 5, 2) := by decide +kernel
theorem dL_plan_25 : decode cL_plan 25 = .ok (.iconst 3, 1) := by decide +kernel
theorem dL_plan_26 : decode cL_plan 26 = .ok (.ireturn, 1) := by decide +kernel
theorem dL_plan_27 : decode cL_plan 27 = .ok (.iconst 0, 1) := by decide +kernel
theorem dL_plan_28 : decode cL_plan 28 = .ok (.ireturn, 1) := by decide +kernel
theorem dL_dropPlan_0 : decode cL_dropPlan 0 = .ok (.aload_n 2, 1) := by decide +kernel
theorem dL_dropPlan_1 : decode cL_dropPlan 1 = .ok (.iconst 0, 1) := by decide +kernel
theorem dL_dropPlan_2 : decode cL_dropPlan 2 = .ok (.aload_n 0, 1) := by decide +kernel
theorem dL_dropPlan_3 : decode cL_dropPlan 3 = .ok (.iload_n 1, 1) := by decide +kernel
theorem dL_dropPlan_4 : decode cL_dropPlan 4 = .ok (.invokevirtual 118, 3) := by decide +kernel
theorem dL_dropPlan_7 : decode cL_dropPlan 7 = .ok (.i2l, 1) := by decide +kernel
theorem dL_dropPlan_8 : decode cL_dropPlan 8 = .ok (.lastore, 1) := by decide +kernel
theorem dL_dropPlan_9 : decode cL_dropPlan 9 = .ok (.goto 6, 3) := by decide +kernel
theorem dL_dropPlan_12 : decode cL_dropPlan 12 = .ok (.astore_n 3, 1) := by decide +kernel
theorem dL_dropPlan_13 : decode cL_dropPlan 13 = .ok (.iconst 1, 1) := by decide +kernel
theorem dL_dropPlan_14 : decode cL_dropPlan 14 = .ok (.ireturn, 1) := by decide +kernel
theorem dL_dropPlan_15 : decode cL_dropPlan 15 = .ok (.iconst 0, 1) := by decide +kernel
theorem dL_dropPlan_16 : decode cL_dropPlan 16 = .ok (.ireturn, 1) := by decide +kernel
theorem dL_setOutside_0 : decode cL_setOutside 0 = .ok (.aload_n 2, 1) := by decide +kernel
theorem dL_setOutside_1 : decode cL_setOutside 1 = .ok (.iconst 0, 1) := by decide +kernel
theorem dL_setOutside_2 : decode cL_setOutside 2 = .ok (.aload_n 0, 1) := by decide +kernel
theorem dL_setOutside_3 : decode cL_setOutside 3 = .ok (.iload_n 1, 1) := by decide +kernel
theorem dL_setOutside_4 : decode cL_setOutside 4 = .ok (.invokevirtual 121, 3) := by decide +kernel
theorem dL_setOutside_7 : decode cL_setOutside 7 = .ok (.i2l, 1) := by decide +kernel
theorem dL_setOutside_8 : decode cL_setOutside 8 = .ok (.lastore, 1) := by decide +kernel
theorem dL_setOutside_9 : decode cL_setOutside 9 = .ok (.goto 6, 3) := by decide +kernel
theorem dL_setOutside_12 : decode cL_setOutside 12 = .ok (.astore_n 3, 1) := by decide +kernel
theorem dL_setOutside_13 : decode cL_setOutside 13 = .ok (.iconst 1, 1) := by decide +kernel
theorem dL_setOutside_14 : decode cL_setOutside 14 = .ok (.ireturn, 1) := by decide +kernel
theorem dL_setOutside_15 : decode cL_setOutside 15 = .ok (.iconst 0, 1) := by decide +kernel
theorem dL_setOutside_16 : decode cL_setOutside 16 = .ok (.ireturn, 1) := by decide +kernel
theorem dL_setControl_0 : decode cL_setControl 0 = .ok (.aload 4, 2) := by decide +kernel
theorem dL_setControl_2 : decode cL_setControl 2 = .ok (.iconst 0, 1) := by decide +kernel
theorem dL_setControl_3 : decode cL_setControl 3 = .ok (.aload_n 0, 1) := by decide +kernel
theorem dL_setControl_4 : decode cL_setControl 4 = .ok (.iload_n 1, 1) := by decide +kernel
theorem dL_setControl_5 : decode cL_setControl 5 = .ok (.iload_n 2, 1) := by decide +kernel
theorem dL_setControl_6 : decode cL_setControl 6 = .ok (.iload_n 3, 1) := by decide +kernel
theorem dL_setControl_7 : decode cL_setControl 7 = .ok (.invokevirtual 124, 3) := by decide +kernel
theorem dL_setControl_10 : decode cL_setControl 10 = .ok (.i2l, 1) := by decide +kernel
theorem dL_setControl_11 : decode cL_setControl 11 = .ok (.lastore, 1) := by decide +kernel
theorem dL_setControl_12 : decode cL_setControl 12 = .ok (.goto 7, 3) := by decide +kernel
theorem dL_setControl_15 : decode cL_setControl 15 = .ok (.astore 5, 2) := by decide +kernel
theorem dL_setControl_17 : decode cL_setControl 17 = .ok (.iconst 1, 1) := by decide +kernel
theorem dL_setControl_18 : decode cL_setControl 18 = .ok (.ireturn, 1) := by decide +kernel
theorem dL_setControl_19 : decode cL_setControl 19 = .ok (.iconst 0, 1) := by decide +kernel
theorem dL_setControl_20 : decode cL_setControl 20 = .ok (.ireturn, 1) := by decide +kernel
theorem dL_newBattery_0 : decode cL_newBattery 0 = .ok (.aload_n 3, 1) := by decide +kernel
theorem dL_newBattery_1 : decode cL_newBattery 1 = .ok (.iconst 0, 1) := by decide +kernel
theorem dL_newBattery_2 : decode cL_newBattery 2 = .ok (.aload_n 0, 1) := by decide +kernel
theorem dL_newBattery_3 : decode cL_newBattery 3 = .ok (.iload_n 1, 1) := by decide +kernel
theorem dL_newBattery_4 : decode cL_newBattery 4 = .ok (.iload_n 2, 1) := by decide +kernel
theorem dL_newBattery_5 : decode cL_newBattery 5 = .ok (.invokevirtual 127, 3) := by decide +kernel
theorem dL_newBattery_8 : decode cL_newBattery 8 = .ok (.i2l, 1) := by decide +kernel
theorem dL_newBattery_9 : decode cL_newBattery 9 = .ok (.lastore, 1) := by decide +kernel
theorem dL_newBattery_10 : decode cL_newBattery 10 = .ok (.goto 11, 3) := by decide +kernel
theorem dL_newBattery_13 : decode cL_newBattery 13 = .ok (.astore 4, 2) := by decide +kernel
theorem dL_newBattery_15 : decode cL_newBattery 15 = .ok (.iconst 1, 1) := by decide +kernel
theorem dL_newBattery_16 : decode cL_newBattery 16 = .ok (.ireturn, 1) := by decide +kernel
theorem dL_newBattery_17 : decode cL_newBattery 17 = .ok (.astore 4, 2) := by decide +kernel
theorem dL_newBattery_19 : decode cL_newBattery 19 = .ok (.iconst 2, 1) := by decide +kernel
theorem dL_newBattery_20 : decode cL_newBattery 20 = .ok (.ireturn, 1) := by decide +kernel
theorem dL_newBattery_21 : decode cL_newBattery 21 = .ok (.iconst 0, 1) := by decide +kernel
theorem dL_newBattery_22 : decode cL_newBattery 22 = .ok (.ireturn, 1) := by decide +kernel
theorem dL_turn_0 : decode cL_turn 0 = .ok (.aload_n 3, 1) := by decide +kernel
theorem dL_turn_1 : decode cL_turn 1 = .ok (.iconst 0, 1) := by decide +kernel
theorem dL_turn_2 : decode cL_turn 2 = .ok (.aload_n 0, 1) := by decide +kernel
theorem dL_turn_3 : decode cL_turn 3 = .ok (.iload_n 1, 1) := by decide +kernel
theorem dL_turn_4 : decode cL_turn 4 = .ok (.iload_n 2, 1) := by decide +kernel
theorem dL_turn_5 : decode cL_turn 5 = .ok (.invokevirtual 130, 3) := by decide +kernel
theorem dL_turn_8 : decode cL_turn 8 = .ok (.i2l, 1) := by decide +kernel
theorem dL_turn_9 : decode cL_turn 9 = .ok (.lastore, 1) := by decide +kernel
theorem dL_turn_10 : decode cL_turn 10 = .ok (.goto 11, 3) := by decide +kernel
theorem dL_turn_13 : decode cL_turn 13 = .ok (.astore 4, 2) := by decide +kernel
theorem dL_turn_15 : decode cL_turn 15 = .ok (.iconst 1, 1) := by decide +kernel
theorem dL_turn_16 : decode cL_turn 16 = .ok (.ireturn, 1) := by decide +kernel
theorem dL_turn_17 : decode cL_turn 17 = .ok (.astore 4, 2) := by decide +kernel
theorem dL_turn_19 : decode cL_turn 19 = .ok (.iconst 2, 1) := by decide +kernel
theorem dL_turn_20 : decode cL_turn 20 = .ok (.ireturn, 1) := by decide +kernel
theorem dL_turn_21 : decode cL_turn 21 = .ok (.iconst 0, 1) := by decide +kernel
theorem dL_turn_22 : decode cL_turn 22 = .ok (.ireturn, 1) := by decide +kernel
theorem dL_keep_0 : decode cL_keep 0 = .ok (.aload_n 2, 1) := by decide +kernel
theorem dL_keep_1 : decode cL_keep 1 = .ok (.iconst 0, 1) := by decide +kernel
theorem dL_keep_2 : decode cL_keep 2 = .ok (.aload_n 0, 1) := by decide +kernel
theorem dL_keep_3 : decode cL_keep 3 = .ok (.iload_n 1, 1) := by decide +kernel
theorem dL_keep_4 : decode cL_keep 4 = .ok (.invokevirtual 133, 3) := by decide +kernel
theorem dL_keep_7 : decode cL_keep 7 = .ok (.i2l, 1) := by decide +kernel
theorem dL_keep_8 : decode cL_keep 8 = .ok (.lastore, 1) := by decide +kernel
theorem dL_keep_9 : decode cL_keep 9 = .ok (.goto 6, 3) := by decide +kernel
theorem dL_keep_12 : decode cL_keep 12 = .ok (.astore_n 3, 1) := by decide +kernel
theorem dL_keep_13 : decode cL_keep 13 = .ok (.iconst 1, 1) := by decide +kernel
theorem dL_keep_14 : decode cL_keep 14 = .ok (.ireturn, 1) := by decide +kernel
theorem dL_keep_15 : decode cL_keep 15 = .ok (.iconst 0, 1) := by decide +kernel
theorem dL_keep_16 : decode cL_keep 16 = .ok (.ireturn, 1) := by decide +kernel
theorem dL_restore_0 : decode cL_restore 0 = .ok (.aload_n 2, 1) := by decide +kernel
theorem dL_restore_1 : decode cL_restore 1 = .ok (.iconst 0, 1) := by decide +kernel
theorem dL_restore_2 : decode cL_restore 2 = .ok (.aload_n 0, 1) := by decide +kernel
theorem dL_restore_3 : decode cL_restore 3 = .ok (.iload_n 1, 1) := by decide +kernel
theorem dL_restore_4 : decode cL_restore 4 = .ok (.invokevirtual 136, 3) := by decide +kernel
theorem dL_restore_7 : decode cL_restore 7 = .ok (.i2l, 1) := by decide +kernel
theorem dL_restore_8 : decode cL_restore 8 = .ok (.lastore, 1) := by decide +kernel
theorem dL_restore_9 : decode cL_restore 9 = .ok (.goto 9, 3) := by decide +kernel
theorem dL_restore_12 : decode cL_restore 12 = .ok (.astore_n 3, 1) := by decide +kernel
theorem dL_restore_13 : decode cL_restore 13 = .ok (.iconst 1, 1) := by decide +kernel
theorem dL_restore_14 : decode cL_restore 14 = .ok (.ireturn, 1) := by decide +kernel
theorem dL_restore_15 : decode cL_restore 15 = .ok (.astore_n 3, 1) := by decide +kernel
theorem dL_restore_16 : decode cL_restore 16 = .ok (.iconst 2, 1) := by decide +kernel
theorem dL_restore_17 : decode cL_restore 17 = .ok (.ireturn, 1) := by decide +kernel
theorem dL_restore_18 : decode cL_restore 18 = .ok (.iconst 0, 1) := by decide +kernel
theorem dL_restore_19 : decode cL_restore 19 = .ok (.ireturn, 1) := by decide +kernel
theorem dL_undo_0 : decode cL_undo 0 = .ok (.aload_n 1, 1) := by decide +kernel
theorem dL_undo_1 : decode cL_undo 1 = .ok (.iconst 0, 1) := by decide +kernel
theorem dL_undo_2 : decode cL_undo 2 = .ok (.aload_n 0, 1) := by decide +kernel
theorem dL_undo_3 : decode cL_undo 3 = .ok (.invokevirtual 139, 3) := by decide +kernel
theorem dL_undo_6 : decode cL_undo 6 = .ok (.i2l, 1) := by decide +kernel
theorem dL_undo_7 : decode cL_undo 7 = .ok (.lastore, 1) := by decide +kernel
theorem dL_undo_8 : decode cL_undo 8 = .ok (.goto 6, 3) := by decide +kernel
theorem dL_undo_11 : decode cL_undo 11 = .ok (.astore_n 2, 1) := by decide +kernel
theorem dL_undo_12 : decode cL_undo 12 = .ok (.iconst 1, 1) := by decide +kernel
theorem dL_undo_13 : decode cL_undo 13 = .ok (.ireturn, 1) := by decide +kernel
theorem dL_undo_14 : decode cL_undo 14 = .ok (.iconst 0, 1) := by decide +kernel
theorem dL_undo_15 : decode cL_undo 15 = .ok (.ireturn, 1) := by decide +kernel
theorem dL_writeProgram_0 : decode cL_writeProgram 0 = .ok (.aload_n 2, 1) := by decide +kernel
theorem dL_writeProgram_1 : decode cL_writeProgram 1 = .ok (.iconst 0, 1) := by decide +kernel
theorem dL_writeProgram_2 : decode cL_writeProgram 2 = .ok (.aload_n 0, 1) := by decide +kernel
theorem dL_writeProgram_3 : decode cL_writeProgram 3 = .ok (.iload_n 1, 1) := by decide +kernel
theorem dL_writeProgram_4 : decode cL_writeProgram 4 = .ok (.invokevirtual 143, 3) := by decide +kernel
theorem dL_writeProgram_7 : decode cL_writeProgram 7 = .ok (.i2l, 1) := by decide +kernel
theorem dL_writeProgram_8 : decode cL_writeProgram 8 = .ok (.lastore, 1) := by decide +kernel
theorem dL_writeProgram_9 : decode cL_writeProgram 9 = .ok (.goto 6, 3) := by decide +kernel
theorem dL_writeProgram_12 : decode cL_writeProgram 12 = .ok (.astore_n 3, 1) := by decide +kernel
theorem dL_writeProgram_13 : decode cL_writeProgram 13 = .ok (.iconst 1, 1) := by decide +kernel
theorem dL_writeProgram_14 : decode cL_writeProgram 14 = .ok (.ireturn, 1) := by decide +kernel
theorem dL_writeProgram_15 : decode cL_writeProgram 15 = .ok (.iconst 0, 1) := by decide +kernel
theorem dL_writeProgram_16 : decode cL_writeProgram 16 = .ok (.ireturn, 1) := by decide +kernel
theorem dL_outputByte_0 : decode cL_outputByte 0 = .ok (.aload_n 2, 1) := by decide +kernel
theorem dL_outputByte_1 : decode cL_outputByte 1 = .ok (.iconst 0, 1) := by decide +kernel
theorem dL_outputByte_2 : decode cL_outputByte 2 = .ok (.aload_n 0, 1) := by decide +kernel
theorem dL_outputByte_3 : decode cL_outputByte 3 = .ok (.iload_n 1, 1) := by decide +kernel
theorem dL_outputByte_4 : decode cL_outputByte 4 = .ok (.invokevirtual 146, 3) := by decide +kernel
theorem dL_outputByte_7 : decode cL_outputByte 7 = .ok (.i2l, 1) := by decide +kernel
theorem dL_outputByte_8 : decode cL_outputByte 8 = .ok (.lastore, 1) := by decide +kernel
theorem dL_outputByte_9 : decode cL_outputByte 9 = .ok (.goto 6, 3) := by decide +kernel
theorem dL_outputByte_12 : decode cL_outputByte 12 = .ok (.astore_n 3, 1) := by decide +kernel
theorem dL_outputByte_13 : decode cL_outputByte 13 = .ok (.iconst 1, 1) := by decide +kernel
theorem dL_outputByte_14 : decode cL_outputByte 14 = .ok (.ireturn, 1) := by decide +kernel
theorem dL_outputByte_15 : decode cL_outputByte 15 = .ok (.iconst 0, 1) := by decide +kernel
theorem dL_outputByte_16 : decode cL_outputByte 16 = .ok (.ireturn, 1) := by decide +kernel
