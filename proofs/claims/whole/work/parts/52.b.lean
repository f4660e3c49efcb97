/-! the law's helpers: instructions, words -/
theorem dL_bank_0 : decode cL_bank 0 = .ok (.aload_n 1, 1) := by decide +kernel
theorem dL_bank_1 : decode cL_bank 1 = .ok (.iconst 0, 1) := by decide +kernel
theorem dL_bank_2 : decode cL_bank 2 = .ok (.aload_n 0, 1) := by decide +kernel
theorem dL_bank_3 : decode cL_bank 3 = .ok (.invokevirtual 7, 3) := by decide +kernel
theorem dL_bank_6 : decode cL_bank 6 = .ok (.i2l, 1) := by decide +kernel
theorem dL_bank_7 : decode cL_bank 7 = .ok (.lastore, 1) := by decide +kernel
theorem dL_bank_8 : decode cL_bank 8 = .ok (.goto 9, 3) := by decide +kernel
theorem dL_bank_11 : decode cL_bank 11 = .ok (.astore_n 2, 1) := by decide +kernel
theorem dL_bank_12 : decode cL_bank 12 = .ok (.iconst 1, 1) := by decide +kernel
theorem dL_bank_13 : decode cL_bank 13 = .ok (.ireturn, 1) := by decide +kernel
theorem dL_bank_14 : decode cL_bank 14 = .ok (.astore_n 2, 1) := by decide +kernel
theorem dL_bank_15 : decode cL_bank 15 = .ok (.iconst 2, 1) := by decide +kernel
theorem dL_bank_16 : decode cL_bank 16 = .ok (.ireturn, 1) := by decide +kernel
theorem dL_bank_17 : decode cL_bank 17 = .ok (.iconst 0, 1) := by decide +kernel
theorem dL_bank_18 : decode cL_bank 18 = .ok (.ireturn, 1) := by decide +kernel
theorem dL_law_0 : decode cL_law 0 = .ok (.aload_n 1, 1) := by decide +kernel
theorem dL_law_1 : decode cL_law 1 = .ok (.iconst 0, 1) := by decide +kernel
theorem dL_law_2 : decode cL_law 2 = .ok (.aload_n 0, 1) := by decide +kernel
theorem dL_law_3 : decode cL_law 3 = .ok (.invokevirtual 17, 3) := by decide +kernel
theorem dL_law_6 : decode cL_law 6 = .ok (.i2l, 1) := by decide +kernel
theorem dL_law_7 : decode cL_law 7 = .ok (.lastore, 1) := by decide +kernel
theorem dL_law_8 : decode cL_law 8 = .ok (.goto 6, 3) := by decide +kernel
theorem dL_law_11 : decode cL_law 11 = .ok (.astore_n 2, 1) := by decide +kernel
theorem dL_law_12 : decode cL_law 12 = .ok (.iconst 1, 1) := by decide +kernel
theorem dL_law_13 : decode cL_law 13 = .ok (.ireturn, 1) := by decide +kernel
theorem dL_law_14 : decode cL_law 14 = .ok (.iconst 0, 1) := by decide +kernel
theorem dL_law_15 : decode cL_law 15 = .ok (.ireturn, 1) := by decide +kernel
theorem dL_vault_0 : decode cL_vault 0 = .ok (.aload_n 3, 1) := by decide +kernel
theorem dL_vault_1 : decode cL_vault 1 = .ok (.iconst 0, 1) := by decide +kernel
theorem dL_vault_2 : decode cL_vault 2 = .ok (.aload_n 0, 1) := by decide +kernel
theorem dL_vault_3 : decode cL_vault 3 = .ok (.iload_n 1, 1) := by decide +kernel
theorem dL_vault_4 : decode cL_vault 4 = .ok (.iload_n 2, 1) := by decide +kernel
theorem dL_vault_5 : decode cL_vault 5 = .ok (.invokevirtual 20, 3) := by decide +kernel
theorem dL_vault_8 : decode cL_vault 8 = .ok (.i2l, 1) := by decide +kernel
theorem dL_vault_9 : decode cL_vault 9 = .ok (.lastore, 1) := by decide +kernel
theorem dL_vault_10 : decode cL_vault 10 = .ok (.goto 11, 3) := by decide +kernel
theorem dL_vault_13 : decode cL_vault 13 = .ok (.astore 4, 2) := by decide +kernel
theorem dL_vault_15 : decode cL_vault 15 = .ok (.iconst 1, 1) := by decide +kernel
theorem dL_vault_16 : decode cL_vault 16 = .ok (.ireturn, 1) := by decide +kernel
theorem dL_vault_17 : decode cL_vault 17 = .ok (.astore 4, 2) := by decide +kernel
theorem dL_vault_19 : decode cL_vault 19 = .ok (.iconst 2, 1) := by decide +kernel
theorem dL_vault_20 : decode cL_vault 20 = .ok (.ireturn, 1) := by decide +kernel
theorem dL_vault_21 : decode cL_vault 21 = .ok (.iconst 0, 1) := by decide +kernel
theorem dL_vault_22 : decode cL_vault 22 = .ok (.ireturn, 1) := by decide +kernel
theorem dL_left_0 : decode cL_left 0 = .ok (.aload_n 3, 1) := by decide +kernel
theorem dL_left_1 : decode cL_left 1 = .ok (.iconst 0, 1) := by decide +kernel
theorem dL_left_2 : decode cL_left 2 = .ok (.aload_n 0, 1) := by decide +kernel
theorem dL_left_3 : decode cL_left 3 = .ok (.iload_n 1, 1) := by decide +kernel
theorem dL_left_4 : decode cL_left 4 = .ok (.iload_n 2, 1) := by decide +kernel
theorem dL_left_5 : decode cL_left 5 = .ok (.invokevirtual 28, 3) := by decide +kernel
theorem dL_left_8 : decode cL_left 8 = .ok (.i2l, 1) := by decide +kernel
theorem dL_left_9 : decode cL_left 9 = .ok (.lastore, 1) := by decide +kernel
theorem dL_left_10 : decode cL_left 10 = .ok (.goto 7, 3) := by decide +kernel
theorem dL_left_13 : decode cL_left 13 = .ok (.astore 4, 2) := by decide +kernel
theorem dL_left_15 : decode cL_left 15 = .ok (.iconst 1, 1) := by decide +kernel
theorem dL_left_16 : decode cL_left 16 = .ok (.ireturn, 1) := by decide +kernel
theorem dL_left_17 : decode cL_left 17 = .ok (.iconst 0, 1) := by decide +kernel
theorem dL_left_18 : decode cL_left 18 = .ok (.ireturn, 1) := by decide +kernel
theorem dL_code_0 : decode cL_code 0 = .ok (.aload 4, 2) := by decide +kernel
theorem dL_code_2 : decode cL_code 2 = .ok (.iconst 0, 1) := by decide +kernel
theorem dL_code_3 : decode cL_code 3 = .ok (.aload_n 0, 1) := by decide +kernel
theorem dL_code_4 : decode cL_code 4 = .ok (.iload_n 1, 1) := by decide +kernel
theorem dL_code_5 : decode cL_code 5 = .ok (.iload_n 2, 1) := by decide +kernel
theorem dL_code_6 : decode cL_code 6 = .ok (.iload_n 3, 1) := by decide +kernel
theorem dL_code_7 : decode cL_code 7 = .ok (.invokevirtual 31, 3) := by decide +kernel
theorem dL_code_10 : decode cL_code 10 = .ok (.i2l, 1) := by decide +kernel
theorem dL_code_11 : decode cL_code 11 = .ok (.lastore, 1) := by decide +kernel
theorem dL_code_12 : decode cL_code 12 = .ok (.goto 7, 3) := by decide +kernel
theorem dL_code_15 : decode cL_code 15 = .ok (.astore 5, 2) := by decide +kernel
theorem dL_code_17 : decode cL_code 17 = .ok (.iconst 1, 1) := by decide +kernel
theorem dL_code_18 : decode cL_code 18 = .ok (.ireturn, 1) := by decide +kernel
theorem dL_code_19 : decode cL_code 19 = .ok (.iconst 0, 1) := by decide +kernel
theorem dL_code_20 : decode cL_code 20 = .ok (.ireturn, 1) := by decide +kernel
theorem dL_wheel_0 : decode cL_wheel 0 = .ok (.aload 5, 2) := by decide +kernel
theorem dL_wheel_2 : decode cL_wheel 2 = .ok (.iconst 0, 1) := by decide +kernel
theorem dL_wheel_3 : decode cL_wheel 3 = .ok (.aload_n 0, 1) := by decide +kernel
theorem dL_wheel_4 : decode cL_wheel 4 = .ok (.iload_n 1, 1) := by decide +kernel
theorem dL_wheel_5 : decode cL_wheel 5 = .ok (.iload_n 2, 1) := by decide +kernel
theorem dL_wheel_6 : decode cL_wheel 6 = .ok (.iload_n 3, 1) := by decide +kernel
theorem dL_wheel_7 : decode cL_wheel 7 = .ok (.iload 4, 2) := by decide +kernel
theorem dL_wheel_9 : decode cL_wheel 9 = .ok (.invokevirtual 35, 3) := by decide +kernel
theorem dL_wheel_12 : decode cL_wheel 12 = .ok (.i2l, 1) := by decide +kernel
theorem dL_wheel_13 : decode cL_wheel 13 = .ok (.lastore, 1) := by decide +kernel
theorem dL_wheel_14 : decode cL_wheel 14 = .ok (.goto 7, 3) := by decide +kernel
theorem dL_wheel_17 : decode cL_wheel 17 = .ok (.astore 6, 2) := by decide +kernel
theorem dL_wheel_19 : decode cL_wheel 19 = .ok (.iconst 1, 1) := by decide +kernel
theorem dL_wheel_20 : decode cL_wheel 20 = .ok (.ireturn, 1) := by decide +kernel
theorem dL_wheel_21 : decode cL_wheel 21 = .ok (.iconst 0, 1) := by decide +kernel
theorem dL_wheel_22 : decode cL_wheel 22 = .ok (.ireturn, 1) := by decide +kernel
theorem dL_click_0 : decode cL_click 0 = .ok (.aload 4, 2) := by decide +kernel
theorem dL_click_2 : decode cL_click 2 = .ok (.iconst 0, 1) := by decide +kernel
theorem dL_click_3 : decode cL_click 3 = .ok (.aload_n 0, 1) := by decide +kernel
theorem dL_click_4 : decode cL_click 4 = .ok (.iload_n 1, 1) := by decide +kernel
theorem dL_click_5 : decode cL_click 5 = .ok (.iload_n 2, 1) := by decide +kernel
theorem dL_click_6 : decode cL_click 6 = .ok (.iload_n 3, 1) := by decide +kernel
theorem dL_click_7 : decode cL_click 7 = .ok (.invokevirtual 39, 3) := by decide +kernel
theorem dL_click_10 : decode cL_click 10 = .ok (.i2l, 1) := by decide +kernel
theorem dL_click_11 : decode cL_click 11 = .ok (.lastore, 1) := by decide +kernel
theorem dL_click_12 : decode cL_click 12 = .ok (.goto 11, 3) := by decide +kernel
theorem dL_click_15 : decode cL_click 15 = .ok (.astore 5, 2) := by decide +kernel
theorem dL_click_17 : decode cL_click 17 = .ok (.iconst 1, 1) := by decide +kernel
theorem dL_click_18 : decode cL_click 18 = .ok (.ireturn, 1) := by decide +kernel
theorem dL_click_19 : decode cL_click 19 = .ok (.astore 5, 2) := by decide +kernel
theorem dL_click_21 : decode cL_click 21 = .ok (.iconst 2, 1) := by decide +kernel
theorem dL_click_22 : decode cL_click 22 = .ok (.ireturn, 1) := by decide +kernel
theorem dL_click_23 : decode cL_click 23 = .ok (.iconst 0, 1) := by decide +kernel
theorem dL_click_24 : decode cL_click 24 = .ok (.ireturn, 1) := by decide +kernel
theorem dL_sound_0 : decode cL_sound 0 = .ok (.aload_n 3, 1) := by decide +kernel
theorem dL_sound_1 : decode cL_sound 1 = .ok (.iconst 0, 1) := by decide +kernel
theorem dL_sound_2 : decode cL_sound 2 = .ok (.aload_n 0, 1) := by decide +kernel
theorem dL_sound_3 : decode cL_sound 3 = .ok (.iload_n 1, 1) := by decide +kernel
theorem dL_sound_4 : decode cL_sound 4 = .ok (.iload_n 2, 1) := by decide +kernel
theorem dL_sound_5 : decode cL_sound 5 = .ok (.invokevirtual 42, 3) := by decide +kernel
theorem dL_sound_8 : decode cL_sound 8 = .ok (.i2l, 1) := by decide +kernel
theorem dL_sound_9 : decode cL_sound 9 = .ok (.lastore, 1) := by decide +kernel
theorem dL_sound_10 : decode cL_sound 10 = .ok (.goto 7, 3) := by decide +kernel
theorem dL_sound_13 : decode cL_sound 13 = .ok (.astore 4, 2) := by decide +kernel
theorem dL_sound_15 : decode cL_sound 15 = .ok (.iconst 1, 1) := by decide +kernel
theorem dL_sound_16 : decode cL_sound 16 = .ok (.ireturn, 1) := by decide +kernel
theorem dL_sound_17 : decode cL_sound 17 = .ok (.iconst 0, 1) := by decide +kernel
theorem dL_sound_18 : decode cL_sound 18 = .ok (.ireturn, 1) := by decide +kernel
theorem dL_turn_0 : decode cL_turn 0 = .ok (.aload 4, 2) := by decide +kernel
theorem dL_turn_2 : decode cL_turn 2 = .ok (.iconst 0, 1) := by decide +kernel
theorem dL_turn_3 : decode cL_turn 3 = .ok (.aload_n 0, 1) := by decide +kernel
theorem dL_turn_4 : decode cL_turn 4 = .ok (.iload_n 1, 1) := by decide +kernel
theorem dL_turn_5 : decode cL_turn 5 = .ok (.iload_n 2, 1) := by decide +kernel
theorem dL_turn_6 : decode cL_turn 6 = .ok (.iload_n 3, 1) := by decide +kernel
theorem dL_turn_7 : decode cL_turn 7 = .ok (.invokevirtual 45, 3) := by decide +kernel
theorem dL_turn_10 : decode cL_turn 10 = .ok (.i2l, 1) := by decide +kernel
theorem dL_turn_11 : decode cL_turn 11 = .ok (.lastore, 1) := by decide +kernel
theorem dL_turn_12 : decode cL_turn 12 = .ok (.goto 11, 3) := by decide +kernel
theorem dL_turn_15 : decode cL_turn 15 = .ok (.astore 5, 2) := by decide +kernel
theorem dL_turn_17 : decode cL_turn 17 = .ok (.iconst 1, 1) := by decide +kernel
theorem dL_turn_18 : decode cL_turn 18 = .ok (.ireturn, 1) := by decide +kernel
theorem dL_turn_19 : decode cL_turn 19 = .ok (.astore 5, 2) := by decide +kernel
theorem dL_turn_21 : decode cL_turn 21 = .ok (.iconst 2, 1) := by decide +kernel
theorem dL_turn_22 : decode cL_turn 22 = .ok (.ireturn, 1) := by decide +kernel
theorem dL_turn_23 : decode cL_turn 23 = .ok (.iconst 0, 1) := by decide +kernel
theorem dL_turn_24 : decode cL_turn 24 = .ok (.ireturn, 1) := by decide +kernel
theorem dL_tell_0 : decode cL_tell 0 = .ok (.aload 4, 2) := by decide +kernel
theorem dL_tell_2 : decode cL_tell 2 = .ok (.iconst 0, 1) := by decide +kernel
theorem dL_tell_3 : decode cL_tell 3 = .ok (.aload_n 0, 1) := by decide +kernel
theorem dL_tell_4 : decode cL_tell 4 = .ok (.iload_n 1, 1) := by decide +kernel
theorem dL_tell_5 : decode cL_tell 5 = .ok (.iload_n 2, 1) := by decide +kernel
theorem dL_tell_6 : decode cL_tell 6 = .ok (.iload_n 3, 1) := by decide +kernel
theorem dL_tell_7 : decode cL_tell 7 = .ok (.invokevirtual 50, 3) := by decide +kernel
theorem dL_tell_10 : decode cL_tell 10 = .ok (.i2l, 1) := by decide +kernel
theorem dL_tell_11 : decode cL_tell 11 = .ok (.lastore, 1) := by decide +kernel
theorem dL_tell_12 : decode cL_tell 12 = .ok (.goto 11, 3) := by decide +kernel
theorem dL_tell_15 : decode cL_tell 15 = .ok (.astore 5, 2) := by decide +kernel
theorem dL_tell_17 : decode cL_tell 17 = .ok (.iconst 1, 1) := by decide +kernel
theorem dL_tell_18 : decode cL_tell 18 = .ok (.ireturn, 1) := by decide +kernel
theorem dL_tell_19 : decode cL_tell 19 = .ok (.astore 5, 2) := by decide +kernel
theorem dL_tell_21 : decode cL_tell 21 = .ok (.iconst 2, 1) := by decide +kernel
theorem dL_tell_22 : decode cL_tell 22 = .ok (.ireturn, 1) := by decide +kernel
theorem dL_tell_23 : decode cL_tell 23 = .ok (.iconst 0, 1) := by decide +kernel
theorem dL_tell_24 : decode cL_tell 24 = .ok (.ireturn, 1) := by decide +kernel
theorem dL_forget_0 : decode cL_forget 0 = .ok (.aload_n 3, 1) := by decide +kernel
theorem dL_forget_1 : decode cL_forget 1 = .ok (.iconst 0, 1) := by decide +kernel
theorem dL_forget_2 : decode cL_forget 2 = .ok (.aload_n 0, 1) := by decide +kernel
theorem dL_forget_3 : decode cL_forget 3 = .ok (.iload_n 1, 1) := by decide +kernel
theorem dL_forget_4 : decode cL_forget 4 = .ok (.iload_n 2, 1) := by decide +kernel
theorem dL_forget_5 : decode cL_forget 5 = .ok (.invokevirtual 53, 3) := by decide +kernel
theorem dL_forget_8 : decode cL_forget 8 = .ok (.i2l, 1) := by decide +kernel
theorem dL_forget_9 : decode cL_forget 9 = .ok (.lastore, 1) := by decide +kernel
theorem dL_forget_10 : decode cL_forget 10 = .ok (.goto 7, 3) := by decide +kernel
theorem dL_forget_13 : decode cL_forget 13 = .ok (.astore 4, 2) := by decide +kernel
theorem dL_forget_15 : decode cL_forget 15 = .ok (.iconst 1, 1) := by decide +kernel
theorem dL_forget_16 : decode cL_forget 16 = .ok (.ireturn, 1) := by decide +kernel
theorem dL_forget_17 : decode cL_forget 17 = .ok (.iconst 0, 1) := by decide +kernel
theorem dL_forget_18 : decode cL_forget 18 = .ok (.ireturn, 1) := by decide +kernel
theorem dL_change_0 : decode cL_change 0 = .ok (.aload_n 3, 1) := by decide +kernel
theorem dL_change_1 : decode cL_change 1 = .ok (.iconst 0, 1) := by decide +kernel
theorem dL_change_2 : decode cL_change 2 = .ok (.aload_n 0, 1) := by decide +kernel
theorem dL_change_3 : decode cL_change 3 = .ok (.iload_n 1, 1) := by decide +kernel
theorem dL_change_4 : decode cL_change 4 = .ok (.iload_n 2, 1) := by decide +kernel
theorem dL_change_5 : decode cL_change 5 = .ok (.invokevirtual 56, 3) := by decide +kernel
theorem dL_change_8 : decode cL_change 8 = .ok (.i2l, 1) := by decide +kernel
theorem dL_change_9 : decode cL_change 9 = .ok (.lastore, 1) := by decide +kernel
theorem dL_change_10 : decode cL_change 10 = .ok (.goto 7, 3) := by decide +kernel
theorem dL_change_13 : decode cL_change 13 = .ok (.astore 4, 2) := by decide +kernel
theorem dL_change_15 : decode cL_change 15 = .ok (.iconst 1, 1) := by decide +kernel
theorem dL_change_16 : decode cL_change 16 = .ok (.ireturn, 1) := by decide +kernel
theorem dL_change_17 : decode cL_change 17 = .ok (.iconst 0, 1) := by decide +kernel
theorem dL_change_18 : decode cL_change 18 = .ok (.ireturn, 1) := by decide +kernel
theorem dL_guard_0 : decode cL_guard 0 = .ok (.aload 4, 2) := by decide +kernel
theorem dL_guard_2 : decode cL_guard 2 = .ok (.iconst 0, 1) := by decide +kernel
theorem dL_guard_3 : decode cL_guard 3 = .ok (.aload_n 0, 1) := by decide +kernel
theorem dL_guard_4 : decode cL_guard 4 = .ok (.iload_n 1, 1) := by decide +kernel
theorem dL_guard_5 : decode cL_guard 5 = .ok (.iload_n 2, 1) := by decide +kernel
theorem dL_guard_6 : decode cL_guard 6 = .ok (.iload_n 3, 1) := by decide +kernel
theorem dL_guard_7 : decode cL_guard 7 = .ok (.invokevirtual 59, 3) := by decide +kernel
theorem dL_guard_10 : decode cL_guard 10 = .ok (.ifCond .eq 7, 3) := by decide +kernel
theorem dL_guard_13 : decode cL_guard 13 = .ok (.lconst 1, 1) := by decide +kernel
theorem dL_guard_14 : decode cL_guard 14 = .ok (.goto 4, 3) := by decide +kernel
theorem dL_guard_17 : decode cL_guard 17 = .ok (.lconst 0, 1) := by decide +kernel
theorem dL_guard_18 : decode cL_guard 18 = .ok (.lastore, 1) := by decide +kernel
theorem dL_guard_19 : decode cL_guard 19 = .ok (.goto 11, 3) := by decide +kernel
theorem dL_guard_22 : decode cL_guard 22 = .ok (.astore 5, 2) := by decide +kernel
theorem dL_guard_24 : decode cL_guard 24 = .ok (.iconst 1, 1) := by decide +kernel
theorem dL_guard_25 : decode cL_guard 25 = .ok (.ireturn, 1) := by decide +kernel
theorem dL_guard_26 : decode cL_guard 26 = .ok (.astore 5, 2) := by decide +kernel
theorem dL_guard_28 : decode cL_guard 28 = .ok (.iconst 2, 1) := by decide +kernel
theorem dL_guard_29 : decode cL_guard 29 = .ok (.ireturn, 1) := by decide +kernel
theorem dL_guard_30 : decode cL_guard 30 = .ok (.iconst 0, 1) := by decide +kernel
theorem dL_guard_31 : decode cL_guard 31 = .ok (.ireturn, 1) := by decide +kernel
theorem dL_days_0 : decode cL_days 0 = .ok (.aload_n 2, 1) := by decide +kernel
theorem dL_days_1 : decode cL_days 1 = .ok (.iconst 0, 1) := by decide +kernel
theorem dL_days_2 : decode cL_days 2 = .ok (.aload_n 0, 1) := by decide +kernel
theorem dL_days_3 : decode cL_days 3 = .ok (.iload_n 1, 1) := by decide +kernel
theorem dL_days_4 : decode cL_days 4 = .ok (.invokevirtual 63, 3) := by decide +kernel
theorem dL_days_7 : decode cL_days 7 = .ok (.i2l, 1) := by decide +kernel
theorem dL_days_8 : decode cL_days 8 = .ok (.lastore, 1) := by decide +kernel
theorem dL_days_9 : decode cL_days 9 = .ok (.goto 6, 3) := by decide +kernel
theorem dL_days_12 : decode cL_days 12 = .ok (.astore_n 3, 1) := by decide +kernel
theorem dL_days_13 : decode cL_days 13 = .ok (.iconst 1, 1) := by decide +kernel
theorem dL_days_14 : decode cL_days 14 = .ok (.ireturn, 1) := by decide +kernel
theorem dL_days_15 : decode cL_days 15 = .ok (.iconst 0, 1) := by decide +kernel
theorem dL_days_16 : decode cL_days 16 = .ok (.ireturn, 1) := by decide +kernel
theorem dL_parts_0 : decode cL_parts 0 = .ok (.aload 5, 2) := by decide +kernel
theorem dL_parts_2 : decode cL_parts 2 = .ok (.iconst 0, 1) := by decide +kernel
theorem dL_parts_3 : decode cL_parts 3 = .ok (.aload_n 0, 1) := by decide +kernel
theorem dL_parts_4 : decode cL_parts 4 = .ok (.iload_n 1, 1) := by decide +kernel
theorem dL_parts_5 : decode cL_parts 5 = .ok (.iload_n 2, 1) := by decide +kernel
theorem dL_parts_6 : decode cL_parts 6 = .ok (.iload_n 3, 1) := by decide +kernel
theorem dL_parts_7 : decode cL_parts 7 = .ok (.iload 4, 2) := by decide +kernel
theorem dL_parts_9 : decode cL_parts 9 = .ok (.invokevirtual 67, 3) := by decide +kernel
theorem dL_parts_12 : decode cL_parts 12 = .ok (.i2l, 1) := by decide +kernel
theorem dL_parts_13 : decode cL_parts 13 = .ok (.lastore, 1) := by decide +kernel
theorem dL_parts_14 : decode cL_parts 14 = .ok (.goto 7, 3) := by decide +kernel
theorem dL_parts_17 : decode cL_parts 17 = .ok (.astore 6, 2) := by decide +kernel
theorem dL_parts_19 : decode cL_parts 19 = .ok (.iconst 1, 1) := by decide +kernel
theorem dL_parts_20 : decode cL_parts 20 = .ok (.ireturn, 1) := by decide +kernel
theorem dL_parts_21 : decode cL_parts 21 = .ok (.iconst 0, 1) := by decide +kernel
theorem dL_parts_22 : decode cL_parts 22 = .ok (.ireturn, 1) := by decide +kernel
theorem dL_next_0 : decode cL_next 0 = .ok (.aload_n 3, 1) := by decide +kernel
theorem dL_next_1 : decode cL_next 1 = .ok (.iconst 0, 1) := by decide +kernel
theorem dL_next_2 : decode cL_next 2 = .ok (.aload_n 0, 1) := by decide +kernel
theorem dL_next_3 : decode cL_next 3 = .ok (.iload_n 1, 1) := by decide +kernel
theorem dL_next_4 : decode cL_next 4 = .ok (.iload_n 2, 1) := by decide +kernel
theorem dL_next_5 : decode cL_next 5 = .ok (.invokevirtual 70, 3) := by decide +kernel
theorem dL_next_8 : decode cL_next 8 = .ok (.i2l, 1) := by decide +kernel
theorem dL_next_9 : decode cL_next 9 = .ok (.lastore, 1) := by decide +kernel
theorem dL_next_10 : decode cL_next 10 = .ok (.goto 7, 3) := by decide +kernel
theorem dL_next_13 : decode cL_next 13 = .ok (.astore 4, 2) := by decide +kernel
theorem dL_next_15 : decode cL_next 15 = .ok (.iconst 1, 1) := by decide +kernel
theorem dL_next_16 : decode cL_next 16 = .ok (.ireturn, 1) := by decide +kernel
theorem dL_next_17 : decode cL_next 17 = .ok (.iconst 0, 1) := by decide +kernel
theorem dL_next_18 : decode cL_next 18 = .ok (.ireturn, 1) := by decide +kernel
theorem dL_outright_0 : decode cL_outright 0 = .ok (.aload_n 3, 1) := by decide +kernel
theorem dL_outright_1 : decode cL_outright 1 = .ok (.iconst 0, 1) := by decide +kernel
theorem dL_outright_2 : decode cL_outright 2 = .ok (.aload_n 0, 1) := by decide +kernel
theorem dL_outright_3 : decode cL_outright 3 = .ok (.iload_n 1, 1) := by decide +kernel
theorem dL_outright_4 : decode cL_outright 4 = .ok (.iload_n 2, 1) := by decide +kernel
theorem dL_outright_5 : decode cL_outright 5 = .ok (.invokevirtual 73, 3) := by decide +kernel
theorem dL_outright_8 : decode cL_outright 8 = .ok (.i2l, 1) := by decide +kernel
theorem dL_outright_9 : decode cL_outright 9 = .ok (.lastore, 1) := by decide +kernel
theorem dL_outright_10 : decode cL_outright 10 = .ok (.goto 7, 3) := by decide +kernel
theorem dL_outright_13 : decode cL_outright 13 = .ok (.astore 4, 2) := by decide +kernel
theorem dL_outright_15 : decode cL_outright 15 = .ok (.iconst 1, 1) := by decide +kernel
theorem dL_outright_16 : decode cL_outright 16 = .ok (.ireturn, 1) := by decide +kernel
theorem dL_outright_17 : decode cL_outright 17 = .ok (.iconst 0, 1) := by decide +kernel
theorem dL_outright_18 : decode cL_outright 18 = .ok (.ireturn, 1) := by decide +kernel
theorem dL_worst_0 : decode cL_worst 0 = .ok (.aload_n 3, 1) := by decide +kernel
theorem dL_worst_1 : decode cL_worst 1 = .ok (.iconst 0, 1) := by decide +kernel
theorem dL_worst_2 : decode cL_worst 2 = .ok (.aload_n 0, 1) := by decide +kernel
theorem dL_worst_3 : decode cL_worst 3 = .ok (.iload_n 1, 1) := by decide +kernel
theorem dL_worst_4 : decode cL_worst 4 = .ok (.iload_n 2, 1) := by decide +kernel
theorem dL_worst_5 : decode cL_worst 5 = .ok (.invokevirtual 76, 3) := by decide +kernel
theorem dL_worst_8 : decode cL_worst 8 = .ok (.i2l, 1) := by decide +kernel
theorem dL_worst_9 : decode cL_worst 9 = .ok (.lastore, 1) := by decide +kernel
theorem dL_worst_10 : decode cL_worst 10 = .ok (.goto 7, 3) := by decide +kernel
theorem dL_worst_13 : decode cL_worst 13 = .ok (.astore 4, 2) := by decide +kernel
theorem dL_worst_15 : decode cL_worst 15 = .ok (.iconst 1, 1) := by decide +kernel
theorem dL_worst_16 : decode cL_worst 16 = .ok (.ireturn, 1) := by decide +kernel
theorem dL_worst_17 : decode cL_worst 17 = .ok (.iconst 0, 1) := by decide +kernel
theorem dL_worst_18 : decode cL_worst 18 = .ok (.ireturn, 1) := by decide +kernel
theorem dL_quietest_0 : decode cL_quietest 0 = .ok (.aload_n 2, 1) := by decide +kernel
theorem dL_quietest_1 : decode cL_quietest 1 = .ok (.iconst 0, 1) := by decide +kernel
theorem dL_quietest_2 : decode cL_quietest 2 = .ok (.aload_n 0, 1) := by decide +kernel
theorem dL_quietest_3 : decode cL_quietest 3 = .ok (.iload_n 1, 1) := by decide +kernel
theorem dL_quietest_4 : decode cL_quietest 4 = .ok (.invokevirtual 79, 3) := by decide +kernel
theorem dL_quietest_7 : decode cL_quietest 7 = .ok (.i2l, 1) := by decide +kernel
theorem dL_quietest_8 : decode cL_quietest 8 = .ok (.lastore, 1) := by decide +kernel
theorem dL_quietest_9 : decode cL_quietest 9 = .ok (.goto 6, 3) := by decide +kernel
theorem dL_quietest_12 : decode cL_quietest 12 = .ok (.astore_n 3, 1) := by decide +kernel
theorem dL_quietest_13 : decode cL_quietest 13 = .ok (.iconst 1, 1) := by decide +kernel
theorem dL_quietest_14 : decode cL_quietest 14 = .ok (.ireturn, 1) := by decide +kernel
theorem dL_quietest_15 : decode cL_quietest 15 = .ok (.iconst 0, 1) := by decide +kernel
theorem dL_quietest_16 : decode cL_quietest 16 = .ok (.ireturn, 1) := by decide +kernel
theorem dL_alone_0 : decode cL_alone 0 = .ok (.aload_n 2, 1) := by decide +kernel
theorem dL_alone_1 : decode cL_alone 1 = .ok (.iconst 0, 1) := by decide +kernel
theorem dL_alone_2 : decode cL_alone 2 = .ok (.aload_n 0, 1) := by decide +kernel
theorem dL_alone_3 : decode cL_alone 3 = .ok (.iload_n 1, 1) := by decide +kernel
theorem dL_alone_4 : decode cL_alone 4 = .ok (.invokevirtual 82, 3) := by decide +kernel
theorem dL_alone_7 : decode cL_alone 7 = .ok (.i2l, 1) := by decide +kernel
theorem dL_alone_8 : decode cL_alone 8 = .ok (.lastore, 1) := by decide +kernel
theorem dL_alone_9 : decode cL_alone 9 = .ok (.goto 6, 3) := by decide +kernel
theorem dL_alone_12 : decode cL_alone 12 = .ok (.astore_n 3, 1) := by decide +kernel
theorem dL_alone_13 : decode cL_alone 13 = .ok (.iconst 1, 1) := by decide +kernel
theorem dL_alone_14 : decode cL_alone 14 = .ok (.ireturn, 1) := by decide +kernel
theorem dL_alone_15 : decode cL_alone 15 = .ok (.iconst 0, 1) := by decide +kernel
theorem dL_alone_16 : decode cL_alone 16 = .ok (.ireturn, 1) := by decide +kernel
theorem dL_together_0 : decode cL_together 0 = .ok (.aload_n 3, 1) := by decide +kernel
theorem dL_together_1 : decode cL_together 1 = .ok (.iconst 0, 1) := by decide +kernel
theorem dL_together_2 : decode cL_together 2 = .ok (.aload_n 0, 1) := by decide +kernel
theorem dL_together_3 : decode cL_together 3 = .ok (.iload_n 1, 1) := by decide +kernel
theorem dL_together_4 : decode cL_together 4 = .ok (.iload_n 2, 1) := by decide +kernel
theorem dL_together_5 : decode cL_together 5 = .ok (.invokevirtual 85, 3) := by decide +kernel
theorem dL_together_8 : decode cL_together 8 = .ok (.ifCond .eq 7, 3) := by decide +kernel
theorem dL_together_11 : decode cL_together 11 = .ok (.lconst 1, 1) := by decide +kernel
theorem dL_together_12 : decode cL_together 12 = .ok (.goto 4, 3) := by decide +kernel
theorem dL_together_15 : decode cL_together 15 = .ok (.lconst 0, 1) := by decide +kernel
theorem dL_together_16 : decode cL_together 16 = .ok (.lastore, 1) := by decide +kernel
theorem dL_together_17 : decode cL_together 17 = .ok (.goto 7, 3) := by decide +kernel
theorem dL_together_20 : decode cL_together 20 = .ok (.astore 4, 2) := by decide +kernel
theorem dL_together_22 : decode cL_together 22 = .ok (.iconst 1, 1) := by decide +kernel
theorem dL_together_23 : decode cL_together 23 = .ok (.ireturn, 1) := by decide +kernel
theorem dL_together_24 : decode cL_together 24 = .ok (.iconst 0, 1) := by decide +kernel
theorem dL_together_25 : decode cL_together 25 = .ok (.ireturn, 1) := by decide +kernel
theorem dL_fewest_0 : decode cL_fewest 0 = .ok (.aload_n 3, 1) := by decide +kernel
theorem dL_fewest_1 : decode cL_fewest 1 = .ok (.iconst 0, 1) := by decide +kernel
theorem dL_fewest_2 : decode cL_fewest 2 = .ok (.aload_n 0, 1) := by decide +kernel
theorem dL_fewest_3 : decode cL_fewest 3 = .ok (.iload_n 1, 1) := by decide +kernel
theorem dL_fewest_4 : decode cL_fewest 4 = .ok (.iload_n 2, 1) := by decide +kernel
theorem dL_fewest_5 : decode cL_fewest 5 = .ok (.invokevirtual 89, 3) := by decide +kernel
theorem dL_fewest_8 : decode cL_fewest 8 = .ok (.i2l, 1) := by decide +kernel
theorem dL_fewest_9 : decode cL_fewest 9 = .ok (.lastore, 1) := by decide +kernel
theorem dL_fewest_10 : decode cL_fewest 10 = .ok (.goto 7, 3) := by decide +kernel
theorem dL_fewest_13 : decode cL_fewest 13 = .ok (.astore 4, 2) := by decide +kernel
theorem dL_fewest_15 : decode cL_fewest 15 = .ok (.iconst 1, 1) := by decide +kernel
theorem dL_fewest_16 : decode cL_fewest 16 = .ok (.ireturn, 1) := by decide +kernel
theorem dL_fewest_17 : decode cL_fewest 17 = .ok (.iconst 0, 1) := by decide +kernel
theorem dL_fewest_18 : decode cL_fewest 18 = .ok (.ireturn, 1) := by decide +kernel
theorem dL_pair_0 : decode cL_pair 0 = .ok (.aload_n 2, 1) := by decide +kernel
theorem dL_pair_1 : decode cL_pair 1 = .ok (.iconst 0, 1) := by decide +kernel
theorem dL_pair_2 : decode cL_pair 2 = .ok (.aload_n 0, 1) := by decide +kernel
theorem dL_pair_3 : decode cL_pair 3 = .ok (.iload_n 1, 1) := by decide +kernel
theorem dL_pair_4 : decode cL_pair 4 = .ok (.invokevirtual 93, 3) := by decide +kernel
theorem dL_pair_7 : decode cL_pair 7 = .ok (.i2l, 1) := by decide +kernel
theorem dL_pair_8 : decode cL_pair 8 = .ok (.lastore, 1) := by decide +kernel
theorem dL_pair_9 : decode cL_pair 9 = .ok (.goto 6, 3) := by decide +kernel
theorem dL_pair_12 : decode cL_pair 12 = .ok (.astore_n 3, 1) := by decide +kernel
theorem dL_pair_13 : decode cL_pair 13 = .ok (.iconst 1, 1) := by decide +kernel
theorem dL_pair_14 : decode cL_pair 14 = .ok (.ireturn, 1) := by decide +kernel
theorem dL_pair_15 : decode cL_pair 15 = .ok (.iconst 0, 1) := by decide +kernel
theorem dL_pair_16 : decode cL_pair 16 = .ok (.ireturn, 1) := by decide +kernel
theorem dL_gains_0 : decode cL_gains 0 = .ok (.aload 4, 2) := by decide +kernel
theorem dL_gains_2 : decode cL_gains 2 = .ok (.iconst 0, 1) := by decide +kernel
theorem dL_gains_3 : decode cL_gains 3 = .ok (.aload_n 0, 1) := by decide +kernel
theorem dL_gains_4 : decode cL_gains 4 = .ok (.iload_n 1, 1) := by decide +kernel
theorem dL_gains_5 : decode cL_gains 5 = .ok (.iload_n 2, 1) := by decide +kernel
theorem dL_gains_6 : decode cL_gains 6 = .ok (.iload_n 3, 1) := by decide +kernel
theorem dL_gains_7 : decode cL_gains 7 = .ok (.invokevirtual 96, 3) := by decide +kernel
theorem dL_gains_10 : decode cL_gains 10 = .ok (.i2l, 1) := by decide +kernel
theorem dL_gains_11 : decode cL_gains 11 = .ok (.lastore, 1) := by decide +kernel
theorem dL_gains_12 : decode cL_gains 12 = .ok (.goto 11, 3) := by decide +kernel
theorem dL_gains_15 : decode cL_gains 15 = .ok (.astore 5, 2) := by decide +kernel
theorem dL_gains_17 : decode cL_gains 17 = .ok (.iconst 1, 1) := by decide +kernel
theorem dL_gains_18 : decode cL_gains 18 = .ok (.ireturn, 1) := by decide +kernel
theorem dL_gains_19 : decode cL_gains 19 = .ok (.astore 5, 2) := by decide +kernel
theorem dL_gains_21 : decode cL_gains 21 = .ok (.iconst 2, 1) := by decide +kernel
theorem dL_gains_22 : decode cL_gains 22 = .ok (.ireturn, 1) := by decide +kernel
theorem dL_gains_23 : decode cL_gains 23 = .ok (.iconst 0, 1) := by decide +kernel
theorem dL_gains_24 : decode cL_gains 24 = .ok (.ireturn, 1) := by decide +kernel
theorem dL_contract_0 : decode cL_contract 0 = .ok (.aload_n 3, 1) := by decide +kernel
theorem dL_contract_1 : decode cL_contract 1 = .ok (.iconst 0, 1) := by decide +kernel
theorem dL_contract_2 : decode cL_contract 2 = .ok (.aload_n 0, 1) := by decide +kernel
theorem dL_contract_3 : decode cL_contract 3 = .ok (.iload_n 1, 1) := by decide +kernel
theorem dL_contract_4 : decode cL_contract 4 = .ok (.iload_n 2, 1) := by decide +kernel
theorem dL_contract_5 : decode cL_contract 5 = .ok (.invokevirtual 99, 3) := by decide +kernel
theorem dL_contract_8 : decode cL_contract 8 = .ok (.i2l, 1) := by decide +kernel
theorem dL_contract_9 : decode cL_contract 9 = .ok (.lastore, 1) := by decide +kernel
theorem dL_contract_10 : decode cL_contract 10 = .ok (.goto 11, 3) := by decide +kernel
theorem dL_contract_13 : decode cL_contract 13 = .ok (.astore 4, 2) := by decide +kernel
theorem dL_contract_15 : decode cL_contract 15 = .ok (.iconst 1, 1) := by decide +kernel
theorem dL_contract_16 : decode cL_contract 16 = .ok (.ireturn, 1) := by decide +kernel
theorem dL_contract_17 : decode cL_contract 17 = .ok (.astore 4, 2) := by decide +kernel
theorem dL_contract_19 : decode cL_contract 19 = .ok (.iconst 2, 1) := by decide +kernel
theorem dL_contract_20 : decode cL_contract 20 = .ok (.ireturn, 1) := by decide +kernel
theorem dL_contract_21 : decode cL_contract 21 = .ok (.iconst 0, 1) := by decide +kernel
theorem dL_contract_22 : decode cL_contract 22 = .ok (.ireturn, 1) := by decide +kernel
theorem dL_rota_0 : decode cL_rota 0 = .ok (.aload_n 3, 1) := by decide +kernel
theorem dL_rota_1 : decode cL_rota 1 = .ok (.iconst 0, 1) := by decide +kernel
theorem dL_rota_2 : decode cL_rota 2 = .ok (.aload_n 0, 1) := by decide +kernel
theorem dL_rota_3 : decode cL_rota 3 = .ok (.iload_n 1, 1) := by decide +kernel
theorem dL_rota_4 : decode cL_rota 4 = .ok (.iload_n 2, 1) := by decide +kernel
theorem dL_rota_5 : decode cL_rota 5 = .ok (.invokevirtual 102, 3) := by decide +kernel
theorem dL_rota_8 : decode cL_rota 8 = .ok (.i2l, 1) := by decide +kernel
theorem dL_rota_9 : decode cL_rota 9 = .ok (.lastore, 1) := by decide +kernel
theorem dL_rota_10 : decode cL_rota 10 = .ok (.goto 11, 3) := by decide +kernel
theorem dL_rota_13 : decode cL_rota 13 = .ok (.astore 4, 2) := by decide +kernel
theorem dL_rota_15 : decode cL_rota 15 = .ok (.iconst 1, 1) := by decide +kernel
theorem dL_rota_16 : decode cL_rota 16 = .ok (.ireturn, 1) := by decide +kernel
theorem dL_rota_17 : decode cL_rota 17 = .ok (.astore 4, 2) := by decide +kernel
theorem dL_rota_19 : decode cL_rota 19 = .ok (.iconst 2, 1) := by decide +kernel
theorem dL_rota_20 : decode cL_rota 20 = .ok (.ireturn, 1) := by decide +kernel
theorem dL_rota_21 : decode cL_rota 21 = .ok (.iconst 0, 1) := by decide +kernel
theorem dL_rota_22 : decode cL_rota 22 = .ok (.ireturn, 1) := by decide +kernel
theorem dL_richest_0 : decode cL_richest 0 = .ok (.aload_n 3, 1) := by decide +kernel
theorem dL_richest_1 : decode cL_richest 1 = .ok (.iconst 0, 1) := by decide +kernel
theorem dL_richest_2 : decode cL_richest 2 = .ok (.aload_n 0, 1) := by decide +kernel
theorem dL_richest_3 : decode cL_richest 3 = .ok (.iload_n 1, 1) := by decide +kernel
theorem dL_richest_4 : decode cL_richest 4 = .ok (.iload_n 2, 1) := by decide +kernel
theorem dL_richest_5 : decode cL_richest 5 = .ok (.invokevirtual 105, 3) := by decide +kernel
theorem dL_richest_8 : decode cL_richest 8 = .ok (.i2l, 1) := by decide +kernel
theorem dL_richest_9 : decode cL_richest 9 = .ok (.lastore, 1) := by decide +kernel
theorem dL_richest_10 : decode cL_richest 10 = .ok (.goto 7, 3) := by decide +kernel
theorem dL_richest_13 : decode cL_richest 13 = .ok (.astore 4, 2) := by decide +kernel
theorem dL_richest_15 : decode cL_richest 15 = .ok (.iconst 1, 1) := by decide +kernel
theorem dL_richest_16 : decode cL_richest 16 = .ok (.ireturn, 1) := by decide +kernel
theorem dL_richest_17 : decode cL_richest 17 = .ok (.iconst 0, 1) := by decide +kernel
theorem dL_richest_18 : decode cL_richest 18 = .ok (.ireturn, 1) := by decide +kernel
theorem dL_first_0 : decode cL_first 0 = .ok (.aload_n 2, 1) := by decide +kernel
theorem dL_first_1 : decode cL_first 1 = .ok (.iconst 0, 1) := by decide +kernel
theorem dL_first_2 : decode cL_first 2 = .ok (.aload_n 0, 1) := by decide +kernel
theorem dL_first_3 : decode cL_first 3 = .ok (.iload_n 1, 1) := by decide +kernel
theorem dL_first_4 : decode cL_first 4 = .ok (.invokevirtual 108, 3) := by decide +kernel
theorem dL_first_7 : decode cL_first 7 = .ok (.i2l, 1) := by decide +kernel
theorem dL_first_8 : decode cL_first 8 = .ok (.lastore, 1) := by decide +kernel
theorem dL_first_9 : decode cL_first 9 = .ok (.goto 6, 3) := by decide +kernel
theorem dL_first_12 : decode cL_first 12 = .ok (.astore_n 3, 1) := by decide +kernel
theorem dL_first_13 : decode cL_first 13 = .ok (.iconst 1, 1) := by decide +kernel
theorem dL_first_14 : decode cL_first 14 = .ok (.ireturn, 1) := by decide +kernel
theorem dL_first_15 : decode cL_first 15 = .ok (.iconst 0, 1) := by decide +kernel
theorem dL_first_16 : decode cL_first 16 = .ok (.ireturn, 1) := by decide +kernel
theorem dL_turned_0 : decode cL_turned 0 = .ok (.aload_n 3, 1) := by decide +kernel
theorem dL_turned_1 : decode cL_turned 1 = .ok (.iconst 0, 1) := by decide +kernel
theorem dL_turned_2 : decode cL_turned 2 = .ok (.aload_n 0, 1) := by decide +kernel
theorem dL_turned_3 : decode cL_turned 3 = .ok (.iload_n 1, 1) := by decide +kernel
theorem dL_turned_4 : decode cL_turned 4 = .ok (.iload_n 2, 1) := by decide +kernel
theorem dL_turned_5 : decode cL_turned 5 = .ok (.invokevirtual 111, 3) := by decide +kernel
theorem dL_turned_8 : decode cL_turned 8 = .ok (.i2l, 1) := by decide +kernel
theorem dL_turned_9 : decode cL_turned 9 = .ok (.lastore, 1) := by decide +kernel
theorem dL_turned_10 : decode cL_turned 10 = .ok (.goto 7, 3) := by decide +kernel
theorem dL_turned_13 : decode cL_turned 13 = .ok (.astore 4, 2) := by decide +kernel
theorem dL_turned_15 : decode cL_turned 15 = .ok (.iconst 1, 1) := by decide +kernel
theorem dL_turned_16 : decode cL_turned 16 = .ok (.ireturn, 1) := by decide +kernel
theorem dL_turned_17 : decode cL_turned 17 = .ok (.iconst 0, 1) := by decide +kernel
theorem dL_turned_18 : decode cL_turned 18 = .ok (.ireturn, 1) := by decide +kernel
theorem dL_price_0 : decode cL_price 0 = .ok (.aload_n 2, 1) := by decide +kernel
theorem dL_price_1 : decode cL_price 1 = .ok (.iconst 0, 1) := by decide +kernel
theorem dL_price_2 : decode cL_price 2 = .ok (.aload_n 0, 1) := by decide +kernel
theorem dL_price_3 : decode cL_price 3 = .ok (.iload_n 1, 1) := by decide +kernel
theorem dL_price_4 : decode cL_price 4 = .ok (.invokevirtual 114, 3) := by decide +kernel
theorem dL_price_7 : decode cL_price 7 = .ok (.i2l, 1) := by decide +kernel
theorem dL_price_8 : decode cL_price 8 = .ok (.lastore, 1) := by decide +kernel
theorem dL_price_9 : decode cL_price 9 = .ok (.goto 6, 3) := by decide +kernel
theorem dL_price_12 : decode cL_price 12 = .ok (.astore_n 3, 1) := by decide +kernel
theorem dL_price_13 : decode cL_price 13 = .ok (.iconst 1, 1) := by decide +kernel
theorem dL_price_14 : decode cL_price 14 = .ok (.ireturn, 1) := by decide +kernel
theorem dL_price_15 : decode cL_price 15 = .ok (.iconst 0, 1) := by decide +kernel
theorem dL_price_16 : decode cL_price 16 = .ok (.ireturn, 1) := by decide +kernel
theorem dL_when_0 : decode cL_when 0 = .ok (.aload_n 3, 1) := by decide +kernel
theorem dL_when_1 : decode cL_when 1 = .ok (.iconst 0, 1) := by decide +kernel
theorem dL_when_2 : decode cL_when 2 = .ok (.aload_n 0, 1) := by decide +kernel
theorem dL_when_3 : decode cL_when 3 = .ok (.iload_n 1, 1) := by decide +kernel
theorem dL_when_4 : decode cL_when 4 = .ok (.iload_n 2, 1) := by decide +kernel
theorem dL_when_5 : decode cL_when 5 = .ok (.invokevirtual 117, 3) := by decide +kernel
theorem dL_when_8 : decode cL_when 8 = .ok (.i2l, 1) := by decide +kernel
theorem dL_when_9 : decode cL_when 9 = .ok (.lastore, 1) := by decide +kernel
theorem dL_when_10 : decode cL_when 10 = .ok (.goto 7, 3) := by decide +kernel
theorem dL_when_13 : decode cL_when 13 = .ok (.astore 4, 2) := by decide +kernel
theorem dL_when_15 : decode cL_when 15 = .ok (.iconst 1, 1) := by decide +kernel
theorem dL_when_16 : decode cL_when 16 = .ok (.ireturn, 1) := by decide +kernel
theorem dL_when_17 : decode cL_when 17 = .ok (.iconst 0, 1) := by decide +kernel
theorem dL_when_18 : decode cL_when 18 = .ok (.ireturn, 1) := by decide +kernel
theorem dL_trial_0 : decode cL_trial 0 = .ok (.aload_n 3, 1) := by decide +kernel
theorem dL_trial_1 : decode cL_trial 1 = .ok (.iconst 0, 1) := by decide +kernel
theorem dL_trial_2 : decode cL_trial 2 = .ok (.aload_n 0, 1) := by decide +kernel
theorem dL_trial_3 : decode cL_trial 3 = .ok (.iload_n 1, 1) := by decide +kernel
theorem dL_trial_4 : decode cL_trial 4 = .ok (.iload_n 2, 1) := by decide +kernel
theorem dL_trial_5 : decode cL_trial 5 = .ok (.invokevirtual 120, 3) := by decide +kernel
theorem dL_trial_8 : decode cL_trial 8 = .ok (.i2l, 1) := by decide +kernel
theorem dL_trial_9 : decode cL_trial 9 = .ok (.lastore, 1) := by decide +kernel
theorem dL_trial_10 : decode cL_trial 10 = .ok (.goto 7, 3) := by decide +kernel
theorem dL_trial_13 : decode cL_trial 13 = .ok (.astore 4, 2) := by decide +kernel
theorem dL_trial_15 : decode cL_trial 15 = .ok (.iconst 1, 1) := by decide +kernel
theorem dL_trial_16 : decode cL_trial 16 = .ok (.ireturn, 1) := by decide +kernel
theorem dL_trial_17 : decode cL_trial 17 = .ok (.iconst 0, 1) := by decide +kernel
theorem dL_trial_18 : decode cL_trial 18 = .ok (.ireturn, 1) := by decide +kernel
theorem dL_span_0 : decode cL_span 0 = .ok (.aload_n 3, 1) := by decide +kernel
theorem dL_span_1 : decode cL_span 1 = .ok (.iconst 0, 1) := by decide +kernel
theorem dL_span_2 : decode cL_span 2 = .ok (.aload_n 0, 1) := by decide +kernel
theorem dL_span_3 : decode cL_span 3 = .ok (.iload_n 1, 1) := by decide +kernel
theorem dL_span_4 : decode cL_span 4 = .ok (.iload_n 2, 1) := by decide +kernel
theorem dL_span_5 : decode cL_span 5 = .ok (.invokevirtual 123, 3) := by decide +kernel
theorem dL_span_8 : decode cL_span 8 = .ok (.i2l, 1) := by decide +kernel
theorem dL_span_9 : decode cL_span 9 = .ok (.lastore, 1) := by decide +kernel
theorem dL_span_10 : decode cL_span 10 = .ok (.goto 7, 3) := by decide +kernel
theorem dL_span_13 : decode cL_span 13 = .ok (.astore 4, 2) := by decide +kernel
theorem dL_span_15 : decode cL_span 15 = .ok (.iconst 1, 1) := by decide +kernel
theorem dL_span_16 : decode cL_span 16 = .ok (.ireturn, 1) := by decide +kernel
theorem dL_span_17 : decode cL_span 17 = .ok (.iconst 0, 1) := by decide +kernel
theorem dL_span_18 : decode cL_span 18 = .ok (.ireturn, 1) := by decide +kernel
theorem dL_log_0 : decode cL_log 0 = .ok (.aload_n 3, 1) := by decide +kernel
theorem dL_log_1 : decode cL_log 1 = .ok (.iconst 0, 1) := by decide +kernel
theorem dL_log_2 : decode cL_log 2 = .ok (.aload_n 0, 1) := by decide +kernel
theorem dL_log_3 : decode cL_log 3 = .ok (.iload_n 1, 1) := by decide +kernel
theorem dL_log_4 : decode cL_log 4 = .ok (.iload_n 2, 1) := by decide +kernel
theorem dL_log_5 : decode cL_log 5 = .ok (.invokevirtual 126, 3) := by decide +kernel
theorem dL_log_8 : decode cL_log 8 = .ok (.i2l, 1) := by decide +kernel
theorem dL_log_9 : decode cL_log 9 = .ok (.lastore, 1) := by decide +kernel
theorem dL_log_10 : decode cL_log 10 = .ok (.goto 7, 3) := by decide +kernel
theorem dL_log_13 : decode cL_log 13 = .ok (.astore 4, 2) := by decide +kernel
theorem dL_log_15 : decode cL_log 15 = .ok (.iconst 1, 1) := by decide +kernel
theorem dL_log_16 : decode cL_log 16 = .ok (.ireturn, 1) := by decide +kernel
theorem dL_log_17 : decode cL_log 17 = .ok (.iconst 0, 1) := by decide +kernel
theorem dL_log_18 : decode cL_log 18 = .ok (.ireturn, 1) := by decide +kernel
theorem kl_13 : sk_wok (.classLink RL 13 "java/lang/IllegalArgumentException") = true := sk_okP 604 (by decide +kernel) (by decide +kernel)
theorem kl_15 : sk_wok (.classLink RL 15 "java/lang/UnsupportedOperationException") = true := sk_okP 605 (by decide +kernel) (by decide +kernel)
theorem kl_24 : sk_wok (.classLink RL 24 "java/lang/IndexOutOfBoundsException") = true := sk_okP 899 (by decide +kernel) (by decide +kernel)
theorem kl_26 : sk_wok (.classLink RL 26 "java/util/NoSuchElementException") = true := sk_okP 900 (by decide +kernel) (by decide +kernel)
theorem kl_48 : sk_wok (.classLink RL 48 "java/lang/IllegalStateException") = true := sk_okP 1020 (by decide +kernel) (by decide +kernel)
abbrev mL_bank : sk_X := (yL_bank, cL_bank, 3, some .int, [(0, 8, 11, 13), (0, 8, 14, 15)])
theorem cw_L_bank : sk_wok (sk_cwH mL_bank) = true := sk_okQ (sk_t3 (List.mem_of_getElem? (i := 21) rfl)) rfl
theorem np_L_bank : sk_np mL_bank 2 := ⟨by decide +kernel, by decide +kernel, by decide +kernel⟩
theorem np_X7_bank : sk_np mX7_bank 0 := ⟨by decide +kernel, by decide +kernel, by decide +kernel⟩
theorem w_L_7 : sk_cV RL 7 mX7_bank = true := sk_al4 (sk_okP 606 (by decide +kernel) (by decide +kernel)) (sk_okP 607 (by decide +kernel) (by decide +kernel)) (sk_okP 608 (by decide +kernel) (by decide +kernel)) (sk_okP 103 (by decide +kernel) (by decide +kernel))
abbrev mL_law : sk_X := (yL_law, cL_law, 3, some .int, [(0, 8, 11, 13)])
theorem cw_L_law : sk_wok (sk_cwH mL_law) = true := sk_okQ (sk_t4 (List.mem_of_getElem? (i := 3) rfl)) rfl
theorem np_L_law : sk_np mL_law 2 := ⟨by decide +kernel, by decide +kernel, by decide +kernel⟩
theorem np_X7_law : sk_np mX7_law 0 := ⟨by decide +kernel, by decide +kernel, by decide +kernel⟩
theorem w_L_17 : sk_cV RL 17 mX7_law = true := sk_al4 (sk_okP 826 (by decide +kernel) (by decide +kernel)) (sk_okP 827 (by decide +kernel) (by decide +kernel)) (sk_okP 828 (by decide +kernel) (by decide +kernel)) (sk_okP 103 (by decide +kernel) (by decide +kernel))
abbrev mL_vault : sk_X := (yL_vault, cL_vault, 5, some .int, [(0, 10, 13, 24), (0, 10, 17, 26)])
theorem cw_L_vault : sk_wok (sk_cwH mL_vault) = true := sk_okQ (sk_t4 (List.mem_of_getElem? (i := 76) rfl)) rfl
theorem np_L_vault : sk_np mL_vault 4 := ⟨by decide +kernel, by decide +kernel, by decide +kernel⟩
theorem np_X7_vault : sk_np mX7_vault 2 := ⟨by decide +kernel, by decide +kernel, by decide +kernel⟩
theorem w_L_20 : sk_cV RL 20 mX7_vault = true := sk_al4 (sk_okP 901 (by decide +kernel) (by decide +kernel)) (sk_okP 902 (by decide +kernel) (by decide +kernel)) (sk_okP 903 (by decide +kernel) (by decide +kernel)) (sk_okP 103 (by decide +kernel) (by decide +kernel))
abbrev mL_left : sk_X := (yL_left, cL_left, 5, some .int, [(0, 10, 13, 24)])
theorem cw_L_left : sk_wok (sk_cwH mL_left) = true := sk_okQ (sk_t4 (List.mem_of_getElem? (i := 132) rfl)) rfl
theorem np_L_left : sk_np mL_left 4 := ⟨by decide +kernel, by decide +kernel, by decide +kernel⟩
theorem np_X7_left : sk_np mX7_left 2 := ⟨by decide +kernel, by decide +kernel, by decide +kernel⟩
theorem w_L_28 : sk_cV RL 28 mX7_left = true := sk_al4 (sk_okP 955 (by decide +kernel) (by decide +kernel)) (sk_okP 956 (by decide +kernel) (by decide +kernel)) (sk_okP 957 (by decide +kernel) (by decide +kernel)) (sk_okP 103 (by decide +kernel) (by decide +kernel))
abbrev mL_code : sk_X := (yL_code, cL_code, 6, some .int, [(0, 12, 15, 24)])
theorem cw_L_code : sk_wok (sk_cwH mL_code) = true := sk_okQ (sk_t4 (List.mem_of_getElem? (i := 144) rfl)) rfl
theorem np_L_code : sk_np mL_code 5 := ⟨by decide +kernel, by decide +kernel, by decide +kernel⟩
theorem np_X7_code : sk_np mX7_code 3 := ⟨by decide +kernel, by decide +kernel, by decide +kernel⟩
theorem w_L_31 : sk_cV RL 31 mX7_code = true := sk_al4 (sk_okP 967 (by decide +kernel) (by decide +kernel)) (sk_okP 968 (by decide +kernel) (by decide +kernel)) (sk_okP 969 (by decide +kernel) (by decide +kernel)) (sk_okP 103 (by decide +kernel) (by decide +kernel))
abbrev mL_wheel : sk_X := (yL_wheel, cL_wheel, 7, some .int, [(0, 14, 17, 24)])
theorem cw_L_wheel : sk_wok (sk_cwH mL_wheel) = true := sk_okQ (sk_t4 (List.mem_of_getElem? (i := 159) rfl)) rfl
theorem np_L_wheel : sk_np mL_wheel 6 := ⟨by decide +kernel, by decide +kernel, by decide +kernel⟩
theorem np_X7_wheel : sk_np mX7_wheel 4 := ⟨by decide +kernel, by decide +kernel, by decide +kernel⟩
theorem w_L_35 : sk_cV RL 35 mX7_wheel = true := sk_al4 (sk_okP 982 (by decide +kernel) (by decide +kernel)) (sk_okP 983 (by decide +kernel) (by decide +kernel)) (sk_okP 984 (by decide +kernel) (by decide +kernel)) (sk_okP 103 (by decide +kernel) (by decide +kernel))
abbrev mL_click : sk_X := (yL_click, cL_click, 6, some .int, [(0, 12, 15, 24), (0, 12, 19, 13)])
theorem cw_L_click : sk_wok (sk_cwH mL_click) = true := sk_okQ (sk_t4 (List.mem_of_getElem? (i := 174) rfl)) rfl
theorem np_L_click : sk_np mL_click 5 := ⟨by decide +kernel, by decide +kernel, by decide +kernel⟩
theorem np_X7_click : sk_np mX7_click 3 := ⟨by decide +kernel, by decide +kernel, by decide +kernel⟩
theorem w_L_39 : sk_cV RL 39 mX7_click = true := sk_al4 (sk_okP 997 (by decide +kernel) (by decide +kernel)) (sk_okP 998 (by decide +kernel) (by decide +kernel)) (sk_okP 999 (by decide +kernel) (by decide +kernel)) (sk_okP 103 (by decide +kernel) (by decide +kernel))
abbrev mL_sound : sk_X := (yL_sound, cL_sound, 5, some .int, [(0, 10, 13, 24)])
theorem cw_L_sound : sk_wok (sk_cwH mL_sound) = true := sk_okQ (sk_t4 (List.mem_of_getElem? (i := 182) rfl)) rfl
theorem np_L_sound : sk_np mL_sound 4 := ⟨by decide +kernel, by decide +kernel, by decide +kernel⟩
theorem np_X7_sound : sk_np mX7_sound 2 := ⟨by decide +kernel, by decide +kernel, by decide +kernel⟩
theorem w_L_42 : sk_cV RL 42 mX7_sound = true := sk_al4 (sk_okP 1005 (by decide +kernel) (by decide +kernel)) (sk_okP 1006 (by decide +kernel) (by decide +kernel)) (sk_okP 1007 (by decide +kernel) (by decide +kernel)) (sk_okP 103 (by decide +kernel) (by decide +kernel))
abbrev mL_turn : sk_X := (yL_turn, cL_turn, 6, some .int, [(0, 12, 15, 24), (0, 12, 19, 48)])
theorem cw_L_turn : sk_wok (sk_cwH mL_turn) = true := sk_okQ (sk_t4 (List.mem_of_getElem? (i := 197) rfl)) rfl
theorem np_L_turn : sk_np mL_turn 5 := ⟨by decide +kernel, by decide +kernel, by decide +kernel⟩
theorem np_X7_turn : sk_np mX7_turn 3 := ⟨by decide +kernel, by decide +kernel, by decide +kernel⟩
theorem w_L_45 : sk_cV RL 45 mX7_turn = true := sk_al4 (sk_okP 1021 (by decide +kernel) (by decide +kernel)) (sk_okP 1022 (by decide +kernel) (by decide +kernel)) (sk_okP 1023 (by decide +kernel) (by decide +kernel)) (sk_okP 103 (by decide +kernel) (by decide +kernel))
abbrev mL_tell : sk_X := (yL_tell, cL_tell, 6, some .int, [(0, 12, 15, 24), (0, 12, 19, 13)])
theorem cw_L_tell : sk_wok (sk_cwH mL_tell) = true := sk_okQ (sk_t5 (List.mem_of_getElem? (i := 7) rfl)) rfl
theorem np_L_tell : sk_np mL_tell 5 := ⟨by decide +kernel, by decide +kernel, by decide +kernel⟩
theorem np_X7_tell : sk_np mX7_tell 3 := ⟨by decide +kernel, by decide +kernel, by decide +kernel⟩
theorem w_L_50 : sk_cV RL 50 mX7_tell = true := sk_al4 (sk_okP 1070 (by decide +kernel) (by decide +kernel)) (sk_okP 1071 (by decide +kernel) (by decide +kernel)) (sk_okP 1072 (by decide +kernel) (by decide +kernel)) (sk_okP 103 (by decide +kernel) (by decide +kernel))
abbrev mL_forget : sk_X := (yL_forget, cL_forget, 5, some .int, [(0, 10, 13, 24)])
theorem cw_L_forget : sk_wok (sk_cwH mL_forget) = true := sk_okQ (sk_t5 (List.mem_of_getElem? (i := 23) rfl)) rfl
theorem np_L_forget : sk_np mL_forget 4 := ⟨by decide +kernel, by decide +kernel, by decide +kernel⟩
theorem np_X7_forget : sk_np mX7_forget 2 := ⟨by decide +kernel, by decide +kernel, by decide +kernel⟩
theorem w_L_53 : sk_cV RL 53 mX7_forget = true := sk_al4 (sk_okP 1086 (by decide +kernel) (by decide +kernel)) (sk_okP 1087 (by decide +kernel) (by decide +kernel)) (sk_okP 1088 (by decide +kernel) (by decide +kernel)) (sk_okP 103 (by decide +kernel) (by decide +kernel))
abbrev mL_change : sk_X := (yL_change, cL_change, 5, some .int, [(0, 10, 13, 24)])
theorem cw_L_change : sk_wok (sk_cwH mL_change) = true := sk_okQ (sk_t5 (List.mem_of_getElem? (i := 31) rfl)) rfl
theorem np_L_change : sk_np mL_change 4 := ⟨by decide +kernel, by decide +kernel, by decide +kernel⟩
theorem np_X7_change : sk_np mX7_change 2 := ⟨by decide +kernel, by decide +kernel, by decide +kernel⟩
theorem w_L_56 : sk_cV RL 56 mX7_change = true := sk_al4 (sk_okP 1094 (by decide +kernel) (by decide +kernel)) (sk_okP 1095 (by decide +kernel) (by decide +kernel)) (sk_okP 1096 (by decide +kernel) (by decide +kernel)) (sk_okP 103 (by decide +kernel) (by decide +kernel))
abbrev mL_guard : sk_X := (yL_guard, cL_guard, 6, some .int, [(0, 19, 22, 24), (0, 19, 26, 13)])
theorem cw_L_guard : sk_wok (sk_cwH mL_guard) = true := sk_okQ (sk_t5 (List.mem_of_getElem? (i := 42) rfl)) rfl
theorem np_L_guard : sk_np mL_guard 5 := ⟨by decide +kernel, by decide +kernel, by decide +kernel⟩
theorem np_X7_guard : sk_np mX7_guard 3 := ⟨by decide +kernel, by decide +kernel, by decide +kernel⟩
theorem w_L_59 : sk_cV RL 59 mX7_guard = true := sk_al4 (sk_okP 1105 (by decide +kernel) (by decide +kernel)) (sk_okP 1106 (by decide +kernel) (by decide +kernel)) (sk_okP 1107 (by decide +kernel) (by decide +kernel)) (sk_okP 103 (by decide +kernel) (by decide +kernel))
abbrev mL_days : sk_X := (yL_days, cL_days, 4, some .int, [(0, 9, 12, 13)])
theorem cw_L_days : sk_wok (sk_cwH mL_days) = true := sk_okQ (sk_t5 (List.mem_of_getElem? (i := 50) rfl)) rfl
theorem np_L_days : sk_np mL_days 3 := ⟨by decide +kernel, by decide +kernel, by decide +kernel⟩
theorem np_X7_days : sk_np mX7_days 1 := ⟨by decide +kernel, by decide +kernel, by decide +kernel⟩
theorem w_L_63 : sk_cV RL 63 mX7_days = true := sk_al4 (sk_okP 1113 (by decide +kernel) (by decide +kernel)) (sk_okP 1114 (by decide +kernel) (by decide +kernel)) (sk_okP 1115 (by decide +kernel) (by decide +kernel)) (sk_okP 103 (by decide +kernel) (by decide +kernel))
abbrev mL_parts : sk_X := (yL_parts, cL_parts, 7, some .int, [(0, 14, 17, 24)])
theorem cw_L_parts : sk_wok (sk_cwH mL_parts) = true := sk_okQ (sk_t5 (List.mem_of_getElem? (i := 72) rfl)) rfl
theorem np_L_parts : sk_np mL_parts 6 := ⟨by decide +kernel, by decide +kernel, by decide +kernel⟩
theorem np_X7_parts : sk_np mX7_parts 4 := ⟨by decide +kernel, by decide +kernel, by decide +kernel⟩
theorem w_L_67 : sk_cV RL 67 mX7_parts = true := sk_al4 (sk_okP 1135 (by decide +kernel) (by decide +kernel)) (sk_okP 1136 (by decide +kernel) (by decide +kernel)) (sk_okP 1137 (by decide +kernel) (by decide +kernel)) (sk_okP 103 (by decide +kernel) (by decide +kernel))
abbrev mL_next : sk_X := (yL_next, cL_next, 5, some .int, [(0, 10, 13, 24)])
theorem cw_L_next : sk_wok (sk_cwH mL_next) = true := sk_okQ (sk_t5 (List.mem_of_getElem? (i := 98) rfl)) rfl
theorem np_L_next : sk_np mL_next 4 := ⟨by decide +kernel, by decide +kernel, by decide +kernel⟩
theorem np_X7_next : sk_np mX7_next 2 := ⟨by decide +kernel, by decide +kernel, by decide +kernel⟩
theorem w_L_70 : sk_cV RL 70 mX7_next = true := sk_al4 (sk_okP 1161 (by decide +kernel) (by decide +kernel)) (sk_okP 1162 (by decide +kernel) (by decide +kernel)) (sk_okP 1163 (by decide +kernel) (by decide +kernel)) (sk_okP 103 (by decide +kernel) (by decide +kernel))
abbrev mL_outright : sk_X := (yL_outright, cL_outright, 5, some .int, [(0, 10, 13, 24)])
theorem cw_L_outright : sk_wok (sk_cwH mL_outright) = true := sk_okQ (sk_t5 (List.mem_of_getElem? (i := 133) rfl)) rfl
theorem np_L_outright : sk_np mL_outright 4 := ⟨by decide +kernel, by decide +kernel, by decide +kernel⟩
theorem np_X7_outright : sk_np mX7_outright 2 := ⟨by decide +kernel, by decide +kernel, by decide +kernel⟩
theorem w_L_73 : sk_cV RL 73 mX7_outright = true := sk_al4 (sk_okP 1196 (by decide +kernel) (by decide +kernel)) (sk_okP 1197 (by decide +kernel) (by decide +kernel)) (sk_okP 1198 (by decide +kernel) (by decide +kernel)) (sk_okP 103 (by decide +kernel) (by decide +kernel))
abbrev mL_worst : sk_X := (yL_worst, cL_worst, 5, some .int, [(0, 10, 13, 24)])
theorem cw_L_worst : sk_wok (sk_cwH mL_worst) = true := sk_okQ (sk_t5 (List.mem_of_getElem? (i := 140) rfl)) rfl
theorem np_L_worst : sk_np mL_worst 4 := ⟨by decide +kernel, by decide +kernel, by decide +kernel⟩
theorem np_X7_worst : sk_np mX7_worst 2 := ⟨by decide +kernel, by decide +kernel, by decide +kernel⟩
theorem w_L_76 : sk_cV RL 76 mX7_worst = true := sk_al4 (sk_okP 1203 (by decide +kernel) (by decide +kernel)) (sk_okP 1204 (by decide +kernel) (by decide +kernel)) (sk_okP 1205 (by decide +kernel) (by decide +kernel)) (sk_okP 103 (by decide +kernel) (by decide +kernel))
abbrev mL_quietest : sk_X := (yL_quietest, cL_quietest, 4, some .int, [(0, 9, 12, 24)])
theorem cw_L_quietest : sk_wok (sk_cwH mL_quietest) = true := sk_okQ (sk_t5 (List.mem_of_getElem? (i := 161) rfl)) rfl
theorem np_L_quietest : sk_np mL_quietest 3 := ⟨by decide +kernel, by decide +kernel, by decide +kernel⟩
theorem np_X7_quietest : sk_np mX7_quietest 1 := ⟨by decide +kernel, by decide +kernel, by decide +kernel⟩
theorem w_L_79 : sk_cV RL 79 mX7_quietest = true := sk_al4 (sk_okP 1224 (by decide +kernel) (by decide +kernel)) (sk_okP 1225 (by decide +kernel) (by decide +kernel)) (sk_okP 1226 (by decide +kernel) (by decide +kernel)) (sk_okP 103 (by decide +kernel) (by decide +kernel))
abbrev mL_alone : sk_X := (yL_alone, cL_alone, 4, some .int, [(0, 9, 12, 24)])
theorem cw_L_alone : sk_wok (sk_cwH mL_alone) = true := sk_okQ (sk_t5 (List.mem_of_getElem? (i := 176) rfl)) rfl
theorem np_L_alone : sk_np mL_alone 3 := ⟨by decide +kernel, by decide +kernel, by decide +kernel⟩
theorem np_X7_alone : sk_np mX7_alone 1 := ⟨by decide +kernel, by decide +kernel, by decide +kernel⟩
theorem w_L_82 : sk_cV RL 82 mX7_alone = true := sk_al4 (sk_okP 1239 (by decide +kernel) (by decide +kernel)) (sk_okP 1240 (by decide +kernel) (by decide +kernel)) (sk_okP 1241 (by decide +kernel) (by decide +kernel)) (sk_okP 103 (by decide +kernel) (by decide +kernel))
abbrev mL_together : sk_X := (yL_together, cL_together, 5, some .int, [(0, 17, 20, 24)])
theorem cw_L_together : sk_wok (sk_cwH mL_together) = true := sk_okQ (sk_t5 (List.mem_of_getElem? (i := 183) rfl)) rfl
theorem np_L_together : sk_np mL_together 4 := ⟨by decide +kernel, by decide +kernel, by decide +kernel⟩
theorem np_X7_together : sk_np mX7_together 2 := ⟨by decide +kernel, by decide +kernel, by decide +kernel⟩
theorem w_L_85 : sk_cV RL 85 mX7_together = true := sk_al4 (sk_okP 1246 (by decide +kernel) (by decide +kernel)) (sk_okP 1247 (by decide +kernel) (by decide +kernel)) (sk_okP 1248 (by decide +kernel) (by decide +kernel)) (sk_okP 103 (by decide +kernel) (by decide +kernel))
abbrev mL_fewest : sk_X := (yL_fewest, cL_fewest, 5, some .int, [(0, 10, 13, 24)])
theorem cw_L_fewest : sk_wok (sk_cwH mL_fewest) = true := sk_okQ (sk_t5 (List.mem_of_getElem? (i := 194) rfl)) rfl
theorem np_L_fewest : sk_np mL_fewest 4 := ⟨by decide +kernel, by decide +kernel, by decide +kernel⟩
theorem np_X7_fewest : sk_np mX7_fewest 2 := ⟨by decide +kernel, by decide +kernel, by decide +kernel⟩
theorem w_L_89 : sk_cV RL 89 mX7_fewest = true := sk_al4 (sk_okP 1257 (by decide +kernel) (by decide +kernel)) (sk_okP 1258 (by decide +kernel) (by decide +kernel)) (sk_okP 1259 (by decide +kernel) (by decide +kernel)) (sk_okP 103 (by decide +kernel) (by decide +kernel))
abbrev mL_pair : sk_X := (yL_pair, cL_pair, 4, some .int, [(0, 9, 12, 24)])
theorem cw_L_pair : sk_wok (sk_cwH mL_pair) = true := sk_okQ (sk_t5 (List.mem_of_getElem? (i := 201) rfl)) rfl
theorem np_L_pair : sk_np mL_pair 3 := ⟨by decide +kernel, by decide +kernel, by decide +kernel⟩
theorem np_X7_pair : sk_np mX7_pair 1 := ⟨by decide +kernel, by decide +kernel, by decide +kernel⟩
theorem w_L_93 : sk_cV RL 93 mX7_pair = true := sk_al4 (sk_okP 1264 (by decide +kernel) (by decide +kernel)) (sk_okP 1265 (by decide +kernel) (by decide +kernel)) (sk_okP 1266 (by decide +kernel) (by decide +kernel)) (sk_okP 103 (by decide +kernel) (by decide +kernel))
abbrev mL_gains : sk_X := (yL_gains, cL_gains, 6, some .int, [(0, 12, 15, 24), (0, 12, 19, 13)])
theorem cw_L_gains : sk_wok (sk_cwH mL_gains) = true := sk_okQ (sk_t5 (List.mem_of_getElem? (i := 208) rfl)) rfl
theorem np_L_gains : sk_np mL_gains 5 := ⟨by decide +kernel, by decide +kernel, by decide +kernel⟩
theorem np_X7_gains : sk_np mX7_gains 3 := ⟨by decide +kernel, by decide +kernel, by decide +kernel⟩
theorem w_L_96 : sk_cV RL 96 mX7_gains = true := sk_al4 (sk_okP 1271 (by decide +kernel) (by decide +kernel)) (sk_okP 1272 (by decide +kernel) (by decide +kernel)) (sk_okP 1273 (by decide +kernel) (by decide +kernel)) (sk_okP 103 (by decide +kernel) (by decide +kernel))
abbrev mL_contract : sk_X := (yL_contract, cL_contract, 5, some .int, [(0, 10, 13, 24), (0, 10, 17, 26)])
theorem cw_L_contract : sk_wok (sk_cwH mL_contract) = true := sk_okQ (sk_t5 (List.mem_of_getElem? (i := 215) rfl)) rfl
theorem np_L_contract : sk_np mL_contract 4 := ⟨by decide +kernel, by decide +kernel, by decide +kernel⟩
theorem np_X7_contract : sk_np mX7_contract 2 := ⟨by decide +kernel, by decide +kernel, by decide +kernel⟩
theorem w_L_99 : sk_cV RL 99 mX7_contract = true := sk_al4 (sk_okP 1278 (by decide +kernel) (by decide +kernel)) (sk_okP 1279 (by decide +kernel) (by decide +kernel)) (sk_okP 1280 (by decide +kernel) (by decide +kernel)) (sk_okP 103 (by decide +kernel) (by decide +kernel))
abbrev mL_rota : sk_X := (yL_rota, cL_rota, 5, some .int, [(0, 10, 13, 24), (0, 10, 17, 13)])
theorem cw_L_rota : sk_wok (sk_cwH mL_rota) = true := sk_okQ (sk_t5 (List.mem_of_getElem? (i := 225) rfl)) rfl
theorem np_L_rota : sk_np mL_rota 4 := ⟨by decide +kernel, by decide +kernel, by decide +kernel⟩
theorem np_X7_rota : sk_np mX7_rota 2 := ⟨by decide +kernel, by decide +kernel, by decide +kernel⟩
theorem w_L_102 : sk_cV RL 102 mX7_rota = true := sk_al4 (sk_okP 1288 (by decide +kernel) (by decide +kernel)) (sk_okP 1289 (by decide +kernel) (by decide +kernel)) (sk_okP 1290 (by decide +kernel) (by decide +kernel)) (sk_okP 103 (by decide +kernel) (by decide +kernel))
abbrev mL_richest : sk_X := (yL_richest, cL_richest, 5, some .int, [(0, 10, 13, 24)])
theorem cw_L_richest : sk_wok (sk_cwH mL_richest) = true := sk_okQ (sk_t5 (List.mem_of_getElem? (i := 233) rfl)) rfl
theorem np_L_richest : sk_np mL_richest 4 := ⟨by decide +kernel, by decide +kernel, by decide +kernel⟩
theorem np_X7_richest : sk_np mX7_richest 2 := ⟨by decide +kernel, by decide +kernel, by decide +kernel⟩
theorem w_L_105 : sk_cV RL 105 mX7_richest = true := sk_al4 (sk_okP 1296 (by decide +kernel) (by decide +kernel)) (sk_okP 1297 (by decide +kernel) (by decide +kernel)) (sk_okP 1298 (by decide +kernel) (by decide +kernel)) (sk_okP 103 (by decide +kernel) (by decide +kernel))
abbrev mL_first : sk_X := (yL_first, cL_first, 4, some .int, [(0, 9, 12, 24)])
theorem cw_L_first : sk_wok (sk_cwH mL_first) = true := sk_okQ (sk_t6 (List.mem_of_getElem? (i := 5) rfl)) rfl
theorem np_L_first : sk_np mL_first 3 := ⟨by decide +kernel, by decide +kernel, by decide +kernel⟩
theorem np_X7_first : sk_np mX7_first 1 := ⟨by decide +kernel, by decide +kernel, by decide +kernel⟩
theorem w_L_108 : sk_cV RL 108 mX7_first = true := sk_al4 (sk_okP 1308 (by decide +kernel) (by decide +kernel)) (sk_okP 1309 (by decide +kernel) (by decide +kernel)) (sk_okP 1310 (by decide +kernel) (by decide +kernel)) (sk_okP 103 (by decide +kernel) (by decide +kernel))
abbrev mL_turned : sk_X := (yL_turned, cL_turned, 5, some .int, [(0, 10, 13, 24)])
theorem cw_L_turned : sk_wok (sk_cwH mL_turned) = true := sk_okQ (sk_t6 (List.mem_of_getElem? (i := 13) rfl)) rfl
theorem np_L_turned : sk_np mL_turned 4 := ⟨by decide +kernel, by decide +kernel, by decide +kernel⟩
theorem np_X7_turned : sk_np mX7_turned 2 := ⟨by decide +kernel, by decide +kernel, by decide +kernel⟩
theorem w_L_111 : sk_cV RL 111 mX7_turned = true := sk_al4 (sk_okP 1316 (by decide +kernel) (by decide +kernel)) (sk_okP 1317 (by decide +kernel) (by decide +kernel)) (sk_okP 1318 (by decide +kernel) (by decide +kernel)) (sk_okP 103 (by decide +kernel) (by decide +kernel))
abbrev mL_price : sk_X := (yL_price, cL_price, 4, some .int, [(0, 9, 12, 24)])
theorem cw_L_price : sk_wok (sk_cwH mL_price) = true := sk_okQ (sk_t6 (List.mem_of_getElem? (i := 20) rfl)) rfl
theorem np_L_price : sk_np mL_price 3 := ⟨by decide +kernel, by decide +kernel, by decide +kernel⟩
theorem np_X7_price : sk_np mX7_price 1 := ⟨by decide +kernel, by decide +kernel, by decide +kernel⟩
theorem w_L_114 : sk_cV RL 114 mX7_price = true := sk_al4 (sk_okP 1323 (by decide +kernel) (by decide +kernel)) (sk_okP 1324 (by decide +kernel) (by decide +kernel)) (sk_okP 1325 (by decide +kernel) (by decide +kernel)) (sk_okP 103 (by decide +kernel) (by decide +kernel))
abbrev mL_when : sk_X := (yL_when, cL_when, 5, some .int, [(0, 10, 13, 24)])
theorem cw_L_when : sk_wok (sk_cwH mL_when) = true := sk_okQ (sk_t6 (List.mem_of_getElem? (i := 27) rfl)) rfl
theorem np_L_when : sk_np mL_when 4 := ⟨by decide +kernel, by decide +kernel, by decide +kernel⟩
theorem np_X7_when : sk_np mX7_when 2 := ⟨by decide +kernel, by decide +kernel, by decide +kernel⟩
theorem w_L_117 : sk_cV RL 117 mX7_when = true := sk_al4 (sk_okP 1330 (by decide +kernel) (by decide +kernel)) (sk_okP 1331 (by decide +kernel) (by decide +kernel)) (sk_okP 1332 (by decide +kernel) (by decide +kernel)) (sk_okP 103 (by decide +kernel) (by decide +kernel))
abbrev mL_trial : sk_X := (yL_trial, cL_trial, 5, some .int, [(0, 10, 13, 13)])
theorem cw_L_trial : sk_wok (sk_cwH mL_trial) = true := sk_okQ (sk_t6 (List.mem_of_getElem? (i := 34) rfl)) rfl
theorem np_L_trial : sk_np mL_trial 4 := ⟨by decide +kernel, by decide +kernel, by decide +kernel⟩
theorem np_X7_trial : sk_np mX7_trial 2 := ⟨by decide +kernel, by decide +kernel, by decide +kernel⟩
theorem w_L_120 : sk_cV RL 120 mX7_trial = true := sk_al4 (sk_okP 1337 (by decide +kernel) (by decide +kernel)) (sk_okP 1338 (by decide +kernel) (by decide +kernel)) (sk_okP 1339 (by decide +kernel) (by decide +kernel)) (sk_okP 103 (by decide +kernel) (by decide +kernel))
abbrev mL_span : sk_X := (yL_span, cL_span, 5, some .int, [(0, 10, 13, 13)])
theorem cw_L_span : sk_wok (sk_cwH mL_span) = true := sk_okQ (sk_t6 (List.mem_of_getElem? (i := 53) rfl)) rfl
theorem np_L_span : sk_np mL_span 4 := ⟨by decide +kernel, by decide +kernel, by decide +kernel⟩
theorem np_X7_span : sk_np mX7_span 2 := ⟨by decide +kernel, by decide +kernel, by decide +kernel⟩
theorem w_L_123 : sk_cV RL 123 mX7_span = true := sk_al4 (sk_okP 1356 (by decide +kernel) (by decide +kernel)) (sk_okP 1357 (by decide +kernel) (by decide +kernel)) (sk_okP 1358 (by decide +kernel) (by decide +kernel)) (sk_okP 103 (by decide +kernel) (by decide +kernel))
abbrev mL_log : sk_X := (yL_log, cL_log, 5, some .int, [(0, 10, 13, 26)])
theorem cw_L_log : sk_wok (sk_cwH mL_log) = true := sk_okQ (sk_t6 (List.mem_of_getElem? (i := 60) rfl)) rfl
theorem np_L_log : sk_np mL_log 4 := ⟨by decide +kernel, by decide +kernel, by decide +kernel⟩
theorem np_X7_log : sk_np mX7_log 2 := ⟨by decide +kernel, by decide +kernel, by decide +kernel⟩
theorem w_L_126 : sk_cV RL 126 mX7_log = true := sk_al4 (sk_okP 1363 (by decide +kernel) (by decide +kernel)) (sk_okP 1364 (by decide +kernel) (by decide +kernel)) (sk_okP 1365 (by decide +kernel) (by decide +kernel)) (sk_okP 103 (by decide +kernel) (by decide +kernel))
