/-! The law's helpers: the class's call, its answer laid into out[0], or the number of what it threw. -/
theorem d_La_element_0 : decode method_3_code 0 = .ok (.aload_n 0, 1) := by decide +kernel
theorem d_La_element_1 : decode method_3_code 1 = .ok (.iload_n 1, 1) := by decide +kernel
theorem d_La_element_2 : decode method_3_code 2 = .ok (.iload_n 2, 1) := by decide +kernel
theorem d_La_element_3 : decode method_3_code 3 = .ok (.iload_n 3, 1) := by decide +kernel
theorem d_La_element_4 : decode method_3_code 4 = .ok (.iload 4, 2) := by decide +kernel
theorem d_La_element_6 : decode method_3_code 6 = .ok (.invokevirtual 7, 3) := by decide +kernel
theorem d_La_element_9 : decode method_3_code 9 = .ok (.goto 11, 3) := by decide +kernel
theorem d_La_element_12 : decode method_3_code 12 = .ok (.astore 5, 2) := by decide +kernel
theorem d_La_element_14 : decode method_3_code 14 = .ok (.iconst 1, 1) := by decide +kernel
theorem d_La_element_15 : decode method_3_code 15 = .ok (.ireturn, 1) := by decide +kernel
theorem d_La_element_16 : decode method_3_code 16 = .ok (.astore 5, 2) := by decide +kernel
theorem d_La_element_18 : decode method_3_code 18 = .ok (.iconst 2, 1) := by decide +kernel
theorem d_La_element_19 : decode method_3_code 19 = .ok (.ireturn, 1) := by decide +kernel
theorem d_La_element_20 : decode method_3_code 20 = .ok (.iconst 0, 1) := by decide +kernel
theorem d_La_element_21 : decode method_3_code 21 = .ok (.ireturn, 1) := by decide +kernel
theorem d_La_link_0 : decode method_4_code 0 = .ok (.aload 5, 2) := by decide +kernel
theorem d_La_link_2 : decode method_4_code 2 = .ok (.iconst 0, 1) := by decide +kernel
theorem d_La_link_3 : decode method_4_code 3 = .ok (.aload_n 0, 1) := by decide +kernel
theorem d_La_link_4 : decode method_4_code 4 = .ok (.iload_n 1, 1) := by decide +kernel
theorem d_La_link_5 : decode method_4_code 5 = .ok (.iload_n 2, 1) := by decide +kernel
theorem d_La_link_6 : decode method_4_code 6 = .ok (.iload_n 3, 1) := by decide +kernel
theorem d_La_link_7 : decode method_4_code 7 = .ok (.iload 4, 2) := by decide +kernel
theorem d_La_link_9 : decode method_4_code 9 = .ok (.invokevirtual 17, 3) := by decide +kernel
theorem d_La_link_12 : decode method_4_code 12 = .ok (.i2l, 1) := by decide +kernel
theorem d_La_link_13 : decode method_4_code 13 = .ok (.lastore, 1) := by decide +kernel
theorem d_La_link_14 : decode method_4_code 14 = .ok (.goto 11, 3) := by decide +kernel
theorem d_La_link_17 : decode method_4_code 17 = .ok (.astore 6, 2) := by decide +kernel
theorem d_La_link_19 : decode method_4_code 19 = .ok (.iconst 1, 1) := by decide +kernel
theorem d_La_link_20 : decode method_4_code 20 = .ok (.ireturn, 1) := by decide +kernel
theorem d_La_link_21 : decode method_4_code 21 = .ok (.astore 6, 2) := by decide +kernel
theorem d_La_link_23 : decode method_4_code 23 = .ok (.iconst 2, 1) := by decide +kernel
theorem d_La_link_24 : decode method_4_code 24 = .ok (.ireturn, 1) := by decide +kernel
theorem d_La_link_25 : decode method_4_code 25 = .ok (.iconst 0, 1) := by decide +kernel
theorem d_La_link_26 : decode method_4_code 26 = .ok (.ireturn, 1) := by decide +kernel
theorem d_La_source_0 : decode method_5_code 0 = .ok (.aload_n 0, 1) := by decide +kernel
theorem d_La_source_1 : decode method_5_code 1 = .ok (.iload_n 1, 1) := by decide +kernel
theorem d_La_source_2 : decode method_5_code 2 = .ok (.iload_n 2, 1) := by decide +kernel
theorem d_La_source_3 : decode method_5_code 3 = .ok (.iload_n 3, 1) := by decide +kernel
theorem d_La_source_4 : decode method_5_code 4 = .ok (.iload 4, 2) := by decide +kernel
theorem d_La_source_6 : decode method_5_code 6 = .ok (.invokevirtual 21, 3) := by decide +kernel
theorem d_La_source_9 : decode method_5_code 9 = .ok (.goto 11, 3) := by decide +kernel
theorem d_La_source_12 : decode method_5_code 12 = .ok (.astore 5, 2) := by decide +kernel
theorem d_La_source_14 : decode method_5_code 14 = .ok (.iconst 1, 1) := by decide +kernel
theorem d_La_source_15 : decode method_5_code 15 = .ok (.ireturn, 1) := by decide +kernel
theorem d_La_source_16 : decode method_5_code 16 = .ok (.astore 5, 2) := by decide +kernel
theorem d_La_source_18 : decode method_5_code 18 = .ok (.iconst 2, 1) := by decide +kernel
theorem d_La_source_19 : decode method_5_code 19 = .ok (.ireturn, 1) := by decide +kernel
theorem d_La_source_20 : decode method_5_code 20 = .ok (.iconst 0, 1) := by decide +kernel
theorem d_La_source_21 : decode method_5_code 21 = .ok (.ireturn, 1) := by decide +kernel
theorem d_La_priority_0 : decode method_6_code 0 = .ok (.aload 4, 2) := by decide +kernel
theorem d_La_priority_2 : decode method_6_code 2 = .ok (.iconst 0, 1) := by decide +kernel
theorem d_La_priority_3 : decode method_6_code 3 = .ok (.aload_n 0, 1) := by decide +kernel
theorem d_La_priority_4 : decode method_6_code 4 = .ok (.iload_n 1, 1) := by decide +kernel
theorem d_La_priority_5 : decode method_6_code 5 = .ok (.iload_n 2, 1) := by decide +kernel
theorem d_La_priority_6 : decode method_6_code 6 = .ok (.iload_n 3, 1) := by decide +kernel
theorem d_La_priority_7 : decode method_6_code 7 = .ok (.invokevirtual 24, 3) := by decide +kernel
theorem d_La_priority_10 : decode method_6_code 10 = .ok (.i2l, 1) := by decide +kernel
theorem d_La_priority_11 : decode method_6_code 11 = .ok (.lastore, 1) := by decide +kernel
theorem d_La_priority_12 : decode method_6_code 12 = .ok (.goto 7, 3) := by decide +kernel
theorem d_La_priority_15 : decode method_6_code 15 = .ok (.astore 5, 2) := by decide +kernel
theorem d_La_priority_17 : decode method_6_code 17 = .ok (.iconst 1, 1) := by decide +kernel
theorem d_La_priority_18 : decode method_6_code 18 = .ok (.ireturn, 1) := by decide +kernel
theorem d_La_priority_19 : decode method_6_code 19 = .ok (.iconst 0, 1) := by decide +kernel
theorem d_La_priority_20 : decode method_6_code 20 = .ok (.ireturn, 1) := by decide +kernel
theorem d_La_restore_0 : decode method_7_code 0 = .ok (.aload_n 3, 1) := by decide +kernel
theorem d_La_restore_1 : decode method_7_code 1 = .ok (.iconst 0, 1) := by decide +kernel
theorem d_La_restore_2 : decode method_7_code 2 = .ok (.aload_n 0, 1) := by decide +kernel
theorem d_La_restore_3 : decode method_7_code 3 = .ok (.iload_n 1, 1) := by decide +kernel
theorem d_La_restore_4 : decode method_7_code 4 = .ok (.iload_n 2, 1) := by decide +kernel
theorem d_La_restore_5 : decode method_7_code 5 = .ok (.invokevirtual 28, 3) := by decide +kernel
theorem d_La_restore_8 : decode method_7_code 8 = .ok (.i2l, 1) := by decide +kernel
theorem d_La_restore_9 : decode method_7_code 9 = .ok (.lastore, 1) := by decide +kernel
theorem d_La_restore_10 : decode method_7_code 10 = .ok (.goto 7, 3) := by decide +kernel
theorem d_La_restore_13 : decode method_7_code 13 = .ok (.astore 4, 2) := by decide +kernel
theorem d_La_restore_15 : decode method_7_code 15 = .ok (.iconst 1, 1) := by decide +kernel
theorem d_La_restore_16 : decode method_7_code 16 = .ok (.ireturn, 1) := by decide +kernel
theorem d_La_restore_17 : decode method_7_code 17 = .ok (.iconst 0, 1) := by decide +kernel
theorem d_La_restore_18 : decode method_7_code 18 = .ok (.ireturn, 1) := by decide +kernel
theorem d_La_command_0 : decode method_8_code 0 = .ok (.aload 4, 2) := by decide +kernel
theorem d_La_command_2 : decode method_8_code 2 = .ok (.iconst 0, 1) := by decide +kernel
theorem d_La_command_3 : decode method_8_code 3 = .ok (.aload_n 0, 1) := by decide +kernel
theorem d_La_command_4 : decode method_8_code 4 = .ok (.iload_n 1, 1) := by decide +kernel
theorem d_La_command_5 : decode method_8_code 5 = .ok (.iload_n 2, 1) := by decide +kernel
theorem d_La_command_6 : decode method_8_code 6 = .ok (.iload_n 3, 1) := by decide +kernel
theorem d_La_command_7 : decode method_8_code 7 = .ok (.invokevirtual 32, 3) := by decide +kernel
theorem d_La_command_10 : decode method_8_code 10 = .ok (.i2l, 1) := by decide +kernel
theorem d_La_command_11 : decode method_8_code 11 = .ok (.lastore, 1) := by decide +kernel
theorem d_La_command_12 : decode method_8_code 12 = .ok (.goto 7, 3) := by decide +kernel
theorem d_La_command_15 : decode method_8_code 15 = .ok (.astore 5, 2) := by decide +kernel
theorem d_La_command_17 : decode method_8_code 17 = .ok (.iconst 1, 1) := by decide +kernel
theorem d_La_command_18 : decode method_8_code 18 = .ok (.ireturn, 1) := by decide +kernel
theorem d_La_command_19 : decode method_8_code 19 = .ok (.iconst 0, 1) := by decide +kernel
theorem d_La_command_20 : decode method_8_code 20 = .ok (.ireturn, 1) := by decide +kernel
theorem d_La_lockout_0 : decode method_9_code 0 = .ok (.aload 4, 2) := by decide +kernel
theorem d_La_lockout_2 : decode method_9_code 2 = .ok (.iconst 0, 1) := by decide +kernel
theorem d_La_lockout_3 : decode method_9_code 3 = .ok (.aload_n 0, 1) := by decide +kernel
theorem d_La_lockout_4 : decode method_9_code 4 = .ok (.iload_n 1, 1) := by decide +kernel
theorem d_La_lockout_5 : decode method_9_code 5 = .ok (.iload_n 2, 1) := by decide +kernel
theorem d_La_lockout_6 : decode method_9_code 6 = .ok (.iload_n 3, 1) := by decide +kernel
theorem d_La_lockout_7 : decode method_9_code 7 = .ok (.invokevirtual 35, 3) := by decide +kernel
theorem d_La_lockout_10 : decode method_9_code 10 = .ok (.ifCond .eq 7, 3) := by decide +kernel
theorem d_La_lockout_13 : decode method_9_code 13 = .ok (.lconst 1, 1) := by decide +kernel
theorem d_La_lockout_14 : decode method_9_code 14 = .ok (.goto 4, 3) := by decide +kernel
theorem d_La_lockout_17 : decode method_9_code 17 = .ok (.lconst 0, 1) := by decide +kernel
theorem d_La_lockout_18 : decode method_9_code 18 = .ok (.lastore, 1) := by decide +kernel
theorem d_La_lockout_19 : decode method_9_code 19 = .ok (.goto 7, 3) := by decide +kernel
theorem d_La_lockout_22 : decode method_9_code 22 = .ok (.astore 5, 2) := by decide +kernel
theorem d_La_lockout_24 : decode method_9_code 24 = .ok (.iconst 1, 1) := by decide +kernel
theorem d_La_lockout_25 : decode method_9_code 25 = .ok (.ireturn, 1) := by decide +kernel
theorem d_La_lockout_26 : decode method_9_code 26 = .ok (.iconst 0, 1) := by decide +kernel
theorem d_La_lockout_27 : decode method_9_code 27 = .ok (.ireturn, 1) := by decide +kernel
theorem d_La_fail_0 : decode method_10_code 0 = .ok (.aload_n 3, 1) := by decide +kernel
theorem d_La_fail_1 : decode method_10_code 1 = .ok (.iconst 0, 1) := by decide +kernel
theorem d_La_fail_2 : decode method_10_code 2 = .ok (.aload_n 0, 1) := by decide +kernel
theorem d_La_fail_3 : decode method_10_code 3 = .ok (.iload_n 1, 1) := by decide +kernel
theorem d_La_fail_4 : decode method_10_code 4 = .ok (.iload_n 2, 1) := by decide +kernel
theorem d_La_fail_5 : decode method_10_code 5 = .ok (.invokevirtual 39, 3) := by decide +kernel
theorem d_La_fail_8 : decode method_10_code 8 = .ok (.ifCond .eq 7, 3) := by decide +kernel
theorem d_La_fail_11 : decode method_10_code 11 = .ok (.lconst 1, 1) := by decide +kernel
theorem d_La_fail_12 : decode method_10_code 12 = .ok (.goto 4, 3) := by decide +kernel
theorem d_La_fail_15 : decode method_10_code 15 = .ok (.lconst 0, 1) := by decide +kernel
theorem d_La_fail_16 : decode method_10_code 16 = .ok (.lastore, 1) := by decide +kernel
theorem d_La_fail_17 : decode method_10_code 17 = .ok (.goto 7, 3) := by decide +kernel
theorem d_La_fail_20 : decode method_10_code 20 = .ok (.astore 4, 2) := by decide +kernel
theorem d_La_fail_22 : decode method_10_code 22 = .ok (.iconst 1, 1) := by decide +kernel
theorem d_La_fail_23 : decode method_10_code 23 = .ok (.ireturn, 1) := by decide +kernel
theorem d_La_fail_24 : decode method_10_code 24 = .ok (.iconst 0, 1) := by decide +kernel
theorem d_La_fail_25 : decode method_10_code 25 = .ok (.ireturn, 1) := by decide +kernel
theorem d_La_failElement_0 : decode method_11_code 0 = .ok (.aload_n 3, 1) := by decide +kernel
theorem d_La_failElement_1 : decode method_11_code 1 = .ok (.iconst 0, 1) := by decide +kernel
theorem d_La_failElement_2 : decode method_11_code 2 = .ok (.aload_n 0, 1) := by decide +kernel
theorem d_La_failElement_3 : decode method_11_code 3 = .ok (.iload_n 1, 1) := by decide +kernel
theorem d_La_failElement_4 : decode method_11_code 4 = .ok (.iload_n 2, 1) := by decide +kernel
theorem d_La_failElement_5 : decode method_11_code 5 = .ok (.invokevirtual 43, 3) := by decide +kernel
theorem d_La_failElement_8 : decode method_11_code 8 = .ok (.ifCond .eq 7, 3) := by decide +kernel
theorem d_La_failElement_11 : decode method_11_code 11 = .ok (.lconst 1, 1) := by decide +kernel
theorem d_La_failElement_12 : decode method_11_code 12 = .ok (.goto 4, 3) := by decide +kernel
theorem d_La_failElement_15 : decode method_11_code 15 = .ok (.lconst 0, 1) := by decide +kernel
theorem d_La_failElement_16 : decode method_11_code 16 = .ok (.lastore, 1) := by decide +kernel
theorem d_La_failElement_17 : decode method_11_code 17 = .ok (.goto 7, 3) := by decide +kernel
theorem d_La_failElement_20 : decode method_11_code 20 = .ok (.astore 4, 2) := by decide +kernel
theorem d_La_failElement_22 : decode method_11_code 22 = .ok (.iconst 1, 1) := by decide +kernel
theorem d_La_failElement_23 : decode method_11_code 23 = .ok (.ireturn, 1) := by decide +kernel
theorem d_La_failElement_24 : decode method_11_code 24 = .ok (.iconst 0, 1) := by decide +kernel
theorem d_La_failElement_25 : decode method_11_code 25 = .ok (.ireturn, 1) := by decide +kernel
theorem d_La_lose_0 : decode method_12_code 0 = .ok (.aload_n 0, 1) := by decide +kernel
theorem d_La_lose_1 : decode method_12_code 1 = .ok (.iload_n 1, 1) := by decide +kernel
theorem d_La_lose_2 : decode method_12_code 2 = .ok (.iload_n 2, 1) := by decide +kernel
theorem d_La_lose_3 : decode method_12_code 3 = .ok (.invokevirtual 46, 3) := by decide +kernel
theorem d_La_lose_6 : decode method_12_code 6 = .ok (.goto 6, 3) := by decide +kernel
theorem d_La_lose_9 : decode method_12_code 9 = .ok (.astore_n 3, 1) := by decide +kernel
theorem d_La_lose_10 : decode method_12_code 10 = .ok (.iconst 1, 1) := by decide +kernel
theorem d_La_lose_11 : decode method_12_code 11 = .ok (.ireturn, 1) := by decide +kernel
theorem d_La_lose_12 : decode method_12_code 12 = .ok (.iconst 0, 1) := by decide +kernel
theorem d_La_lose_13 : decode method_12_code 13 = .ok (.ireturn, 1) := by decide +kernel
theorem d_La_rounds_0 : decode method_13_code 0 = .ok (.aload_n 2, 1) := by decide +kernel
theorem d_La_rounds_1 : decode method_13_code 1 = .ok (.iconst 0, 1) := by decide +kernel
theorem d_La_rounds_2 : decode method_13_code 2 = .ok (.aload_n 0, 1) := by decide +kernel
theorem d_La_rounds_3 : decode method_13_code 3 = .ok (.iload_n 1, 1) := by decide +kernel
theorem d_La_rounds_4 : decode method_13_code 4 = .ok (.invokevirtual 50, 3) := by decide +kernel
theorem d_La_rounds_7 : decode method_13_code 7 = .ok (.i2l, 1) := by decide +kernel
theorem d_La_rounds_8 : decode method_13_code 8 = .ok (.lastore, 1) := by decide +kernel
theorem d_La_rounds_9 : decode method_13_code 9 = .ok (.goto 6, 3) := by decide +kernel
theorem d_La_rounds_12 : decode method_13_code 12 = .ok (.astore_n 3, 1) := by decide +kernel
theorem d_La_rounds_13 : decode method_13_code 13 = .ok (.iconst 1, 1) := by decide +kernel
theorem d_La_rounds_14 : decode method_13_code 14 = .ok (.ireturn, 1) := by decide +kernel
theorem d_La_rounds_15 : decode method_13_code 15 = .ok (.iconst 0, 1) := by decide +kernel
theorem d_La_rounds_16 : decode method_13_code 16 = .ok (.ireturn, 1) := by decide +kernel
theorem d_La_state_0 : decode method_14_code 0 = .ok (.aload_n 3, 1) := by decide +kernel
theorem d_La_state_1 : decode method_14_code 1 = .ok (.iconst 0, 1) := by decide +kernel
theorem d_La_state_2 : decode method_14_code 2 = .ok (.aload_n 0, 1) := by decide +kernel
theorem d_La_state_3 : decode method_14_code 3 = .ok (.iload_n 1, 1) := by decide +kernel
theorem d_La_state_4 : decode method_14_code 4 = .ok (.iload_n 2, 1) := by decide +kernel
theorem d_La_state_5 : decode method_14_code 5 = .ok (.invokevirtual 54, 3) := by decide +kernel
theorem d_La_state_8 : decode method_14_code 8 = .ok (.i2l, 1) := by decide +kernel
theorem d_La_state_9 : decode method_14_code 9 = .ok (.lastore, 1) := by decide +kernel
theorem d_La_state_10 : decode method_14_code 10 = .ok (.goto 7, 3) := by decide +kernel
theorem d_La_state_13 : decode method_14_code 13 = .ok (.astore 4, 2) := by decide +kernel
theorem d_La_state_15 : decode method_14_code 15 = .ok (.iconst 1, 1) := by decide +kernel
theorem d_La_state_16 : decode method_14_code 16 = .ok (.ireturn, 1) := by decide +kernel
theorem d_La_state_17 : decode method_14_code 17 = .ok (.iconst 0, 1) := by decide +kernel
theorem d_La_state_18 : decode method_14_code 18 = .ok (.ireturn, 1) := by decide +kernel
theorem d_La_phase_0 : decode method_15_code 0 = .ok (.aload_n 2, 1) := by decide +kernel
theorem d_La_phase_1 : decode method_15_code 1 = .ok (.iconst 0, 1) := by decide +kernel
theorem d_La_phase_2 : decode method_15_code 2 = .ok (.aload_n 0, 1) := by decide +kernel
theorem d_La_phase_3 : decode method_15_code 3 = .ok (.iload_n 1, 1) := by decide +kernel
theorem d_La_phase_4 : decode method_15_code 4 = .ok (.invokevirtual 57, 3) := by decide +kernel
theorem d_La_phase_7 : decode method_15_code 7 = .ok (.lastore, 1) := by decide +kernel
theorem d_La_phase_8 : decode method_15_code 8 = .ok (.goto 6, 3) := by decide +kernel
theorem d_La_phase_11 : decode method_15_code 11 = .ok (.astore_n 3, 1) := by decide +kernel
theorem d_La_phase_12 : decode method_15_code 12 = .ok (.iconst 1, 1) := by decide +kernel
theorem d_La_phase_13 : decode method_15_code 13 = .ok (.ireturn, 1) := by decide +kernel
theorem d_La_phase_14 : decode method_15_code 14 = .ok (.iconst 0, 1) := by decide +kernel
theorem d_La_phase_15 : decode method_15_code 15 = .ok (.ireturn, 1) := by decide +kernel
theorem d_La_sends_0 : decode method_16_code 0 = .ok (.aload_n 3, 1) := by decide +kernel
theorem d_La_sends_1 : decode method_16_code 1 = .ok (.iconst 0, 1) := by decide +kernel
theorem d_La_sends_2 : decode method_16_code 2 = .ok (.aload_n 0, 1) := by decide +kernel
theorem d_La_sends_3 : decode method_16_code 3 = .ok (.iload_n 1, 1) := by decide +kernel
theorem d_La_sends_4 : decode method_16_code 4 = .ok (.iload_n 2, 1) := by decide +kernel
theorem d_La_sends_5 : decode method_16_code 5 = .ok (.invokevirtual 61, 3) := by decide +kernel
theorem d_La_sends_8 : decode method_16_code 8 = .ok (.i2l, 1) := by decide +kernel
theorem d_La_sends_9 : decode method_16_code 9 = .ok (.lastore, 1) := by decide +kernel
theorem d_La_sends_10 : decode method_16_code 10 = .ok (.goto 7, 3) := by decide +kernel
theorem d_La_sends_13 : decode method_16_code 13 = .ok (.astore 4, 2) := by decide +kernel
theorem d_La_sends_15 : decode method_16_code 15 = .ok (.iconst 1, 1) := by decide +kernel
theorem d_La_sends_16 : decode method_16_code 16 = .ok (.ireturn, 1) := by decide +kernel
theorem d_La_sends_17 : decode method_16_code 17 = .ok (.iconst 0, 1) := by decide +kernel
theorem d_La_sends_18 : decode method_16_code 18 = .ok (.ireturn, 1) := by decide +kernel
theorem d_La_traced_0 : decode method_17_code 0 = .ok (.aload_n 2, 1) := by decide +kernel
theorem d_La_traced_1 : decode method_17_code 1 = .ok (.iconst 0, 1) := by decide +kernel
theorem d_La_traced_2 : decode method_17_code 2 = .ok (.aload_n 0, 1) := by decide +kernel
theorem d_La_traced_3 : decode method_17_code 3 = .ok (.iload_n 1, 1) := by decide +kernel
theorem d_La_traced_4 : decode method_17_code 4 = .ok (.invokevirtual 64, 3) := by decide +kernel
theorem d_La_traced_7 : decode method_17_code 7 = .ok (.i2l, 1) := by decide +kernel
theorem d_La_traced_8 : decode method_17_code 8 = .ok (.lastore, 1) := by decide +kernel
theorem d_La_traced_9 : decode method_17_code 9 = .ok (.goto 6, 3) := by decide +kernel
theorem d_La_traced_12 : decode method_17_code 12 = .ok (.astore_n 3, 1) := by decide +kernel
theorem d_La_traced_13 : decode method_17_code 13 = .ok (.iconst 1, 1) := by decide +kernel
theorem d_La_traced_14 : decode method_17_code 14 = .ok (.ireturn, 1) := by decide +kernel
theorem d_La_traced_15 : decode method_17_code 15 = .ok (.iconst 0, 1) := by decide +kernel
theorem d_La_traced_16 : decode method_17_code 16 = .ok (.ireturn, 1) := by decide +kernel
theorem d_La_best_0 : decode method_18_code 0 = .ok (.aload_n 2, 1) := by decide +kernel
theorem d_La_best_1 : decode method_18_code 1 = .ok (.iconst 0, 1) := by decide +kernel
theorem d_La_best_2 : decode method_18_code 2 = .ok (.aload_n 0, 1) := by decide +kernel
theorem d_La_best_3 : decode method_18_code 3 = .ok (.iload_n 1, 1) := by decide +kernel
theorem d_La_best_4 : decode method_18_code 4 = .ok (.invokevirtual 67, 3) := by decide +kernel
theorem d_La_best_7 : decode method_18_code 7 = .ok (.i2l, 1) := by decide +kernel
theorem d_La_best_8 : decode method_18_code 8 = .ok (.lastore, 1) := by decide +kernel
theorem d_La_best_9 : decode method_18_code 9 = .ok (.goto 6, 3) := by decide +kernel
theorem d_La_best_12 : decode method_18_code 12 = .ok (.astore_n 3, 1) := by decide +kernel
theorem d_La_best_13 : decode method_18_code 13 = .ok (.iconst 1, 1) := by decide +kernel
theorem d_La_best_14 : decode method_18_code 14 = .ok (.ireturn, 1) := by decide +kernel
theorem d_La_best_15 : decode method_18_code 15 = .ok (.iconst 0, 1) := by decide +kernel
theorem d_La_best_16 : decode method_18_code 16 = .ok (.ireturn, 1) := by decide +kernel
theorem d_La_finding_0 : decode method_19_code 0 = .ok (.aload_n 3, 1) := by decide +kernel
theorem d_La_finding_1 : decode method_19_code 1 = .ok (.iconst 0, 1) := by decide +kernel
theorem d_La_finding_2 : decode method_19_code 2 = .ok (.aload_n 0, 1) := by decide +kernel
theorem d_La_finding_3 : decode method_19_code 3 = .ok (.iload_n 1, 1) := by decide +kernel
theorem d_La_finding_4 : decode method_19_code 4 = .ok (.iload_n 2, 1) := by decide +kernel
theorem d_La_finding_5 : decode method_19_code 5 = .ok (.invokevirtual 70, 3) := by decide +kernel
theorem d_La_finding_8 : decode method_19_code 8 = .ok (.i2l, 1) := by decide +kernel
theorem d_La_finding_9 : decode method_19_code 9 = .ok (.lastore, 1) := by decide +kernel
theorem d_La_finding_10 : decode method_19_code 10 = .ok (.goto 7, 3) := by decide +kernel
theorem d_La_finding_13 : decode method_19_code 13 = .ok (.astore 4, 2) := by decide +kernel
theorem d_La_finding_15 : decode method_19_code 15 = .ok (.iconst 1, 1) := by decide +kernel
theorem d_La_finding_16 : decode method_19_code 16 = .ok (.ireturn, 1) := by decide +kernel
theorem d_La_finding_17 : decode method_19_code 17 = .ok (.iconst 0, 1) := by decide +kernel
theorem d_La_finding_18 : decode method_19_code 18 = .ok (.ireturn, 1) := by decide +kernel
theorem m_La_element : zMW y_La_element method_3_code 6 (some .int) [(0, 9, 12, 13), (0, 9, 16, 15)] 5 := ⟨tb1 (List.mem_of_getElem? (i := 186) rfl) rfl, tb0 (List.mem_of_getElem? (i := 0) rfl) rfl, tb1 (List.mem_of_getElem? (i := 187) rfl) rfl, by decide, by decide, by decide +kernel⟩
set_option maxRecDepth 100000 in
set_option maxHeartbeats 4000000 in
theorem h_La_element {la : Launch} (hst : la.stackTraces = false) {G : zG} {I I1 : zI} {J J1 : zJ} {u0 u1 u2 u3 : Int32} {k : Nat} (hk : k ≤ 7) (hM : zCv la G y_CT_element (Cond.code y_CT_element prog_1_method_2_code 5 none :: TBL) (zR k) [.ref (zad G 0), .int u0, .int u1, .int u2, .int u3] I J I1 J1) : zCw la G y_La_element (Cond.codeWith y_La_element method_3_code 6 (some .int) [(0, 9, 12, 13), (0, 9, 16, 15)] :: TBL) (zRx 8) [.ref (zad G 0), .int u0, .int u1, .int u2, .int u3] I J 0 I1 J1 := by
  refine zCw_of hst (by decide) (by simp [lg_sl, Value.category]) (fun X hla hX hO hH hR => ?_)
  subst hla
  refine Z_loc (l' := [(0, .ref (zad G 0)), (1, .int u0), (2, .int u1), (3, .int u2), (4, .int u3)]) (by simp [lv_args, Value.category, List.lookup]) ?_
  refine Z_aload_n (i := 0) hX d_La_element_0 rfl rfl ?_
  refine Z_iload_n (i := 1) hX d_La_element_1 rfl rfl ?_
  refine Z_iload_n (i := 2) hX d_La_element_2 rfl rfl ?_
  refine Z_iload_n (i := 3) hX d_La_element_3 rfl rfl ?_
  refine Z_iload hX d_La_element_4 rfl ?_
  refine Z_cVv4 hX d_La_element_6 hM m_CT_element rfl rfl lk_La_7 ⟨by show k + 1 ≤ 8; omega, by show 8 + (5 + 11) + (36 * k + 30) ≤ 36 * 8 + 30; omega⟩ ⟨by show 0 + 0 ≤ 1; decide, by show 0 + 0 ≤ 6; decide⟩ (Nat.le_of_ble_eq_true rfl) ?_
  refine Z_goto (tgt := 20) hX d_La_element_9 rfl ?_
  refine Z_iconst (v := 0) hX d_La_element_20 rfl ?_
  exact Z_wid (Nat.le_of_ble_eq_true rfl) (Nat.le_of_ble_eq_true rfl) (hR _ _ d_La_element_21)

set_option maxRecDepth 100000 in
set_option maxHeartbeats 4000000 in
theorem h_La_element_x {la : Launch} (hst : la.stackTraces = false) {G : zG} {I : zI} {J : zJ} {u0 u1 u2 u3 : Int32} (hM : zCx la G y_CT_element (Cond.code y_CT_element prog_1_method_2_code 5 none :: TBL) (zRx 7) [.ref (zad G 0), .int u0, .int u1, .int u2, .int u3] I J zIA) : zCw la G y_La_element (Cond.codeWith y_La_element method_3_code 6 (some .int) [(0, 9, 12, 13), (0, 9, 16, 15)] :: TBL) (zRx 8) [.ref (zad G 0), .int u0, .int u1, .int u2, .int u3] I J 1 I J := by
  refine zCw_of hst (by decide) (by simp [lg_sl, Value.category]) (fun X hla hX hO hH hR => ?_)
  subst hla
  refine Z_loc (l' := [(0, .ref (zad G 0)), (1, .int u0), (2, .int u1), (3, .int u2), (4, .int u3)]) (by simp [lv_args, Value.category, List.lookup]) ?_
  refine Z_aload_n (i := 0) hX d_La_element_0 rfl rfl ?_
  refine Z_iload_n (i := 1) hX d_La_element_1 rfl rfl ?_
  refine Z_iload_n (i := 2) hX d_La_element_2 rfl rfl ?_
  refine Z_iload_n (i := 3) hX d_La_element_3 rfl rfl ?_
  refine Z_iload hX d_La_element_4 rfl ?_
  refine Z_cVx (As := [.int u0, .int u1, .int u2, .int u3]) (st := []) hX hO d_La_element_6 hM m_CT_element rfl rfl rfl lk_La_7 ⟨by decide, by decide⟩ ⟨by decide, by decide⟩ (Nat.le_of_ble_eq_true rfl) (Zx_catch1 hX hO hH ⟨by decide, by decide⟩ (by decide) ll_IA (List.mem_of_getElem? (i := 0) rfl) (fun q => ?_))
  refine Z_astore hX d_La_element_12 (by decide) rfl ?_
  refine Z_iconst (v := 1) hX d_La_element_14 rfl ?_
  exact hR _ _ d_La_element_15

set_option maxRecDepth 100000 in
set_option maxHeartbeats 4000000 in
theorem h_La_element_y {la : Launch} (hst : la.stackTraces = false) {G : zG} {I : zI} {J : zJ} {u0 u1 u2 u3 : Int32} (hM : zCx la G y_CT_element (Cond.code y_CT_element prog_1_method_2_code 5 none :: TBL) (zRx 7) [.ref (zad G 0), .int u0, .int u1, .int u2, .int u3] I J zIS) : zCw la G y_La_element (Cond.codeWith y_La_element method_3_code 6 (some .int) [(0, 9, 12, 13), (0, 9, 16, 15)] :: TBL) (zRx 8) [.ref (zad G 0), .int u0, .int u1, .int u2, .int u3] I J 2 I J := by
  refine zCw_of hst (by decide) (by simp [lg_sl, Value.category]) (fun X hla hX hO hH hR => ?_)
  subst hla
  refine Z_loc (l' := [(0, .ref (zad G 0)), (1, .int u0), (2, .int u1), (3, .int u2), (4, .int u3)]) (by simp [lv_args, Value.category, List.lookup]) ?_
  refine Z_aload_n (i := 0) hX d_La_element_0 rfl rfl ?_
  refine Z_iload_n (i := 1) hX d_La_element_1 rfl rfl ?_
  refine Z_iload_n (i := 2) hX d_La_element_2 rfl rfl ?_
  refine Z_iload_n (i := 3) hX d_La_element_3 rfl rfl ?_
  refine Z_iload hX d_La_element_4 rfl ?_
  refine Z_cVx (As := [.int u0, .int u1, .int u2, .int u3]) (st := []) hX hO d_La_element_6 hM m_CT_element rfl rfl rfl lk_La_7 ⟨by decide, by decide⟩ ⟨by decide, by decide⟩ (Nat.le_of_ble_eq_true rfl) (Zx_catch2 hX hO hH ⟨by decide, by decide⟩ ⟨by decide, by decide⟩ ll_IA ll_IS (List.mem_of_getElem? (i := 1) rfl) (fun q => ?_))
  refine Z_astore hX d_La_element_16 (by decide) rfl ?_
  refine Z_iconst (v := 2) hX d_La_element_18 rfl ?_
  exact hR _ _ d_La_element_19

theorem m_La_link : zMW y_La_link method_4_code 7 (some .int) [(0, 14, 17, 13), (0, 14, 21, 15)] 6 := ⟨tb2 (List.mem_of_getElem? (i := 46) rfl) rfl, tb0 (List.mem_of_getElem? (i := 0) rfl) rfl, tb2 (List.mem_of_getElem? (i := 47) rfl) rfl, by decide, by decide, by decide +kernel⟩
set_option maxRecDepth 100000 in
set_option maxHeartbeats 4000000 in
theorem h_La_link {la : Launch} (hst : la.stackTraces = false) {G : zG} {I I1 : zI} {J J1 : zJ} {u0 u1 u2 u3 : Int32} {k : Nat} (hk : k ≤ 7) {r : Int32} (hM : zCi la G y_CT_link (Cond.code y_CT_link prog_1_method_3_code 7 (some .int) :: TBL) (zR k) [.ref (zad G 0), .int u0, .int u1, .int u2, .int u3] I J r I1 J1) : zCw la G y_La_link (Cond.codeWith y_La_link method_4_code 7 (some .int) [(0, 14, 17, 13), (0, 14, 21, 15)] :: TBL) (zRx 8) [.ref (zad G 0), .int u0, .int u1, .int u2, .int u3, .ref (zad G 86)] I J 0 I1 (zupL J1 86 0 r.toInt64) := by
  refine zCw_of hst (by decide) (by simp [lg_sl, Value.category]) (fun X hla hX hO hH hR => ?_)
  subst hla
  refine Z_loc (l' := [(0, .ref (zad G 0)), (1, .int u0), (2, .int u1), (3, .int u2), (4, .int u3), (5, .ref (zad G 86))]) (by simp [lv_args, Value.category, List.lookup]) ?_
  refine Z_aload hX d_La_link_0 rfl ?_
  refine Z_iconst (v := nI 0) hX d_La_link_2 rfl ?_
  refine Z_aload_n (i := 0) hX d_La_link_3 rfl rfl ?_
  refine Z_iload_n (i := 1) hX d_La_link_4 rfl rfl ?_
  refine Z_iload_n (i := 2) hX d_La_link_5 rfl rfl ?_
  refine Z_iload_n (i := 3) hX d_La_link_6 rfl rfl ?_
  refine Z_iload hX d_La_link_7 rfl ?_
  refine Z_cVi4 hX d_La_link_9 hM m_CT_link rfl rfl lk_La_17 ⟨by show k + 1 ≤ 8; omega, by show 8 + (7 + 11) + (36 * k + 30) ≤ 36 * 8 + 30; omega⟩ ⟨by show 0 + 0 ≤ 1; decide, by show 0 + 0 ≤ 6; decide⟩ (Nat.le_of_ble_eq_true rfl) ?_
  refine Z_i2l hX d_La_link_12 ?_
  refine Z_last hX d_La_link_13 rfl rfl (by omega) (by decide) ?_
  refine Z_goto (tgt := 25) hX d_La_link_14 rfl ?_
  refine Z_iconst (v := 0) hX d_La_link_25 rfl ?_
  exact Z_wid (Nat.le_of_ble_eq_true rfl) (Nat.le_of_ble_eq_true rfl) (hR _ _ d_La_link_26)

set_option maxRecDepth 100000 in
set_option maxHeartbeats 4000000 in
theorem h_La_link_x {la : Launch} (hst : la.stackTraces = false) {G : zG} {I : zI} {J : zJ} {u0 u1 u2 u3 : Int32} (hM : zCx la G y_CT_link (Cond.code y_CT_link prog_1_method_3_code 7 (some .int) :: TBL) (zRx 7) [.ref (zad G 0), .int u0, .int u1, .int u2, .int u3] I J zIA) : zCw la G y_La_link (Cond.codeWith y_La_link method_4_code 7 (some .int) [(0, 14, 17, 13), (0, 14, 21, 15)] :: TBL) (zRx 8) [.ref (zad G 0), .int u0, .int u1, .int u2, .int u3, .ref (zad G 86)] I J 1 I J := by
  refine zCw_of hst (by decide) (by simp [lg_sl, Value.category]) (fun X hla hX hO hH hR => ?_)
  subst hla
  refine Z_loc (l' := [(0, .ref (zad G 0)), (1, .int u0), (2, .int u1), (3, .int u2), (4, .int u3), (5, .ref (zad G 86))]) (by simp [lv_args, Value.category, List.lookup]) ?_
  refine Z_aload hX d_La_link_0 rfl ?_
  refine Z_iconst (v := nI 0) hX d_La_link_2 rfl ?_
  refine Z_aload_n (i := 0) hX d_La_link_3 rfl rfl ?_
  refine Z_iload_n (i := 1) hX d_La_link_4 rfl rfl ?_
  refine Z_iload_n (i := 2) hX d_La_link_5 rfl rfl ?_
  refine Z_iload_n (i := 3) hX d_La_link_6 rfl rfl ?_
  refine Z_iload hX d_La_link_7 rfl ?_
  refine Z_cVx (As := [.int u0, .int u1, .int u2, .int u3]) (st := [.int (nI 0), .ref (zad G 86)]) hX hO d_La_link_9 hM m_CT_link rfl rfl rfl lk_La_17 ⟨by decide, by decide⟩ ⟨by decide, by decide⟩ (Nat.le_of_ble_eq_true rfl) (Zx_catch1 hX hO hH ⟨by decide, by decide⟩ (by decide) ll_IA (List.mem_of_getElem? (i := 0) rfl) (fun q => ?_))
  refine Z_astore hX d_La_link_17 (by decide) rfl ?_
  refine Z_iconst (v := 1) hX d_La_link_19 rfl ?_
  exact hR _ _ d_La_link_20

set_option maxRecDepth 100000 in
set_option maxHeartbeats 4000000 in
theorem h_La_link_y {la : Launch} (hst : la.stackTraces = false) {G : zG} {I : zI} {J : zJ} {u0 u1 u2 u3 : Int32} (hM : zCx la G y_CT_link (Cond.code y_CT_link prog_1_method_3_code 7 (some .int) :: TBL) (zRx 7) [.ref (zad G 0), .int u0, .int u1, .int u2, .int u3] I J zIS) : zCw la G y_La_link (Cond.codeWith y_La_link method_4_code 7 (some .int) [(0, 14, 17, 13), (0, 14, 21, 15)] :: TBL) (zRx 8) [.ref (zad G 0), .int u0, .int u1, .int u2, .int u3, .ref (zad G 86)] I J 2 I J := by
  refine zCw_of hst (by decide) (by simp [lg_sl, Value.category]) (fun X hla hX hO hH hR => ?_)
  subst hla
  refine Z_loc (l' := [(0, .ref (zad G 0)), (1, .int u0), (2, .int u1), (3, .int u2), (4, .int u3), (5, .ref (zad G 86))]) (by simp [lv_args, Value.category, List.lookup]) ?_
  refine Z_aload hX d_La_link_0 rfl ?_
  refine Z_iconst (v := nI 0) hX d_La_link_2 rfl ?_
  refine Z_aload_n (i := 0) hX d_La_link_3 rfl rfl ?_
  refine Z_iload_n (i := 1) hX d_La_link_4 rfl rfl ?_
  refine Z_iload_n (i := 2) hX d_La_link_5 rfl rfl ?_
  refine Z_iload_n (i := 3) hX d_La_link_6 rfl rfl ?_
  refine Z_iload hX d_La_link_7 rfl ?_
  refine Z_cVx (As := [.int u0, .int u1, .int u2, .int u3]) (st := [.int (nI 0), .ref (zad G 86)]) hX hO d_La_link_9 hM m_CT_link rfl rfl rfl lk_La_17 ⟨by decide, by decide⟩ ⟨by decide, by decide⟩ (Nat.le_of_ble_eq_true rfl) (Zx_catch2 hX hO hH ⟨by decide, by decide⟩ ⟨by decide, by decide⟩ ll_IA ll_IS (List.mem_of_getElem? (i := 1) rfl) (fun q => ?_))
  refine Z_astore hX d_La_link_21 (by decide) rfl ?_
  refine Z_iconst (v := 2) hX d_La_link_23 rfl ?_
  exact hR _ _ d_La_link_24

theorem m_La_source : zMW y_La_source method_5_code 6 (some .int) [(0, 9, 12, 13), (0, 9, 16, 15)] 5 := ⟨tb2 (List.mem_of_getElem? (i := 73) rfl) rfl, tb0 (List.mem_of_getElem? (i := 0) rfl) rfl, tb2 (List.mem_of_getElem? (i := 74) rfl) rfl, by decide, by decide, by decide +kernel⟩
set_option maxRecDepth 100000 in
set_option maxHeartbeats 4000000 in
theorem h_La_source {la : Launch} (hst : la.stackTraces = false) {G : zG} {I I1 : zI} {J J1 : zJ} {u0 u1 u2 u3 : Int32} {k : Nat} (hk : k ≤ 7) (hM : zCv la G y_CT_source (Cond.code y_CT_source prog_1_method_4_code 6 none :: TBL) (zR k) [.ref (zad G 0), .int u0, .int u1, .int u2, .int u3] I J I1 J1) : zCw la G y_La_source (Cond.codeWith y_La_source method_5_code 6 (some .int) [(0, 9, 12, 13), (0, 9, 16, 15)] :: TBL) (zRx 8) [.ref (zad G 0), .int u0, .int u1, .int u2, .int u3] I J 0 I1 J1 := by
  refine zCw_of hst (by decide) (by simp [lg_sl, Value.category]) (fun X hla hX hO hH hR => ?_)
  subst hla
  refine Z_loc (l' := [(0, .ref (zad G 0)), (1, .int u0), (2, .int u1), (3, .int u2), (4, .int u3)]) (by simp [lv_args, Value.category, List.lookup]) ?_
  refine Z_aload_n (i := 0) hX d_La_source_0 rfl rfl ?_
  refine Z_iload_n (i := 1) hX d_La_source_1 rfl rfl ?_
  refine Z_iload_n (i := 2) hX d_La_source_2 rfl rfl ?_
  refine Z_iload_n (i := 3) hX d_La_source_3 rfl rfl ?_
  refine Z_iload hX d_La_source_4 rfl ?_
  refine Z_cVv4 hX d_La_source_6 hM m_CT_source rfl rfl lk_La_21 ⟨by show k + 1 ≤ 8; omega, by show 8 + (6 + 11) + (36 * k + 30) ≤ 36 * 8 + 30; omega⟩ ⟨by show 0 + 0 ≤ 1; decide, by show 0 + 0 ≤ 6; decide⟩ (Nat.le_of_ble_eq_true rfl) ?_
  refine Z_goto (tgt := 20) hX d_La_source_9 rfl ?_
  refine Z_iconst (v := 0) hX d_La_source_20 rfl ?_
  exact Z_wid (Nat.le_of_ble_eq_true rfl) (Nat.le_of_ble_eq_true rfl) (hR _ _ d_La_source_21)

set_option maxRecDepth 100000 in
set_option maxHeartbeats 4000000 in
theorem h_La_source_x {la : Launch} (hst : la.stackTraces = false) {G : zG} {I : zI} {J : zJ} {u0 u1 u2 u3 : Int32} (hM : zCx la G y_CT_source (Cond.code y_CT_source prog_1_method_4_code 6 none :: TBL) (zRx 7) [.ref (zad G 0), .int u0, .int u1, .int u2, .int u3] I J zIA) : zCw la G y_La_source (Cond.codeWith y_La_source method_5_code 6 (some .int) [(0, 9, 12, 13), (0, 9, 16, 15)] :: TBL) (zRx 8) [.ref (zad G 0), .int u0, .int u1, .int u2, .int u3] I J 1 I J := by
  refine zCw_of hst (by decide) (by simp [lg_sl, Value.category]) (fun X hla hX hO hH hR => ?_)
  subst hla
  refine Z_loc (l' := [(0, .ref (zad G 0)), (1, .int u0), (2, .int u1), (3, .int u2), (4, .int u3)]) (by simp [lv_args, Value.category, List.lookup]) ?_
  refine Z_aload_n (i := 0) hX d_La_source_0 rfl rfl ?_
  refine Z_iload_n (i := 1) hX d_La_source_1 rfl rfl ?_
  refine Z_iload_n (i := 2) hX d_La_source_2 rfl rfl ?_
  refine Z_iload_n (i := 3) hX d_La_source_3 rfl rfl ?_
  refine Z_iload hX d_La_source_4 rfl ?_
  refine Z_cVx (As := [.int u0, .int u1, .int u2, .int u3]) (st := []) hX hO d_La_source_6 hM m_CT_source rfl rfl rfl lk_La_21 ⟨by decide, by decide⟩ ⟨by decide, by decide⟩ (Nat.le_of_ble_eq_true rfl) (Zx_catch1 hX hO hH ⟨by decide, by decide⟩ (by decide) ll_IA (List.mem_of_getElem? (i := 0) rfl) (fun q => ?_))
  refine Z_astore hX d_La_source_12 (by decide) rfl ?_
  refine Z_iconst (v := 1) hX d_La_source_14 rfl ?_
  exact hR _ _ d_La_source_15

set_option maxRecDepth 100000 in
set_option maxHeartbeats 4000000 in
theorem h_La_source_y {la : Launch} (hst : la.stackTraces = false) {G : zG} {I : zI} {J : zJ} {u0 u1 u2 u3 : Int32} (hM : zCx la G y_CT_source (Cond.code y_CT_source prog_1_method_4_code 6 none :: TBL) (zRx 7) [.ref (zad G 0), .int u0, .int u1, .int u2, .int u3] I J zIS) : zCw la G y_La_source (Cond.codeWith y_La_source method_5_code 6 (some .int) [(0, 9, 12, 13), (0, 9, 16, 15)] :: TBL) (zRx 8) [.ref (zad G 0), .int u0, .int u1, .int u2, .int u3] I J 2 I J := by
  refine zCw_of hst (by decide) (by simp [lg_sl, Value.category]) (fun X hla hX hO hH hR => ?_)
  subst hla
  refine Z_loc (l' := [(0, .ref (zad G 0)), (1, .int u0), (2, .int u1), (3, .int u2), (4, .int u3)]) (by simp [lv_args, Value.category, List.lookup]) ?_
  refine Z_aload_n (i := 0) hX d_La_source_0 rfl rfl ?_
  refine Z_iload_n (i := 1) hX d_La_source_1 rfl rfl ?_
  refine Z_iload_n (i := 2) hX d_La_source_2 rfl rfl ?_
  refine Z_iload_n (i := 3) hX d_La_source_3 rfl rfl ?_
  refine Z_iload hX d_La_source_4 rfl ?_
  refine Z_cVx (As := [.int u0, .int u1, .int u2, .int u3]) (st := []) hX hO d_La_source_6 hM m_CT_source rfl rfl rfl lk_La_21 ⟨by decide, by decide⟩ ⟨by decide, by decide⟩ (Nat.le_of_ble_eq_true rfl) (Zx_catch2 hX hO hH ⟨by decide, by decide⟩ ⟨by decide, by decide⟩ ll_IA ll_IS (List.mem_of_getElem? (i := 1) rfl) (fun q => ?_))
  refine Z_astore hX d_La_source_16 (by decide) rfl ?_
  refine Z_iconst (v := 2) hX d_La_source_18 rfl ?_
  exact hR _ _ d_La_source_19

theorem m_La_priority : zMW y_La_priority method_6_code 6 (some .int) [(0, 12, 15, 13)] 5 := ⟨tb2 (List.mem_of_getElem? (i := 81) rfl) rfl, tb0 (List.mem_of_getElem? (i := 0) rfl) rfl, tb2 (List.mem_of_getElem? (i := 82) rfl) rfl, by decide, by decide, by decide +kernel⟩
set_option maxRecDepth 100000 in
set_option maxHeartbeats 4000000 in
theorem h_La_priority {la : Launch} (hst : la.stackTraces = false) {G : zG} {I I1 : zI} {J J1 : zJ} {u0 u1 u2 : Int32} {k : Nat} (hk : k ≤ 7) {r : Int32} (hM : zCi la G y_CT_priority (Cond.code y_CT_priority prog_1_method_5_code 6 (some .int) :: TBL) (zR k) [.ref (zad G 0), .int u0, .int u1, .int u2] I J r I1 J1) : zCw la G y_La_priority (Cond.codeWith y_La_priority method_6_code 6 (some .int) [(0, 12, 15, 13)] :: TBL) (zRx 8) [.ref (zad G 0), .int u0, .int u1, .int u2, .ref (zad G 86)] I J 0 I1 (zupL J1 86 0 r.toInt64) := by
  refine zCw_of hst (by decide) (by simp [lg_sl, Value.category]) (fun X hla hX hO hH hR => ?_)
  subst hla
  refine Z_loc (l' := [(0, .ref (zad G 0)), (1, .int u0), (2, .int u1), (3, .int u2), (4, .ref (zad G 86))]) (by simp [lv_args, Value.category, List.lookup]) ?_
  refine Z_aload hX d_La_priority_0 rfl ?_
  refine Z_iconst (v := nI 0) hX d_La_priority_2 rfl ?_
  refine Z_aload_n (i := 0) hX d_La_priority_3 rfl rfl ?_
  refine Z_iload_n (i := 1) hX d_La_priority_4 rfl rfl ?_
  refine Z_iload_n (i := 2) hX d_La_priority_5 rfl rfl ?_
  refine Z_iload_n (i := 3) hX d_La_priority_6 rfl rfl ?_
  refine Z_cVi3 hX d_La_priority_7 hM m_CT_priority rfl rfl lk_La_24 ⟨by show k + 1 ≤ 8; omega, by show 8 + (6 + 11) + (36 * k + 30) ≤ 36 * 8 + 30; omega⟩ ⟨by show 0 + 0 ≤ 1; decide, by show 0 + 0 ≤ 6; decide⟩ (Nat.le_of_ble_eq_true rfl) ?_
  refine Z_i2l hX d_La_priority_10 ?_
  refine Z_last hX d_La_priority_11 rfl rfl (by omega) (by decide) ?_
  refine Z_goto (tgt := 19) hX d_La_priority_12 rfl ?_
  refine Z_iconst (v := 0) hX d_La_priority_19 rfl ?_
  exact Z_wid (Nat.le_of_ble_eq_true rfl) (Nat.le_of_ble_eq_true rfl) (hR _ _ d_La_priority_20)

set_option maxRecDepth 100000 in
set_option maxHeartbeats 4000000 in
theorem h_La_priority_x {la : Launch} (hst : la.stackTraces = false) {G : zG} {I : zI} {J : zJ} {u0 u1 u2 : Int32} (hM : zCx la G y_CT_priority (Cond.code y_CT_priority prog_1_method_5_code 6 (some .int) :: TBL) (zRx 7) [.ref (zad G 0), .int u0, .int u1, .int u2] I J zIA) : zCw la G y_La_priority (Cond.codeWith y_La_priority method_6_code 6 (some .int) [(0, 12, 15, 13)] :: TBL) (zRx 8) [.ref (zad G 0), .int u0, .int u1, .int u2, .ref (zad G 86)] I J 1 I J := by
  refine zCw_of hst (by decide) (by simp [lg_sl, Value.category]) (fun X hla hX hO hH hR => ?_)
  subst hla
  refine Z_loc (l' := [(0, .ref (zad G 0)), (1, .int u0), (2, .int u1), (3, .int u2), (4, .ref (zad G 86))]) (by simp [lv_args, Value.category, List.lookup]) ?_
  refine Z_aload hX d_La_priority_0 rfl ?_
  refine Z_iconst (v := nI 0) hX d_La_priority_2 rfl ?_
  refine Z_aload_n (i := 0) hX d_La_priority_3 rfl rfl ?_
  refine Z_iload_n (i := 1) hX d_La_priority_4 rfl rfl ?_
  refine Z_iload_n (i := 2) hX d_La_priority_5 rfl rfl ?_
  refine Z_iload_n (i := 3) hX d_La_priority_6 rfl rfl ?_
  refine Z_cVx (As := [.int u0, .int u1, .int u2]) (st := [.int (nI 0), .ref (zad G 86)]) hX hO d_La_priority_7 hM m_CT_priority rfl rfl rfl lk_La_24 ⟨by decide, by decide⟩ ⟨by decide, by decide⟩ (Nat.le_of_ble_eq_true rfl) (Zx_catch1 hX hO hH ⟨by decide, by decide⟩ (by decide) ll_IA (List.mem_of_getElem? (i := 0) rfl) (fun q => ?_))
  refine Z_astore hX d_La_priority_15 (by decide) rfl ?_
  refine Z_iconst (v := 1) hX d_La_priority_17 rfl ?_
  exact hR _ _ d_La_priority_18

theorem m_La_restore : zMW y_La_restore method_7_code 5 (some .int) [(0, 10, 13, 13)] 4 := ⟨tb2 (List.mem_of_getElem? (i := 88) rfl) rfl, tb0 (List.mem_of_getElem? (i := 0) rfl) rfl, tb2 (List.mem_of_getElem? (i := 89) rfl) rfl, by decide, by decide, by decide +kernel⟩
set_option maxRecDepth 100000 in
set_option maxHeartbeats 4000000 in
theorem h_La_restore {la : Launch} (hst : la.stackTraces = false) {G : zG} {I I1 : zI} {J J1 : zJ} {u0 u1 : Int32} {k : Nat} (hk : k ≤ 7) {r : Int32} (hM : zCi la G y_CT_restore (Cond.code y_CT_restore prog_1_method_6_code 4 (some .int) :: TBL) (zR k) [.ref (zad G 0), .int u0, .int u1] I J r I1 J1) : zCw la G y_La_restore (Cond.codeWith y_La_restore method_7_code 5 (some .int) [(0, 10, 13, 13)] :: TBL) (zRx 8) [.ref (zad G 0), .int u0, .int u1, .ref (zad G 86)] I J 0 I1 (zupL J1 86 0 r.toInt64) := by
  refine zCw_of hst (by decide) (by simp [lg_sl, Value.category]) (fun X hla hX hO hH hR => ?_)
  subst hla
  refine Z_loc (l' := [(0, .ref (zad G 0)), (1, .int u0), (2, .int u1), (3, .ref (zad G 86))]) (by simp [lv_args, Value.category, List.lookup]) ?_
  refine Z_aload_n (i := 3) hX d_La_restore_0 rfl rfl ?_
  refine Z_iconst (v := nI 0) hX d_La_restore_1 rfl ?_
  refine Z_aload_n (i := 0) hX d_La_restore_2 rfl rfl ?_
  refine Z_iload_n (i := 1) hX d_La_restore_3 rfl rfl ?_
  refine Z_iload_n (i := 2) hX d_La_restore_4 rfl rfl ?_
  refine Z_cVi2 hX d_La_restore_5 hM m_CT_restore rfl rfl lk_La_28 ⟨by show k + 1 ≤ 8; omega, by show 8 + (4 + 11) + (36 * k + 30) ≤ 36 * 8 + 30; omega⟩ ⟨by show 0 + 0 ≤ 1; decide, by show 0 + 0 ≤ 6; decide⟩ (Nat.le_of_ble_eq_true rfl) ?_
  refine Z_i2l hX d_La_restore_8 ?_
  refine Z_last hX d_La_restore_9 rfl rfl (by omega) (by decide) ?_
  refine Z_goto (tgt := 17) hX d_La_restore_10 rfl ?_
  refine Z_iconst (v := 0) hX d_La_restore_17 rfl ?_
  exact Z_wid (Nat.le_of_ble_eq_true rfl) (Nat.le_of_ble_eq_true rfl) (hR _ _ d_La_restore_18)

set_option maxRecDepth 100000 in
set_option maxHeartbeats 4000000 in
theorem h_La_restore_x {la : Launch} (hst : la.stackTraces = false) {G : zG} {I : zI} {J : zJ} {u0 u1 : Int32} (hM : zCx la G y_CT_restore (Cond.code y_CT_restore prog_1_method_6_code 4 (some .int) :: TBL) (zRx 7) [.ref (zad G 0), .int u0, .int u1] I J zIA) : zCw la G y_La_restore (Cond.codeWith y_La_restore method_7_code 5 (some .int) [(0, 10, 13, 13)] :: TBL) (zRx 8) [.ref (zad G 0), .int u0, .int u1, .ref (zad G 86)] I J 1 I J := by
  refine zCw_of hst (by decide) (by simp [lg_sl, Value.category]) (fun X hla hX hO hH hR => ?_)
  subst hla
  refine Z_loc (l' := [(0, .ref (zad G 0)), (1, .int u0), (2, .int u1), (3, .ref (zad G 86))]) (by simp [lv_args, Value.category, List.lookup]) ?_
  refine Z_aload_n (i := 3) hX d_La_restore_0 rfl rfl ?_
  refine Z_iconst (v := nI 0) hX d_La_restore_1 rfl ?_
  refine Z_aload_n (i := 0) hX d_La_restore_2 rfl rfl ?_
  refine Z_iload_n (i := 1) hX d_La_restore_3 rfl rfl ?_
  refine Z_iload_n (i := 2) hX d_La_restore_4 rfl rfl ?_
  refine Z_cVx (As := [.int u0, .int u1]) (st := [.int (nI 0), .ref (zad G 86)]) hX hO d_La_restore_5 hM m_CT_restore rfl rfl rfl lk_La_28 ⟨by decide, by decide⟩ ⟨by decide, by decide⟩ (Nat.le_of_ble_eq_true rfl) (Zx_catch1 hX hO hH ⟨by decide, by decide⟩ (by decide) ll_IA (List.mem_of_getElem? (i := 0) rfl) (fun q => ?_))
  refine Z_astore hX d_La_restore_13 (by decide) rfl ?_
  refine Z_iconst (v := 1) hX d_La_restore_15 rfl ?_
  exact hR _ _ d_La_restore_16

theorem m_La_command : zMW y_La_command method_8_code 6 (some .int) [(0, 12, 15, 13)] 5 := ⟨tb2 (List.mem_of_getElem? (i := 96) rfl) rfl, tb0 (List.mem_of_getElem? (i := 0) rfl) rfl, tb2 (List.mem_of_getElem? (i := 97) rfl) rfl, by decide, by decide, by decide +kernel⟩
set_option maxRecDepth 100000 in
set_option maxHeartbeats 4000000 in
theorem h_La_command {la : Launch} (hst : la.stackTraces = false) {G : zG} {I I1 : zI} {J J1 : zJ} {u0 u1 u2 : Int32} {k : Nat} (hk : k ≤ 7) {r : Int32} (hM : zCi la G y_CT_command (Cond.code y_CT_command prog_1_method_8_code 6 (some .int) :: TBL) (zR k) [.ref (zad G 0), .int u0, .int u1, .int u2] I J r I1 J1) : zCw la G y_La_command (Cond.codeWith y_La_command method_8_code 6 (some .int) [(0, 12, 15, 13)] :: TBL) (zRx 8) [.ref (zad G 0), .int u0, .int u1, .int u2, .ref (zad G 86)] I J 0 I1 (zupL J1 86 0 r.toInt64) := by
  refine zCw_of hst (by decide) (by simp [lg_sl, Value.category]) (fun X hla hX hO hH hR => ?_)
  subst hla
  refine Z_loc (l' := [(0, .ref (zad G 0)), (1, .int u0), (2, .int u1), (3, .int u2), (4, .ref (zad G 86))]) (by simp [lv_args, Value.category, List.lookup]) ?_
  refine Z_aload hX d_La_command_0 rfl ?_
  refine Z_iconst (v := nI 0) hX d_La_command_2 rfl ?_
  refine Z_aload_n (i := 0) hX d_La_command_3 rfl rfl ?_
  refine Z_iload_n (i := 1) hX d_La_command_4 rfl rfl ?_
  refine Z_iload_n (i := 2) hX d_La_command_5 rfl rfl ?_
  refine Z_iload_n (i := 3) hX d_La_command_6 rfl rfl ?_
  refine Z_cVi3 hX d_La_command_7 hM m_CT_command rfl rfl lk_La_32 ⟨by show k + 1 ≤ 8; omega, by show 8 + (6 + 11) + (36 * k + 30) ≤ 36 * 8 + 30; omega⟩ ⟨by show 0 + 0 ≤ 1; decide, by show 0 + 0 ≤ 6; decide⟩ (Nat.le_of_ble_eq_true rfl) ?_
  refine Z_i2l hX d_La_command_10 ?_
  refine Z_last hX d_La_command_11 rfl rfl (by omega) (by decide) ?_
  refine Z_goto (tgt := 19) hX d_La_command_12 rfl ?_
  refine Z_iconst (v := 0) hX d_La_command_19 rfl ?_
  exact Z_wid (Nat.le_of_ble_eq_true rfl) (Nat.le_of_ble_eq_true rfl) (hR _ _ d_La_command_20)

set_option maxRecDepth 100000 in
set_option maxHeartbeats 4000000 in
theorem h_La_command_x {la : Launch} (hst : la.stackTraces = false) {G : zG} {I : zI} {J : zJ} {u0 u1 u2 : Int32} (hM : zCx la G y_CT_command (Cond.code y_CT_command prog_1_method_8_code 6 (some .int) :: TBL) (zRx 7) [.ref (zad G 0), .int u0, .int u1, .int u2] I J zIA) : zCw la G y_La_command (Cond.codeWith y_La_command method_8_code 6 (some .int) [(0, 12, 15, 13)] :: TBL) (zRx 8) [.ref (zad G 0), .int u0, .int u1, .int u2, .ref (zad G 86)] I J 1 I J := by
  refine zCw_of hst (by decide) (by simp [lg_sl, Value.category]) (fun X hla hX hO hH hR => ?_)
  subst hla
  refine Z_loc (l' := [(0, .ref (zad G 0)), (1, .int u0), (2, .int u1), (3, .int u2), (4, .ref (zad G 86))]) (by simp [lv_args, Value.category, List.lookup]) ?_
  refine Z_aload hX d_La_command_0 rfl ?_
  refine Z_iconst (v := nI 0) hX d_La_command_2 rfl ?_
  refine Z_aload_n (i := 0) hX d_La_command_3 rfl rfl ?_
  refine Z_iload_n (i := 1) hX d_La_command_4 rfl rfl ?_
  refine Z_iload_n (i := 2) hX d_La_command_5 rfl rfl ?_
  refine Z_iload_n (i := 3) hX d_La_command_6 rfl rfl ?_
  refine Z_cVx (As := [.int u0, .int u1, .int u2]) (st := [.int (nI 0), .ref (zad G 86)]) hX hO d_La_command_7 hM m_CT_command rfl rfl rfl lk_La_32 ⟨by decide, by decide⟩ ⟨by decide, by decide⟩ (Nat.le_of_ble_eq_true rfl) (Zx_catch1 hX hO hH ⟨by decide, by decide⟩ (by decide) ll_IA (List.mem_of_getElem? (i := 0) rfl) (fun q => ?_))
  refine Z_astore hX d_La_command_15 (by decide) rfl ?_
  refine Z_iconst (v := 1) hX d_La_command_17 rfl ?_
  exact hR _ _ d_La_command_18

theorem m_La_lockout : zMW y_La_lockout method_9_code 6 (some .int) [(0, 19, 22, 13)] 5 := ⟨tb2 (List.mem_of_getElem? (i := 103) rfl) rfl, tb0 (List.mem_of_getElem? (i := 0) rfl) rfl, tb2 (List.mem_of_getElem? (i := 104) rfl) rfl, by decide, by decide, by decide +kernel⟩
set_option maxRecDepth 100000 in
set_option maxHeartbeats 4000000 in
theorem h_La_lockout {la : Launch} (hst : la.stackTraces = false) {G : zG} {I I1 : zI} {J J1 : zJ} {u0 u1 u2 : Int32} {k : Nat} (hk : k ≤ 7) {t : Bool} (hM : zCi la G y_CT_lockout (Cond.code y_CT_lockout prog_1_method_9_code 6 (some .boolean) :: TBL) (zR k) [.ref (zad G 0), .int u0, .int u1, .int u2] I J (zB t) I1 J1) : zCw la G y_La_lockout (Cond.codeWith y_La_lockout method_9_code 6 (some .int) [(0, 19, 22, 13)] :: TBL) (zRx 8) [.ref (zad G 0), .int u0, .int u1, .int u2, .ref (zad G 86)] I J 0 I1 (zupL J1 86 0 (zB t).toInt64) := by
  refine zCw_of hst (by decide) (by simp [lg_sl, Value.category]) (fun X hla hX hO hH hR => ?_)
  subst hla
  refine Z_loc (l' := [(0, .ref (zad G 0)), (1, .int u0), (2, .int u1), (3, .int u2), (4, .ref (zad G 86))]) (by simp [lv_args, Value.category, List.lookup]) ?_
  refine Z_aload hX d_La_lockout_0 rfl ?_
  refine Z_iconst (v := nI 0) hX d_La_lockout_2 rfl ?_
  refine Z_aload_n (i := 0) hX d_La_lockout_3 rfl rfl ?_
  refine Z_iload_n (i := 1) hX d_La_lockout_4 rfl rfl ?_
  refine Z_iload_n (i := 2) hX d_La_lockout_5 rfl rfl ?_
  refine Z_iload_n (i := 3) hX d_La_lockout_6 rfl rfl ?_
  refine Z_cVi3 hX d_La_lockout_7 hM m_CT_lockout rfl rfl lk_La_35 ⟨by show k + 1 ≤ 8; omega, by show 8 + (6 + 11) + (36 * k + 30) ≤ 36 * 8 + 30; omega⟩ ⟨by show 0 + 0 ≤ 1; decide, by show 0 + 0 ≤ 6; decide⟩ (Nat.le_of_ble_eq_true rfl) ?_
  refine Z_ifeqB (tgt := 17) hX d_La_lockout_10 rfl (fun h10 => ?_) (fun h10 => ?_)
  · refine Z_lconst (v := 0) hX d_La_lockout_17 rfl ?_
    refine Z_last hX d_La_lockout_18 rfl rfl (by omega) (by decide) ?_
    refine Z_goto (tgt := 26) hX d_La_lockout_19 rfl ?_
    refine Z_iconst (v := 0) hX d_La_lockout_26 rfl ?_
    refine Z_mem (J' := zupL J1 86 0 (zB t).toInt64) rfl (by rw [h10]; rfl) ?_
    exact Z_wid (Nat.le_of_ble_eq_true rfl) (Nat.le_of_ble_eq_true rfl) (hR _ _ d_La_lockout_27)
  · refine Z_lconst (v := 1) hX d_La_lockout_13 rfl ?_
    refine Z_goto (tgt := 18) hX d_La_lockout_14 rfl ?_
    refine Z_last hX d_La_lockout_18 rfl rfl (by omega) (by decide) ?_
    refine Z_goto (tgt := 26) hX d_La_lockout_19 rfl ?_
    refine Z_iconst (v := 0) hX d_La_lockout_26 rfl ?_
    refine Z_mem (J' := zupL J1 86 0 (zB t).toInt64) rfl (by rw [h10]; rfl) ?_
    exact Z_wid (Nat.le_of_ble_eq_true rfl) (Nat.le_of_ble_eq_true rfl) (hR _ _ d_La_lockout_27)

set_option maxRecDepth 100000 in
set_option maxHeartbeats 4000000 in
theorem h_La_lockout_x {la : Launch} (hst : la.stackTraces = false) {G : zG} {I : zI} {J : zJ} {u0 u1 u2 : Int32} (hM : zCx la G y_CT_lockout (Cond.code y_CT_lockout prog_1_method_9_code 6 (some .boolean) :: TBL) (zRx 7) [.ref (zad G 0), .int u0, .int u1, .int u2] I J zIA) : zCw la G y_La_lockout (Cond.codeWith y_La_lockout method_9_code 6 (some .int) [(0, 19, 22, 13)] :: TBL) (zRx 8) [.ref (zad G 0), .int u0, .int u1, .int u2, .ref (zad G 86)] I J 1 I J := by
  refine zCw_of hst (by decide) (by simp [lg_sl, Value.category]) (fun X hla hX hO hH hR => ?_)
  subst hla
  refine Z_loc (l' := [(0, .ref (zad G 0)), (1, .int u0), (2, .int u1), (3, .int u2), (4, .ref (zad G 86))]) (by simp [lv_args, Value.category, List.lookup]) ?_
  refine Z_aload hX d_La_lockout_0 rfl ?_
  refine Z_iconst (v := nI 0) hX d_La_lockout_2 rfl ?_
  refine Z_aload_n (i := 0) hX d_La_lockout_3 rfl rfl ?_
  refine Z_iload_n (i := 1) hX d_La_lockout_4 rfl rfl ?_
  refine Z_iload_n (i := 2) hX d_La_lockout_5 rfl rfl ?_
  refine Z_iload_n (i := 3) hX d_La_lockout_6 rfl rfl ?_
  refine Z_cVx (As := [.int u0, .int u1, .int u2]) (st := [.int (nI 0), .ref (zad G 86)]) hX hO d_La_lockout_7 hM m_CT_lockout rfl rfl rfl lk_La_35 ⟨by decide, by decide⟩ ⟨by decide, by decide⟩ (Nat.le_of_ble_eq_true rfl) (Zx_catch1 hX hO hH ⟨by decide, by decide⟩ (by decide) ll_IA (List.mem_of_getElem? (i := 0) rfl) (fun q => ?_))
  refine Z_astore hX d_La_lockout_22 (by decide) rfl ?_
  refine Z_iconst (v := 1) hX d_La_lockout_24 rfl ?_
  exact hR _ _ d_La_lockout_25

theorem m_La_fail : zMW y_La_fail method_10_code 5 (some .int) [(0, 17, 20, 13)] 4 := ⟨tb2 (List.mem_of_getElem? (i := 110) rfl) rfl, tb0 (List.mem_of_getElem? (i := 0) rfl) rfl, tb2 (List.mem_of_getElem? (i := 111) rfl) rfl, by decide, by decide, by decide +kernel⟩
set_option maxRecDepth 100000 in
set_option maxHeartbeats 4000000 in
theorem h_La_fail {la : Launch} (hst : la.stackTraces = false) {G : zG} {I I1 : zI} {J J1 : zJ} {u0 u1 : Int32} {k : Nat} (hk : k ≤ 7) {t : Bool} (hM : zCi la G y_CT_fail (Cond.code y_CT_fail prog_1_method_10_code 4 (some .boolean) :: TBL) (zR k) [.ref (zad G 0), .int u0, .int u1] I J (zB t) I1 J1) : zCw la G y_La_fail (Cond.codeWith y_La_fail method_10_code 5 (some .int) [(0, 17, 20, 13)] :: TBL) (zRx 8) [.ref (zad G 0), .int u0, .int u1, .ref (zad G 86)] I J 0 I1 (zupL J1 86 0 (zB t).toInt64) := by
  refine zCw_of hst (by decide) (by simp [lg_sl, Value.category]) (fun X hla hX hO hH hR => ?_)
  subst hla
  refine Z_loc (l' := [(0, .ref (zad G 0)), (1, .int u0), (2, .int u1), (3, .ref (zad G 86))]) (by simp [lv_args, Value.category, List.lookup]) ?_
  refine Z_aload_n (i := 3) hX d_La_fail_0 rfl rfl ?_
  refine Z_iconst (v := nI 0) hX d_La_fail_1 rfl ?_
  refine Z_aload_n (i := 0) hX d_La_fail_2 rfl rfl ?_
  refine Z_iload_n (i := 1) hX d_La_fail_3 rfl rfl ?_
  refine Z_iload_n (i := 2) hX d_La_fail_4 rfl rfl ?_
  refine Z_cVi2 hX d_La_fail_5 hM m_CT_fail rfl rfl lk_La_39 ⟨by show k + 1 ≤ 8; omega, by show 8 + (4 + 11) + (36 * k + 30) ≤ 36 * 8 + 30; omega⟩ ⟨by show 0 + 0 ≤ 1; decide, by show 0 + 0 ≤ 6; decide⟩ (Nat.le_of_ble_eq_true rfl) ?_
  refine Z_ifeqB (tgt := 15) hX d_La_fail_8 rfl (fun h8 => ?_) (fun h8 => ?_)
  · refine Z_lconst (v := 0) hX d_La_fail_15 rfl ?_
    refine Z_last hX d_La_fail_16 rfl rfl (by omega) (by decide) ?_
    refine Z_goto (tgt := 24) hX d_La_fail_17 rfl ?_
    refine Z_iconst (v := 0) hX d_La_fail_24 rfl ?_
    refine Z_mem (J' := zupL J1 86 0 (zB t).toInt64) rfl (by rw [h8]; rfl) ?_
    exact Z_wid (Nat.le_of_ble_eq_true rfl) (Nat.le_of_ble_eq_true rfl) (hR _ _ d_La_fail_25)
  · refine Z_lconst (v := 1) hX d_La_fail_11 rfl ?_
    refine Z_goto (tgt := 16) hX d_La_fail_12 rfl ?_
    refine Z_last hX d_La_fail_16 rfl rfl (by omega) (by decide) ?_
    refine Z_goto (tgt := 24) hX d_La_fail_17 rfl ?_
    refine Z_iconst (v := 0) hX d_La_fail_24 rfl ?_
    refine Z_mem (J' := zupL J1 86 0 (zB t).toInt64) rfl (by rw [h8]; rfl) ?_
    exact Z_wid (Nat.le_of_ble_eq_true rfl) (Nat.le_of_ble_eq_true rfl) (hR _ _ d_La_fail_25)

set_option maxRecDepth 100000 in
set_option maxHeartbeats 4000000 in
theorem h_La_fail_x {la : Launch} (hst : la.stackTraces = false) {G : zG} {I : zI} {J : zJ} {u0 u1 : Int32} (hM : zCx la G y_CT_fail (Cond.code y_CT_fail prog_1_method_10_code 4 (some .boolean) :: TBL) (zRx 7) [.ref (zad G 0), .int u0, .int u1] I J zIA) : zCw la G y_La_fail (Cond.codeWith y_La_fail method_10_code 5 (some .int) [(0, 17, 20, 13)] :: TBL) (zRx 8) [.ref (zad G 0), .int u0, .int u1, .ref (zad G 86)] I J 1 I J := by
  refine zCw_of hst (by decide) (by simp [lg_sl, Value.category]) (fun X hla hX hO hH hR => ?_)
  subst hla
  refine Z_loc (l' := [(0, .ref (zad G 0)), (1, .int u0), (2, .int u1), (3, .ref (zad G 86))]) (by simp [lv_args, Value.category, List.lookup]) ?_
  refine Z_aload_n (i := 3) hX d_La_fail_0 rfl rfl ?_
  refine Z_iconst (v := nI 0) hX d_La_fail_1 rfl ?_
  refine Z_aload_n (i := 0) hX d_La_fail_2 rfl rfl ?_
  refine Z_iload_n (i := 1) hX d_La_fail_3 rfl rfl ?_
  refine Z_iload_n (i := 2) hX d_La_fail_4 rfl rfl ?_
  refine Z_cVx (As := [.int u0, .int u1]) (st := [.int (nI 0), .ref (zad G 86)]) hX hO d_La_fail_5 hM m_CT_fail rfl rfl rfl lk_La_39 ⟨by decide, by decide⟩ ⟨by decide, by decide⟩ (Nat.le_of_ble_eq_true rfl) (Zx_catch1 hX hO hH ⟨by decide, by decide⟩ (by decide) ll_IA (List.mem_of_getElem? (i := 0) rfl) (fun q => ?_))
  refine Z_astore hX d_La_fail_20 (by decide) rfl ?_
  refine Z_iconst (v := 1) hX d_La_fail_22 rfl ?_
  exact hR _ _ d_La_fail_23

theorem m_La_failElement : zMW y_La_failElement method_11_code 5 (some .int) [(0, 17, 20, 13)] 4 := ⟨tb2 (List.mem_of_getElem? (i := 121) rfl) rfl, tb0 (List.mem_of_getElem? (i := 0) rfl) rfl, tb2 (List.mem_of_getElem? (i := 122) rfl) rfl, by decide, by decide, by decide +kernel⟩
set_option maxRecDepth 100000 in
set_option maxHeartbeats 4000000 in
theorem h_La_failElement {la : Launch} (hst : la.stackTraces = false) {G : zG} {I I1 : zI} {J J1 : zJ} {u0 u1 : Int32} {k : Nat} (hk : k ≤ 7) {t : Bool} (hM : zCi la G y_CT_failElement (Cond.code y_CT_failElement prog_1_method_11_code 4 (some .boolean) :: TBL) (zR k) [.ref (zad G 0), .int u0, .int u1] I J (zB t) I1 J1) : zCw la G y_La_failElement (Cond.codeWith y_La_failElement method_11_code 5 (some .int) [(0, 17, 20, 13)] :: TBL) (zRx 8) [.ref (zad G 0), .int u0, .int u1, .ref (zad G 86)] I J 0 I1 (zupL J1 86 0 (zB t).toInt64) := by
  refine zCw_of hst (by decide) (by simp [lg_sl, Value.category]) (fun X hla hX hO hH hR => ?_)
  subst hla
  refine Z_loc (l' := [(0, .ref (zad G 0)), (1, .int u0), (2, .int u1), (3, .ref (zad G 86))]) (by simp [lv_args, Value.category, List.lookup]) ?_
  refine Z_aload_n (i := 3) hX d_La_failElement_0 rfl rfl ?_
  refine Z_iconst (v := nI 0) hX d_La_failElement_1 rfl ?_
  refine Z_aload_n (i := 0) hX d_La_failElement_2 rfl rfl ?_
  refine Z_iload_n (i := 1) hX d_La_failElement_3 rfl rfl ?_
  refine Z_iload_n (i := 2) hX d_La_failElement_4 rfl rfl ?_
  refine Z_cVi2 hX d_La_failElement_5 hM m_CT_failElement rfl rfl lk_La_43 ⟨by show k + 1 ≤ 8; omega, by show 8 + (4 + 11) + (36 * k + 30) ≤ 36 * 8 + 30; omega⟩ ⟨by show 0 + 0 ≤ 1; decide, by show 0 + 0 ≤ 6; decide⟩ (Nat.le_of_ble_eq_true rfl) ?_
  refine Z_ifeqB (tgt := 15) hX d_La_failElement_8 rfl (fun h8 => ?_) (fun h8 => ?_)
  · refine Z_lconst (v := 0) hX d_La_failElement_15 rfl ?_
    refine Z_last hX d_La_failElement_16 rfl rfl (by omega) (by decide) ?_
    refine Z_goto (tgt := 24) hX d_La_failElement_17 rfl ?_
    refine Z_iconst (v := 0) hX d_La_failElement_24 rfl ?_
    refine Z_mem (J' := zupL J1 86 0 (zB t).toInt64) rfl (by rw [h8]; rfl) ?_
    exact Z_wid (Nat.le_of_ble_eq_true rfl) (Nat.le_of_ble_eq_true rfl) (hR _ _ d_La_failElement_25)
  · refine Z_lconst (v := 1) hX d_La_failElement_11 rfl ?_
    refine Z_goto (tgt := 16) hX d_La_failElement_12 rfl ?_
    refine Z_last hX d_La_failElement_16 rfl rfl (by omega) (by decide) ?_
    refine Z_goto (tgt := 24) hX d_La_failElement_17 rfl ?_
    refine Z_iconst (v := 0) hX d_La_failElement_24 rfl ?_
    refine Z_mem (J' := zupL J1 86 0 (zB t).toInt64) rfl (by rw [h8]; rfl) ?_
    exact Z_wid (Nat.le_of_ble_eq_true rfl) (Nat.le_of_ble_eq_true rfl) (hR _ _ d_La_failElement_25)

set_option maxRecDepth 100000 in
set_option maxHeartbeats 4000000 in
theorem h_La_failElement_x {la : Launch} (hst : la.stackTraces = false) {G : zG} {I : zI} {J : zJ} {u0 u1 : Int32} (hM : zCx la G y_CT_failElement (Cond.code y_CT_failElement prog_1_method_11_code 4 (some .boolean) :: TBL) (zRx 7) [.ref (zad G 0), .int u0, .int u1] I J zIA) : zCw la G y_La_failElement (Cond.codeWith y_La_failElement method_11_code 5 (some .int) [(0, 17, 20, 13)] :: TBL) (zRx 8) [.ref (zad G 0), .int u0, .int u1, .ref (zad G 86)] I J 1 I J := by
  refine zCw_of hst (by decide) (by simp [lg_sl, Value.category]) (fun X hla hX hO hH hR => ?_)
  subst hla
  refine Z_loc (l' := [(0, .ref (zad G 0)), (1, .int u0), (2, .int u1), (3, .ref (zad G 86))]) (by simp [lv_args, Value.category, List.lookup]) ?_
  refine Z_aload_n (i := 3) hX d_La_failElement_0 rfl rfl ?_
  refine Z_iconst (v := nI 0) hX d_La_failElement_1 rfl ?_
  refine Z_aload_n (i := 0) hX d_La_failElement_2 rfl rfl ?_
  refine Z_iload_n (i := 1) hX d_La_failElement_3 rfl rfl ?_
  refine Z_iload_n (i := 2) hX d_La_failElement_4 rfl rfl ?_
  refine Z_cVx (As := [.int u0, .int u1]) (st := [.int (nI 0), .ref (zad G 86)]) hX hO d_La_failElement_5 hM m_CT_failElement rfl rfl rfl lk_La_43 ⟨by decide, by decide⟩ ⟨by decide, by decide⟩ (Nat.le_of_ble_eq_true rfl) (Zx_catch1 hX hO hH ⟨by decide, by decide⟩ (by decide) ll_IA (List.mem_of_getElem? (i := 0) rfl) (fun q => ?_))
  refine Z_astore hX d_La_failElement_20 (by decide) rfl ?_
  refine Z_iconst (v := 1) hX d_La_failElement_22 rfl ?_
  exact hR _ _ d_La_failElement_23

theorem m_La_lose : zMW y_La_lose method_12_code 4 (some .int) [(0, 6, 9, 13)] 3 := ⟨tb2 (List.mem_of_getElem? (i := 128) rfl) rfl, tb0 (List.mem_of_getElem? (i := 0) rfl) rfl, tb2 (List.mem_of_getElem? (i := 129) rfl) rfl, by decide, by decide, by decide +kernel⟩
set_option maxRecDepth 100000 in
set_option maxHeartbeats 4000000 in
theorem h_La_lose {la : Launch} (hst : la.stackTraces = false) {G : zG} {I I1 : zI} {J J1 : zJ} {u0 u1 : Int32} {k : Nat} (hk : k ≤ 7) (hM : zCv la G y_CT_lose (Cond.code y_CT_lose prog_1_method_12_code 4 none :: TBL) (zR k) [.ref (zad G 0), .int u0, .int u1] I J I1 J1) : zCw la G y_La_lose (Cond.codeWith y_La_lose method_12_code 4 (some .int) [(0, 6, 9, 13)] :: TBL) (zRx 8) [.ref (zad G 0), .int u0, .int u1] I J 0 I1 J1 := by
  refine zCw_of hst (by decide) (by simp [lg_sl, Value.category]) (fun X hla hX hO hH hR => ?_)
  subst hla
  refine Z_loc (l' := [(0, .ref (zad G 0)), (1, .int u0), (2, .int u1)]) (by simp [lv_args, Value.category, List.lookup]) ?_
  refine Z_aload_n (i := 0) hX d_La_lose_0 rfl rfl ?_
  refine Z_iload_n (i := 1) hX d_La_lose_1 rfl rfl ?_
  refine Z_iload_n (i := 2) hX d_La_lose_2 rfl rfl ?_
  refine Z_cVv2 hX d_La_lose_3 hM m_CT_lose rfl rfl lk_La_46 ⟨by show k + 1 ≤ 8; omega, by show 8 + (4 + 11) + (36 * k + 30) ≤ 36 * 8 + 30; omega⟩ ⟨by show 0 + 0 ≤ 1; decide, by show 0 + 0 ≤ 6; decide⟩ (Nat.le_of_ble_eq_true rfl) ?_
  refine Z_goto (tgt := 12) hX d_La_lose_6 rfl ?_
  refine Z_iconst (v := 0) hX d_La_lose_12 rfl ?_
  exact Z_wid (Nat.le_of_ble_eq_true rfl) (Nat.le_of_ble_eq_true rfl) (hR _ _ d_La_lose_13)

set_option maxRecDepth 100000 in
set_option maxHeartbeats 4000000 in
theorem h_La_lose_x {la : Launch} (hst : la.stackTraces = false) {G : zG} {I : zI} {J : zJ} {u0 u1 : Int32} (hM : zCx la G y_CT_lose (Cond.code y_CT_lose prog_1_method_12_code 4 none :: TBL) (zRx 7) [.ref (zad G 0), .int u0, .int u1] I J zIA) : zCw la G y_La_lose (Cond.codeWith y_La_lose method_12_code 4 (some .int) [(0, 6, 9, 13)] :: TBL) (zRx 8) [.ref (zad G 0), .int u0, .int u1] I J 1 I J := by
  refine zCw_of hst (by decide) (by simp [lg_sl, Value.category]) (fun X hla hX hO hH hR => ?_)
  subst hla
  refine Z_loc (l' := [(0, .ref (zad G 0)), (1, .int u0), (2, .int u1)]) (by simp [lv_args, Value.category, List.lookup]) ?_
  refine Z_aload_n (i := 0) hX d_La_lose_0 rfl rfl ?_
  refine Z_iload_n (i := 1) hX d_La_lose_1 rfl rfl ?_
  refine Z_iload_n (i := 2) hX d_La_lose_2 rfl rfl ?_
  refine Z_cVx (As := [.int u0, .int u1]) (st := []) hX hO d_La_lose_3 hM m_CT_lose rfl rfl rfl lk_La_46 ⟨by decide, by decide⟩ ⟨by decide, by decide⟩ (Nat.le_of_ble_eq_true rfl) (Zx_catch1 hX hO hH ⟨by decide, by decide⟩ (by decide) ll_IA (List.mem_of_getElem? (i := 0) rfl) (fun q => ?_))
  refine Z_astore_n (i := 3) hX d_La_lose_9 rfl (by decide) rfl ?_
  refine Z_iconst (v := 1) hX d_La_lose_10 rfl ?_
  exact hR _ _ d_La_lose_11

theorem m_La_rounds : zMW y_La_rounds method_13_code 4 (some .int) [(0, 9, 12, 13)] 3 := ⟨tb2 (List.mem_of_getElem? (i := 139) rfl) rfl, tb0 (List.mem_of_getElem? (i := 0) rfl) rfl, tb2 (List.mem_of_getElem? (i := 140) rfl) rfl, by decide, by decide, by decide +kernel⟩
set_option maxRecDepth 100000 in
set_option maxHeartbeats 4000000 in
theorem h_La_rounds {la : Launch} (hst : la.stackTraces = false) {G : zG} {I I1 : zI} {J J1 : zJ} {u0 : Int32} {k : Nat} (hk : k ≤ 7) {r : Int32} (hM : zCi la G y_CT_rounds (Cond.code y_CT_rounds prog_1_method_13_code 3 (some .int) :: TBL) (zR k) [.ref (zad G 0), .int u0] I J r I1 J1) : zCw la G y_La_rounds (Cond.codeWith y_La_rounds method_13_code 4 (some .int) [(0, 9, 12, 13)] :: TBL) (zRx 8) [.ref (zad G 0), .int u0, .ref (zad G 86)] I J 0 I1 (zupL J1 86 0 r.toInt64) := by
  refine zCw_of hst (by decide) (by simp [lg_sl, Value.category]) (fun X hla hX hO hH hR => ?_)
  subst hla
  refine Z_loc (l' := [(0, .ref (zad G 0)), (1, .int u0), (2, .ref (zad G 86))]) (by simp [lv_args, Value.category, List.lookup]) ?_
  refine Z_aload_n (i := 2) hX d_La_rounds_0 rfl rfl ?_
  refine Z_iconst (v := nI 0) hX d_La_rounds_1 rfl ?_
  refine Z_aload_n (i := 0) hX d_La_rounds_2 rfl rfl ?_
  refine Z_iload_n (i := 1) hX d_La_rounds_3 rfl rfl ?_
  refine Z_cVi1 hX d_La_rounds_4 hM m_CT_rounds rfl rfl lk_La_50 ⟨by show k + 1 ≤ 8; omega, by show 8 + (3 + 11) + (36 * k + 30) ≤ 36 * 8 + 30; omega⟩ ⟨by show 0 + 0 ≤ 1; decide, by show 0 + 0 ≤ 6; decide⟩ (Nat.le_of_ble_eq_true rfl) ?_
  refine Z_i2l hX d_La_rounds_7 ?_
  refine Z_last hX d_La_rounds_8 rfl rfl (by omega) (by decide) ?_
  refine Z_goto (tgt := 15) hX d_La_rounds_9 rfl ?_
  refine Z_iconst (v := 0) hX d_La_rounds_15 rfl ?_
  exact Z_wid (Nat.le_of_ble_eq_true rfl) (Nat.le_of_ble_eq_true rfl) (hR _ _ d_La_rounds_16)

set_option maxRecDepth 100000 in
set_option maxHeartbeats 4000000 in
theorem h_La_rounds_x {la : Launch} (hst : la.stackTraces = false) {G : zG} {I : zI} {J : zJ} {u0 : Int32} (hM : zCx la G y_CT_rounds (Cond.code y_CT_rounds prog_1_method_13_code 3 (some .int) :: TBL) (zRx 7) [.ref (zad G 0), .int u0] I J zIA) : zCw la G y_La_rounds (Cond.codeWith y_La_rounds method_13_code 4 (some .int) [(0, 9, 12, 13)] :: TBL) (zRx 8) [.ref (zad G 0), .int u0, .ref (zad G 86)] I J 1 I J := by
  refine zCw_of hst (by decide) (by simp [lg_sl, Value.category]) (fun X hla hX hO hH hR => ?_)
  subst hla
  refine Z_loc (l' := [(0, .ref (zad G 0)), (1, .int u0), (2, .ref (zad G 86))]) (by simp [lv_args, Value.category, List.lookup]) ?_
  refine Z_aload_n (i := 2) hX d_La_rounds_0 rfl rfl ?_
  refine Z_iconst (v := nI 0) hX d_La_rounds_1 rfl ?_
  refine Z_aload_n (i := 0) hX d_La_rounds_2 rfl rfl ?_
  refine Z_iload_n (i := 1) hX d_La_rounds_3 rfl rfl ?_
  refine Z_cVx (As := [.int u0]) (st := [.int (nI 0), .ref (zad G 86)]) hX hO d_La_rounds_4 hM m_CT_rounds rfl rfl rfl lk_La_50 ⟨by decide, by decide⟩ ⟨by decide, by decide⟩ (Nat.le_of_ble_eq_true rfl) (Zx_catch1 hX hO hH ⟨by decide, by decide⟩ (by decide) ll_IA (List.mem_of_getElem? (i := 0) rfl) (fun q => ?_))
  refine Z_astore_n (i := 3) hX d_La_rounds_12 rfl (by decide) rfl ?_
  refine Z_iconst (v := 1) hX d_La_rounds_13 rfl ?_
  exact hR _ _ d_La_rounds_14

theorem m_La_state : zMW y_La_state method_14_code 5 (some .int) [(0, 10, 13, 13)] 4 := ⟨tb2 (List.mem_of_getElem? (i := 167) rfl) rfl, tb0 (List.mem_of_getElem? (i := 0) rfl) rfl, tb2 (List.mem_of_getElem? (i := 168) rfl) rfl, by decide, by decide, by decide +kernel⟩
set_option maxRecDepth 100000 in
set_option maxHeartbeats 4000000 in
theorem h_La_state {la : Launch} (hst : la.stackTraces = false) {G : zG} {I I1 : zI} {J J1 : zJ} {u0 u1 : Int32} {k : Nat} (hk : k ≤ 7) {r : Int32} (hM : zCi la G y_CT_state (Cond.code y_CT_state prog_1_method_15_code 3 (some .int) :: TBL) (zR k) [.ref (zad G 0), .int u0, .int u1] I J r I1 J1) : zCw la G y_La_state (Cond.codeWith y_La_state method_14_code 5 (some .int) [(0, 10, 13, 13)] :: TBL) (zRx 8) [.ref (zad G 0), .int u0, .int u1, .ref (zad G 86)] I J 0 I1 (zupL J1 86 0 r.toInt64) := by
  refine zCw_of hst (by decide) (by simp [lg_sl, Value.category]) (fun X hla hX hO hH hR => ?_)
  subst hla
  refine Z_loc (l' := [(0, .ref (zad G 0)), (1, .int u0), (2, .int u1), (3, .ref (zad G 86))]) (by simp [lv_args, Value.category, List.lookup]) ?_
  refine Z_aload_n (i := 3) hX d_La_state_0 rfl rfl ?_
  refine Z_iconst (v := nI 0) hX d_La_state_1 rfl ?_
  refine Z_aload_n (i := 0) hX d_La_state_2 rfl rfl ?_
  refine Z_iload_n (i := 1) hX d_La_state_3 rfl rfl ?_
  refine Z_iload_n (i := 2) hX d_La_state_4 rfl rfl ?_
  refine Z_cVi2 hX d_La_state_5 hM m_CT_state rfl rfl lk_La_54 ⟨by show k + 1 ≤ 8; omega, by show 8 + (3 + 11) + (36 * k + 30) ≤ 36 * 8 + 30; omega⟩ ⟨by show 0 + 0 ≤ 1; decide, by show 0 + 0 ≤ 6; decide⟩ (Nat.le_of_ble_eq_true rfl) ?_
  refine Z_i2l hX d_La_state_8 ?_
  refine Z_last hX d_La_state_9 rfl rfl (by omega) (by decide) ?_
  refine Z_goto (tgt := 17) hX d_La_state_10 rfl ?_
  refine Z_iconst (v := 0) hX d_La_state_17 rfl ?_
  exact Z_wid (Nat.le_of_ble_eq_true rfl) (Nat.le_of_ble_eq_true rfl) (hR _ _ d_La_state_18)

set_option maxRecDepth 100000 in
set_option maxHeartbeats 4000000 in
theorem h_La_state_x {la : Launch} (hst : la.stackTraces = false) {G : zG} {I : zI} {J : zJ} {u0 u1 : Int32} (hM : zCx la G y_CT_state (Cond.code y_CT_state prog_1_method_15_code 3 (some .int) :: TBL) (zRx 7) [.ref (zad G 0), .int u0, .int u1] I J zIA) : zCw la G y_La_state (Cond.codeWith y_La_state method_14_code 5 (some .int) [(0, 10, 13, 13)] :: TBL) (zRx 8) [.ref (zad G 0), .int u0, .int u1, .ref (zad G 86)] I J 1 I J := by
  refine zCw_of hst (by decide) (by simp [lg_sl, Value.category]) (fun X hla hX hO hH hR => ?_)
  subst hla
  refine Z_loc (l' := [(0, .ref (zad G 0)), (1, .int u0), (2, .int u1), (3, .ref (zad G 86))]) (by simp [lv_args, Value.category, List.lookup]) ?_
  refine Z_aload_n (i := 3) hX d_La_state_0 rfl rfl ?_
  refine Z_iconst (v := nI 0) hX d_La_state_1 rfl ?_
  refine Z_aload_n (i := 0) hX d_La_state_2 rfl rfl ?_
  refine Z_iload_n (i := 1) hX d_La_state_3 rfl rfl ?_
  refine Z_iload_n (i := 2) hX d_La_state_4 rfl rfl ?_
  refine Z_cVx (As := [.int u0, .int u1]) (st := [.int (nI 0), .ref (zad G 86)]) hX hO d_La_state_5 hM m_CT_state rfl rfl rfl lk_La_54 ⟨by decide, by decide⟩ ⟨by decide, by decide⟩ (Nat.le_of_ble_eq_true rfl) (Zx_catch1 hX hO hH ⟨by decide, by decide⟩ (by decide) ll_IA (List.mem_of_getElem? (i := 0) rfl) (fun q => ?_))
  refine Z_astore hX d_La_state_13 (by decide) rfl ?_
  refine Z_iconst (v := 1) hX d_La_state_15 rfl ?_
  exact hR _ _ d_La_state_16

theorem m_La_phase : zMW y_La_phase method_15_code 4 (some .int) [(0, 8, 11, 13)] 3 := ⟨tb2 (List.mem_of_getElem? (i := 176) rfl) rfl, tb0 (List.mem_of_getElem? (i := 0) rfl) rfl, tb2 (List.mem_of_getElem? (i := 177) rfl) rfl, by decide, by decide, by decide +kernel⟩
set_option maxRecDepth 100000 in
set_option maxHeartbeats 4000000 in
theorem h_La_phase {la : Launch} (hst : la.stackTraces = false) {G : zG} {I I1 : zI} {J J1 : zJ} {u0 : Int32} {k : Nat} (hk : k ≤ 7) {r : Int64} (hM : zCl la G y_CT_phase (Cond.code y_CT_phase prog_1_method_16_code 2 (some .long) :: TBL) (zR k) [.ref (zad G 0), .int u0] I J r I1 J1) : zCw la G y_La_phase (Cond.codeWith y_La_phase method_15_code 4 (some .int) [(0, 8, 11, 13)] :: TBL) (zRx 8) [.ref (zad G 0), .int u0, .ref (zad G 86)] I J 0 I1 (zupL J1 86 0 r) := by
  refine zCw_of hst (by decide) (by simp [lg_sl, Value.category]) (fun X hla hX hO hH hR => ?_)
  subst hla
  refine Z_loc (l' := [(0, .ref (zad G 0)), (1, .int u0), (2, .ref (zad G 86))]) (by simp [lv_args, Value.category, List.lookup]) ?_
  refine Z_aload_n (i := 2) hX d_La_phase_0 rfl rfl ?_
  refine Z_iconst (v := nI 0) hX d_La_phase_1 rfl ?_
  refine Z_aload_n (i := 0) hX d_La_phase_2 rfl rfl ?_
  refine Z_iload_n (i := 1) hX d_La_phase_3 rfl rfl ?_
  refine Z_cVl1 hX d_La_phase_4 hM m_CT_phase rfl rfl lk_La_57 ⟨by show k + 1 ≤ 8; omega, by show 8 + (2 + 11) + (36 * k + 30) ≤ 36 * 8 + 30; omega⟩ ⟨by show 0 + 0 ≤ 1; decide, by show 0 + 0 ≤ 6; decide⟩ (Nat.le_of_ble_eq_true rfl) ?_
  refine Z_last hX d_La_phase_7 rfl rfl (by omega) (by decide) ?_
  refine Z_goto (tgt := 14) hX d_La_phase_8 rfl ?_
  refine Z_iconst (v := 0) hX d_La_phase_14 rfl ?_
  exact Z_wid (Nat.le_of_ble_eq_true rfl) (Nat.le_of_ble_eq_true rfl) (hR _ _ d_La_phase_15)

set_option maxRecDepth 100000 in
set_option maxHeartbeats 4000000 in
theorem h_La_phase_x {la : Launch} (hst : la.stackTraces = false) {G : zG} {I : zI} {J : zJ} {u0 : Int32} (hM : zCx la G y_CT_phase (Cond.code y_CT_phase prog_1_method_16_code 2 (some .long) :: TBL) (zRx 7) [.ref (zad G 0), .int u0] I J zIA) : zCw la G y_La_phase (Cond.codeWith y_La_phase method_15_code 4 (some .int) [(0, 8, 11, 13)] :: TBL) (zRx 8) [.ref (zad G 0), .int u0, .ref (zad G 86)] I J 1 I J := by
  refine zCw_of hst (by decide) (by simp [lg_sl, Value.category]) (fun X hla hX hO hH hR => ?_)
  subst hla
  refine Z_loc (l' := [(0, .ref (zad G 0)), (1, .int u0), (2, .ref (zad G 86))]) (by simp [lv_args, Value.category, List.lookup]) ?_
  refine Z_aload_n (i := 2) hX d_La_phase_0 rfl rfl ?_
  refine Z_iconst (v := nI 0) hX d_La_phase_1 rfl ?_
  refine Z_aload_n (i := 0) hX d_La_phase_2 rfl rfl ?_
  refine Z_iload_n (i := 1) hX d_La_phase_3 rfl rfl ?_
  refine Z_cVx (As := [.int u0]) (st := [.int (nI 0), .ref (zad G 86)]) hX hO d_La_phase_4 hM m_CT_phase rfl rfl rfl lk_La_57 ⟨by decide, by decide⟩ ⟨by decide, by decide⟩ (Nat.le_of_ble_eq_true rfl) (Zx_catch1 hX hO hH ⟨by decide, by decide⟩ (by decide) ll_IA (List.mem_of_getElem? (i := 0) rfl) (fun q => ?_))
  refine Z_astore_n (i := 3) hX d_La_phase_11 rfl (by decide) rfl ?_
  refine Z_iconst (v := 1) hX d_La_phase_12 rfl ?_
  exact hR _ _ d_La_phase_13

theorem m_La_sends : zMW y_La_sends method_16_code 5 (some .int) [(0, 10, 13, 13)] 4 := ⟨tb2 (List.mem_of_getElem? (i := 183) rfl) rfl, tb0 (List.mem_of_getElem? (i := 0) rfl) rfl, tb2 (List.mem_of_getElem? (i := 184) rfl) rfl, by decide, by decide, by decide +kernel⟩
set_option maxRecDepth 100000 in
set_option maxHeartbeats 4000000 in
theorem h_La_sends {la : Launch} (hst : la.stackTraces = false) {G : zG} {I I1 : zI} {J J1 : zJ} {u0 u1 : Int32} {k : Nat} (hk : k ≤ 7) {r : Int32} (hM : zCi la G y_CT_sends (Cond.code y_CT_sends prog_1_method_17_code 3 (some .int) :: TBL) (zR k) [.ref (zad G 0), .int u0, .int u1] I J r I1 J1) : zCw la G y_La_sends (Cond.codeWith y_La_sends method_16_code 5 (some .int) [(0, 10, 13, 13)] :: TBL) (zRx 8) [.ref (zad G 0), .int u0, .int u1, .ref (zad G 86)] I J 0 I1 (zupL J1 86 0 r.toInt64) := by
  refine zCw_of hst (by decide) (by simp [lg_sl, Value.category]) (fun X hla hX hO hH hR => ?_)
  subst hla
  refine Z_loc (l' := [(0, .ref (zad G 0)), (1, .int u0), (2, .int u1), (3, .ref (zad G 86))]) (by simp [lv_args, Value.category, List.lookup]) ?_
  refine Z_aload_n (i := 3) hX d_La_sends_0 rfl rfl ?_
  refine Z_iconst (v := nI 0) hX d_La_sends_1 rfl ?_
  refine Z_aload_n (i := 0) hX d_La_sends_2 rfl rfl ?_
  refine Z_iload_n (i := 1) hX d_La_sends_3 rfl rfl ?_
  refine Z_iload_n (i := 2) hX d_La_sends_4 rfl rfl ?_
  refine Z_cVi2 hX d_La_sends_5 hM m_CT_sends rfl rfl lk_La_61 ⟨by show k + 1 ≤ 8; omega, by show 8 + (3 + 11) + (36 * k + 30) ≤ 36 * 8 + 30; omega⟩ ⟨by show 0 + 0 ≤ 1; decide, by show 0 + 0 ≤ 6; decide⟩ (Nat.le_of_ble_eq_true rfl) ?_
  refine Z_i2l hX d_La_sends_8 ?_
  refine Z_last hX d_La_sends_9 rfl rfl (by omega) (by decide) ?_
  refine Z_goto (tgt := 17) hX d_La_sends_10 rfl ?_
  refine Z_iconst (v := 0) hX d_La_sends_17 rfl ?_
  exact Z_wid (Nat.le_of_ble_eq_true rfl) (Nat.le_of_ble_eq_true rfl) (hR _ _ d_La_sends_18)

set_option maxRecDepth 100000 in
set_option maxHeartbeats 4000000 in
theorem h_La_sends_x {la : Launch} (hst : la.stackTraces = false) {G : zG} {I : zI} {J : zJ} {u0 u1 : Int32} (hM : zCx la G y_CT_sends (Cond.code y_CT_sends prog_1_method_17_code 3 (some .int) :: TBL) (zRx 7) [.ref (zad G 0), .int u0, .int u1] I J zIA) : zCw la G y_La_sends (Cond.codeWith y_La_sends method_16_code 5 (some .int) [(0, 10, 13, 13)] :: TBL) (zRx 8) [.ref (zad G 0), .int u0, .int u1, .ref (zad G 86)] I J 1 I J := by
  refine zCw_of hst (by decide) (by simp [lg_sl, Value.category]) (fun X hla hX hO hH hR => ?_)
  subst hla
  refine Z_loc (l' := [(0, .ref (zad G 0)), (1, .int u0), (2, .int u1), (3, .ref (zad G 86))]) (by simp [lv_args, Value.category, List.lookup]) ?_
  refine Z_aload_n (i := 3) hX d_La_sends_0 rfl rfl ?_
  refine Z_iconst (v := nI 0) hX d_La_sends_1 rfl ?_
  refine Z_aload_n (i := 0) hX d_La_sends_2 rfl rfl ?_
  refine Z_iload_n (i := 1) hX d_La_sends_3 rfl rfl ?_
  refine Z_iload_n (i := 2) hX d_La_sends_4 rfl rfl ?_
  refine Z_cVx (As := [.int u0, .int u1]) (st := [.int (nI 0), .ref (zad G 86)]) hX hO d_La_sends_5 hM m_CT_sends rfl rfl rfl lk_La_61 ⟨by decide, by decide⟩ ⟨by decide, by decide⟩ (Nat.le_of_ble_eq_true rfl) (Zx_catch1 hX hO hH ⟨by decide, by decide⟩ (by decide) ll_IA (List.mem_of_getElem? (i := 0) rfl) (fun q => ?_))
  refine Z_astore hX d_La_sends_13 (by decide) rfl ?_
  refine Z_iconst (v := 1) hX d_La_sends_15 rfl ?_
  exact hR _ _ d_La_sends_16

theorem m_La_traced : zMW y_La_traced method_17_code 4 (some .int) [(0, 9, 12, 13)] 3 := ⟨tb2 (List.mem_of_getElem? (i := 190) rfl) rfl, tb0 (List.mem_of_getElem? (i := 0) rfl) rfl, tb2 (List.mem_of_getElem? (i := 191) rfl) rfl, by decide, by decide, by decide +kernel⟩
set_option maxRecDepth 100000 in
set_option maxHeartbeats 4000000 in
theorem h_La_traced {la : Launch} (hst : la.stackTraces = false) {G : zG} {I I1 : zI} {J J1 : zJ} {u0 : Int32} {k : Nat} (hk : k ≤ 7) {r : Int32} (hM : zCi la G y_CT_traced (Cond.code y_CT_traced prog_1_method_18_code 3 (some .int) :: TBL) (zR k) [.ref (zad G 0), .int u0] I J r I1 J1) : zCw la G y_La_traced (Cond.codeWith y_La_traced method_17_code 4 (some .int) [(0, 9, 12, 13)] :: TBL) (zRx 8) [.ref (zad G 0), .int u0, .ref (zad G 86)] I J 0 I1 (zupL J1 86 0 r.toInt64) := by
  refine zCw_of hst (by decide) (by simp [lg_sl, Value.category]) (fun X hla hX hO hH hR => ?_)
  subst hla
  refine Z_loc (l' := [(0, .ref (zad G 0)), (1, .int u0), (2, .ref (zad G 86))]) (by simp [lv_args, Value.category, List.lookup]) ?_
  refine Z_aload_n (i := 2) hX d_La_traced_0 rfl rfl ?_
  refine Z_iconst (v := nI 0) hX d_La_traced_1 rfl ?_
  refine Z_aload_n (i := 0) hX d_La_traced_2 rfl rfl ?_
  refine Z_iload_n (i := 1) hX d_La_traced_3 rfl rfl ?_
  refine Z_cVi1 hX d_La_traced_4 hM m_CT_traced rfl rfl lk_La_64 ⟨by show k + 1 ≤ 8; omega, by show 8 + (3 + 11) + (36 * k + 30) ≤ 36 * 8 + 30; omega⟩ ⟨by show 0 + 0 ≤ 1; decide, by show 0 + 0 ≤ 6; decide⟩ (Nat.le_of_ble_eq_true rfl) ?_
  refine Z_i2l hX d_La_traced_7 ?_
  refine Z_last hX d_La_traced_8 rfl rfl (by omega) (by decide) ?_
  refine Z_goto (tgt := 15) hX d_La_traced_9 rfl ?_
  refine Z_iconst (v := 0) hX d_La_traced_15 rfl ?_
  exact Z_wid (Nat.le_of_ble_eq_true rfl) (Nat.le_of_ble_eq_true rfl) (hR _ _ d_La_traced_16)

set_option maxRecDepth 100000 in
set_option maxHeartbeats 4000000 in
theorem h_La_traced_x {la : Launch} (hst : la.stackTraces = false) {G : zG} {I : zI} {J : zJ} {u0 : Int32} (hM : zCx la G y_CT_traced (Cond.code y_CT_traced prog_1_method_18_code 3 (some .int) :: TBL) (zRx 7) [.ref (zad G 0), .int u0] I J zIA) : zCw la G y_La_traced (Cond.codeWith y_La_traced method_17_code 4 (some .int) [(0, 9, 12, 13)] :: TBL) (zRx 8) [.ref (zad G 0), .int u0, .ref (zad G 86)] I J 1 I J := by
  refine zCw_of hst (by decide) (by simp [lg_sl, Value.category]) (fun X hla hX hO hH hR => ?_)
  subst hla
  refine Z_loc (l' := [(0, .ref (zad G 0)), (1, .int u0), (2, .ref (zad G 86))]) (by simp [lv_args, Value.category, List.lookup]) ?_
  refine Z_aload_n (i := 2) hX d_La_traced_0 rfl rfl ?_
  refine Z_iconst (v := nI 0) hX d_La_traced_1 rfl ?_
  refine Z_aload_n (i := 0) hX d_La_traced_2 rfl rfl ?_
  refine Z_iload_n (i := 1) hX d_La_traced_3 rfl rfl ?_
  refine Z_cVx (As := [.int u0]) (st := [.int (nI 0), .ref (zad G 86)]) hX hO d_La_traced_4 hM m_CT_traced rfl rfl rfl lk_La_64 ⟨by decide, by decide⟩ ⟨by decide, by decide⟩ (Nat.le_of_ble_eq_true rfl) (Zx_catch1 hX hO hH ⟨by decide, by decide⟩ (by decide) ll_IA (List.mem_of_getElem? (i := 0) rfl) (fun q => ?_))
  refine Z_astore_n (i := 3) hX d_La_traced_12 rfl (by decide) rfl ?_
  refine Z_iconst (v := 1) hX d_La_traced_13 rfl ?_
  exact hR _ _ d_La_traced_14

theorem m_La_best : zMW y_La_best method_18_code 4 (some .int) [(0, 9, 12, 13)] 3 := ⟨tb2 (List.mem_of_getElem? (i := 197) rfl) rfl, tb0 (List.mem_of_getElem? (i := 0) rfl) rfl, tb2 (List.mem_of_getElem? (i := 198) rfl) rfl, by decide, by decide, by decide +kernel⟩
set_option maxRecDepth 100000 in
set_option maxHeartbeats 4000000 in
theorem h_La_best {la : Launch} (hst : la.stackTraces = false) {G : zG} {I I1 : zI} {J J1 : zJ} {u0 : Int32} {k : Nat} (hk : k ≤ 7) {r : Int32} (hM : zCi la G y_CT_best (Cond.code y_CT_best prog_1_method_20_code 2 (some .int) :: TBL) (zR k) [.ref (zad G 0), .int u0] I J r I1 J1) : zCw la G y_La_best (Cond.codeWith y_La_best method_18_code 4 (some .int) [(0, 9, 12, 13)] :: TBL) (zRx 8) [.ref (zad G 0), .int u0, .ref (zad G 86)] I J 0 I1 (zupL J1 86 0 r.toInt64) := by
  refine zCw_of hst (by decide) (by simp [lg_sl, Value.category]) (fun X hla hX hO hH hR => ?_)
  subst hla
  refine Z_loc (l' := [(0, .ref (zad G 0)), (1, .int u0), (2, .ref (zad G 86))]) (by simp [lv_args, Value.category, List.lookup]) ?_
  refine Z_aload_n (i := 2) hX d_La_best_0 rfl rfl ?_
  refine Z_iconst (v := nI 0) hX d_La_best_1 rfl ?_
  refine Z_aload_n (i := 0) hX d_La_best_2 rfl rfl ?_
  refine Z_iload_n (i := 1) hX d_La_best_3 rfl rfl ?_
  refine Z_cVi1 hX d_La_best_4 hM m_CT_best rfl rfl lk_La_67 ⟨by show k + 1 ≤ 8; omega, by show 8 + (2 + 11) + (36 * k + 30) ≤ 36 * 8 + 30; omega⟩ ⟨by show 0 + 0 ≤ 1; decide, by show 0 + 0 ≤ 6; decide⟩ (Nat.le_of_ble_eq_true rfl) ?_
  refine Z_i2l hX d_La_best_7 ?_
  refine Z_last hX d_La_best_8 rfl rfl (by omega) (by decide) ?_
  refine Z_goto (tgt := 15) hX d_La_best_9 rfl ?_
  refine Z_iconst (v := 0) hX d_La_best_15 rfl ?_
  exact Z_wid (Nat.le_of_ble_eq_true rfl) (Nat.le_of_ble_eq_true rfl) (hR _ _ d_La_best_16)

set_option maxRecDepth 100000 in
set_option maxHeartbeats 4000000 in
theorem h_La_best_x {la : Launch} (hst : la.stackTraces = false) {G : zG} {I : zI} {J : zJ} {u0 : Int32} (hM : zCx la G y_CT_best (Cond.code y_CT_best prog_1_method_20_code 2 (some .int) :: TBL) (zRx 7) [.ref (zad G 0), .int u0] I J zIA) : zCw la G y_La_best (Cond.codeWith y_La_best method_18_code 4 (some .int) [(0, 9, 12, 13)] :: TBL) (zRx 8) [.ref (zad G 0), .int u0, .ref (zad G 86)] I J 1 I J := by
  refine zCw_of hst (by decide) (by simp [lg_sl, Value.category]) (fun X hla hX hO hH hR => ?_)
  subst hla
  refine Z_loc (l' := [(0, .ref (zad G 0)), (1, .int u0), (2, .ref (zad G 86))]) (by simp [lv_args, Value.category, List.lookup]) ?_
  refine Z_aload_n (i := 2) hX d_La_best_0 rfl rfl ?_
  refine Z_iconst (v := nI 0) hX d_La_best_1 rfl ?_
  refine Z_aload_n (i := 0) hX d_La_best_2 rfl rfl ?_
  refine Z_iload_n (i := 1) hX d_La_best_3 rfl rfl ?_
  refine Z_cVx (As := [.int u0]) (st := [.int (nI 0), .ref (zad G 86)]) hX hO d_La_best_4 hM m_CT_best rfl rfl rfl lk_La_67 ⟨by decide, by decide⟩ ⟨by decide, by decide⟩ (Nat.le_of_ble_eq_true rfl) (Zx_catch1 hX hO hH ⟨by decide, by decide⟩ (by decide) ll_IA (List.mem_of_getElem? (i := 0) rfl) (fun q => ?_))
  refine Z_astore_n (i := 3) hX d_La_best_12 rfl (by decide) rfl ?_
  refine Z_iconst (v := 1) hX d_La_best_13 rfl ?_
  exact hR _ _ d_La_best_14

theorem m_La_finding : zMW y_La_finding method_19_code 5 (some .int) [(0, 10, 13, 13)] 4 := ⟨tb2 (List.mem_of_getElem? (i := 205) rfl) rfl, tb0 (List.mem_of_getElem? (i := 0) rfl) rfl, tb2 (List.mem_of_getElem? (i := 206) rfl) rfl, by decide, by decide, by decide +kernel⟩
set_option maxRecDepth 100000 in
set_option maxHeartbeats 4000000 in
theorem h_La_finding {la : Launch} (hst : la.stackTraces = false) {G : zG} {I I1 : zI} {J J1 : zJ} {u0 u1 : Int32} {k : Nat} (hk : k ≤ 7) {r : Int32} (hM : zCi la G y_CT_finding (Cond.code y_CT_finding prog_1_method_22_code 3 (some .int) :: TBL) (zR k) [.ref (zad G 0), .int u0, .int u1] I J r I1 J1) : zCw la G y_La_finding (Cond.codeWith y_La_finding method_19_code 5 (some .int) [(0, 10, 13, 13)] :: TBL) (zRx 8) [.ref (zad G 0), .int u0, .int u1, .ref (zad G 86)] I J 0 I1 (zupL J1 86 0 r.toInt64) := by
  refine zCw_of hst (by decide) (by simp [lg_sl, Value.category]) (fun X hla hX hO hH hR => ?_)
  subst hla
  refine Z_loc (l' := [(0, .ref (zad G 0)), (1, .int u0), (2, .int u1), (3, .ref (zad G 86))]) (by simp [lv_args, Value.category, List.lookup]) ?_
  refine Z_aload_n (i := 3) hX d_La_finding_0 rfl rfl ?_
  refine Z_iconst (v := nI 0) hX d_La_finding_1 rfl ?_
  refine Z_aload_n (i := 0) hX d_La_finding_2 rfl rfl ?_
  refine Z_iload_n (i := 1) hX d_La_finding_3 rfl rfl ?_
  refine Z_iload_n (i := 2) hX d_La_finding_4 rfl rfl ?_
  refine Z_cVi2 hX d_La_finding_5 hM m_CT_finding rfl rfl lk_La_70 ⟨by show k + 1 ≤ 8; omega, by show 8 + (3 + 11) + (36 * k + 30) ≤ 36 * 8 + 30; omega⟩ ⟨by show 0 + 0 ≤ 1; decide, by show 0 + 0 ≤ 6; decide⟩ (Nat.le_of_ble_eq_true rfl) ?_
  refine Z_i2l hX d_La_finding_8 ?_
  refine Z_last hX d_La_finding_9 rfl rfl (by omega) (by decide) ?_
  refine Z_goto (tgt := 17) hX d_La_finding_10 rfl ?_
  refine Z_iconst (v := 0) hX d_La_finding_17 rfl ?_
  exact Z_wid (Nat.le_of_ble_eq_true rfl) (Nat.le_of_ble_eq_true rfl) (hR _ _ d_La_finding_18)

set_option maxRecDepth 100000 in
set_option maxHeartbeats 4000000 in
theorem h_La_finding_x {la : Launch} (hst : la.stackTraces = false) {G : zG} {I : zI} {J : zJ} {u0 u1 : Int32} (hM : zCx la G y_CT_finding (Cond.code y_CT_finding prog_1_method_22_code 3 (some .int) :: TBL) (zRx 7) [.ref (zad G 0), .int u0, .int u1] I J zIA) : zCw la G y_La_finding (Cond.codeWith y_La_finding method_19_code 5 (some .int) [(0, 10, 13, 13)] :: TBL) (zRx 8) [.ref (zad G 0), .int u0, .int u1, .ref (zad G 86)] I J 1 I J := by
  refine zCw_of hst (by decide) (by simp [lg_sl, Value.category]) (fun X hla hX hO hH hR => ?_)
  subst hla
  refine Z_loc (l' := [(0, .ref (zad G 0)), (1, .int u0), (2, .int u1), (3, .ref (zad G 86))]) (by simp [lv_args, Value.category, List.lookup]) ?_
  refine Z_aload_n (i := 3) hX d_La_finding_0 rfl rfl ?_
  refine Z_iconst (v := nI 0) hX d_La_finding_1 rfl ?_
  refine Z_aload_n (i := 0) hX d_La_finding_2 rfl rfl ?_
  refine Z_iload_n (i := 1) hX d_La_finding_3 rfl rfl ?_
  refine Z_iload_n (i := 2) hX d_La_finding_4 rfl rfl ?_
  refine Z_cVx (As := [.int u0, .int u1]) (st := [.int (nI 0), .ref (zad G 86)]) hX hO d_La_finding_5 hM m_CT_finding rfl rfl rfl lk_La_70 ⟨by decide, by decide⟩ ⟨by decide, by decide⟩ (Nat.le_of_ble_eq_true rfl) (Zx_catch1 hX hO hH ⟨by decide, by decide⟩ (by decide) ll_IA (List.mem_of_getElem? (i := 0) rfl) (fun q => ?_))
  refine Z_astore hX d_La_finding_13 (by decide) rfl ?_
  refine Z_iconst (v := 1) hX d_La_finding_15 rfl ?_
  exact hR _ _ d_La_finding_16
