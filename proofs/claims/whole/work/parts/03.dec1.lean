theorem d_CT_tracing_0 : decode prog_1_method_7_code 0 = .ok (.aload_n 0, 1) := by decide +kernel
theorem d_CT_tracing_1 : decode prog_1_method_7_code 1 = .ok (.getfield 12, 3) := by decide +kernel
theorem d_CT_tracing_4 : decode prog_1_method_7_code 4 = .ok (.getfield 125, 3) := by decide +kernel
theorem d_CT_tracing_7 : decode prog_1_method_7_code 7 = .ok (.istore_n 2, 1) := by decide +kernel
theorem d_CT_tracing_8 : decode prog_1_method_7_code 8 = .ok (.aload_n 0, 1) := by decide +kernel
theorem d_CT_tracing_9 : decode prog_1_method_7_code 9 = .ok (.getfield 12, 3) := by decide +kernel
theorem d_CT_tracing_12 : decode prog_1_method_7_code 12 = .ok (.iload_n 1, 1) := by decide +kernel
theorem d_CT_tracing_13 : decode prog_1_method_7_code 13 = .ok (.putfield 125, 3) := by decide +kernel
theorem d_CT_tracing_16 : decode prog_1_method_7_code 16 = .ok (.iload_n 2, 1) := by decide +kernel
theorem d_CT_tracing_17 : decode prog_1_method_7_code 17 = .ok (.ireturn, 1) := by decide +kernel
theorem d_CT_settled_0 : decode prog_1_method_14_code 0 = .ok (.aload_n 0, 1) := by decide +kernel
theorem d_CT_settled_1 : decode prog_1_method_14_code 1 = .ok (.getfield 38, 3) := by decide +kernel
theorem d_CT_settled_4 : decode prog_1_method_14_code 4 = .ok (.getfield 173, 3) := by decide +kernel
theorem d_CT_settled_7 : decode prog_1_method_14_code 7 = .ok (.ireturn, 1) := by decide +kernel
theorem d_CT_loop_0 : decode prog_1_method_19_code 0 = .ok (.iconst 0, 1) := by decide +kernel
theorem d_CT_loop_1 : decode prog_1_method_19_code 1 = .ok (.istore_n 1, 1) := by decide +kernel
theorem d_CT_loop_2 : decode prog_1_method_19_code 2 = .ok (.iload_n 1, 1) := by decide +kernel
theorem d_CT_loop_3 : decode prog_1_method_19_code 3 = .ok (.bipush 16, 2) := by decide +kernel
theorem d_CT_loop_5 : decode prog_1_method_19_code 5 = .ok (.if_icmp .ge 24, 3) := by decide +kernel
theorem d_CT_loop_8 : decode prog_1_method_19_code 8 = .ok (.aload_n 0, 1) := by decide +kernel
theorem d_CT_loop_9 : decode prog_1_method_19_code 9 = .ok (.getfield 21, 3) := by decide +kernel
theorem d_CT_loop_12 : decode prog_1_method_19_code 12 = .ok (.iload_n 1, 1) := by decide +kernel
theorem d_CT_loop_13 : decode prog_1_method_19_code 13 = .ok (.invokevirtual 206, 3) := by decide +kernel
theorem d_CT_loop_16 : decode prog_1_method_19_code 16 = .ok (.bipush (-2), 2) := by decide +kernel
theorem d_CT_loop_18 : decode prog_1_method_19_code 18 = .ok (.if_icmp .ne 5, 3) := by decide +kernel
theorem d_CT_loop_21 : decode prog_1_method_19_code 21 = .ok (.iconst 1, 1) := by decide +kernel
theorem d_CT_loop_22 : decode prog_1_method_19_code 22 = .ok (.ireturn, 1) := by decide +kernel
theorem d_CT_loop_23 : decode prog_1_method_19_code 23 = .ok (.iinc 1 1, 3) := by decide +kernel
theorem d_CT_loop_26 : decode prog_1_method_19_code 26 = .ok (.goto (-24), 3) := by decide +kernel
theorem d_CT_loop_29 : decode prog_1_method_19_code 29 = .ok (.iconst 0, 1) := by decide +kernel
theorem d_CT_loop_30 : decode prog_1_method_19_code 30 = .ok (.ireturn, 1) := by decide +kernel
theorem d_Fl_follow_0 : decode prog_4_method_24_code 0 = .ok (.iload_n 1, 1) := by decide +kernel
theorem d_Fl_follow_1 : decode prog_4_method_24_code 1 = .ok (.istore_n 2, 1) := by decide +kernel
theorem d_Fl_follow_2 : decode prog_4_method_24_code 2 = .ok (.iconst 0, 1) := by decide +kernel
theorem d_Fl_follow_3 : decode prog_4_method_24_code 3 = .ok (.istore_n 3, 1) := by decide +kernel
theorem d_Fl_follow_4 : decode prog_4_method_24_code 4 = .ok (.iload_n 3, 1) := by decide +kernel
theorem d_Fl_follow_5 : decode prog_4_method_24_code 5 = .ok (.bipush 16, 2) := by decide +kernel
theorem d_Fl_follow_7 : decode prog_4_method_24_code 7 = .ok (.if_icmp .ge 70, 3) := by decide +kernel
theorem d_Fl_follow_10 : decode prog_4_method_24_code 10 = .ok (.aload_n 0, 1) := by decide +kernel
theorem d_Fl_follow_11 : decode prog_4_method_24_code 11 = .ok (.iload_n 2, 1) := by decide +kernel
theorem d_Fl_follow_12 : decode prog_4_method_24_code 12 = .ok (.invokevirtual 102, 3) := by decide +kernel
theorem d_Fl_follow_15 : decode prog_4_method_24_code 15 = .ok (.ifCond .eq 11, 3) := by decide +kernel
theorem d_Fl_follow_18 : decode prog_4_method_24_code 18 = .ok (.aload_n 0, 1) := by decide +kernel
theorem d_Fl_follow_19 : decode prog_4_method_24_code 19 = .ok (.iload_n 2, 1) := by decide +kernel
theorem d_Fl_follow_20 : decode prog_4_method_24_code 20 = .ok (.invokevirtual 196, 3) := by decide +kernel
theorem d_Fl_follow_23 : decode prog_4_method_24_code 23 = .ok (.ifCond .ne 5, 3) := by decide +kernel
theorem d_Fl_follow_26 : decode prog_4_method_24_code 26 = .ok (.iconst (-1), 1) := by decide +kernel
theorem d_Fl_follow_27 : decode prog_4_method_24_code 27 = .ok (.ireturn, 1) := by decide +kernel
theorem d_Fl_follow_28 : decode prog_4_method_24_code 28 = .ok (.iload_n 2, 1) := by decide +kernel
theorem d_Fl_follow_29 : decode prog_4_method_24_code 29 = .ok (.aload_n 0, 1) := by decide +kernel
theorem d_Fl_follow_30 : decode prog_4_method_24_code 30 = .ok (.getfield 34, 3) := by decide +kernel
theorem d_Fl_follow_33 : decode prog_4_method_24_code 33 = .ok (.iload_n 2, 1) := by decide +kernel
theorem d_Fl_follow_34 : decode prog_4_method_24_code 34 = .ok (.iaload, 1) := by decide +kernel
theorem d_Fl_follow_35 : decode prog_4_method_24_code 35 = .ok (.invokestatic 91, 3) := by decide +kernel
theorem d_Fl_follow_38 : decode prog_4_method_24_code 38 = .ok (.istore 4, 2) := by decide +kernel
theorem d_Fl_follow_40 : decode prog_4_method_24_code 40 = .ok (.aload_n 0, 1) := by decide +kernel
theorem d_Fl_follow_41 : decode prog_4_method_24_code 41 = .ok (.getfield 61, 3) := by decide +kernel
theorem d_Fl_follow_44 : decode prog_4_method_24_code 44 = .ok (.getfield 115, 3) := by decide +kernel
theorem d_Fl_follow_47 : decode prog_4_method_24_code 47 = .ok (.iload 4, 2) := by decide +kernel
theorem d_Fl_follow_49 : decode prog_4_method_24_code 49 = .ok (.iaload, 1) := by decide +kernel
theorem d_Fl_follow_50 : decode prog_4_method_24_code 50 = .ok (.iconst (-1), 1) := by decide +kernel
theorem d_Fl_follow_51 : decode prog_4_method_24_code 51 = .ok (.if_icmp .ne 6, 3) := by decide +kernel
theorem d_Fl_follow_54 : decode prog_4_method_24_code 54 = .ok (.iload 4, 2) := by decide +kernel
theorem d_Fl_follow_56 : decode prog_4_method_24_code 56 = .ok (.ireturn, 1) := by decide +kernel
theorem d_Fl_follow_57 : decode prog_4_method_24_code 57 = .ok (.aload_n 0, 1) := by decide +kernel
theorem d_Fl_follow_58 : decode prog_4_method_24_code 58 = .ok (.getfield 61, 3) := by decide +kernel
theorem d_Fl_follow_61 : decode prog_4_method_24_code 61 = .ok (.getfield 128, 3) := by decide +kernel
theorem d_Fl_follow_64 : decode prog_4_method_24_code 64 = .ok (.iload 4, 2) := by decide +kernel
theorem d_Fl_follow_66 : decode prog_4_method_24_code 66 = .ok (.iaload, 1) := by decide +kernel
theorem d_Fl_follow_67 : decode prog_4_method_24_code 67 = .ok (.invokestatic 152, 3) := by decide +kernel
theorem d_Fl_follow_70 : decode prog_4_method_24_code 70 = .ok (.istore_n 2, 1) := by decide +kernel
theorem d_Fl_follow_71 : decode prog_4_method_24_code 71 = .ok (.iinc 3 1, 3) := by decide +kernel
theorem d_Fl_follow_74 : decode prog_4_method_24_code 74 = .ok (.goto (-70), 3) := by decide +kernel
theorem d_Fl_follow_77 : decode prog_4_method_24_code 77 = .ok (.bipush (-2), 2) := by decide +kernel
theorem d_Fl_follow_79 : decode prog_4_method_24_code 79 = .ok (.ireturn, 1) := by decide +kernel
theorem d_Fl_isWhole_0 : decode prog_4_method_3_code 0 = .ok (.aload_n 0, 1) := by decide +kernel
theorem d_Fl_isWhole_1 : decode prog_4_method_3_code 1 = .ok (.getfield 61, 3) := by decide +kernel
theorem d_Fl_isWhole_4 : decode prog_4_method_3_code 4 = .ok (.getfield 81, 3) := by decide +kernel
theorem d_Fl_isWhole_7 : decode prog_4_method_3_code 7 = .ok (.iload_n 1, 1) := by decide +kernel
theorem d_Fl_isWhole_8 : decode prog_4_method_3_code 8 = .ok (.baload, 1) := by decide +kernel
theorem d_Fl_isWhole_9 : decode prog_4_method_3_code 9 = .ok (.ifCond .eq 18, 3) := by decide +kernel
theorem d_Fl_isWhole_12 : decode prog_4_method_3_code 12 = .ok (.aload_n 0, 1) := by decide +kernel
theorem d_Fl_isWhole_13 : decode prog_4_method_3_code 13 = .ok (.getfield 47, 3) := by decide +kernel
theorem d_Fl_isWhole_16 : decode prog_4_method_3_code 16 = .ok (.iload_n 1, 1) := by decide +kernel
theorem d_Fl_isWhole_17 : decode prog_4_method_3_code 17 = .ok (.ishr, 1) := by decide +kernel
theorem d_Fl_isWhole_18 : decode prog_4_method_3_code 18 = .ok (.iconst 1, 1) := by decide +kernel
theorem d_Fl_isWhole_19 : decode prog_4_method_3_code 19 = .ok (.iand, 1) := by decide +kernel
theorem d_Fl_isWhole_20 : decode prog_4_method_3_code 20 = .ok (.ifCond .ne 7, 3) := by decide +kernel
theorem d_Fl_isWhole_23 : decode prog_4_method_3_code 23 = .ok (.iconst 1, 1) := by decide +kernel
theorem d_Fl_isWhole_24 : decode prog_4_method_3_code 24 = .ok (.goto 4, 3) := by decide +kernel
theorem d_Fl_isWhole_27 : decode prog_4_method_3_code 27 = .ok (.iconst 0, 1) := by decide +kernel
theorem d_Fl_isWhole_28 : decode prog_4_method_3_code 28 = .ok (.ireturn, 1) := by decide +kernel
theorem d_Fl_isLocked_0 : decode prog_4_method_5_code 0 = .ok (.aload_n 0, 1) := by decide +kernel
theorem d_Fl_isLocked_1 : decode prog_4_method_5_code 1 = .ok (.getfield 31, 3) := by decide +kernel
theorem d_Fl_isLocked_4 : decode prog_4_method_5_code 4 = .ok (.iload_n 1, 1) := by decide +kernel
theorem d_Fl_isLocked_5 : decode prog_4_method_5_code 5 = .ok (.iaload, 1) := by decide +kernel
theorem d_Fl_isLocked_6 : decode prog_4_method_5_code 6 = .ok (.iconst 1, 1) := by decide +kernel
theorem d_Fl_isLocked_7 : decode prog_4_method_5_code 7 = .ok (.if_icmp .ne 7, 3) := by decide +kernel
theorem d_Fl_isLocked_10 : decode prog_4_method_5_code 10 = .ok (.iconst 1, 1) := by decide +kernel
theorem d_Fl_isLocked_11 : decode prog_4_method_5_code 11 = .ok (.goto 4, 3) := by decide +kernel
theorem d_Fl_isLocked_14 : decode prog_4_method_5_code 14 = .ok (.iconst 0, 1) := by decide +kernel
theorem d_Fl_isLocked_15 : decode prog_4_method_5_code 15 = .ok (.ireturn, 1) := by decide +kernel
theorem d_CT_slotOf_0 : decode prog_1_method_26_code 0 = .ok (.iload_n 0, 1) := by decide +kernel
theorem d_CT_slotOf_1 : decode prog_1_method_26_code 1 = .ok (.iconst 4, 1) := by decide +kernel
theorem d_CT_slotOf_2 : decode prog_1_method_26_code 2 = .ok (.imul, 1) := by decide +kernel
theorem d_CT_slotOf_3 : decode prog_1_method_26_code 3 = .ok (.iload_n 1, 1) := by decide +kernel
theorem d_CT_slotOf_4 : decode prog_1_method_26_code 4 = .ok (.iadd, 1) := by decide +kernel
theorem d_CT_slotOf_5 : decode prog_1_method_26_code 5 = .ok (.ireturn, 1) := by decide +kernel
theorem d_CT_elementOf_0 : decode prog_1_method_27_code 0 = .ok (.iload_n 0, 1) := by decide +kernel
theorem d_CT_elementOf_1 : decode prog_1_method_27_code 1 = .ok (.iconst 4, 1) := by decide +kernel
theorem d_CT_elementOf_2 : decode prog_1_method_27_code 2 = .ok (.idiv, 1) := by decide +kernel
theorem d_CT_elementOf_3 : decode prog_1_method_27_code 3 = .ok (.ireturn, 1) := by decide +kernel
theorem d_CT_check_0 : decode prog_1_method_21_code 0 = .ok (.aload_n 0, 1) := by decide +kernel
theorem d_CT_check_1 : decode prog_1_method_21_code 1 = .ok (.iconst 0, 1) := by decide +kernel
theorem d_CT_check_2 : decode prog_1_method_21_code 2 = .ok (.putfield 49, 3) := by decide +kernel
theorem d_CT_check_5 : decode prog_1_method_21_code 5 = .ok (.iconst 4, 1) := by decide +kernel
theorem d_CT_check_6 : decode prog_1_method_21_code 6 = .ok (.bipush 24, 2) := by decide +kernel
theorem d_CT_check_8 : decode prog_1_method_21_code 8 = .ok (.aload_n 0, 1) := by decide +kernel
theorem d_CT_check_9 : decode prog_1_method_21_code 9 = .ok (.getfield 12, 3) := by decide +kernel
theorem d_CT_check_12 : decode prog_1_method_21_code 12 = .ok (.invokevirtual 212, 3) := by decide +kernel
theorem d_CT_check_15 : decode prog_1_method_21_code 15 = .ok (.iadd, 1) := by decide +kernel
theorem d_CT_check_16 : decode prog_1_method_21_code 16 = .ok (.imul, 1) := by decide +kernel
theorem d_CT_check_17 : decode prog_1_method_21_code 17 = .ok (.istore_n 1, 1) := by decide +kernel
theorem d_CT_check_18 : decode prog_1_method_21_code 18 = .ok (.iconst 0, 1) := by decide +kernel
theorem d_CT_check_19 : decode prog_1_method_21_code 19 = .ok (.istore_n 2, 1) := by decide +kernel
theorem d_CT_check_20 : decode prog_1_method_21_code 20 = .ok (.iload_n 2, 1) := by decide +kernel
theorem d_CT_check_21 : decode prog_1_method_21_code 21 = .ok (.aload_n 0, 1) := by decide +kernel
theorem d_CT_check_22 : decode prog_1_method_21_code 22 = .ok (.getfield 12, 3) := by decide +kernel
theorem d_CT_check_25 : decode prog_1_method_21_code 25 = .ok (.getfield 97, 3) := by decide +kernel
theorem d_CT_check_28 : decode prog_1_method_21_code 28 = .ok (.if_icmp .ge 62, 3) := by decide +kernel
theorem d_CT_check_31 : decode prog_1_method_21_code 31 = .ok (.aload_n 0, 1) := by decide +kernel
theorem d_CT_check_32 : decode prog_1_method_21_code 32 = .ok (.getfield 49, 3) := by decide +kernel
theorem d_CT_check_35 : decode prog_1_method_21_code 35 = .ok (.bipush 100, 2) := by decide +kernel
theorem d_CT_check_37 : decode prog_1_method_21_code 37 = .ok (.if_icmp .ge 53, 3) := by decide +kernel
theorem d_CT_check_40 : decode prog_1_method_21_code 40 = .ok (.aload_n 0, 1) := by decide +kernel
theorem d_CT_check_41 : decode prog_1_method_21_code 41 = .ok (.getfield 21, 3) := by decide +kernel
theorem d_CT_check_44 : decode prog_1_method_21_code 44 = .ok (.iload_n 2, 1) := by decide +kernel
theorem d_CT_check_45 : decode prog_1_method_21_code 45 = .ok (.invokevirtual 141, 3) := by decide +kernel
theorem d_CT_check_48 : decode prog_1_method_21_code 48 = .ok (.ifCond .eq 36, 3) := by decide +kernel
theorem d_CT_check_51 : decode prog_1_method_21_code 51 = .ok (.aload_n 0, 1) := by decide +kernel
theorem d_CT_check_52 : decode prog_1_method_21_code 52 = .ok (.getfield 25, 3) := by decide +kernel
theorem d_CT_check_55 : decode prog_1_method_21_code 55 = .ok (.aload_n 0, 1) := by decide +kernel
theorem d_CT_check_56 : decode prog_1_method_21_code 56 = .ok (.getfield 21, 3) := by decide +kernel
theorem d_CT_check_59 : decode prog_1_method_21_code 59 = .ok (.invokevirtual 216, 3) := by decide +kernel
theorem d_CT_check_62 : decode prog_1_method_21_code 62 = .ok (.aload_n 0, 1) := by decide +kernel
theorem d_CT_check_63 : decode prog_1_method_21_code 63 = .ok (.getfield 25, 3) := by decide +kernel
theorem d_CT_check_66 : decode prog_1_method_21_code 66 = .ok (.iload_n 2, 1) := by decide +kernel
theorem d_CT_check_67 : decode prog_1_method_21_code 67 = .ok (.iconst 1, 1) := by decide +kernel
theorem d_CT_check_68 : decode prog_1_method_21_code 68 = .ok (.invokevirtual 144, 3) := by decide +kernel
theorem d_CT_check_71 : decode prog_1_method_21_code 71 = .ok (.aload_n 0, 1) := by decide +kernel
theorem d_CT_check_72 : decode prog_1_method_21_code 72 = .ok (.getfield 25, 3) := by decide +kernel
theorem d_CT_check_75 : decode prog_1_method_21_code 75 = .ok (.iload_n 1, 1) := by decide +kernel
theorem d_CT_check_76 : decode prog_1_method_21_code 76 = .ok (.invokevirtual 219, 3) := by decide +kernel
theorem d_CT_check_79 : decode prog_1_method_21_code 79 = .ok (.aload_n 0, 1) := by decide +kernel
theorem d_CT_check_80 : decode prog_1_method_21_code 80 = .ok (.iload_n 2, 1) := by decide +kernel
theorem d_CT_check_81 : decode prog_1_method_21_code 81 = .ok (.invokevirtual 222, 3) := by decide +kernel
theorem d_CT_check_84 : decode prog_1_method_21_code 84 = .ok (.iinc 2 1, 3) := by decide +kernel
theorem d_CT_check_87 : decode prog_1_method_21_code 87 = .ok (.goto (-67), 3) := by decide +kernel
theorem d_CT_check_90 : decode prog_1_method_21_code 90 = .ok (.iconst 0, 1) := by decide +kernel
theorem d_CT_check_91 : decode prog_1_method_21_code 91 = .ok (.istore_n 2, 1) := by decide +kernel
theorem d_CT_check_92 : decode prog_1_method_21_code 92 = .ok (.iload_n 2, 1) := by decide +kernel
theorem d_CT_check_93 : decode prog_1_method_21_code 93 = .ok (.bipush 16, 2) := by decide +kernel
theorem d_CT_check_95 : decode prog_1_method_21_code 95 = .ok (.if_icmp .ge 65, 3) := by decide +kernel
theorem d_CT_check_98 : decode prog_1_method_21_code 98 = .ok (.aload_n 0, 1) := by decide +kernel
theorem d_CT_check_99 : decode prog_1_method_21_code 99 = .ok (.getfield 49, 3) := by decide +kernel
theorem d_CT_check_102 : decode prog_1_method_21_code 102 = .ok (.bipush 100, 2) := by decide +kernel
theorem d_CT_check_104 : decode prog_1_method_21_code 104 = .ok (.if_icmp .ge 56, 3) := by decide +kernel
theorem d_CT_check_107 : decode prog_1_method_21_code 107 = .ok (.aload_n 0, 1) := by decide +kernel
theorem d_CT_check_108 : decode prog_1_method_21_code 108 = .ok (.getfield 21, 3) := by decide +kernel
theorem d_CT_check_111 : decode prog_1_method_21_code 111 = .ok (.iload_n 2, 1) := by decide +kernel
theorem d_CT_check_112 : decode prog_1_method_21_code 112 = .ok (.invokevirtual 148, 3) := by decide +kernel
theorem d_CT_check_115 : decode prog_1_method_21_code 115 = .ok (.ifCond .eq 39, 3) := by decide +kernel
theorem d_CT_check_118 : decode prog_1_method_21_code 118 = .ok (.aload_n 0, 1) := by decide +kernel
theorem d_CT_check_119 : decode prog_1_method_21_code 119 = .ok (.getfield 25, 3) := by decide +kernel
theorem d_CT_check_122 : decode prog_1_method_21_code 122 = .ok (.aload_n 0, 1) := by decide +kernel
theorem d_CT_check_123 : decode prog_1_method_21_code 123 = .ok (.getfield 21, 3) := by decide +kernel
theorem d_CT_check_126 : decode prog_1_method_21_code 126 = .ok (.invokevirtual 216, 3) := by decide +kernel
theorem d_CT_check_129 : decode prog_1_method_21_code 129 = .ok (.aload_n 0, 1) := by decide +kernel
theorem d_CT_check_130 : decode prog_1_method_21_code 130 = .ok (.getfield 25, 3) := by decide +kernel
theorem d_CT_check_133 : decode prog_1_method_21_code 133 = .ok (.iload_n 2, 1) := by decide +kernel
theorem d_CT_check_134 : decode prog_1_method_21_code 134 = .ok (.iconst 1, 1) := by decide +kernel
theorem d_CT_check_135 : decode prog_1_method_21_code 135 = .ok (.invokevirtual 151, 3) := by decide +kernel
theorem d_CT_check_138 : decode prog_1_method_21_code 138 = .ok (.aload_n 0, 1) := by decide +kernel
theorem d_CT_check_139 : decode prog_1_method_21_code 139 = .ok (.getfield 25, 3) := by decide +kernel
theorem d_CT_check_142 : decode prog_1_method_21_code 142 = .ok (.iload_n 1, 1) := by decide +kernel
theorem d_CT_check_143 : decode prog_1_method_21_code 143 = .ok (.invokevirtual 219, 3) := by decide +kernel
theorem d_CT_check_146 : decode prog_1_method_21_code 146 = .ok (.aload_n 0, 1) := by decide +kernel
theorem d_CT_check_147 : decode prog_1_method_21_code 147 = .ok (.bipush 100, 2) := by decide +kernel
theorem d_CT_check_149 : decode prog_1_method_21_code 149 = .ok (.iload_n 2, 1) := by decide +kernel
theorem d_CT_check_150 : decode prog_1_method_21_code 150 = .ok (.iadd, 1) := by decide +kernel
theorem d_CT_check_151 : decode prog_1_method_21_code 151 = .ok (.invokevirtual 222, 3) := by decide +kernel
theorem d_CT_check_154 : decode prog_1_method_21_code 154 = .ok (.iinc 2 1, 3) := by decide +kernel
theorem d_CT_check_157 : decode prog_1_method_21_code 157 = .ok (.goto (-65), 3) := by decide +kernel
theorem d_CT_check_160 : decode prog_1_method_21_code 160 = .ok (.aload_n 0, 1) := by decide +kernel
theorem d_CT_check_161 : decode prog_1_method_21_code 161 = .ok (.getfield 49, 3) := by decide +kernel
theorem d_CT_check_164 : decode prog_1_method_21_code 164 = .ok (.ireturn, 1) := by decide +kernel
theorem d_Pl_longestRestore_0 : decode prog_5_method_8_code 0 = .ok (.iconst 0, 1) := by decide +kernel
theorem d_Pl_longestRestore_1 : decode prog_5_method_8_code 1 = .ok (.istore_n 1, 1) := by decide +kernel
theorem d_Pl_longestRestore_2 : decode prog_5_method_8_code 2 = .ok (.iconst 0, 1) := by decide +kernel
theorem d_Pl_longestRestore_3 : decode prog_5_method_8_code 3 = .ok (.istore_n 2, 1) := by decide +kernel
theorem d_Pl_longestRestore_4 : decode prog_5_method_8_code 4 = .ok (.iload_n 2, 1) := by decide +kernel
theorem d_Pl_longestRestore_5 : decode prog_5_method_8_code 5 = .ok (.bipush 16, 2) := by decide +kernel
theorem d_Pl_longestRestore_7 : decode prog_5_method_8_code 7 = .ok (.if_icmp .ge 20, 3) := by decide +kernel
theorem d_Pl_longestRestore_10 : decode prog_5_method_8_code 10 = .ok (.iload_n 1, 1) := by decide +kernel
theorem d_Pl_longestRestore_11 : decode prog_5_method_8_code 11 = .ok (.aload_n 0, 1) := by decide +kernel
theorem d_Pl_longestRestore_12 : decode prog_5_method_8_code 12 = .ok (.getfield 25, 3) := by decide +kernel
theorem d_Pl_longestRestore_15 : decode prog_5_method_8_code 15 = .ok (.iload_n 2, 1) := by decide +kernel
theorem d_Pl_longestRestore_16 : decode prog_5_method_8_code 16 = .ok (.iaload, 1) := by decide +kernel
theorem d_Pl_longestRestore_17 : decode prog_5_method_8_code 17 = .ok (.invokestatic 80, 3) := by decide +kernel
theorem d_Pl_longestRestore_20 : decode prog_5_method_8_code 20 = .ok (.istore_n 1, 1) := by decide +kernel
theorem d_Pl_longestRestore_21 : decode prog_5_method_8_code 21 = .ok (.iinc 2 1, 3) := by decide +kernel
theorem d_Pl_longestRestore_24 : decode prog_5_method_8_code 24 = .ok (.goto (-20), 3) := by decide +kernel
theorem d_Pl_longestRestore_27 : decode prog_5_method_8_code 27 = .ok (.iload_n 1, 1) := by decide +kernel
theorem d_Pl_longestRestore_28 : decode prog_5_method_8_code 28 = .ok (.ireturn, 1) := by decide +kernel
theorem d_Fl_isLinkWhole_0 : decode prog_4_method_4_code 0 = .ok (.aload_n 0, 1) := by decide +kernel
theorem d_Fl_isLinkWhole_1 : decode prog_4_method_4_code 1 = .ok (.getfield 50, 3) := by decide +kernel
theorem d_Fl_isLinkWhole_4 : decode prog_4_method_4_code 4 = .ok (.iload_n 1, 1) := by decide +kernel
theorem d_Fl_isLinkWhole_5 : decode prog_4_method_4_code 5 = .ok (.ishr, 1) := by decide +kernel
theorem d_Fl_isLinkWhole_6 : decode prog_4_method_4_code 6 = .ok (.iconst 1, 1) := by decide +kernel
theorem d_Fl_isLinkWhole_7 : decode prog_4_method_4_code 7 = .ok (.iand, 1) := by decide +kernel
theorem d_Fl_isLinkWhole_8 : decode prog_4_method_4_code 8 = .ok (.ifCond .ne 7, 3) := by decide +kernel
theorem d_Fl_isLinkWhole_11 : decode prog_4_method_4_code 11 = .ok (.iconst 1, 1) := by decide +kernel
theorem d_Fl_isLinkWhole_12 : decode prog_4_method_4_code 12 = .ok (.goto 4, 3) := by decide +kernel
theorem d_Fl_isLinkWhole_15 : decode prog_4_method_4_code 15 = .ok (.iconst 0, 1) := by decide +kernel
theorem d_Fl_isLinkWhole_16 : decode prog_4_method_4_code 16 = .ok (.ireturn, 1) := by decide +kernel
theorem d_Fl_copy_0 : decode prog_4_method_2_code 0 = .ok (.aload_n 0, 1) := by decide +kernel
theorem d_Fl_copy_1 : decode prog_4_method_2_code 1 = .ok (.getfield 12, 3) := by decide +kernel
theorem d_Fl_copy_4 : decode prog_4_method_2_code 4 = .ok (.aload_n 1, 1) := by decide +kernel
theorem d_Fl_copy_5 : decode prog_4_method_2_code 5 = .ok (.getfield 12, 3) := by decide +kernel
theorem d_Fl_copy_8 : decode prog_4_method_2_code 8 = .ok (.invokevirtual 71, 3) := by decide +kernel
theorem d_Fl_copy_11 : decode prog_4_method_2_code 11 = .ok (.aload_n 0, 1) := by decide +kernel
theorem d_Fl_copy_12 : decode prog_4_method_2_code 12 = .ok (.getfield 18, 3) := by decide +kernel
theorem d_Fl_copy_15 : decode prog_4_method_2_code 15 = .ok (.aload_n 1, 1) := by decide +kernel
theorem d_Fl_copy_16 : decode prog_4_method_2_code 16 = .ok (.getfield 18, 3) := by decide +kernel
theorem d_Fl_copy_19 : decode prog_4_method_2_code 19 = .ok (.invokevirtual 71, 3) := by decide +kernel
theorem d_Fl_copy_22 : decode prog_4_method_2_code 22 = .ok (.aload_n 1, 1) := by decide +kernel
theorem d_Fl_copy_23 : decode prog_4_method_2_code 23 = .ok (.getfield 24, 3) := by decide +kernel
theorem d_Fl_copy_26 : decode prog_4_method_2_code 26 = .ok (.iconst 0, 1) := by decide +kernel
theorem d_Fl_copy_27 : decode prog_4_method_2_code 27 = .ok (.aload_n 0, 1) := by decide +kernel
theorem d_Fl_copy_28 : decode prog_4_method_2_code 28 = .ok (.getfield 24, 3) := by decide +kernel
theorem d_Fl_copy_31 : decode prog_4_method_2_code 31 = .ok (.iconst 0, 1) := by decide +kernel
theorem d_Fl_copy_32 : decode prog_4_method_2_code 32 = .ok (.bipush 64, 2) := by decide +kernel
theorem d_Fl_copy_34 : decode prog_4_method_2_code 34 = .ok (.invokestatic 75, 3) := by decide +kernel
theorem d_Fl_copy_37 : decode prog_4_method_2_code 37 = .ok (.aload_n 1, 1) := by decide +kernel
theorem d_Fl_copy_38 : decode prog_4_method_2_code 38 = .ok (.getfield 28, 3) := by decide +kernel
theorem d_Fl_copy_41 : decode prog_4_method_2_code 41 = .ok (.iconst 0, 1) := by decide +kernel
theorem d_Fl_copy_42 : decode prog_4_method_2_code 42 = .ok (.aload_n 0, 1) := by decide +kernel
theorem d_Fl_copy_43 : decode prog_4_method_2_code 43 = .ok (.getfield 28, 3) := by decide +kernel
theorem d_Fl_copy_46 : decode prog_4_method_2_code 46 = .ok (.iconst 0, 1) := by decide +kernel
theorem d_Fl_copy_47 : decode prog_4_method_2_code 47 = .ok (.bipush 64, 2) := by decide +kernel
theorem d_Fl_copy_49 : decode prog_4_method_2_code 49 = .ok (.invokestatic 75, 3) := by decide +kernel
theorem d_Fl_copy_52 : decode prog_4_method_2_code 52 = .ok (.aload_n 1, 1) := by decide +kernel
theorem d_Fl_copy_53 : decode prog_4_method_2_code 53 = .ok (.getfield 31, 3) := by decide +kernel
theorem d_Fl_copy_56 : decode prog_4_method_2_code 56 = .ok (.iconst 0, 1) := by decide +kernel
theorem d_Fl_copy_57 : decode prog_4_method_2_code 57 = .ok (.aload_n 0, 1) := by decide +kernel
theorem d_Fl_copy_58 : decode prog_4_method_2_code 58 = .ok (.getfield 31, 3) := by decide +kernel
theorem d_Fl_copy_61 : decode prog_4_method_2_code 61 = .ok (.iconst 0, 1) := by decide +kernel
theorem d_Fl_copy_62 : decode prog_4_method_2_code 62 = .ok (.bipush 16, 2) := by decide +kernel
theorem d_Fl_copy_64 : decode prog_4_method_2_code 64 = .ok (.invokestatic 75, 3) := by decide +kernel
theorem d_Fl_copy_67 : decode prog_4_method_2_code 67 = .ok (.aload_n 1, 1) := by decide +kernel
theorem d_Fl_copy_68 : decode prog_4_method_2_code 68 = .ok (.getfield 34, 3) := by decide +kernel
theorem d_Fl_copy_71 : decode prog_4_method_2_code 71 = .ok (.iconst 0, 1) := by decide +kernel
theorem d_Fl_copy_72 : decode prog_4_method_2_code 72 = .ok (.aload_n 0, 1) := by decide +kernel
theorem d_Fl_copy_73 : decode prog_4_method_2_code 73 = .ok (.getfield 34, 3) := by decide +kernel
theorem d_Fl_copy_76 : decode prog_4_method_2_code 76 = .ok (.iconst 0, 1) := by decide +kernel
theorem d_Fl_copy_77 : decode prog_4_method_2_code 77 = .ok (.bipush 16, 2) := by decide +kernel
theorem d_Fl_copy_79 : decode prog_4_method_2_code 79 = .ok (.invokestatic 75, 3) := by decide +kernel
theorem d_Fl_copy_82 : decode prog_4_method_2_code 82 = .ok (.aload_n 1, 1) := by decide +kernel
theorem d_Fl_copy_83 : decode prog_4_method_2_code 83 = .ok (.getfield 37, 3) := by decide +kernel
theorem d_Fl_copy_86 : decode prog_4_method_2_code 86 = .ok (.iconst 0, 1) := by decide +kernel
theorem d_Fl_copy_87 : decode prog_4_method_2_code 87 = .ok (.aload_n 0, 1) := by decide +kernel
theorem d_Fl_copy_88 : decode prog_4_method_2_code 88 = .ok (.getfield 37, 3) := by decide +kernel
theorem d_Fl_copy_91 : decode prog_4_method_2_code 91 = .ok (.iconst 0, 1) := by decide +kernel
theorem d_Fl_copy_92 : decode prog_4_method_2_code 92 = .ok (.bipush 16, 2) := by decide +kernel
theorem d_Fl_copy_94 : decode prog_4_method_2_code 94 = .ok (.invokestatic 75, 3) := by decide +kernel
theorem d_Fl_copy_97 : decode prog_4_method_2_code 97 = .ok (.aload_n 1, 1) := by decide +kernel
theorem d_Fl_copy_98 : decode prog_4_method_2_code 98 = .ok (.getfield 40, 3) := by decide +kernel
theorem d_Fl_copy_101 : decode prog_4_method_2_code 101 = .ok (.iconst 0, 1) := by decide +kernel
theorem d_Fl_copy_102 : decode prog_4_method_2_code 102 = .ok (.aload_n 0, 1) := by decide +kernel
theorem d_Fl_copy_103 : decode prog_4_method_2_code 103 = .ok (.getfield 40, 3) := by decide +kernel
theorem d_Fl_copy_106 : decode prog_4_method_2_code 106 = .ok (.iconst 0, 1) := by decide +kernel
theorem d_Fl_copy_107 : decode prog_4_method_2_code 107 = .ok (.bipush 16, 2) := by decide +kernel
theorem d_Fl_copy_109 : decode prog_4_method_2_code 109 = .ok (.invokestatic 75, 3) := by decide +kernel
theorem d_Fl_copy_112 : decode prog_4_method_2_code 112 = .ok (.aload_n 0, 1) := by decide +kernel
theorem d_Fl_copy_113 : decode prog_4_method_2_code 113 = .ok (.aload_n 1, 1) := by decide +kernel
theorem d_Fl_copy_114 : decode prog_4_method_2_code 114 = .ok (.getfield 43, 3) := by decide +kernel
theorem d_Fl_copy_117 : decode prog_4_method_2_code 117 = .ok (.putfield 43, 3) := by decide +kernel
theorem d_Fl_copy_120 : decode prog_4_method_2_code 120 = .ok (.aload_n 0, 1) := by decide +kernel
theorem d_Fl_copy_121 : decode prog_4_method_2_code 121 = .ok (.aload_n 1, 1) := by decide +kernel
theorem d_Fl_copy_122 : decode prog_4_method_2_code 122 = .ok (.getfield 47, 3) := by decide +kernel
theorem d_Fl_copy_125 : decode prog_4_method_2_code 125 = .ok (.putfield 47, 3) := by decide +kernel
theorem d_Fl_copy_128 : decode prog_4_method_2_code 128 = .ok (.aload_n 0, 1) := by decide +kernel
theorem d_Fl_copy_129 : decode prog_4_method_2_code 129 = .ok (.aload_n 1, 1) := by decide +kernel
theorem d_Fl_copy_130 : decode prog_4_method_2_code 130 = .ok (.getfield 50, 3) := by decide +kernel
theorem d_Fl_copy_133 : decode prog_4_method_2_code 133 = .ok (.putfield 50, 3) := by decide +kernel
theorem d_Fl_copy_136 : decode prog_4_method_2_code 136 = .ok (.aload_n 0, 1) := by decide +kernel
theorem d_Fl_copy_137 : decode prog_4_method_2_code 137 = .ok (.aload_n 1, 1) := by decide +kernel
theorem d_Fl_copy_138 : decode prog_4_method_2_code 138 = .ok (.getfield 53, 3) := by decide +kernel
theorem d_Fl_copy_141 : decode prog_4_method_2_code 141 = .ok (.putfield 53, 3) := by decide +kernel
theorem d_Fl_copy_144 : decode prog_4_method_2_code 144 = .ok (.return_, 1) := by decide +kernel
theorem d_Wo_copy_0 : decode prog_6_method_4_code 0 = .ok (.aload_n 1, 1) := by decide +kernel
theorem d_Wo_copy_1 : decode prog_6_method_4_code 1 = .ok (.getfield 9, 3) := by decide +kernel
theorem d_Wo_copy_4 : decode prog_6_method_4_code 4 = .ok (.iconst 0, 1) := by decide +kernel
theorem d_Wo_copy_5 : decode prog_6_method_4_code 5 = .ok (.aload_n 0, 1) := by decide +kernel
theorem d_Wo_copy_6 : decode prog_6_method_4_code 6 = .ok (.getfield 9, 3) := by decide +kernel
theorem d_Wo_copy_9 : decode prog_6_method_4_code 9 = .ok (.iconst 0, 1) := by decide +kernel
theorem d_Wo_copy_10 : decode prog_6_method_4_code 10 = .ok (.bipush 64, 2) := by decide +kernel
theorem d_Wo_copy_12 : decode prog_6_method_4_code 12 = .ok (.invokestatic 27, 3) := by decide +kernel
theorem d_Wo_copy_15 : decode prog_6_method_4_code 15 = .ok (.aload_n 1, 1) := by decide +kernel
theorem d_Wo_copy_16 : decode prog_6_method_4_code 16 = .ok (.getfield 15, 3) := by decide +kernel
theorem d_Wo_copy_19 : decode prog_6_method_4_code 19 = .ok (.iconst 0, 1) := by decide +kernel
theorem d_Wo_copy_20 : decode prog_6_method_4_code 20 = .ok (.aload_n 0, 1) := by decide +kernel
theorem d_Wo_copy_21 : decode prog_6_method_4_code 21 = .ok (.getfield 15, 3) := by decide +kernel
theorem d_Wo_copy_24 : decode prog_6_method_4_code 24 = .ok (.iconst 0, 1) := by decide +kernel
theorem d_Wo_copy_25 : decode prog_6_method_4_code 25 = .ok (.bipush 64, 2) := by decide +kernel
theorem d_Wo_copy_27 : decode prog_6_method_4_code 27 = .ok (.invokestatic 27, 3) := by decide +kernel
theorem d_Wo_copy_30 : decode prog_6_method_4_code 30 = .ok (.aload_n 1, 1) := by decide +kernel
theorem d_Wo_copy_31 : decode prog_6_method_4_code 31 = .ok (.getfield 18, 3) := by decide +kernel
theorem d_Wo_copy_34 : decode prog_6_method_4_code 34 = .ok (.iconst 0, 1) := by decide +kernel
theorem d_Wo_copy_35 : decode prog_6_method_4_code 35 = .ok (.aload_n 0, 1) := by decide +kernel
theorem d_Wo_copy_36 : decode prog_6_method_4_code 36 = .ok (.getfield 18, 3) := by decide +kernel
theorem d_Wo_copy_39 : decode prog_6_method_4_code 39 = .ok (.iconst 0, 1) := by decide +kernel
theorem d_Wo_copy_40 : decode prog_6_method_4_code 40 = .ok (.bipush 64, 2) := by decide +kernel
theorem d_Wo_copy_42 : decode prog_6_method_4_code 42 = .ok (.invokestatic 27, 3) := by decide +kernel
theorem d_Wo_copy_45 : decode prog_6_method_4_code 45 = .ok (.return_, 1) := by decide +kernel
theorem d_Fl_setLinkFailed_0 : decode prog_4_method_7_code 0 = .ok (.aload_n 0, 1) := by decide +kernel
theorem d_Fl_setLinkFailed_1 : decode prog_4_method_7_code 1 = .ok (.iload_n 2, 1) := by decide +kernel
theorem d_Fl_setLinkFailed_2 : decode prog_4_method_7_code 2 = .ok (.ifCond .eq 14, 3) := by decide +kernel
theorem d_Fl_setLinkFailed_5 : decode prog_4_method_7_code 5 = .ok (.aload_n 0, 1) := by decide +kernel
theorem d_Fl_setLinkFailed_6 : decode prog_4_method_7_code 6 = .ok (.getfield 50, 3) := by decide +kernel
theorem d_Fl_setLinkFailed_9 : decode prog_4_method_7_code 9 = .ok (.iconst 1, 1) := by decide +kernel
theorem d_Fl_setLinkFailed_10 : decode prog_4_method_7_code 10 = .ok (.iload_n 1, 1) := by decide +kernel
theorem d_Fl_setLinkFailed_11 : decode prog_4_method_7_code 11 = .ok (.ishl, 1) := by decide +kernel
theorem d_Fl_setLinkFailed_12 : decode prog_4_method_7_code 12 = .ok (.ior, 1) := by decide +kernel
theorem d_Fl_setLinkFailed_13 : decode prog_4_method_7_code 13 = .ok (.goto 13, 3) := by decide +kernel
theorem d_Fl_setLinkFailed_16 : decode prog_4_method_7_code 16 = .ok (.aload_n 0, 1) := by decide +kernel
theorem d_Fl_setLinkFailed_17 : decode prog_4_method_7_code 17 = .ok (.getfield 50, 3) := by decide +kernel
theorem d_Fl_setLinkFailed_20 : decode prog_4_method_7_code 20 = .ok (.iconst 1, 1) := by decide +kernel
theorem d_Fl_setLinkFailed_21 : decode prog_4_method_7_code 21 = .ok (.iload_n 1, 1) := by decide +kernel
theorem d_Fl_setLinkFailed_22 : decode prog_4_method_7_code 22 = .ok (.ishl, 1) := by decide +kernel
theorem d_Fl_setLinkFailed_23 : decode prog_4_method_7_code 23 = .ok (.iconst (-1), 1) := by decide +kernel
theorem d_Fl_setLinkFailed_24 : decode prog_4_method_7_code 24 = .ok (.ixor, 1) := by decide +kernel
theorem d_Fl_setLinkFailed_25 : decode prog_4_method_7_code 25 = .ok (.iand, 1) := by decide +kernel
theorem d_Fl_setLinkFailed_26 : decode prog_4_method_7_code 26 = .ok (.putfield 50, 3) := by decide +kernel
theorem d_Fl_setLinkFailed_29 : decode prog_4_method_7_code 29 = .ok (.return_, 1) := by decide +kernel
theorem d_Fl_passRounds_0 : decode prog_4_method_11_code 0 = .ok (.iconst 0, 1) := by decide +kernel
theorem d_Fl_passRounds_1 : decode prog_4_method_11_code 1 = .ok (.istore_n 2, 1) := by decide +kernel
theorem d_Fl_passRounds_2 : decode prog_4_method_11_code 2 = .ok (.iload_n 2, 1) := by decide +kernel
theorem d_Fl_passRounds_3 : decode prog_4_method_11_code 3 = .ok (.iload_n 1, 1) := by decide +kernel
theorem d_Fl_passRounds_4 : decode prog_4_method_11_code 4 = .ok (.if_icmp .ge 25, 3) := by decide +kernel
theorem d_Fl_passRounds_7 : decode prog_4_method_11_code 7 = .ok (.iload_n 2, 1) := by decide +kernel
theorem d_Fl_passRounds_8 : decode prog_4_method_11_code 8 = .ok (.iconst 2, 1) := by decide +kernel
theorem d_Fl_passRounds_9 : decode prog_4_method_11_code 9 = .ok (.if_icmp .lt 10, 3) := by decide +kernel
theorem d_Fl_passRounds_12 : decode prog_4_method_11_code 12 = .ok (.aload_n 0, 1) := by decide +kernel
theorem d_Fl_passRounds_13 : decode prog_4_method_11_code 13 = .ok (.getfield 57, 3) := by decide +kernel
theorem d_Fl_passRounds_16 : decode prog_4_method_11_code 16 = .ok (.ifCond .eq 13, 3) := by decide +kernel
theorem d_Fl_passRounds_19 : decode prog_4_method_11_code 19 = .ok (.aload_n 0, 1) := by decide +kernel
theorem d_Fl_passRounds_20 : decode prog_4_method_11_code 20 = .ok (.invokevirtual 99, 3) := by decide +kernel
theorem d_Fl_passRounds_23 : decode prog_4_method_11_code 23 = .ok (.iinc 2 1, 3) := by decide +kernel
theorem d_Fl_passRounds_26 : decode prog_4_method_11_code 26 = .ok (.goto (-24), 3) := by decide +kernel
theorem d_Fl_passRounds_29 : decode prog_4_method_11_code 29 = .ok (.return_, 1) := by decide +kernel
theorem d_Fl_passRound_0 : decode prog_4_method_12_code 0 = .ok (.aload_n 0, 1) := by decide +kernel
theorem d_Fl_passRound_1 : decode prog_4_method_12_code 1 = .ok (.iconst 0, 1) := by decide +kernel
theorem d_Fl_passRound_2 : decode prog_4_method_12_code 2 = .ok (.putfield 57, 3) := by decide +kernel
theorem d_Fl_passRound_5 : decode prog_4_method_12_code 5 = .ok (.iconst 0, 1) := by decide +kernel
theorem d_Fl_passRound_6 : decode prog_4_method_12_code 6 = .ok (.istore_n 1, 1) := by decide +kernel
theorem d_Fl_passRound_7 : decode prog_4_method_12_code 7 = .ok (.iload_n 1, 1) := by decide +kernel
theorem d_Fl_passRound_8 : decode prog_4_method_12_code 8 = .ok (.bipush 16, 2) := by decide +kernel
theorem d_Fl_passRound_10 : decode prog_4_method_12_code 10 = .ok (.if_icmp .ge 22, 3) := by decide +kernel
theorem d_Fl_passRound_13 : decode prog_4_method_12_code 13 = .ok (.aload_n 0, 1) := by decide +kernel
theorem d_Fl_passRound_14 : decode prog_4_method_12_code 14 = .ok (.iload_n 1, 1) := by decide +kernel
theorem d_Fl_passRound_15 : decode prog_4_method_12_code 15 = .ok (.invokevirtual 102, 3) := by decide +kernel
theorem d_Fl_passRound_18 : decode prog_4_method_12_code 18 = .ok (.ifCond .eq 8, 3) := by decide +kernel
theorem d_Fl_passRound_21 : decode prog_4_method_12_code 21 = .ok (.aload_n 0, 1) := by decide +kernel
theorem d_Fl_passRound_22 : decode prog_4_method_12_code 22 = .ok (.iload_n 1, 1) := by decide +kernel
theorem d_Fl_passRound_23 : decode prog_4_method_12_code 23 = .ok (.invokevirtual 106, 3) := by decide +kernel
theorem d_Fl_passRound_26 : decode prog_4_method_12_code 26 = .ok (.iinc 1 1, 3) := by decide +kernel
theorem d_Fl_passRound_29 : decode prog_4_method_12_code 29 = .ok (.goto (-22), 3) := by decide +kernel
theorem d_Fl_passRound_32 : decode prog_4_method_12_code 32 = .ok (.aload_n 0, 1) := by decide +kernel
theorem d_Fl_passRound_33 : decode prog_4_method_12_code 33 = .ok (.lconst 0, 1) := by decide +kernel
theorem d_Fl_passRound_34 : decode prog_4_method_12_code 34 = .ok (.putfield 53, 3) := by decide +kernel
theorem d_Fl_passRound_37 : decode prog_4_method_12_code 37 = .ok (.iconst 0, 1) := by decide +kernel
theorem d_Fl_passRound_38 : decode prog_4_method_12_code 38 = .ok (.istore_n 1, 1) := by decide +kernel
theorem d_Fl_passRound_39 : decode prog_4_method_12_code 39 = .ok (.iload_n 1, 1) := by decide +kernel
theorem d_Fl_passRound_40 : decode prog_4_method_12_code 40 = .ok (.bipush 16, 2) := by decide +kernel
theorem d_Fl_passRound_42 : decode prog_4_method_12_code 42 = .ok (.if_icmp .ge 27, 3) := by decide +kernel
theorem d_Fl_passRound_45 : decode prog_4_method_12_code 45 = .ok (.aload_n 0, 1) := by decide +kernel
theorem d_Fl_passRound_46 : decode prog_4_method_12_code 46 = .ok (.iload_n 1, 1) := by decide +kernel
theorem d_Fl_passRound_47 : decode prog_4_method_12_code 47 = .ok (.invokevirtual 102, 3) := by decide +kernel
theorem d_Fl_passRound_50 : decode prog_4_method_12_code 50 = .ok (.ifCond .eq 13, 3) := by decide +kernel
theorem d_Fl_passRound_53 : decode prog_4_method_12_code 53 = .ok (.aload_n 0, 1) := by decide +kernel
theorem d_Fl_passRound_54 : decode prog_4_method_12_code 54 = .ok (.iload_n 1, 1) := by decide +kernel
theorem d_Fl_passRound_55 : decode prog_4_method_12_code 55 = .ok (.invokevirtual 109, 3) := by decide +kernel
theorem d_Fl_passRound_58 : decode prog_4_method_12_code 58 = .ok (.aload_n 0, 1) := by decide +kernel
theorem d_Fl_passRound_59 : decode prog_4_method_12_code 59 = .ok (.iload_n 1, 1) := by decide +kernel
theorem d_Fl_passRound_60 : decode prog_4_method_12_code 60 = .ok (.invokevirtual 112, 3) := by decide +kernel
theorem d_Fl_passRound_63 : decode prog_4_method_12_code 63 = .ok (.iinc 1 1, 3) := by decide +kernel
theorem d_Fl_passRound_66 : decode prog_4_method_12_code 66 = .ok (.goto (-27), 3) := by decide +kernel
theorem d_Fl_passRound_69 : decode prog_4_method_12_code 69 = .ok (.return_, 1) := by decide +kernel
theorem d_Fl_listen_0 : decode prog_4_method_13_code 0 = .ok (.iconst 0, 1) := by decide +kernel
theorem d_Fl_listen_1 : decode prog_4_method_13_code 1 = .ok (.istore_n 2, 1) := by decide +kernel
theorem d_Fl_listen_2 : decode prog_4_method_13_code 2 = .ok (.iload_n 2, 1) := by decide +kernel
theorem d_Fl_listen_3 : decode prog_4_method_13_code 3 = .ok (.iconst 4, 1) := by decide +kernel
theorem d_Fl_listen_4 : decode prog_4_method_13_code 4 = .ok (.if_icmp .ge 44, 3) := by decide +kernel
theorem d_Fl_listen_7 : decode prog_4_method_13_code 7 = .ok (.iload_n 1, 1) := by decide +kernel
theorem d_Fl_listen_8 : decode prog_4_method_13_code 8 = .ok (.iload_n 2, 1) := by decide +kernel
theorem d_Fl_listen_9 : decode prog_4_method_13_code 9 = .ok (.invokestatic 91, 3) := by decide +kernel
theorem d_Fl_listen_12 : decode prog_4_method_13_code 12 = .ok (.istore_n 3, 1) := by decide +kernel
theorem d_Fl_listen_13 : decode prog_4_method_13_code 13 = .ok (.aload_n 0, 1) := by decide +kernel
theorem d_Fl_listen_14 : decode prog_4_method_13_code 14 = .ok (.getfield 61, 3) := by decide +kernel
theorem d_Fl_listen_17 : decode prog_4_method_13_code 17 = .ok (.getfield 115, 3) := by decide +kernel
theorem d_Fl_listen_20 : decode prog_4_method_13_code 20 = .ok (.iload_n 3, 1) := by decide +kernel
theorem d_Fl_listen_21 : decode prog_4_method_13_code 21 = .ok (.iaload, 1) := by decide +kernel
theorem d_Fl_listen_22 : decode prog_4_method_13_code 22 = .ok (.iconst (-1), 1) := by decide +kernel
theorem d_Fl_listen_23 : decode prog_4_method_13_code 23 = .ok (.if_icmp .eq 8, 3) := by decide +kernel
theorem d_Fl_listen_26 : decode prog_4_method_13_code 26 = .ok (.aload_n 0, 1) := by decide +kernel
theorem d_Fl_listen_27 : decode prog_4_method_13_code 27 = .ok (.iload_n 3, 1) := by decide +kernel
theorem d_Fl_listen_28 : decode prog_4_method_13_code 28 = .ok (.invokevirtual 118, 3) := by decide +kernel
theorem d_Fl_listen_31 : decode prog_4_method_13_code 31 = .ok (.aload_n 0, 1) := by decide +kernel
theorem d_Fl_listen_32 : decode prog_4_method_13_code 32 = .ok (.iload_n 3, 1) := by decide +kernel
theorem d_Fl_listen_33 : decode prog_4_method_13_code 33 = .ok (.invokevirtual 121, 3) := by decide +kernel
theorem d_Fl_listen_36 : decode prog_4_method_13_code 36 = .ok (.aload_n 0, 1) := by decide +kernel
theorem d_Fl_listen_37 : decode prog_4_method_13_code 37 = .ok (.iload_n 1, 1) := by decide +kernel
theorem d_Fl_listen_38 : decode prog_4_method_13_code 38 = .ok (.iload_n 3, 1) := by decide +kernel
theorem d_Fl_listen_39 : decode prog_4_method_13_code 39 = .ok (.invokevirtual 124, 3) := by decide +kernel
theorem d_Fl_listen_42 : decode prog_4_method_13_code 42 = .ok (.iinc 2 1, 3) := by decide +kernel
theorem d_Fl_listen_45 : decode prog_4_method_13_code 45 = .ok (.goto (-43), 3) := by decide +kernel
theorem d_Fl_listen_48 : decode prog_4_method_13_code 48 = .ok (.return_, 1) := by decide +kernel
theorem d_Fl_hear_0 : decode prog_4_method_14_code 0 = .ok (.aload_n 0, 1) := by decide +kernel
theorem d_Fl_hear_1 : decode prog_4_method_14_code 1 = .ok (.getfield 61, 3) := by decide +kernel
theorem d_Fl_hear_4 : decode prog_4_method_14_code 4 = .ok (.getfield 128, 3) := by decide +kernel
theorem d_Fl_hear_7 : decode prog_4_method_14_code 7 = .ok (.iload_n 1, 1) := by decide +kernel
theorem d_Fl_hear_8 : decode prog_4_method_14_code 8 = .ok (.iaload, 1) := by decide +kernel
theorem d_Fl_hear_9 : decode prog_4_method_14_code 9 = .ok (.istore_n 2, 1) := by decide +kernel
theorem d_Fl_hear_10 : decode prog_4_method_14_code 10 = .ok (.aload_n 0, 1) := by decide +kernel
theorem d_Fl_hear_11 : decode prog_4_method_14_code 11 = .ok (.getfield 24, 3) := by decide +kernel
theorem d_Fl_hear_14 : decode prog_4_method_14_code 14 = .ok (.iload_n 1, 1) := by decide +kernel
theorem d_Fl_hear_15 : decode prog_4_method_14_code 15 = .ok (.iaload, 1) := by decide +kernel
theorem d_Fl_hear_16 : decode prog_4_method_14_code 16 = .ok (.iconst 1, 1) := by decide +kernel
theorem d_Fl_hear_17 : decode prog_4_method_14_code 17 = .ok (.iadd, 1) := by decide +kernel
theorem d_Fl_hear_18 : decode prog_4_method_14_code 18 = .ok (.iconst 3, 1) := by decide +kernel
theorem d_Fl_hear_19 : decode prog_4_method_14_code 19 = .ok (.invokestatic 131, 3) := by decide +kernel
theorem d_Fl_hear_22 : decode prog_4_method_14_code 22 = .ok (.istore_n 3, 1) := by decide +kernel
theorem d_Fl_hear_23 : decode prog_4_method_14_code 23 = .ok (.aload_n 0, 1) := by decide +kernel
theorem d_Fl_hear_24 : decode prog_4_method_14_code 24 = .ok (.iload_n 1, 1) := by decide +kernel
theorem d_Fl_hear_25 : decode prog_4_method_14_code 25 = .ok (.iload_n 2, 1) := by decide +kernel
theorem d_Fl_hear_26 : decode prog_4_method_14_code 26 = .ok (.invokevirtual 136, 3) := by decide +kernel
theorem d_Fl_hear_29 : decode prog_4_method_14_code 29 = .ok (.ifCond .eq 72, 3) := by decide +kernel
theorem d_Fl_hear_32 : decode prog_4_method_14_code 32 = .ok (.aload_n 0, 1) := by decide +kernel
theorem d_Fl_hear_33 : decode prog_4_method_14_code 33 = .ok (.aload_n 0, 1) := by decide +kernel
theorem d_Fl_hear_34 : decode prog_4_method_14_code 34 = .ok (.getfield 57, 3) := by decide +kernel
theorem d_Fl_hear_37 : decode prog_4_method_14_code 37 = .ok (.ifCond .ne 19, 3) := by decide +kernel
theorem d_Fl_hear_40 : decode prog_4_method_14_code 40 = .ok (.aload_n 0, 1) := by decide +kernel
theorem d_Fl_hear_41 : decode prog_4_method_14_code 41 = .ok (.getfield 12, 3) := by decide +kernel
theorem d_Fl_hear_44 : decode prog_4_method_14_code 44 = .ok (.iload_n 1, 1) := by decide +kernel
theorem d_Fl_hear_45 : decode prog_4_method_14_code 45 = .ok (.aload_n 0, 1) := by decide +kernel
theorem d_Fl_hear_46 : decode prog_4_method_14_code 46 = .ok (.getfield 18, 3) := by decide +kernel
theorem d_Fl_hear_49 : decode prog_4_method_14_code 49 = .ok (.iload_n 2, 1) := by decide +kernel
theorem d_Fl_hear_50 : decode prog_4_method_14_code 50 = .ok (.invokevirtual 140, 3) := by decide +kernel
theorem d_Fl_hear_53 : decode prog_4_method_14_code 53 = .ok (.ifCond .ne 7, 3) := by decide +kernel
theorem d_Fl_hear_56 : decode prog_4_method_14_code 56 = .ok (.iconst 1, 1) := by decide +kernel
theorem d_Fl_hear_57 : decode prog_4_method_14_code 57 = .ok (.goto 4, 3) := by decide +kernel
theorem d_Fl_hear_60 : decode prog_4_method_14_code 60 = .ok (.iconst 0, 1) := by decide +kernel
theorem d_Fl_hear_61 : decode prog_4_method_14_code 61 = .ok (.putfield 57, 3) := by decide +kernel
theorem d_Fl_hear_64 : decode prog_4_method_14_code 64 = .ok (.aload_n 0, 1) := by decide +kernel
theorem d_Fl_hear_65 : decode prog_4_method_14_code 65 = .ok (.getfield 12, 3) := by decide +kernel
theorem d_Fl_hear_68 : decode prog_4_method_14_code 68 = .ok (.iload_n 1, 1) := by decide +kernel
theorem d_Fl_hear_69 : decode prog_4_method_14_code 69 = .ok (.aload_n 0, 1) := by decide +kernel
theorem d_Fl_hear_70 : decode prog_4_method_14_code 70 = .ok (.getfield 18, 3) := by decide +kernel
theorem d_Fl_hear_73 : decode prog_4_method_14_code 73 = .ok (.getfield 144, 3) := by decide +kernel
theorem d_Fl_hear_76 : decode prog_4_method_14_code 76 = .ok (.iload_n 2, 1) := by decide +kernel
theorem d_Fl_hear_77 : decode prog_4_method_14_code 77 = .ok (.iaload, 1) := by decide +kernel
theorem d_Fl_hear_78 : decode prog_4_method_14_code 78 = .ok (.aload_n 0, 1) := by decide +kernel
theorem d_Fl_hear_79 : decode prog_4_method_14_code 79 = .ok (.getfield 18, 3) := by decide +kernel
theorem d_Fl_hear_82 : decode prog_4_method_14_code 82 = .ok (.getfield 145, 3) := by decide +kernel
theorem d_Fl_hear_85 : decode prog_4_method_14_code 85 = .ok (.iload_n 2, 1) := by decide +kernel
theorem d_Fl_hear_86 : decode prog_4_method_14_code 86 = .ok (.iaload, 1) := by decide +kernel
theorem d_Fl_hear_87 : decode prog_4_method_14_code 87 = .ok (.aload_n 0, 1) := by decide +kernel
theorem d_Fl_hear_88 : decode prog_4_method_14_code 88 = .ok (.getfield 18, 3) := by decide +kernel
theorem d_Fl_hear_91 : decode prog_4_method_14_code 91 = .ok (.getfield 146, 3) := by decide +kernel
theorem d_Fl_hear_94 : decode prog_4_method_14_code 94 = .ok (.iload_n 2, 1) := by decide +kernel
theorem d_Fl_hear_95 : decode prog_4_method_14_code 95 = .ok (.iaload, 1) := by decide +kernel
theorem d_Fl_hear_96 : decode prog_4_method_14_code 96 = .ok (.invokevirtual 95, 3) := by decide +kernel
theorem d_Fl_hear_99 : decode prog_4_method_14_code 99 = .ok (.iconst 0, 1) := by decide +kernel
theorem d_Fl_hear_100 : decode prog_4_method_14_code 100 = .ok (.istore_n 3, 1) := by decide +kernel
theorem d_Fl_hear_101 : decode prog_4_method_14_code 101 = .ok (.aload_n 0, 1) := by decide +kernel
theorem d_Fl_hear_102 : decode prog_4_method_14_code 102 = .ok (.aload_n 0, 1) := by decide +kernel
theorem d_Fl_hear_103 : decode prog_4_method_14_code 103 = .ok (.getfield 57, 3) := by decide +kernel
theorem d_Fl_hear_106 : decode prog_4_method_14_code 106 = .ok (.ifCond .ne 13, 3) := by decide +kernel
theorem d_Fl_hear_109 : decode prog_4_method_14_code 109 = .ok (.iload_n 3, 1) := by decide +kernel
theorem d_Fl_hear_110 : decode prog_4_method_14_code 110 = .ok (.aload_n 0, 1) := by decide +kernel
theorem d_Fl_hear_111 : decode prog_4_method_14_code 111 = .ok (.getfield 24, 3) := by decide +kernel
theorem d_Fl_hear_114 : decode prog_4_method_14_code 114 = .ok (.iload_n 1, 1) := by decide +kernel
theorem d_Fl_hear_115 : decode prog_4_method_14_code 115 = .ok (.iaload, 1) := by decide +kernel
theorem d_Fl_hear_116 : decode prog_4_method_14_code 116 = .ok (.if_icmp .eq 7, 3) := by decide +kernel
theorem d_Fl_hear_119 : decode prog_4_method_14_code 119 = .ok (.iconst 1, 1) := by decide +kernel
theorem d_Fl_hear_120 : decode prog_4_method_14_code 120 = .ok (.goto 4, 3) := by decide +kernel
theorem d_Fl_hear_123 : decode prog_4_method_14_code 123 = .ok (.iconst 0, 1) := by decide +kernel
theorem d_Fl_hear_124 : decode prog_4_method_14_code 124 = .ok (.putfield 57, 3) := by decide +kernel
theorem d_Fl_hear_127 : decode prog_4_method_14_code 127 = .ok (.aload_n 0, 1) := by decide +kernel
theorem d_Fl_hear_128 : decode prog_4_method_14_code 128 = .ok (.getfield 24, 3) := by decide +kernel
theorem d_Fl_hear_131 : decode prog_4_method_14_code 131 = .ok (.iload_n 1, 1) := by decide +kernel
theorem d_Fl_hear_132 : decode prog_4_method_14_code 132 = .ok (.iload_n 3, 1) := by decide +kernel
theorem d_Fl_hear_133 : decode prog_4_method_14_code 133 = .ok (.iastore, 1) := by decide +kernel
theorem d_Fl_hear_134 : decode prog_4_method_14_code 134 = .ok (.return_, 1) := by decide +kernel
theorem d_Fl_comes_0 : decode prog_4_method_15_code 0 = .ok (.aload_n 0, 1) := by decide +kernel
theorem d_Fl_comes_1 : decode prog_4_method_15_code 1 = .ok (.aload_n 0, 1) := by decide +kernel
theorem d_Fl_comes_2 : decode prog_4_method_15_code 2 = .ok (.getfield 61, 3) := by decide +kernel
theorem d_Fl_comes_5 : decode prog_4_method_15_code 5 = .ok (.getfield 115, 3) := by decide +kernel
theorem d_Fl_comes_8 : decode prog_4_method_15_code 8 = .ok (.iload_n 1, 1) := by decide +kernel
theorem d_Fl_comes_9 : decode prog_4_method_15_code 9 = .ok (.iaload, 1) := by decide +kernel
theorem d_Fl_comes_10 : decode prog_4_method_15_code 10 = .ok (.invokevirtual 149, 3) := by decide +kernel
theorem d_Fl_comes_13 : decode prog_4_method_15_code 13 = .ok (.ifCond .eq 44, 3) := by decide +kernel
theorem d_Fl_comes_16 : decode prog_4_method_15_code 16 = .ok (.aload_n 0, 1) := by decide +kernel
theorem d_Fl_comes_17 : decode prog_4_method_15_code 17 = .ok (.iload_n 2, 1) := by decide +kernel
theorem d_Fl_comes_18 : decode prog_4_method_15_code 18 = .ok (.invokestatic 152, 3) := by decide +kernel
theorem d_Fl_comes_21 : decode prog_4_method_15_code 21 = .ok (.invokevirtual 102, 3) := by decide +kernel
theorem d_Fl_comes_24 : decode prog_4_method_15_code 24 = .ok (.ifCond .eq 33, 3) := by decide +kernel
theorem d_Fl_comes_27 : decode prog_4_method_15_code 27 = .ok (.aload_n 0, 1) := by decide +kernel
theorem d_Fl_comes_28 : decode prog_4_method_15_code 28 = .ok (.getfield 18, 3) := by decide +kernel
theorem d_Fl_comes_31 : decode prog_4_method_15_code 31 = .ok (.getfield 144, 3) := by decide +kernel
theorem d_Fl_comes_34 : decode prog_4_method_15_code 34 = .ok (.iload_n 2, 1) := by decide +kernel
theorem d_Fl_comes_35 : decode prog_4_method_15_code 35 = .ok (.iaload, 1) := by decide +kernel
theorem d_Fl_comes_36 : decode prog_4_method_15_code 36 = .ok (.iconst (-1), 1) := by decide +kernel
theorem d_Fl_comes_37 : decode prog_4_method_15_code 37 = .ok (.if_icmp .eq 20, 3) := by decide +kernel
theorem d_Fl_comes_40 : decode prog_4_method_15_code 40 = .ok (.aload_n 0, 1) := by decide +kernel
theorem d_Fl_comes_41 : decode prog_4_method_15_code 41 = .ok (.getfield 53, 3) := by decide +kernel
theorem d_Fl_comes_44 : decode prog_4_method_15_code 44 = .ok (.iload_n 2, 1) := by decide +kernel
theorem d_Fl_comes_45 : decode prog_4_method_15_code 45 = .ok (.lshr, 1) := by decide +kernel
theorem d_Fl_comes_46 : decode prog_4_method_15_code 46 = .ok (.lconst 1, 1) := by decide +kernel
theorem d_Fl_comes_47 : decode prog_4_method_15_code 47 = .ok (.land, 1) := by decide +kernel
theorem d_Fl_comes_48 : decode prog_4_method_15_code 48 = .ok (.lconst 0, 1) := by decide +kernel
theorem d_Fl_comes_49 : decode prog_4_method_15_code 49 = .ok (.lcmp, 1) := by decide +kernel
theorem d_Fl_comes_50 : decode prog_4_method_15_code 50 = .ok (.ifCond .ne 7, 3) := by decide +kernel
theorem d_Fl_comes_53 : decode prog_4_method_15_code 53 = .ok (.iconst 1, 1) := by decide +kernel
theorem d_Fl_comes_54 : decode prog_4_method_15_code 54 = .ok (.goto 4, 3) := by decide +kernel
theorem d_Fl_comes_57 : decode prog_4_method_15_code 57 = .ok (.iconst 0, 1) := by decide +kernel
theorem d_Fl_comes_58 : decode prog_4_method_15_code 58 = .ok (.ireturn, 1) := by decide +kernel
theorem d_Wo_isSame_0 : decode prog_6_method_3_code 0 = .ok (.aload_n 0, 1) := by decide +kernel
theorem d_Wo_isSame_1 : decode prog_6_method_3_code 1 = .ok (.getfield 9, 3) := by decide +kernel
theorem d_Wo_isSame_4 : decode prog_6_method_3_code 4 = .ok (.iload_n 1, 1) := by decide +kernel
theorem d_Wo_isSame_5 : decode prog_6_method_3_code 5 = .ok (.iaload, 1) := by decide +kernel
theorem d_Wo_isSame_6 : decode prog_6_method_3_code 6 = .ok (.aload_n 2, 1) := by decide +kernel
theorem d_Wo_isSame_7 : decode prog_6_method_3_code 7 = .ok (.getfield 9, 3) := by decide +kernel
theorem d_Wo_isSame_10 : decode prog_6_method_3_code 10 = .ok (.iload_n 3, 1) := by decide +kernel
theorem d_Wo_isSame_11 : decode prog_6_method_3_code 11 = .ok (.iaload, 1) := by decide +kernel
theorem d_Wo_isSame_12 : decode prog_6_method_3_code 12 = .ok (.if_icmp .ne 37, 3) := by decide +kernel
theorem d_Wo_isSame_15 : decode prog_6_method_3_code 15 = .ok (.aload_n 0, 1) := by decide +kernel
theorem d_Wo_isSame_16 : decode prog_6_method_3_code 16 = .ok (.getfield 15, 3) := by decide +kernel
theorem d_Wo_isSame_19 : decode prog_6_method_3_code 19 = .ok (.iload_n 1, 1) := by decide +kernel
theorem d_Wo_isSame_20 : decode prog_6_method_3_code 20 = .ok (.iaload, 1) := by decide +kernel
theorem d_Wo_isSame_21 : decode prog_6_method_3_code 21 = .ok (.aload_n 2, 1) := by decide +kernel
theorem d_Wo_isSame_22 : decode prog_6_method_3_code 22 = .ok (.getfield 15, 3) := by decide +kernel
theorem d_Wo_isSame_25 : decode prog_6_method_3_code 25 = .ok (.iload_n 3, 1) := by decide +kernel
theorem d_Wo_isSame_26 : decode prog_6_method_3_code 26 = .ok (.iaload, 1) := by decide +kernel
theorem d_Wo_isSame_27 : decode prog_6_method_3_code 27 = .ok (.if_icmp .ne 22, 3) := by decide +kernel
theorem d_Wo_isSame_30 : decode prog_6_method_3_code 30 = .ok (.aload_n 0, 1) := by decide +kernel
theorem d_Wo_isSame_31 : decode prog_6_method_3_code 31 = .ok (.getfield 18, 3) := by decide +kernel
theorem d_Wo_isSame_34 : decode prog_6_method_3_code 34 = .ok (.iload_n 1, 1) := by decide +kernel
theorem d_Wo_isSame_35 : decode prog_6_method_3_code 35 = .ok (.iaload, 1) := by decide +kernel
theorem d_Wo_isSame_36 : decode prog_6_method_3_code 36 = .ok (.aload_n 2, 1) := by decide +kernel
theorem d_Wo_isSame_37 : decode prog_6_method_3_code 37 = .ok (.getfield 18, 3) := by decide +kernel
theorem d_Wo_isSame_40 : decode prog_6_method_3_code 40 = .ok (.iload_n 3, 1) := by decide +kernel
theorem d_Wo_isSame_41 : decode prog_6_method_3_code 41 = .ok (.iaload, 1) := by decide +kernel
theorem d_Wo_isSame_42 : decode prog_6_method_3_code 42 = .ok (.if_icmp .ne 7, 3) := by decide +kernel
theorem d_Wo_isSame_45 : decode prog_6_method_3_code 45 = .ok (.iconst 1, 1) := by decide +kernel
theorem d_Wo_isSame_46 : decode prog_6_method_3_code 46 = .ok (.goto 4, 3) := by decide +kernel
theorem d_Wo_isSame_49 : decode prog_6_method_3_code 49 = .ok (.iconst 0, 1) := by decide +kernel
theorem d_Wo_isSame_50 : decode prog_6_method_3_code 50 = .ok (.ireturn, 1) := by decide +kernel
theorem d_Wo_write_0 : decode prog_6_method_2_code 0 = .ok (.aload_n 0, 1) := by decide +kernel
theorem d_Wo_write_1 : decode prog_6_method_2_code 1 = .ok (.getfield 9, 3) := by decide +kernel
theorem d_Wo_write_4 : decode prog_6_method_2_code 4 = .ok (.iload_n 1, 1) := by decide +kernel
theorem d_Wo_write_5 : decode prog_6_method_2_code 5 = .ok (.iload_n 2, 1) := by decide +kernel
theorem d_Wo_write_6 : decode prog_6_method_2_code 6 = .ok (.iastore, 1) := by decide +kernel
theorem d_Wo_write_7 : decode prog_6_method_2_code 7 = .ok (.aload_n 0, 1) := by decide +kernel
theorem d_Wo_write_8 : decode prog_6_method_2_code 8 = .ok (.getfield 15, 3) := by decide +kernel
theorem d_Wo_write_11 : decode prog_6_method_2_code 11 = .ok (.iload_n 1, 1) := by decide +kernel
theorem d_Wo_write_12 : decode prog_6_method_2_code 12 = .ok (.iload_n 3, 1) := by decide +kernel
theorem d_Wo_write_13 : decode prog_6_method_2_code 13 = .ok (.iastore, 1) := by decide +kernel
theorem d_Wo_write_14 : decode prog_6_method_2_code 14 = .ok (.aload_n 0, 1) := by decide +kernel
theorem d_Wo_write_15 : decode prog_6_method_2_code 15 = .ok (.getfield 18, 3) := by decide +kernel
theorem d_Wo_write_18 : decode prog_6_method_2_code 18 = .ok (.iload_n 1, 1) := by decide +kernel
theorem d_Wo_write_19 : decode prog_6_method_2_code 19 = .ok (.iload 4, 2) := by decide +kernel
theorem d_Wo_write_21 : decode prog_6_method_2_code 21 = .ok (.iastore, 1) := by decide +kernel
theorem d_Wo_write_22 : decode prog_6_method_2_code 22 = .ok (.return_, 1) := by decide +kernel
theorem d_Fl_weigh_0 : decode prog_4_method_16_code 0 = .ok (.aload_n 0, 1) := by decide +kernel
theorem d_Fl_weigh_1 : decode prog_4_method_16_code 1 = .ok (.getfield 61, 3) := by decide +kernel
theorem d_Fl_weigh_4 : decode prog_4_method_16_code 4 = .ok (.iload_n 1, 1) := by decide +kernel
theorem d_Fl_weigh_5 : decode prog_4_method_16_code 5 = .ok (.invokevirtual 156, 3) := by decide +kernel
theorem d_Fl_weigh_8 : decode prog_4_method_16_code 8 = .ok (.ifCond .eq 25, 3) := by decide +kernel
theorem d_Fl_weigh_11 : decode prog_4_method_16_code 11 = .ok (.aload_n 0, 1) := by decide +kernel
theorem d_Fl_weigh_12 : decode prog_4_method_16_code 12 = .ok (.getfield 21, 3) := by decide +kernel
theorem d_Fl_weigh_15 : decode prog_4_method_16_code 15 = .ok (.iload_n 1, 1) := by decide +kernel
theorem d_Fl_weigh_16 : decode prog_4_method_16_code 16 = .ok (.aload_n 0, 1) := by decide +kernel
theorem d_Fl_weigh_17 : decode prog_4_method_16_code 17 = .ok (.getfield 61, 3) := by decide +kernel
theorem d_Fl_weigh_20 : decode prog_4_method_16_code 20 = .ok (.getfield 159, 3) := by decide +kernel
theorem d_Fl_weigh_23 : decode prog_4_method_16_code 23 = .ok (.iload_n 1, 1) := by decide +kernel
theorem d_Fl_weigh_24 : decode prog_4_method_16_code 24 = .ok (.iaload, 1) := by decide +kernel
theorem d_Fl_weigh_25 : decode prog_4_method_16_code 25 = .ok (.iconst 0, 1) := by decide +kernel
theorem d_Fl_weigh_26 : decode prog_4_method_16_code 26 = .ok (.iconst 0, 1) := by decide +kernel
theorem d_Fl_weigh_27 : decode prog_4_method_16_code 27 = .ok (.invokevirtual 95, 3) := by decide +kernel
theorem d_Fl_weigh_30 : decode prog_4_method_16_code 30 = .ok (.goto 62, 3) := by decide +kernel
theorem d_Fl_weigh_33 : decode prog_4_method_16_code 33 = .ok (.aload_n 0, 1) := by decide +kernel
theorem d_Fl_weigh_34 : decode prog_4_method_16_code 34 = .ok (.getfield 24, 3) := by decide +kernel
theorem d_Fl_weigh_37 : decode prog_4_method_16_code 37 = .ok (.iload_n 1, 1) := by decide +kernel
theorem d_Fl_weigh_38 : decode prog_4_method_16_code 38 = .ok (.iaload, 1) := by decide +kernel
theorem d_Fl_weigh_39 : decode prog_4_method_16_code 39 = .ok (.iconst 3, 1) := by decide +kernel
theorem d_Fl_weigh_40 : decode prog_4_method_16_code 40 = .ok (.if_icmp .ge 41, 3) := by decide +kernel
theorem d_Fl_weigh_43 : decode prog_4_method_16_code 43 = .ok (.aload_n 0, 1) := by decide +kernel
theorem d_Fl_weigh_44 : decode prog_4_method_16_code 44 = .ok (.getfield 21, 3) := by decide +kernel
theorem d_Fl_weigh_47 : decode prog_4_method_16_code 47 = .ok (.iload_n 1, 1) := by decide +kernel
theorem d_Fl_weigh_48 : decode prog_4_method_16_code 48 = .ok (.aload_n 0, 1) := by decide +kernel
theorem d_Fl_weigh_49 : decode prog_4_method_16_code 49 = .ok (.getfield 12, 3) := by decide +kernel
theorem d_Fl_weigh_52 : decode prog_4_method_16_code 52 = .ok (.getfield 144, 3) := by decide +kernel
theorem d_Fl_weigh_55 : decode prog_4_method_16_code 55 = .ok (.iload_n 1, 1) := by decide +kernel
theorem d_Fl_weigh_56 : decode prog_4_method_16_code 56 = .ok (.iaload, 1) := by decide +kernel
theorem d_Fl_weigh_57 : decode prog_4_method_16_code 57 = .ok (.aload_n 0, 1) := by decide +kernel
theorem d_Fl_weigh_58 : decode prog_4_method_16_code 58 = .ok (.getfield 12, 3) := by decide +kernel
theorem d_Fl_weigh_61 : decode prog_4_method_16_code 61 = .ok (.getfield 145, 3) := by decide +kernel
theorem d_Fl_weigh_64 : decode prog_4_method_16_code 64 = .ok (.iload_n 1, 1) := by decide +kernel
theorem d_Fl_weigh_65 : decode prog_4_method_16_code 65 = .ok (.iaload, 1) := by decide +kernel
theorem d_Fl_weigh_66 : decode prog_4_method_16_code 66 = .ok (.aload_n 0, 1) := by decide +kernel
theorem d_Fl_weigh_67 : decode prog_4_method_16_code 67 = .ok (.getfield 12, 3) := by decide +kernel
theorem d_Fl_weigh_70 : decode prog_4_method_16_code 70 = .ok (.getfield 146, 3) := by decide +kernel
theorem d_Fl_weigh_73 : decode prog_4_method_16_code 73 = .ok (.iload_n 1, 1) := by decide +kernel
theorem d_Fl_weigh_74 : decode prog_4_method_16_code 74 = .ok (.iaload, 1) := by decide +kernel
theorem d_Fl_weigh_75 : decode prog_4_method_16_code 75 = .ok (.invokevirtual 95, 3) := by decide +kernel
theorem d_Fl_weigh_78 : decode prog_4_method_16_code 78 = .ok (.goto 14, 3) := by decide +kernel
theorem d_Fl_weigh_81 : decode prog_4_method_16_code 81 = .ok (.aload_n 0, 1) := by decide +kernel
theorem d_Fl_weigh_82 : decode prog_4_method_16_code 82 = .ok (.getfield 21, 3) := by decide +kernel
theorem d_Fl_weigh_85 : decode prog_4_method_16_code 85 = .ok (.iload_n 1, 1) := by decide +kernel
theorem d_Fl_weigh_86 : decode prog_4_method_16_code 86 = .ok (.iconst (-1), 1) := by decide +kernel
theorem d_Fl_weigh_87 : decode prog_4_method_16_code 87 = .ok (.iconst 0, 1) := by decide +kernel
theorem d_Fl_weigh_88 : decode prog_4_method_16_code 88 = .ok (.iconst 0, 1) := by decide +kernel
theorem d_Fl_weigh_89 : decode prog_4_method_16_code 89 = .ok (.invokevirtual 95, 3) := by decide +kernel
theorem d_Fl_weigh_92 : decode prog_4_method_16_code 92 = .ok (.return_, 1) := by decide +kernel
theorem d_Pl_hasSource_0 : decode prog_5_method_6_code 0 = .ok (.aload_n 0, 1) := by decide +kernel
theorem d_Pl_hasSource_1 : decode prog_5_method_6_code 1 = .ok (.getfield 40, 3) := by decide +kernel
theorem d_Pl_hasSource_4 : decode prog_5_method_6_code 4 = .ok (.iload_n 1, 1) := by decide +kernel
theorem d_Pl_hasSource_5 : decode prog_5_method_6_code 5 = .ok (.iaload, 1) := by decide +kernel
theorem d_Pl_hasSource_6 : decode prog_5_method_6_code 6 = .ok (.iconst (-1), 1) := by decide +kernel
theorem d_Pl_hasSource_7 : decode prog_5_method_6_code 7 = .ok (.if_icmp .eq 7, 3) := by decide +kernel
theorem d_Pl_hasSource_10 : decode prog_5_method_6_code 10 = .ok (.iconst 1, 1) := by decide +kernel
theorem d_Pl_hasSource_11 : decode prog_5_method_6_code 11 = .ok (.goto 4, 3) := by decide +kernel
theorem d_Pl_hasSource_14 : decode prog_5_method_6_code 14 = .ok (.iconst 0, 1) := by decide +kernel
theorem d_Pl_hasSource_15 : decode prog_5_method_6_code 15 = .ok (.ireturn, 1) := by decide +kernel
theorem d_Fl_countUsable_0 : decode prog_4_method_17_code 0 = .ok (.aload_n 0, 1) := by decide +kernel
theorem d_Fl_countUsable_1 : decode prog_4_method_17_code 1 = .ok (.iload_n 1, 1) := by decide +kernel
theorem d_Fl_countUsable_2 : decode prog_4_method_17_code 2 = .ok (.iload_n 2, 1) := by decide +kernel
theorem d_Fl_countUsable_3 : decode prog_4_method_17_code 3 = .ok (.invokevirtual 162, 3) := by decide +kernel
theorem d_Fl_countUsable_6 : decode prog_4_method_17_code 6 = .ok (.ifCond .eq 19, 3) := by decide +kernel
theorem d_Fl_countUsable_9 : decode prog_4_method_17_code 9 = .ok (.aload_n 0, 1) := by decide +kernel
theorem d_Fl_countUsable_10 : decode prog_4_method_17_code 10 = .ok (.getfield 28, 3) := by decide +kernel
theorem d_Fl_countUsable_13 : decode prog_4_method_17_code 13 = .ok (.iload_n 2, 1) := by decide +kernel
theorem d_Fl_countUsable_14 : decode prog_4_method_17_code 14 = .ok (.iaload, 1) := by decide +kernel
theorem d_Fl_countUsable_15 : decode prog_4_method_17_code 15 = .ok (.iconst 1, 1) := by decide +kernel
theorem d_Fl_countUsable_16 : decode prog_4_method_17_code 16 = .ok (.iadd, 1) := by decide +kernel
theorem d_Fl_countUsable_17 : decode prog_4_method_17_code 17 = .ok (.bipush 11, 2) := by decide +kernel
theorem d_Fl_countUsable_19 : decode prog_4_method_17_code 19 = .ok (.invokestatic 131, 3) := by decide +kernel
theorem d_Fl_countUsable_22 : decode prog_4_method_17_code 22 = .ok (.goto 4, 3) := by decide +kernel
theorem d_Fl_countUsable_25 : decode prog_4_method_17_code 25 = .ok (.iconst 0, 1) := by decide +kernel
theorem d_Fl_countUsable_26 : decode prog_4_method_17_code 26 = .ok (.istore_n 3, 1) := by decide +kernel
theorem d_Fl_countUsable_27 : decode prog_4_method_17_code 27 = .ok (.aload_n 0, 1) := by decide +kernel
theorem d_Fl_countUsable_28 : decode prog_4_method_17_code 28 = .ok (.aload_n 0, 1) := by decide +kernel
theorem d_Fl_countUsable_29 : decode prog_4_method_17_code 29 = .ok (.getfield 57, 3) := by decide +kernel
theorem d_Fl_countUsable_32 : decode prog_4_method_17_code 32 = .ok (.ifCond .ne 13, 3) := by decide +kernel
theorem d_Fl_countUsable_35 : decode prog_4_method_17_code 35 = .ok (.iload_n 3, 1) := by decide +kernel
theorem d_Fl_countUsable_36 : decode prog_4_method_17_code 36 = .ok (.aload_n 0, 1) := by decide +kernel
theorem d_Fl_countUsable_37 : decode prog_4_method_17_code 37 = .ok (.getfield 28, 3) := by decide +kernel
theorem d_Fl_countUsable_40 : decode prog_4_method_17_code 40 = .ok (.iload_n 2, 1) := by decide +kernel
theorem d_Fl_countUsable_41 : decode prog_4_method_17_code 41 = .ok (.iaload, 1) := by decide +kernel
theorem d_Fl_countUsable_42 : decode prog_4_method_17_code 42 = .ok (.if_icmp .eq 7, 3) := by decide +kernel
theorem d_Fl_countUsable_45 : decode prog_4_method_17_code 45 = .ok (.iconst 1, 1) := by decide +kernel
theorem d_Fl_countUsable_46 : decode prog_4_method_17_code 46 = .ok (.goto 4, 3) := by decide +kernel
theorem d_Fl_countUsable_49 : decode prog_4_method_17_code 49 = .ok (.iconst 0, 1) := by decide +kernel
theorem d_Fl_countUsable_50 : decode prog_4_method_17_code 50 = .ok (.putfield 57, 3) := by decide +kernel
theorem d_Fl_countUsable_53 : decode prog_4_method_17_code 53 = .ok (.aload_n 0, 1) := by decide +kernel
theorem d_Fl_countUsable_54 : decode prog_4_method_17_code 54 = .ok (.getfield 28, 3) := by decide +kernel
theorem d_Fl_countUsable_57 : decode prog_4_method_17_code 57 = .ok (.iload_n 2, 1) := by decide +kernel
theorem d_Fl_countUsable_58 : decode prog_4_method_17_code 58 = .ok (.iload_n 3, 1) := by decide +kernel
theorem d_Fl_countUsable_59 : decode prog_4_method_17_code 59 = .ok (.iastore, 1) := by decide +kernel
theorem d_Fl_countUsable_60 : decode prog_4_method_17_code 60 = .ok (.return_, 1) := by decide +kernel
theorem d_Fl_isUsable_0 : decode prog_4_method_18_code 0 = .ok (.aload_n 0, 1) := by decide +kernel
theorem d_Fl_isUsable_1 : decode prog_4_method_18_code 1 = .ok (.getfield 21, 3) := by decide +kernel
theorem d_Fl_isUsable_4 : decode prog_4_method_18_code 4 = .ok (.getfield 144, 3) := by decide +kernel
theorem d_Fl_isUsable_7 : decode prog_4_method_18_code 7 = .ok (.iload_n 2, 1) := by decide +kernel
theorem d_Fl_isUsable_8 : decode prog_4_method_18_code 8 = .ok (.iaload, 1) := by decide +kernel
theorem d_Fl_isUsable_9 : decode prog_4_method_18_code 9 = .ok (.iconst 0, 1) := by decide +kernel
theorem d_Fl_isUsable_10 : decode prog_4_method_18_code 10 = .ok (.bipush 6, 2) := by decide +kernel
theorem d_Fl_isUsable_12 : decode prog_4_method_18_code 12 = .ok (.invokestatic 165, 3) := by decide +kernel
theorem d_Fl_isUsable_15 : decode prog_4_method_18_code 15 = .ok (.istore_n 3, 1) := by decide +kernel
theorem d_Fl_isUsable_16 : decode prog_4_method_18_code 16 = .ok (.aload_n 0, 1) := by decide +kernel
theorem d_Fl_isUsable_17 : decode prog_4_method_18_code 17 = .ok (.getfield 21, 3) := by decide +kernel
theorem d_Fl_isUsable_20 : decode prog_4_method_18_code 20 = .ok (.getfield 146, 3) := by decide +kernel
theorem d_Fl_isUsable_23 : decode prog_4_method_18_code 23 = .ok (.iload_n 2, 1) := by decide +kernel
theorem d_Fl_isUsable_24 : decode prog_4_method_18_code 24 = .ok (.iaload, 1) := by decide +kernel
theorem d_Fl_isUsable_25 : decode prog_4_method_18_code 25 = .ok (.iload_n 1, 1) := by decide +kernel
theorem d_Fl_isUsable_26 : decode prog_4_method_18_code 26 = .ok (.ishr, 1) := by decide +kernel
theorem d_Fl_isUsable_27 : decode prog_4_method_18_code 27 = .ok (.iconst 1, 1) := by decide +kernel
theorem d_Fl_isUsable_28 : decode prog_4_method_18_code 28 = .ok (.iand, 1) := by decide +kernel
theorem d_Fl_isUsable_29 : decode prog_4_method_18_code 29 = .ok (.iconst 1, 1) := by decide +kernel
theorem d_Fl_isUsable_30 : decode prog_4_method_18_code 30 = .ok (.if_icmp .ne 7, 3) := by decide +kernel
theorem d_Fl_isUsable_33 : decode prog_4_method_18_code 33 = .ok (.iconst 1, 1) := by decide +kernel
theorem d_Fl_isUsable_34 : decode prog_4_method_18_code 34 = .ok (.goto 4, 3) := by decide +kernel
theorem d_Fl_isUsable_37 : decode prog_4_method_18_code 37 = .ok (.iconst 0, 1) := by decide +kernel
theorem d_Fl_isUsable_38 : decode prog_4_method_18_code 38 = .ok (.istore 4, 2) := by decide +kernel
theorem d_Fl_isUsable_40 : decode prog_4_method_18_code 40 = .ok (.iload_n 3, 1) := by decide +kernel
theorem d_Fl_isUsable_41 : decode prog_4_method_18_code 41 = .ok (.ifCond .eq 34, 3) := by decide +kernel
theorem d_Fl_isUsable_44 : decode prog_4_method_18_code 44 = .ok (.aload_n 0, 1) := by decide +kernel
theorem d_Fl_isUsable_45 : decode prog_4_method_18_code 45 = .ok (.getfield 61, 3) := by decide +kernel
theorem d_Fl_isUsable_48 : decode prog_4_method_18_code 48 = .ok (.getfield 169, 3) := by decide +kernel
theorem d_Fl_isUsable_51 : decode prog_4_method_18_code 51 = .ok (.iload_n 2, 1) := by decide +kernel
theorem d_Fl_isUsable_52 : decode prog_4_method_18_code 52 = .ok (.baload, 1) := by decide +kernel
theorem d_Fl_isUsable_53 : decode prog_4_method_18_code 53 = .ok (.ifCond .ne 22, 3) := by decide +kernel
theorem d_Fl_isUsable_56 : decode prog_4_method_18_code 56 = .ok (.aload_n 0, 1) := by decide +kernel
theorem d_Fl_isUsable_57 : decode prog_4_method_18_code 57 = .ok (.getfield 61, 3) := by decide +kernel
theorem d_Fl_isUsable_60 : decode prog_4_method_18_code 60 = .ok (.getfield 172, 3) := by decide +kernel
theorem d_Fl_isUsable_63 : decode prog_4_method_18_code 63 = .ok (.ifCond .eq 8, 3) := by decide +kernel
theorem d_Fl_isUsable_66 : decode prog_4_method_18_code 66 = .ok (.iload 4, 2) := by decide +kernel
theorem d_Fl_isUsable_68 : decode prog_4_method_18_code 68 = .ok (.ifCond .ne 7, 3) := by decide +kernel
theorem d_Fl_isUsable_71 : decode prog_4_method_18_code 71 = .ok (.iconst 1, 1) := by decide +kernel
theorem d_Fl_isUsable_72 : decode prog_4_method_18_code 72 = .ok (.goto 4, 3) := by decide +kernel
theorem d_Fl_isUsable_75 : decode prog_4_method_18_code 75 = .ok (.iconst 0, 1) := by decide +kernel
theorem d_Fl_isUsable_76 : decode prog_4_method_18_code 76 = .ok (.ireturn, 1) := by decide +kernel
theorem d_CT_isWithin_0 : decode prog_1_method_25_code 0 = .ok (.iload_n 1, 1) := by decide +kernel
theorem d_CT_isWithin_1 : decode prog_1_method_25_code 1 = .ok (.iload_n 0, 1) := by decide +kernel
theorem d_CT_isWithin_2 : decode prog_1_method_25_code 2 = .ok (.if_icmp .gt 12, 3) := by decide +kernel
theorem d_CT_isWithin_5 : decode prog_1_method_25_code 5 = .ok (.iload_n 0, 1) := by decide +kernel
theorem d_CT_isWithin_6 : decode prog_1_method_25_code 6 = .ok (.iload_n 2, 1) := by decide +kernel
theorem d_CT_isWithin_7 : decode prog_1_method_25_code 7 = .ok (.if_icmp .gt 7, 3) := by decide +kernel
theorem d_CT_isWithin_10 : decode prog_1_method_25_code 10 = .ok (.iconst 1, 1) := by decide +kernel
theorem d_CT_isWithin_11 : decode prog_1_method_25_code 11 = .ok (.goto 4, 3) := by decide +kernel
theorem d_CT_isWithin_14 : decode prog_1_method_25_code 14 = .ok (.iconst 0, 1) := by decide +kernel
theorem d_CT_isWithin_15 : decode prog_1_method_25_code 15 = .ok (.ireturn, 1) := by decide +kernel
theorem d_Fl_decide_0 : decode prog_4_method_19_code 0 = .ok (.aload_n 0, 1) := by decide +kernel
theorem d_Fl_decide_1 : decode prog_4_method_19_code 1 = .ok (.iload_n 1, 1) := by decide +kernel
theorem d_Fl_decide_2 : decode prog_4_method_19_code 2 = .ok (.invokevirtual 175, 3) := by decide +kernel
theorem d_Fl_decide_5 : decode prog_4_method_19_code 5 = .ok (.istore_n 2, 1) := by decide +kernel
theorem d_Fl_decide_6 : decode prog_4_method_19_code 6 = .ok (.aload_n 0, 1) := by decide +kernel
theorem d_Fl_decide_7 : decode prog_4_method_19_code 7 = .ok (.getfield 34, 3) := by decide +kernel
theorem d_Fl_decide_10 : decode prog_4_method_19_code 10 = .ok (.iload_n 1, 1) := by decide +kernel
theorem d_Fl_decide_11 : decode prog_4_method_19_code 11 = .ok (.iload_n 2, 1) := by decide +kernel
theorem d_Fl_decide_12 : decode prog_4_method_19_code 12 = .ok (.iastore, 1) := by decide +kernel
theorem d_Fl_decide_13 : decode prog_4_method_19_code 13 = .ok (.iload_n 2, 1) := by decide +kernel
theorem d_Fl_decide_14 : decode prog_4_method_19_code 14 = .ok (.iconst (-1), 1) := by decide +kernel
theorem d_Fl_decide_15 : decode prog_4_method_19_code 15 = .ok (.if_icmp .eq 74, 3) := by decide +kernel
theorem d_Fl_decide_18 : decode prog_4_method_19_code 18 = .ok (.aload_n 0, 1) := by decide +kernel
theorem d_Fl_decide_19 : decode prog_4_method_19_code 19 = .ok (.getfield 28, 3) := by decide +kernel
theorem d_Fl_decide_22 : decode prog_4_method_19_code 22 = .ok (.iload_n 1, 1) := by decide +kernel
theorem d_Fl_decide_23 : decode prog_4_method_19_code 23 = .ok (.iload_n 2, 1) := by decide +kernel
theorem d_Fl_decide_24 : decode prog_4_method_19_code 24 = .ok (.invokestatic 91, 3) := by decide +kernel
theorem d_Fl_decide_27 : decode prog_4_method_19_code 27 = .ok (.iaload, 1) := by decide +kernel
theorem d_Fl_decide_28 : decode prog_4_method_19_code 28 = .ok (.ifCond .le 61, 3) := by decide +kernel
theorem d_Fl_decide_31 : decode prog_4_method_19_code 31 = .ok (.iload_n 1, 1) := by decide +kernel
theorem d_Fl_decide_32 : decode prog_4_method_19_code 32 = .ok (.iload_n 2, 1) := by decide +kernel
theorem d_Fl_decide_33 : decode prog_4_method_19_code 33 = .ok (.invokestatic 91, 3) := by decide +kernel
theorem d_Fl_decide_36 : decode prog_4_method_19_code 36 = .ok (.istore_n 3, 1) := by decide +kernel
theorem d_Fl_decide_37 : decode prog_4_method_19_code 37 = .ok (.aload_n 0, 1) := by decide +kernel
theorem d_Fl_decide_38 : decode prog_4_method_19_code 38 = .ok (.getfield 31, 3) := by decide +kernel
theorem d_Fl_decide_41 : decode prog_4_method_19_code 41 = .ok (.iload_n 1, 1) := by decide +kernel
theorem d_Fl_decide_42 : decode prog_4_method_19_code 42 = .ok (.iconst 1, 1) := by decide +kernel
theorem d_Fl_decide_43 : decode prog_4_method_19_code 43 = .ok (.iastore, 1) := by decide +kernel
theorem d_Fl_decide_44 : decode prog_4_method_19_code 44 = .ok (.aload_n 0, 1) := by decide +kernel
theorem d_Fl_decide_45 : decode prog_4_method_19_code 45 = .ok (.dup, 1) := by decide +kernel
theorem d_Fl_decide_46 : decode prog_4_method_19_code 46 = .ok (.getfield 43, 3) := by decide +kernel
theorem d_Fl_decide_49 : decode prog_4_method_19_code 49 = .ok (.iconst 1, 1) := by decide +kernel
theorem d_Fl_decide_50 : decode prog_4_method_19_code 50 = .ok (.iload_n 1, 1) := by decide +kernel
theorem d_Fl_decide_51 : decode prog_4_method_19_code 51 = .ok (.ishl, 1) := by decide +kernel
theorem d_Fl_decide_52 : decode prog_4_method_19_code 52 = .ok (.ior, 1) := by decide +kernel
theorem d_Fl_decide_53 : decode prog_4_method_19_code 53 = .ok (.putfield 43, 3) := by decide +kernel
theorem d_Fl_decide_56 : decode prog_4_method_19_code 56 = .ok (.aload_n 0, 1) := by decide +kernel
theorem d_Fl_decide_57 : decode prog_4_method_19_code 57 = .ok (.getfield 40, 3) := by decide +kernel
theorem d_Fl_decide_60 : decode prog_4_method_19_code 60 = .ok (.iload_n 1, 1) := by decide +kernel
theorem d_Fl_decide_61 : decode prog_4_method_19_code 61 = .ok (.aload_n 0, 1) := by decide +kernel
theorem d_Fl_decide_62 : decode prog_4_method_19_code 62 = .ok (.getfield 21, 3) := by decide +kernel
theorem d_Fl_decide_65 : decode prog_4_method_19_code 65 = .ok (.getfield 144, 3) := by decide +kernel
theorem d_Fl_decide_68 : decode prog_4_method_19_code 68 = .ok (.iload_n 3, 1) := by decide +kernel
theorem d_Fl_decide_69 : decode prog_4_method_19_code 69 = .ok (.iaload, 1) := by decide +kernel
theorem d_Fl_decide_70 : decode prog_4_method_19_code 70 = .ok (.iastore, 1) := by decide +kernel
theorem d_Fl_decide_71 : decode prog_4_method_19_code 71 = .ok (.aload_n 0, 1) := by decide +kernel
theorem d_Fl_decide_72 : decode prog_4_method_19_code 72 = .ok (.getfield 37, 3) := by decide +kernel
theorem d_Fl_decide_75 : decode prog_4_method_19_code 75 = .ok (.iload_n 1, 1) := by decide +kernel
theorem d_Fl_decide_76 : decode prog_4_method_19_code 76 = .ok (.aload_n 0, 1) := by decide +kernel
theorem d_Fl_decide_77 : decode prog_4_method_19_code 77 = .ok (.getfield 21, 3) := by decide +kernel
theorem d_Fl_decide_80 : decode prog_4_method_19_code 80 = .ok (.getfield 145, 3) := by decide +kernel
theorem d_Fl_decide_83 : decode prog_4_method_19_code 83 = .ok (.iload_n 3, 1) := by decide +kernel
theorem d_Fl_decide_84 : decode prog_4_method_19_code 84 = .ok (.iaload, 1) := by decide +kernel
theorem d_Fl_decide_85 : decode prog_4_method_19_code 85 = .ok (.iastore, 1) := by decide +kernel
theorem d_Fl_decide_86 : decode prog_4_method_19_code 86 = .ok (.goto 40, 3) := by decide +kernel
theorem d_Fl_decide_89 : decode prog_4_method_19_code 89 = .ok (.aload_n 0, 1) := by decide +kernel
theorem d_Fl_decide_90 : decode prog_4_method_19_code 90 = .ok (.getfield 31, 3) := by decide +kernel
theorem d_Fl_decide_93 : decode prog_4_method_19_code 93 = .ok (.iload_n 1, 1) := by decide +kernel
theorem d_Fl_decide_94 : decode prog_4_method_19_code 94 = .ok (.aload_n 0, 1) := by decide +kernel
theorem d_Fl_decide_95 : decode prog_4_method_19_code 95 = .ok (.getfield 43, 3) := by decide +kernel
theorem d_Fl_decide_98 : decode prog_4_method_19_code 98 = .ok (.iload_n 1, 1) := by decide +kernel
theorem d_Fl_decide_99 : decode prog_4_method_19_code 99 = .ok (.ishr, 1) := by decide +kernel
theorem d_Fl_decide_100 : decode prog_4_method_19_code 100 = .ok (.iconst 1, 1) := by decide +kernel
theorem d_Fl_decide_101 : decode prog_4_method_19_code 101 = .ok (.iand, 1) := by decide +kernel
theorem d_Fl_decide_102 : decode prog_4_method_19_code 102 = .ok (.iconst 1, 1) := by decide +kernel
theorem d_Fl_decide_103 : decode prog_4_method_19_code 103 = .ok (.if_icmp .ne 7, 3) := by decide +kernel
theorem d_Fl_decide_106 : decode prog_4_method_19_code 106 = .ok (.iconst 2, 1) := by decide +kernel
theorem d_Fl_decide_107 : decode prog_4_method_19_code 107 = .ok (.goto 4, 3) := by decide +kernel
theorem d_Fl_decide_110 : decode prog_4_method_19_code 110 = .ok (.iconst 0, 1) := by decide +kernel
theorem d_Fl_decide_111 : decode prog_4_method_19_code 111 = .ok (.iastore, 1) := by decide +kernel
theorem d_Fl_decide_112 : decode prog_4_method_19_code 112 = .ok (.aload_n 0, 1) := by decide +kernel
theorem d_Fl_decide_113 : decode prog_4_method_19_code 113 = .ok (.getfield 40, 3) := by decide +kernel
theorem d_Fl_decide_116 : decode prog_4_method_19_code 116 = .ok (.iload_n 1, 1) := by decide +kernel
theorem d_Fl_decide_117 : decode prog_4_method_19_code 117 = .ok (.iconst (-1), 1) := by decide +kernel
theorem d_Fl_decide_118 : decode prog_4_method_19_code 118 = .ok (.iastore, 1) := by decide +kernel
theorem d_Fl_decide_119 : decode prog_4_method_19_code 119 = .ok (.aload_n 0, 1) := by decide +kernel
theorem d_Fl_decide_120 : decode prog_4_method_19_code 120 = .ok (.getfield 37, 3) := by decide +kernel
theorem d_Fl_decide_123 : decode prog_4_method_19_code 123 = .ok (.iload_n 1, 1) := by decide +kernel
theorem d_Fl_decide_124 : decode prog_4_method_19_code 124 = .ok (.iconst (-1), 1) := by decide +kernel
theorem d_Fl_decide_125 : decode prog_4_method_19_code 125 = .ok (.iastore, 1) := by decide +kernel
theorem d_Fl_decide_126 : decode prog_4_method_19_code 126 = .ok (.return_, 1) := by decide +kernel
theorem d_Fl_choose_0 : decode prog_4_method_20_code 0 = .ok (.aload_n 0, 1) := by decide +kernel
theorem d_Fl_choose_1 : decode prog_4_method_20_code 1 = .ok (.getfield 61, 3) := by decide +kernel
theorem d_Fl_choose_4 : decode prog_4_method_20_code 4 = .ok (.getfield 178, 3) := by decide +kernel
theorem d_Fl_choose_7 : decode prog_4_method_20_code 7 = .ok (.iload_n 1, 1) := by decide +kernel
theorem d_Fl_choose_8 : decode prog_4_method_20_code 8 = .ok (.iaload, 1) := by decide +kernel
theorem d_Fl_choose_9 : decode prog_4_method_20_code 9 = .ok (.iconst (-1), 1) := by decide +kernel
theorem d_Fl_choose_10 : decode prog_4_method_20_code 10 = .ok (.if_icmp .eq 13, 3) := by decide +kernel
theorem d_Fl_choose_13 : decode prog_4_method_20_code 13 = .ok (.aload_n 0, 1) := by decide +kernel
theorem d_Fl_choose_14 : decode prog_4_method_20_code 14 = .ok (.getfield 61, 3) := by decide +kernel
theorem d_Fl_choose_17 : decode prog_4_method_20_code 17 = .ok (.getfield 178, 3) := by decide +kernel
theorem d_Fl_choose_20 : decode prog_4_method_20_code 20 = .ok (.iload_n 1, 1) := by decide +kernel
theorem d_Fl_choose_21 : decode prog_4_method_20_code 21 = .ok (.iaload, 1) := by decide +kernel
theorem d_Fl_choose_22 : decode prog_4_method_20_code 22 = .ok (.ireturn, 1) := by decide +kernel
theorem d_Fl_choose_23 : decode prog_4_method_20_code 23 = .ok (.aload_n 0, 1) := by decide +kernel
theorem d_Fl_choose_24 : decode prog_4_method_20_code 24 = .ok (.getfield 61, 3) := by decide +kernel
theorem d_Fl_choose_27 : decode prog_4_method_20_code 27 = .ok (.getfield 181, 3) := by decide +kernel
theorem d_Fl_choose_30 : decode prog_4_method_20_code 30 = .ok (.iload_n 1, 1) := by decide +kernel
theorem d_Fl_choose_31 : decode prog_4_method_20_code 31 = .ok (.iaload, 1) := by decide +kernel
theorem d_Fl_choose_32 : decode prog_4_method_20_code 32 = .ok (.istore_n 2, 1) := by decide +kernel
theorem d_Fl_choose_33 : decode prog_4_method_20_code 33 = .ok (.iload_n 2, 1) := by decide +kernel
theorem d_Fl_choose_34 : decode prog_4_method_20_code 34 = .ok (.iconst (-1), 1) := by decide +kernel
theorem d_Fl_choose_35 : decode prog_4_method_20_code 35 = .ok (.if_icmp .eq 18, 3) := by decide +kernel
theorem d_Fl_choose_38 : decode prog_4_method_20_code 38 = .ok (.aload_n 0, 1) := by decide +kernel
theorem d_Fl_choose_39 : decode prog_4_method_20_code 39 = .ok (.getfield 28, 3) := by decide +kernel
theorem d_Fl_choose_42 : decode prog_4_method_20_code 42 = .ok (.iload_n 1, 1) := by decide +kernel
theorem d_Fl_choose_43 : decode prog_4_method_20_code 43 = .ok (.iload_n 2, 1) := by decide +kernel
theorem d_Fl_choose_44 : decode prog_4_method_20_code 44 = .ok (.invokestatic 91, 3) := by decide +kernel
theorem d_Fl_choose_47 : decode prog_4_method_20_code 47 = .ok (.iaload, 1) := by decide +kernel
theorem d_Fl_choose_48 : decode prog_4_method_20_code 48 = .ok (.ifCond .le 5, 3) := by decide +kernel
theorem d_Fl_choose_51 : decode prog_4_method_20_code 51 = .ok (.iload_n 2, 1) := by decide +kernel
theorem d_Fl_choose_52 : decode prog_4_method_20_code 52 = .ok (.ireturn, 1) := by decide +kernel
theorem d_Fl_choose_53 : decode prog_4_method_20_code 53 = .ok (.aload_n 0, 1) := by decide +kernel
theorem d_Fl_choose_54 : decode prog_4_method_20_code 54 = .ok (.iload_n 1, 1) := by decide +kernel
theorem d_Fl_choose_55 : decode prog_4_method_20_code 55 = .ok (.aload_n 0, 1) := by decide +kernel
theorem d_Fl_choose_56 : decode prog_4_method_20_code 56 = .ok (.getfield 61, 3) := by decide +kernel
theorem d_Fl_choose_59 : decode prog_4_method_20_code 59 = .ok (.getfield 184, 3) := by decide +kernel
theorem d_Fl_choose_62 : decode prog_4_method_20_code 62 = .ok (.iload_n 1, 1) := by decide +kernel
theorem d_Fl_choose_63 : decode prog_4_method_20_code 63 = .ok (.iaload, 1) := by decide +kernel
theorem d_Fl_choose_64 : decode prog_4_method_20_code 64 = .ok (.iconst 1, 1) := by decide +kernel
theorem d_Fl_choose_65 : decode prog_4_method_20_code 65 = .ok (.iadd, 1) := by decide +kernel
theorem d_Fl_choose_66 : decode prog_4_method_20_code 66 = .ok (.invokevirtual 187, 3) := by decide +kernel
theorem d_Fl_choose_69 : decode prog_4_method_20_code 69 = .ok (.istore_n 3, 1) := by decide +kernel
theorem d_Fl_choose_70 : decode prog_4_method_20_code 70 = .ok (.iload_n 3, 1) := by decide +kernel
theorem d_Fl_choose_71 : decode prog_4_method_20_code 71 = .ok (.iconst (-1), 1) := by decide +kernel
theorem d_Fl_choose_72 : decode prog_4_method_20_code 72 = .ok (.if_icmp .eq 7, 3) := by decide +kernel
theorem d_Fl_choose_75 : decode prog_4_method_20_code 75 = .ok (.iload_n 3, 1) := by decide +kernel
theorem d_Fl_choose_76 : decode prog_4_method_20_code 76 = .ok (.goto 9, 3) := by decide +kernel
theorem d_Fl_choose_79 : decode prog_4_method_20_code 79 = .ok (.aload_n 0, 1) := by decide +kernel
theorem d_Fl_choose_80 : decode prog_4_method_20_code 80 = .ok (.iload_n 1, 1) := by decide +kernel
theorem d_Fl_choose_81 : decode prog_4_method_20_code 81 = .ok (.iconst 1, 1) := by decide +kernel
theorem d_Fl_choose_82 : decode prog_4_method_20_code 82 = .ok (.invokevirtual 187, 3) := by decide +kernel
theorem d_Fl_choose_85 : decode prog_4_method_20_code 85 = .ok (.ireturn, 1) := by decide +kernel
theorem d_Fl_bestPort_0 : decode prog_4_method_21_code 0 = .ok (.iconst (-1), 1) := by decide +kernel
theorem d_Fl_bestPort_1 : decode prog_4_method_21_code 1 = .ok (.istore_n 3, 1) := by decide +kernel
theorem d_Fl_bestPort_2 : decode prog_4_method_21_code 2 = .ok (.iconst 0, 1) := by decide +kernel
theorem d_Fl_bestPort_3 : decode prog_4_method_21_code 3 = .ok (.istore 4, 2) := by decide +kernel
theorem d_Fl_bestPort_5 : decode prog_4_method_21_code 5 = .ok (.iload 4, 2) := by decide +kernel
theorem d_Fl_bestPort_7 : decode prog_4_method_21_code 7 = .ok (.iconst 4, 1) := by decide +kernel
theorem d_Fl_bestPort_8 : decode prog_4_method_21_code 8 = .ok (.if_icmp .ge 50, 3) := by decide +kernel
theorem d_Fl_bestPort_11 : decode prog_4_method_21_code 11 = .ok (.iload_n 1, 1) := by decide +kernel
theorem d_Fl_bestPort_12 : decode prog_4_method_21_code 12 = .ok (.iload 4, 2) := by decide +kernel
theorem d_Fl_bestPort_14 : decode prog_4_method_21_code 14 = .ok (.invokestatic 91, 3) := by decide +kernel
theorem d_Fl_bestPort_17 : decode prog_4_method_21_code 17 = .ok (.istore 5, 2) := by decide +kernel
theorem d_Fl_bestPort_19 : decode prog_4_method_21_code 19 = .ok (.aload_n 0, 1) := by decide +kernel
theorem d_Fl_bestPort_20 : decode prog_4_method_21_code 20 = .ok (.getfield 28, 3) := by decide +kernel
theorem d_Fl_bestPort_23 : decode prog_4_method_21_code 23 = .ok (.iload 5, 2) := by decide +kernel
theorem d_Fl_bestPort_25 : decode prog_4_method_21_code 25 = .ok (.iaload, 1) := by decide +kernel
theorem d_Fl_bestPort_26 : decode prog_4_method_21_code 26 = .ok (.iload_n 2, 1) := by decide +kernel
theorem d_Fl_bestPort_27 : decode prog_4_method_21_code 27 = .ok (.if_icmp .lt 25, 3) := by decide +kernel
theorem d_Fl_bestPort_30 : decode prog_4_method_21_code 30 = .ok (.iload_n 3, 1) := by decide +kernel
theorem d_Fl_bestPort_31 : decode prog_4_method_21_code 31 = .ok (.iconst (-1), 1) := by decide +kernel
theorem d_Fl_bestPort_32 : decode prog_4_method_21_code 32 = .ok (.if_icmp .eq 17, 3) := by decide +kernel
theorem d_Fl_bestPort_35 : decode prog_4_method_21_code 35 = .ok (.aload_n 0, 1) := by decide +kernel
theorem d_Fl_bestPort_36 : decode prog_4_method_21_code 36 = .ok (.iload 5, 2) := by decide +kernel
theorem d_Fl_bestPort_38 : decode prog_4_method_21_code 38 = .ok (.iload_n 1, 1) := by decide +kernel
theorem d_Fl_bestPort_39 : decode prog_4_method_21_code 39 = .ok (.iload_n 3, 1) := by decide +kernel
theorem d_Fl_bestPort_40 : decode prog_4_method_21_code 40 = .ok (.invokestatic 91, 3) := by decide +kernel
theorem d_Fl_bestPort_43 : decode prog_4_method_21_code 43 = .ok (.invokevirtual 190, 3) := by decide +kernel
theorem d_Fl_bestPort_46 : decode prog_4_method_21_code 46 = .ok (.ifCond .eq 6, 3) := by decide +kernel
theorem d_Fl_bestPort_49 : decode prog_4_method_21_code 49 = .ok (.iload 4, 2) := by decide +kernel
theorem d_Fl_bestPort_51 : decode prog_4_method_21_code 51 = .ok (.istore_n 3, 1) := by decide +kernel
theorem d_Fl_bestPort_52 : decode prog_4_method_21_code 52 = .ok (.iinc 4 1, 3) := by decide +kernel
theorem d_Fl_bestPort_55 : decode prog_4_method_21_code 55 = .ok (.goto (-50), 3) := by decide +kernel
theorem d_Fl_bestPort_58 : decode prog_4_method_21_code 58 = .ok (.iload_n 3, 1) := by decide +kernel
theorem d_Fl_bestPort_59 : decode prog_4_method_21_code 59 = .ok (.ireturn, 1) := by decide +kernel
theorem d_Fl_isBetter_0 : decode prog_4_method_22_code 0 = .ok (.aload_n 0, 1) := by decide +kernel
theorem d_Fl_isBetter_1 : decode prog_4_method_22_code 1 = .ok (.getfield 21, 3) := by decide +kernel
theorem d_Fl_isBetter_4 : decode prog_4_method_22_code 4 = .ok (.getfield 144, 3) := by decide +kernel
theorem d_Fl_isBetter_7 : decode prog_4_method_22_code 7 = .ok (.iload_n 1, 1) := by decide +kernel
theorem d_Fl_isBetter_8 : decode prog_4_method_22_code 8 = .ok (.iaload, 1) := by decide +kernel
theorem d_Fl_isBetter_9 : decode prog_4_method_22_code 9 = .ok (.aload_n 0, 1) := by decide +kernel
theorem d_Fl_isBetter_10 : decode prog_4_method_22_code 10 = .ok (.getfield 21, 3) := by decide +kernel
theorem d_Fl_isBetter_13 : decode prog_4_method_22_code 13 = .ok (.getfield 144, 3) := by decide +kernel
theorem d_Fl_isBetter_16 : decode prog_4_method_22_code 16 = .ok (.iload_n 2, 1) := by decide +kernel
theorem d_Fl_isBetter_17 : decode prog_4_method_22_code 17 = .ok (.iaload, 1) := by decide +kernel
theorem d_Fl_isBetter_18 : decode prog_4_method_22_code 18 = .ok (.if_icmp .eq 30, 3) := by decide +kernel
theorem d_Fl_isBetter_21 : decode prog_4_method_22_code 21 = .ok (.aload_n 0, 1) := by decide +kernel
theorem d_Fl_isBetter_22 : decode prog_4_method_22_code 22 = .ok (.getfield 21, 3) := by decide +kernel
theorem d_Fl_isBetter_25 : decode prog_4_method_22_code 25 = .ok (.getfield 144, 3) := by decide +kernel
theorem d_Fl_isBetter_28 : decode prog_4_method_22_code 28 = .ok (.iload_n 1, 1) := by decide +kernel
theorem d_Fl_isBetter_29 : decode prog_4_method_22_code 29 = .ok (.iaload, 1) := by decide +kernel
theorem d_Fl_isBetter_30 : decode prog_4_method_22_code 30 = .ok (.aload_n 0, 1) := by decide +kernel
theorem d_Fl_isBetter_31 : decode prog_4_method_22_code 31 = .ok (.getfield 21, 3) := by decide +kernel
theorem d_Fl_isBetter_34 : decode prog_4_method_22_code 34 = .ok (.getfield 144, 3) := by decide +kernel
theorem d_Fl_isBetter_37 : decode prog_4_method_22_code 37 = .ok (.iload_n 2, 1) := by decide +kernel
theorem d_Fl_isBetter_38 : decode prog_4_method_22_code 38 = .ok (.iaload, 1) := by decide +kernel
theorem d_Fl_isBetter_39 : decode prog_4_method_22_code 39 = .ok (.if_icmp .ge 7, 3) := by decide +kernel
theorem d_Fl_isBetter_42 : decode prog_4_method_22_code 42 = .ok (.iconst 1, 1) := by decide +kernel
theorem d_Fl_isBetter_43 : decode prog_4_method_22_code 43 = .ok (.goto 4, 3) := by decide +kernel
theorem d_Fl_isBetter_46 : decode prog_4_method_22_code 46 = .ok (.iconst 0, 1) := by decide +kernel
theorem d_Fl_isBetter_47 : decode prog_4_method_22_code 47 = .ok (.ireturn, 1) := by decide +kernel
theorem d_Fl_isBetter_48 : decode prog_4_method_22_code 48 = .ok (.aload_n 0, 1) := by decide +kernel
theorem d_Fl_isBetter_49 : decode prog_4_method_22_code 49 = .ok (.getfield 21, 3) := by decide +kernel
theorem d_Fl_isBetter_52 : decode prog_4_method_22_code 52 = .ok (.getfield 145, 3) := by decide +kernel
theorem d_Fl_isBetter_55 : decode prog_4_method_22_code 55 = .ok (.iload_n 1, 1) := by decide +kernel
theorem d_Fl_isBetter_56 : decode prog_4_method_22_code 56 = .ok (.iaload, 1) := by decide +kernel
theorem d_Fl_isBetter_57 : decode prog_4_method_22_code 57 = .ok (.aload_n 0, 1) := by decide +kernel
theorem d_Fl_isBetter_58 : decode prog_4_method_22_code 58 = .ok (.getfield 21, 3) := by decide +kernel
theorem d_Fl_isBetter_61 : decode prog_4_method_22_code 61 = .ok (.getfield 145, 3) := by decide +kernel
theorem d_Fl_isBetter_64 : decode prog_4_method_22_code 64 = .ok (.iload_n 2, 1) := by decide +kernel
theorem d_Fl_isBetter_65 : decode prog_4_method_22_code 65 = .ok (.iaload, 1) := by decide +kernel
theorem d_Fl_isBetter_66 : decode prog_4_method_22_code 66 = .ok (.if_icmp .eq 30, 3) := by decide +kernel
theorem d_Fl_isBetter_69 : decode prog_4_method_22_code 69 = .ok (.aload_n 0, 1) := by decide +kernel
theorem d_Fl_isBetter_70 : decode prog_4_method_22_code 70 = .ok (.getfield 21, 3) := by decide +kernel
theorem d_Fl_isBetter_73 : decode prog_4_method_22_code 73 = .ok (.getfield 145, 3) := by decide +kernel
theorem d_Fl_isBetter_76 : decode prog_4_method_22_code 76 = .ok (.iload_n 1, 1) := by decide +kernel
theorem d_Fl_isBetter_77 : decode prog_4_method_22_code 77 = .ok (.iaload, 1) := by decide +kernel
theorem d_Fl_isBetter_78 : decode prog_4_method_22_code 78 = .ok (.aload_n 0, 1) := by decide +kernel
theorem d_Fl_isBetter_79 : decode prog_4_method_22_code 79 = .ok (.getfield 21, 3) := by decide +kernel
theorem d_Fl_isBetter_82 : decode prog_4_method_22_code 82 = .ok (.getfield 145, 3) := by decide +kernel
theorem d_Fl_isBetter_85 : decode prog_4_method_22_code 85 = .ok (.iload_n 2, 1) := by decide +kernel
theorem d_Fl_isBetter_86 : decode prog_4_method_22_code 86 = .ok (.iaload, 1) := by decide +kernel
theorem d_Fl_isBetter_87 : decode prog_4_method_22_code 87 = .ok (.if_icmp .ge 7, 3) := by decide +kernel
theorem d_Fl_isBetter_90 : decode prog_4_method_22_code 90 = .ok (.iconst 1, 1) := by decide +kernel
theorem d_Fl_isBetter_91 : decode prog_4_method_22_code 91 = .ok (.goto 4, 3) := by decide +kernel
theorem d_Fl_isBetter_94 : decode prog_4_method_22_code 94 = .ok (.iconst 0, 1) := by decide +kernel
theorem d_Fl_isBetter_95 : decode prog_4_method_22_code 95 = .ok (.ireturn, 1) := by decide +kernel
theorem d_Fl_isBetter_96 : decode prog_4_method_22_code 96 = .ok (.aload_n 0, 1) := by decide +kernel
theorem d_Fl_isBetter_97 : decode prog_4_method_22_code 97 = .ok (.getfield 61, 3) := by decide +kernel
theorem d_Fl_isBetter_100 : decode prog_4_method_22_code 100 = .ok (.getfield 193, 3) := by decide +kernel
theorem d_Fl_isBetter_103 : decode prog_4_method_22_code 103 = .ok (.iload_n 1, 1) := by decide +kernel
theorem d_Fl_isBetter_104 : decode prog_4_method_22_code 104 = .ok (.iaload, 1) := by decide +kernel
theorem d_Fl_isBetter_105 : decode prog_4_method_22_code 105 = .ok (.aload_n 0, 1) := by decide +kernel
theorem d_Fl_isBetter_106 : decode prog_4_method_22_code 106 = .ok (.getfield 61, 3) := by decide +kernel
theorem d_Fl_isBetter_109 : decode prog_4_method_22_code 109 = .ok (.getfield 193, 3) := by decide +kernel
theorem d_Fl_isBetter_112 : decode prog_4_method_22_code 112 = .ok (.iload_n 2, 1) := by decide +kernel
theorem d_Fl_isBetter_113 : decode prog_4_method_22_code 113 = .ok (.iaload, 1) := by decide +kernel
theorem d_Fl_isBetter_114 : decode prog_4_method_22_code 114 = .ok (.if_icmp .ge 7, 3) := by decide +kernel
theorem d_Fl_isBetter_117 : decode prog_4_method_22_code 117 = .ok (.iconst 1, 1) := by decide +kernel
theorem d_Fl_isBetter_118 : decode prog_4_method_22_code 118 = .ok (.goto 4, 3) := by decide +kernel
theorem d_Fl_isBetter_121 : decode prog_4_method_22_code 121 = .ok (.iconst 0, 1) := by decide +kernel
theorem d_Fl_isBetter_122 : decode prog_4_method_22_code 122 = .ok (.ireturn, 1) := by decide +kernel
theorem d_Fl_speak_0 : decode prog_4_method_23_code 0 = .ok (.iconst 0, 1) := by decide +kernel
theorem d_Fl_speak_1 : decode prog_4_method_23_code 1 = .ok (.istore_n 2, 1) := by decide +kernel
theorem d_Fl_speak_2 : decode prog_4_method_23_code 2 = .ok (.iload_n 2, 1) := by decide +kernel
theorem d_Fl_speak_3 : decode prog_4_method_23_code 3 = .ok (.iconst 4, 1) := by decide +kernel
theorem d_Fl_speak_4 : decode prog_4_method_23_code 4 = .ok (.if_icmp .ge 137, 3) := by decide +kernel
theorem d_Fl_speak_7 : decode prog_4_method_23_code 7 = .ok (.iload_n 1, 1) := by decide +kernel
theorem d_Fl_speak_8 : decode prog_4_method_23_code 8 = .ok (.iload_n 2, 1) := by decide +kernel
theorem d_Fl_speak_9 : decode prog_4_method_23_code 9 = .ok (.invokestatic 91, 3) := by decide +kernel
theorem d_Fl_speak_12 : decode prog_4_method_23_code 12 = .ok (.istore_n 3, 1) := by decide +kernel
theorem d_Fl_speak_13 : decode prog_4_method_23_code 13 = .ok (.aload_n 0, 1) := by decide +kernel
theorem d_Fl_speak_14 : decode prog_4_method_23_code 14 = .ok (.getfield 61, 3) := by decide +kernel
theorem d_Fl_speak_17 : decode prog_4_method_23_code 17 = .ok (.getfield 115, 3) := by decide +kernel
theorem d_Fl_speak_20 : decode prog_4_method_23_code 20 = .ok (.iload_n 3, 1) := by decide +kernel
theorem d_Fl_speak_21 : decode prog_4_method_23_code 21 = .ok (.iaload, 1) := by decide +kernel
theorem d_Fl_speak_22 : decode prog_4_method_23_code 22 = .ok (.iconst (-1), 1) := by decide +kernel
theorem d_Fl_speak_23 : decode prog_4_method_23_code 23 = .ok (.if_icmp .ne 6, 3) := by decide +kernel
theorem d_Fl_speak_26 : decode prog_4_method_23_code 26 = .ok (.goto 109, 3) := by decide +kernel
theorem d_Fl_speak_29 : decode prog_4_method_23_code 29 = .ok (.iload_n 2, 1) := by decide +kernel
theorem d_Fl_speak_30 : decode prog_4_method_23_code 30 = .ok (.aload_n 0, 1) := by decide +kernel
theorem d_Fl_speak_31 : decode prog_4_method_23_code 31 = .ok (.getfield 34, 3) := by decide +kernel
theorem d_Fl_speak_34 : decode prog_4_method_23_code 34 = .ok (.iload_n 1, 1) := by decide +kernel
theorem d_Fl_speak_35 : decode prog_4_method_23_code 35 = .ok (.iaload, 1) := by decide +kernel
theorem d_Fl_speak_36 : decode prog_4_method_23_code 36 = .ok (.if_icmp .ne 18, 3) := by decide +kernel
theorem d_Fl_speak_39 : decode prog_4_method_23_code 39 = .ok (.aload_n 0, 1) := by decide +kernel
theorem d_Fl_speak_40 : decode prog_4_method_23_code 40 = .ok (.getfield 18, 3) := by decide +kernel
theorem d_Fl_speak_43 : decode prog_4_method_23_code 43 = .ok (.iload_n 3, 1) := by decide +kernel
theorem d_Fl_speak_44 : decode prog_4_method_23_code 44 = .ok (.bipush 7, 2) := by decide +kernel
theorem d_Fl_speak_46 : decode prog_4_method_23_code 46 = .ok (.iconst 0, 1) := by decide +kernel
theorem d_Fl_speak_47 : decode prog_4_method_23_code 47 = .ok (.iconst 0, 1) := by decide +kernel
theorem d_Fl_speak_48 : decode prog_4_method_23_code 48 = .ok (.invokevirtual 95, 3) := by decide +kernel
theorem d_Fl_speak_51 : decode prog_4_method_23_code 51 = .ok (.goto 84, 3) := by decide +kernel
theorem d_Fl_speak_54 : decode prog_4_method_23_code 54 = .ok (.aload_n 0, 1) := by decide +kernel
theorem d_Fl_speak_55 : decode prog_4_method_23_code 55 = .ok (.iload_n 1, 1) := by decide +kernel
theorem d_Fl_speak_56 : decode prog_4_method_23_code 56 = .ok (.invokevirtual 196, 3) := by decide +kernel
theorem d_Fl_speak_59 : decode prog_4_method_23_code 59 = .ok (.ifCond .eq 54, 3) := by decide +kernel
theorem d_Fl_speak_62 : decode prog_4_method_23_code 62 = .ok (.aload_n 0, 1) := by decide +kernel
theorem d_Fl_speak_63 : decode prog_4_method_23_code 63 = .ok (.getfield 21, 3) := by decide +kernel
theorem d_Fl_speak_66 : decode prog_4_method_23_code 66 = .ok (.getfield 146, 3) := by decide +kernel
theorem d_Fl_speak_69 : decode prog_4_method_23_code 69 = .ok (.iload_n 1, 1) := by decide +kernel
theorem d_Fl_speak_70 : decode prog_4_method_23_code 70 = .ok (.aload_n 0, 1) := by decide +kernel
theorem d_Fl_speak_71 : decode prog_4_method_23_code 71 = .ok (.getfield 34, 3) := by decide +kernel
theorem d_Fl_speak_74 : decode prog_4_method_23_code 74 = .ok (.iload_n 1, 1) := by decide +kernel
theorem d_Fl_speak_75 : decode prog_4_method_23_code 75 = .ok (.iaload, 1) := by decide +kernel
theorem d_Fl_speak_76 : decode prog_4_method_23_code 76 = .ok (.invokestatic 91, 3) := by decide +kernel
theorem d_Fl_speak_79 : decode prog_4_method_23_code 79 = .ok (.iaload, 1) := by decide +kernel
theorem d_Fl_speak_80 : decode prog_4_method_23_code 80 = .ok (.iconst 1, 1) := by decide +kernel
theorem d_Fl_speak_81 : decode prog_4_method_23_code 81 = .ok (.iload_n 1, 1) := by decide +kernel
theorem d_Fl_speak_82 : decode prog_4_method_23_code 82 = .ok (.ishl, 1) := by decide +kernel
theorem d_Fl_speak_83 : decode prog_4_method_23_code 83 = .ok (.ior, 1) := by decide +kernel
theorem d_Fl_speak_84 : decode prog_4_method_23_code 84 = .ok (.istore 4, 2) := by decide +kernel
theorem d_Fl_speak_86 : decode prog_4_method_23_code 86 = .ok (.aload_n 0, 1) := by decide +kernel
theorem d_Fl_speak_87 : decode prog_4_method_23_code 87 = .ok (.getfield 18, 3) := by decide +kernel
theorem d_Fl_speak_90 : decode prog_4_method_23_code 90 = .ok (.iload_n 3, 1) := by decide +kernel
theorem d_Fl_speak_91 : decode prog_4_method_23_code 91 = .ok (.aload_n 0, 1) := by decide +kernel
theorem d_Fl_speak_92 : decode prog_4_method_23_code 92 = .ok (.getfield 40, 3) := by decide +kernel
theorem d_Fl_speak_95 : decode prog_4_method_23_code 95 = .ok (.iload_n 1, 1) := by decide +kernel
theorem d_Fl_speak_96 : decode prog_4_method_23_code 96 = .ok (.iaload, 1) := by decide +kernel
theorem d_Fl_speak_97 : decode prog_4_method_23_code 97 = .ok (.aload_n 0, 1) := by decide +kernel
theorem d_Fl_speak_98 : decode prog_4_method_23_code 98 = .ok (.getfield 37, 3) := by decide +kernel
theorem d_Fl_speak_101 : decode prog_4_method_23_code 101 = .ok (.iload_n 1, 1) := by decide +kernel
theorem d_Fl_speak_102 : decode prog_4_method_23_code 102 = .ok (.iaload, 1) := by decide +kernel
theorem d_Fl_speak_103 : decode prog_4_method_23_code 103 = .ok (.iconst 1, 1) := by decide +kernel
theorem d_Fl_speak_104 : decode prog_4_method_23_code 104 = .ok (.iadd, 1) := by decide +kernel
theorem d_Fl_speak_105 : decode prog_4_method_23_code 105 = .ok (.iload 4, 2) := by decide +kernel
theorem d_Fl_speak_107 : decode prog_4_method_23_code 107 = .ok (.invokevirtual 95, 3) := by decide +kernel
theorem d_Fl_speak_110 : decode prog_4_method_23_code 110 = .ok (.goto 25, 3) := by decide +kernel
theorem d_Fl_speak_113 : decode prog_4_method_23_code 113 = .ok (.aload_n 0, 1) := by decide +kernel
theorem d_Fl_speak_114 : decode prog_4_method_23_code 114 = .ok (.getfield 18, 3) := by decide +kernel
theorem d_Fl_speak_117 : decode prog_4_method_23_code 117 = .ok (.iload_n 3, 1) := by decide +kernel
theorem d_Fl_speak_118 : decode prog_4_method_23_code 118 = .ok (.bipush 8, 2) := by decide +kernel
theorem d_Fl_speak_120 : decode prog_4_method_23_code 120 = .ok (.aload_n 0, 1) := by decide +kernel
theorem d_Fl_speak_121 : decode prog_4_method_23_code 121 = .ok (.getfield 61, 3) := by decide +kernel
theorem d_Fl_speak_124 : decode prog_4_method_23_code 124 = .ok (.getfield 199, 3) := by decide +kernel
theorem d_Fl_speak_127 : decode prog_4_method_23_code 127 = .ok (.iload_n 1, 1) := by decide +kernel
theorem d_Fl_speak_128 : decode prog_4_method_23_code 128 = .ok (.iaload, 1) := by decide +kernel
theorem d_Fl_speak_129 : decode prog_4_method_23_code 129 = .ok (.iadd, 1) := by decide +kernel
theorem d_Fl_speak_130 : decode prog_4_method_23_code 130 = .ok (.iconst 0, 1) := by decide +kernel
theorem d_Fl_speak_131 : decode prog_4_method_23_code 131 = .ok (.iconst 0, 1) := by decide +kernel
theorem d_Fl_speak_132 : decode prog_4_method_23_code 132 = .ok (.invokevirtual 95, 3) := by decide +kernel
theorem d_Fl_speak_135 : decode prog_4_method_23_code 135 = .ok (.iinc 2 1, 3) := by decide +kernel
theorem d_Fl_speak_138 : decode prog_4_method_23_code 138 = .ok (.goto (-136), 3) := by decide +kernel
theorem d_Fl_speak_141 : decode prog_4_method_23_code 141 = .ok (.return_, 1) := by decide +kernel
theorem d_CT_findStarved_0 : decode prog_1_method_23_code 0 = .ok (.iconst 0, 1) := by decide +kernel
theorem d_CT_findStarved_1 : decode prog_1_method_23_code 1 = .ok (.istore_n 2, 1) := by decide +kernel
theorem d_CT_findStarved_2 : decode prog_1_method_23_code 2 = .ok (.iload_n 2, 1) := by decide +kernel
theorem d_CT_findStarved_3 : decode prog_1_method_23_code 3 = .ok (.bipush 16, 2) := by decide +kernel
theorem d_CT_findStarved_5 : decode prog_1_method_23_code 5 = .ok (.if_icmp .ge 59, 3) := by decide +kernel
theorem d_CT_findStarved_8 : decode prog_1_method_23_code 8 = .ok (.aload_n 0, 1) := by decide +kernel
theorem d_CT_findStarved_9 : decode prog_1_method_23_code 9 = .ok (.getfield 49, 3) := by decide +kernel
theorem d_CT_findStarved_12 : decode prog_1_method_23_code 12 = .ok (.bipush 100, 2) := by decide +kernel
theorem d_CT_findStarved_14 : decode prog_1_method_23_code 14 = .ok (.if_icmp .ge 50, 3) := by decide +kernel
theorem d_CT_findStarved_17 : decode prog_1_method_23_code 17 = .ok (.aload_n 0, 1) := by decide +kernel
theorem d_CT_findStarved_18 : decode prog_1_method_23_code 18 = .ok (.getfield 25, 3) := by decide +kernel
theorem d_CT_findStarved_21 : decode prog_1_method_23_code 21 = .ok (.iload_n 2, 1) := by decide +kernel
theorem d_CT_findStarved_22 : decode prog_1_method_23_code 22 = .ok (.invokevirtual 225, 3) := by decide +kernel
theorem d_CT_findStarved_25 : decode prog_1_method_23_code 25 = .ok (.ifCond .eq 33, 3) := by decide +kernel
theorem d_CT_findStarved_28 : decode prog_1_method_23_code 28 = .ok (.aload_n 0, 1) := by decide +kernel
theorem d_CT_findStarved_29 : decode prog_1_method_23_code 29 = .ok (.getfield 42, 3) := by decide +kernel
theorem d_CT_findStarved_32 : decode prog_1_method_23_code 32 = .ok (.aload_n 0, 1) := by decide +kernel
theorem d_CT_findStarved_33 : decode prog_1_method_23_code 33 = .ok (.getfield 49, 3) := by decide +kernel
theorem d_CT_findStarved_36 : decode prog_1_method_23_code 36 = .ok (.iload_n 1, 1) := by decide +kernel
theorem d_CT_findStarved_37 : decode prog_1_method_23_code 37 = .ok (.iastore, 1) := by decide +kernel
theorem d_CT_findStarved_38 : decode prog_1_method_23_code 38 = .ok (.aload_n 0, 1) := by decide +kernel
theorem d_CT_findStarved_39 : decode prog_1_method_23_code 39 = .ok (.getfield 46, 3) := by decide +kernel
theorem d_CT_findStarved_42 : decode prog_1_method_23_code 42 = .ok (.aload_n 0, 1) := by decide +kernel
theorem d_CT_findStarved_43 : decode prog_1_method_23_code 43 = .ok (.getfield 49, 3) := by decide +kernel
theorem d_CT_findStarved_46 : decode prog_1_method_23_code 46 = .ok (.iload_n 2, 1) := by decide +kernel
theorem d_CT_findStarved_47 : decode prog_1_method_23_code 47 = .ok (.iastore, 1) := by decide +kernel
theorem d_CT_findStarved_48 : decode prog_1_method_23_code 48 = .ok (.aload_n 0, 1) := by decide +kernel
theorem d_CT_findStarved_49 : decode prog_1_method_23_code 49 = .ok (.dup, 1) := by decide +kernel
theorem d_CT_findStarved_50 : decode prog_1_method_23_code 50 = .ok (.getfield 49, 3) := by decide +kernel
theorem d_CT_findStarved_53 : decode prog_1_method_23_code 53 = .ok (.iconst 1, 1) := by decide +kernel
theorem d_CT_findStarved_54 : decode prog_1_method_23_code 54 = .ok (.iadd, 1) := by decide +kernel
theorem d_CT_findStarved_55 : decode prog_1_method_23_code 55 = .ok (.putfield 49, 3) := by decide +kernel
theorem d_CT_findStarved_58 : decode prog_1_method_23_code 58 = .ok (.iinc 2 1, 3) := by decide +kernel
theorem d_CT_findStarved_61 : decode prog_1_method_23_code 61 = .ok (.goto (-59), 3) := by decide +kernel
theorem d_CT_findStarved_64 : decode prog_1_method_23_code 64 = .ok (.return_, 1) := by decide +kernel
theorem d_Fl_isStarved_0 : decode prog_4_method_28_code 0 = .ok (.aload_n 0, 1) := by decide +kernel
theorem d_Fl_isStarved_1 : decode prog_4_method_28_code 1 = .ok (.iload_n 1, 1) := by decide +kernel
theorem d_Fl_isStarved_2 : decode prog_4_method_28_code 2 = .ok (.invokevirtual 102, 3) := by decide +kernel
theorem d_Fl_isStarved_5 : decode prog_4_method_28_code 5 = .ok (.ifCond .eq 25, 3) := by decide +kernel
theorem d_Fl_isStarved_8 : decode prog_4_method_28_code 8 = .ok (.aload_n 0, 1) := by decide +kernel
theorem d_Fl_isStarved_9 : decode prog_4_method_28_code 9 = .ok (.iload_n 1, 1) := by decide +kernel
theorem d_Fl_isStarved_10 : decode prog_4_method_28_code 10 = .ok (.invokevirtual 196, 3) := by decide +kernel
theorem d_Fl_isStarved_13 : decode prog_4_method_28_code 13 = .ok (.ifCond .ne 17, 3) := by decide +kernel
theorem d_Fl_isStarved_16 : decode prog_4_method_28_code 16 = .ok (.aload_n 0, 1) := by decide +kernel
theorem d_Fl_isStarved_17 : decode prog_4_method_28_code 17 = .ok (.iload_n 1, 1) := by decide +kernel
theorem d_Fl_isStarved_18 : decode prog_4_method_28_code 18 = .ok (.invokevirtual 212, 3) := by decide +kernel
theorem d_Fl_isStarved_21 : decode prog_4_method_28_code 21 = .ok (.bipush 7, 2) := by decide +kernel
theorem d_Fl_isStarved_23 : decode prog_4_method_28_code 23 = .ok (.if_icmp .ge 7, 3) := by decide +kernel
theorem d_Fl_isStarved_26 : decode prog_4_method_28_code 26 = .ok (.iconst 1, 1) := by decide +kernel
theorem d_Fl_isStarved_27 : decode prog_4_method_28_code 27 = .ok (.goto 4, 3) := by decide +kernel
theorem d_Fl_isStarved_30 : decode prog_4_method_28_code 30 = .ok (.iconst 0, 1) := by decide +kernel
theorem d_Fl_isStarved_31 : decode prog_4_method_28_code 31 = .ok (.ireturn, 1) := by decide +kernel
theorem d_Fl_bestReached_0 : decode prog_4_method_25_code 0 = .ok (.aload_n 0, 1) := by decide +kernel
theorem d_Fl_bestReached_1 : decode prog_4_method_25_code 1 = .ok (.iload_n 1, 1) := by decide +kernel
theorem d_Fl_bestReached_2 : decode prog_4_method_25_code 2 = .ok (.invokevirtual 102, 3) := by decide +kernel
theorem d_Fl_bestReached_5 : decode prog_4_method_25_code 5 = .ok (.ifCond .ne 6, 3) := by decide +kernel
theorem d_Fl_bestReached_8 : decode prog_4_method_25_code 8 = .ok (.bipush 7, 2) := by decide +kernel
theorem d_Fl_bestReached_10 : decode prog_4_method_25_code 10 = .ok (.ireturn, 1) := by decide +kernel
theorem d_Fl_bestReached_11 : decode prog_4_method_25_code 11 = .ok (.aload_n 0, 1) := by decide +kernel
theorem d_Fl_bestReached_12 : decode prog_4_method_25_code 12 = .ok (.iload_n 1, 1) := by decide +kernel
theorem d_Fl_bestReached_13 : decode prog_4_method_25_code 13 = .ok (.invokevirtual 200, 3) := by decide +kernel
theorem d_Fl_bestReached_16 : decode prog_4_method_25_code 16 = .ok (.istore_n 2, 1) := by decide +kernel
theorem d_Fl_bestReached_17 : decode prog_4_method_25_code 17 = .ok (.bipush 7, 2) := by decide +kernel
theorem d_Fl_bestReached_19 : decode prog_4_method_25_code 19 = .ok (.istore_n 3, 1) := by decide +kernel
theorem d_Fl_bestReached_20 : decode prog_4_method_25_code 20 = .ok (.iconst 0, 1) := by decide +kernel
theorem d_Fl_bestReached_21 : decode prog_4_method_25_code 21 = .ok (.istore 4, 2) := by decide +kernel
theorem d_Fl_bestReached_23 : decode prog_4_method_25_code 23 = .ok (.iload 4, 2) := by decide +kernel
theorem d_Fl_bestReached_25 : decode prog_4_method_25_code 25 = .ok (.bipush 64, 2) := by decide +kernel
theorem d_Fl_bestReached_27 : decode prog_4_method_25_code 27 = .ok (.if_icmp .ge 49, 3) := by decide +kernel
theorem d_Fl_bestReached_30 : decode prog_4_method_25_code 30 = .ok (.iload_n 2, 1) := by decide +kernel
theorem d_Fl_bestReached_31 : decode prog_4_method_25_code 31 = .ok (.iload 4, 2) := by decide +kernel
theorem d_Fl_bestReached_33 : decode prog_4_method_25_code 33 = .ok (.invokestatic 152, 3) := by decide +kernel
theorem d_Fl_bestReached_36 : decode prog_4_method_25_code 36 = .ok (.ishr, 1) := by decide +kernel
theorem d_Fl_bestReached_37 : decode prog_4_method_25_code 37 = .ok (.iconst 1, 1) := by decide +kernel
theorem d_Fl_bestReached_38 : decode prog_4_method_25_code 38 = .ok (.iand, 1) := by decide +kernel
theorem d_Fl_bestReached_39 : decode prog_4_method_25_code 39 = .ok (.iconst 1, 1) := by decide +kernel
theorem d_Fl_bestReached_40 : decode prog_4_method_25_code 40 = .ok (.if_icmp .ne 30, 3) := by decide +kernel
theorem d_Fl_bestReached_43 : decode prog_4_method_25_code 43 = .ok (.aload_n 0, 1) := by decide +kernel
theorem d_Fl_bestReached_44 : decode prog_4_method_25_code 44 = .ok (.getfield 61, 3) := by decide +kernel
theorem d_Fl_bestReached_47 : decode prog_4_method_25_code 47 = .ok (.iload 4, 2) := by decide +kernel
theorem d_Fl_bestReached_49 : decode prog_4_method_25_code 49 = .ok (.invokevirtual 156, 3) := by decide +kernel
theorem d_Fl_bestReached_52 : decode prog_4_method_25_code 52 = .ok (.ifCond .eq 18, 3) := by decide +kernel
theorem d_Fl_bestReached_55 : decode prog_4_method_25_code 55 = .ok (.iload_n 3, 1) := by decide +kernel
theorem d_Fl_bestReached_56 : decode prog_4_method_25_code 56 = .ok (.aload_n 0, 1) := by decide +kernel
theorem d_Fl_bestReached_57 : decode prog_4_method_25_code 57 = .ok (.getfield 61, 3) := by decide +kernel
theorem d_Fl_bestReached_60 : decode prog_4_method_25_code 60 = .ok (.getfield 159, 3) := by decide +kernel
theorem d_Fl_bestReached_63 : decode prog_4_method_25_code 63 = .ok (.iload 4, 2) := by decide +kernel
theorem d_Fl_bestReached_65 : decode prog_4_method_25_code 65 = .ok (.iaload, 1) := by decide +kernel
theorem d_Fl_bestReached_66 : decode prog_4_method_25_code 66 = .ok (.invokestatic 131, 3) := by decide +kernel
theorem d_Fl_bestReached_69 : decode prog_4_method_25_code 69 = .ok (.istore_n 3, 1) := by decide +kernel
theorem d_Fl_bestReached_70 : decode prog_4_method_25_code 70 = .ok (.iinc 4 1, 3) := by decide +kernel
theorem d_Fl_bestReached_73 : decode prog_4_method_25_code 73 = .ok (.goto (-50), 3) := by decide +kernel
theorem d_Fl_bestReached_76 : decode prog_4_method_25_code 76 = .ok (.iload_n 3, 1) := by decide +kernel
theorem d_Fl_bestReached_77 : decode prog_4_method_25_code 77 = .ok (.ireturn, 1) := by decide +kernel
theorem d_Fl_reachedFrom_0 : decode prog_4_method_26_code 0 = .ok (.iconst 1, 1) := by decide +kernel
theorem d_Fl_reachedFrom_1 : decode prog_4_method_26_code 1 = .ok (.iload_n 1, 1) := by decide +kernel
theorem d_Fl_reachedFrom_2 : decode prog_4_method_26_code 2 = .ok (.ishl, 1) := by decide +kernel
theorem d_Fl_reachedFrom_3 : decode prog_4_method_26_code 3 = .ok (.istore_n 2, 1) := by decide +kernel
theorem d_Fl_reachedFrom_4 : decode prog_4_method_26_code 4 = .ok (.iconst 0, 1) := by decide +kernel
theorem d_Fl_reachedFrom_5 : decode prog_4_method_26_code 5 = .ok (.istore_n 3, 1) := by decide +kernel
theorem d_Fl_reachedFrom_6 : decode prog_4_method_26_code 6 = .ok (.iload_n 3, 1) := by decide +kernel
theorem d_Fl_reachedFrom_7 : decode prog_4_method_26_code 7 = .ok (.bipush 16, 2) := by decide +kernel
theorem d_Fl_reachedFrom_9 : decode prog_4_method_26_code 9 = .ok (.if_icmp .ge 57, 3) := by decide +kernel
theorem d_Fl_reachedFrom_12 : decode prog_4_method_26_code 12 = .ok (.iload_n 2, 1) := by decide +kernel
theorem d_Fl_reachedFrom_13 : decode prog_4_method_26_code 13 = .ok (.istore 4, 2) := by decide +kernel
theorem d_Fl_reachedFrom_15 : decode prog_4_method_26_code 15 = .ok (.iconst 0, 1) := by decide +kernel
theorem d_Fl_reachedFrom_16 : decode prog_4_method_26_code 16 = .ok (.istore 5, 2) := by decide +kernel
theorem d_Fl_reachedFrom_18 : decode prog_4_method_26_code 18 = .ok (.iload 5, 2) := by decide +kernel
theorem d_Fl_reachedFrom_20 : decode prog_4_method_26_code 20 = .ok (.aload_n 0, 1) := by decide +kernel
theorem d_Fl_reachedFrom_21 : decode prog_4_method_26_code 21 = .ok (.getfield 61, 3) := by decide +kernel
theorem d_Fl_reachedFrom_24 : decode prog_4_method_26_code 24 = .ok (.getfield 203, 3) := by decide +kernel
theorem d_Fl_reachedFrom_27 : decode prog_4_method_26_code 27 = .ok (.if_icmp .ge 21, 3) := by decide +kernel
theorem d_Fl_reachedFrom_30 : decode prog_4_method_26_code 30 = .ok (.iload 4, 2) := by decide +kernel
theorem d_Fl_reachedFrom_32 : decode prog_4_method_26_code 32 = .ok (.aload_n 0, 1) := by decide +kernel
theorem d_Fl_reachedFrom_33 : decode prog_4_method_26_code 33 = .ok (.iload 5, 2) := by decide +kernel
theorem d_Fl_reachedFrom_35 : decode prog_4_method_26_code 35 = .ok (.iload_n 2, 1) := by decide +kernel
theorem d_Fl_reachedFrom_36 : decode prog_4_method_26_code 36 = .ok (.invokevirtual 206, 3) := by decide +kernel
theorem d_Fl_reachedFrom_39 : decode prog_4_method_26_code 39 = .ok (.ior, 1) := by decide +kernel
theorem d_Fl_reachedFrom_40 : decode prog_4_method_26_code 40 = .ok (.istore 4, 2) := by decide +kernel
theorem d_Fl_reachedFrom_42 : decode prog_4_method_26_code 42 = .ok (.iinc 5 1, 3) := by decide +kernel
theorem d_Fl_reachedFrom_45 : decode prog_4_method_26_code 45 = .ok (.goto (-27), 3) := by decide +kernel
theorem d_Fl_reachedFrom_48 : decode prog_4_method_26_code 48 = .ok (.iload 4, 2) := by decide +kernel
theorem d_Fl_reachedFrom_50 : decode prog_4_method_26_code 50 = .ok (.iload_n 2, 1) := by decide +kernel
theorem d_Fl_reachedFrom_51 : decode prog_4_method_26_code 51 = .ok (.if_icmp .ne 6, 3) := by decide +kernel
theorem d_Fl_reachedFrom_54 : decode prog_4_method_26_code 54 = .ok (.goto 12, 3) := by decide +kernel
theorem d_Fl_reachedFrom_57 : decode prog_4_method_26_code 57 = .ok (.iload 4, 2) := by decide +kernel
theorem d_Fl_reachedFrom_59 : decode prog_4_method_26_code 59 = .ok (.istore_n 2, 1) := by decide +kernel
theorem d_Fl_reachedFrom_60 : decode prog_4_method_26_code 60 = .ok (.iinc 3 1, 3) := by decide +kernel
theorem d_Fl_reachedFrom_63 : decode prog_4_method_26_code 63 = .ok (.goto (-57), 3) := by decide +kernel
theorem d_Fl_reachedFrom_66 : decode prog_4_method_26_code 66 = .ok (.iload_n 2, 1) := by decide +kernel
theorem d_Fl_reachedFrom_67 : decode prog_4_method_26_code 67 = .ok (.ireturn, 1) := by decide +kernel
theorem d_Fl_across_0 : decode prog_4_method_27_code 0 = .ok (.aload_n 0, 1) := by decide +kernel
theorem d_Fl_across_1 : decode prog_4_method_27_code 1 = .ok (.getfield 61, 3) := by decide +kernel
theorem d_Fl_across_4 : decode prog_4_method_27_code 4 = .ok (.getfield 209, 3) := by decide +kernel
theorem d_Fl_across_7 : decode prog_4_method_27_code 7 = .ok (.iload_n 1, 1) := by decide +kernel
theorem d_Fl_across_8 : decode prog_4_method_27_code 8 = .ok (.iaload, 1) := by decide +kernel
theorem d_Fl_across_9 : decode prog_4_method_27_code 9 = .ok (.invokestatic 152, 3) := by decide +kernel
theorem d_Fl_across_12 : decode prog_4_method_27_code 12 = .ok (.istore_n 3, 1) := by decide +kernel
theorem d_Fl_across_13 : decode prog_4_method_27_code 13 = .ok (.aload_n 0, 1) := by decide +kernel
theorem d_Fl_across_14 : decode prog_4_method_27_code 14 = .ok (.getfield 61, 3) := by decide +kernel
theorem d_Fl_across_17 : decode prog_4_method_27_code 17 = .ok (.getfield 128, 3) := by decide +kernel
theorem d_Fl_across_20 : decode prog_4_method_27_code 20 = .ok (.aload_n 0, 1) := by decide +kernel
theorem d_Fl_across_21 : decode prog_4_method_27_code 21 = .ok (.getfield 61, 3) := by decide +kernel
theorem d_Fl_across_24 : decode prog_4_method_27_code 24 = .ok (.getfield 209, 3) := by decide +kernel
theorem d_Fl_across_27 : decode prog_4_method_27_code 27 = .ok (.iload_n 1, 1) := by decide +kernel
theorem d_Fl_across_28 : decode prog_4_method_27_code 28 = .ok (.iaload, 1) := by decide +kernel
theorem d_Fl_across_29 : decode prog_4_method_27_code 29 = .ok (.iaload, 1) := by decide +kernel
theorem d_Fl_across_30 : decode prog_4_method_27_code 30 = .ok (.invokestatic 152, 3) := by decide +kernel
theorem d_Fl_across_33 : decode prog_4_method_27_code 33 = .ok (.istore 4, 2) := by decide +kernel
theorem d_Fl_across_35 : decode prog_4_method_27_code 35 = .ok (.aload_n 0, 1) := by decide +kernel
theorem d_Fl_across_36 : decode prog_4_method_27_code 36 = .ok (.iload_n 1, 1) := by decide +kernel
theorem d_Fl_across_37 : decode prog_4_method_27_code 37 = .ok (.invokevirtual 149, 3) := by decide +kernel
theorem d_Fl_across_40 : decode prog_4_method_27_code 40 = .ok (.ifCond .eq 24, 3) := by decide +kernel
theorem d_Fl_across_43 : decode prog_4_method_27_code 43 = .ok (.aload_n 0, 1) := by decide +kernel
theorem d_Fl_across_44 : decode prog_4_method_27_code 44 = .ok (.iload_n 3, 1) := by decide +kernel
theorem d_Fl_across_45 : decode prog_4_method_27_code 45 = .ok (.invokevirtual 102, 3) := by decide +kernel
theorem d_Fl_across_48 : decode prog_4_method_27_code 48 = .ok (.ifCond .eq 16, 3) := by decide +kernel
theorem d_Fl_across_51 : decode prog_4_method_27_code 51 = .ok (.aload_n 0, 1) := by decide +kernel
theorem d_Fl_across_52 : decode prog_4_method_27_code 52 = .ok (.iload 4, 2) := by decide +kernel
theorem d_Fl_across_54 : decode prog_4_method_27_code 54 = .ok (.invokevirtual 102, 3) := by decide +kernel
theorem d_Fl_across_57 : decode prog_4_method_27_code 57 = .ok (.ifCond .eq 7, 3) := by decide +kernel
theorem d_Fl_across_60 : decode prog_4_method_27_code 60 = .ok (.iconst 1, 1) := by decide +kernel
theorem d_Fl_across_61 : decode prog_4_method_27_code 61 = .ok (.goto 4, 3) := by decide +kernel
theorem d_Fl_across_64 : decode prog_4_method_27_code 64 = .ok (.iconst 0, 1) := by decide +kernel
theorem d_Fl_across_65 : decode prog_4_method_27_code 65 = .ok (.istore 5, 2) := by decide +kernel
theorem d_Fl_across_67 : decode prog_4_method_27_code 67 = .ok (.iconst 1, 1) := by decide +kernel
theorem d_Fl_across_68 : decode prog_4_method_27_code 68 = .ok (.iload_n 3, 1) := by decide +kernel
theorem d_Fl_across_69 : decode prog_4_method_27_code 69 = .ok (.ishl, 1) := by decide +kernel
theorem d_Fl_across_70 : decode prog_4_method_27_code 70 = .ok (.iconst 1, 1) := by decide +kernel
theorem d_Fl_across_71 : decode prog_4_method_27_code 71 = .ok (.iload 4, 2) := by decide +kernel
theorem d_Fl_across_73 : decode prog_4_method_27_code 73 = .ok (.ishl, 1) := by decide +kernel
theorem d_Fl_across_74 : decode prog_4_method_27_code 74 = .ok (.ior, 1) := by decide +kernel
theorem d_Fl_across_75 : decode prog_4_method_27_code 75 = .ok (.istore 6, 2) := by decide +kernel
theorem d_Fl_across_77 : decode prog_4_method_27_code 77 = .ok (.iload 5, 2) := by decide +kernel
theorem d_Fl_across_79 : decode prog_4_method_27_code 79 = .ok (.ifCond .eq 15, 3) := by decide +kernel
theorem d_Fl_across_82 : decode prog_4_method_27_code 82 = .ok (.iload_n 2, 1) := by decide +kernel
theorem d_Fl_across_83 : decode prog_4_method_27_code 83 = .ok (.iload 6, 2) := by decide +kernel
theorem d_Fl_across_85 : decode prog_4_method_27_code 85 = .ok (.iand, 1) := by decide +kernel
theorem d_Fl_across_86 : decode prog_4_method_27_code 86 = .ok (.ifCond .eq 8, 3) := by decide +kernel
theorem d_Fl_across_89 : decode prog_4_method_27_code 89 = .ok (.iload 6, 2) := by decide +kernel
theorem d_Fl_across_91 : decode prog_4_method_27_code 91 = .ok (.goto 4, 3) := by decide +kernel
theorem d_Fl_across_94 : decode prog_4_method_27_code 94 = .ok (.iconst 0, 1) := by decide +kernel
theorem d_Fl_across_95 : decode prog_4_method_27_code 95 = .ok (.ireturn, 1) := by decide +kernel
theorem d_Fl_setElementFailed_0 : decode prog_4_method_8_code 0 = .ok (.iload_n 2, 1) := by decide +kernel
theorem d_Fl_setElementFailed_1 : decode prog_4_method_8_code 1 = .ok (.ifCond .eq 23, 3) := by decide +kernel
theorem d_Fl_setElementFailed_4 : decode prog_4_method_8_code 4 = .ok (.aload_n 0, 1) := by decide +kernel
theorem d_Fl_setElementFailed_5 : decode prog_4_method_8_code 5 = .ok (.dup, 1) := by decide +kernel
theorem d_Fl_setElementFailed_6 : decode prog_4_method_8_code 6 = .ok (.getfield 47, 3) := by decide +kernel
theorem d_Fl_setElementFailed_9 : decode prog_4_method_8_code 9 = .ok (.iconst 1, 1) := by decide +kernel
theorem d_Fl_setElementFailed_10 : decode prog_4_method_8_code 10 = .ok (.iload_n 1, 1) := by decide +kernel
theorem d_Fl_setElementFailed_11 : decode prog_4_method_8_code 11 = .ok (.ishl, 1) := by decide +kernel
theorem d_Fl_setElementFailed_12 : decode prog_4_method_8_code 12 = .ok (.ior, 1) := by decide +kernel
theorem d_Fl_setElementFailed_13 : decode prog_4_method_8_code 13 = .ok (.putfield 47, 3) := by decide +kernel
theorem d_Fl_setElementFailed_16 : decode prog_4_method_8_code 16 = .ok (.aload_n 0, 1) := by decide +kernel
theorem d_Fl_setElementFailed_17 : decode prog_4_method_8_code 17 = .ok (.iload_n 1, 1) := by decide +kernel
theorem d_Fl_setElementFailed_18 : decode prog_4_method_8_code 18 = .ok (.invokevirtual 87, 3) := by decide +kernel
theorem d_Fl_setElementFailed_21 : decode prog_4_method_8_code 21 = .ok (.goto 17, 3) := by decide +kernel
theorem d_Fl_setElementFailed_24 : decode prog_4_method_8_code 24 = .ok (.aload_n 0, 1) := by decide +kernel
theorem d_Fl_setElementFailed_25 : decode prog_4_method_8_code 25 = .ok (.dup, 1) := by decide +kernel
theorem d_Fl_setElementFailed_26 : decode prog_4_method_8_code 26 = .ok (.getfield 47, 3) := by decide +kernel
theorem d_Fl_setElementFailed_29 : decode prog_4_method_8_code 29 = .ok (.iconst 1, 1) := by decide +kernel
theorem d_Fl_setElementFailed_30 : decode prog_4_method_8_code 30 = .ok (.iload_n 1, 1) := by decide +kernel
theorem d_Fl_setElementFailed_31 : decode prog_4_method_8_code 31 = .ok (.ishl, 1) := by decide +kernel
theorem d_Fl_setElementFailed_32 : decode prog_4_method_8_code 32 = .ok (.iconst (-1), 1) := by decide +kernel
theorem d_Fl_setElementFailed_33 : decode prog_4_method_8_code 33 = .ok (.ixor, 1) := by decide +kernel
theorem d_Fl_setElementFailed_34 : decode prog_4_method_8_code 34 = .ok (.iand, 1) := by decide +kernel
theorem d_Fl_setElementFailed_35 : decode prog_4_method_8_code 35 = .ok (.putfield 47, 3) := by decide +kernel
theorem d_Fl_setElementFailed_38 : decode prog_4_method_8_code 38 = .ok (.return_, 1) := by decide +kernel
theorem d_Fl_forget_0 : decode prog_4_method_10_code 0 = .ok (.aload_n 0, 1) := by decide +kernel
theorem d_Fl_forget_1 : decode prog_4_method_10_code 1 = .ok (.getfield 31, 3) := by decide +kernel
theorem d_Fl_forget_4 : decode prog_4_method_10_code 4 = .ok (.iload_n 1, 1) := by decide +kernel
theorem d_Fl_forget_5 : decode prog_4_method_10_code 5 = .ok (.iconst 0, 1) := by decide +kernel
theorem d_Fl_forget_6 : decode prog_4_method_10_code 6 = .ok (.iastore, 1) := by decide +kernel
theorem d_Fl_forget_7 : decode prog_4_method_10_code 7 = .ok (.aload_n 0, 1) := by decide +kernel
theorem d_Fl_forget_8 : decode prog_4_method_10_code 8 = .ok (.getfield 34, 3) := by decide +kernel
theorem d_Fl_forget_11 : decode prog_4_method_10_code 11 = .ok (.iload_n 1, 1) := by decide +kernel
theorem d_Fl_forget_12 : decode prog_4_method_10_code 12 = .ok (.iconst (-1), 1) := by decide +kernel
theorem d_Fl_forget_13 : decode prog_4_method_10_code 13 = .ok (.iastore, 1) := by decide +kernel
theorem d_Fl_forget_14 : decode prog_4_method_10_code 14 = .ok (.aload_n 0, 1) := by decide +kernel
theorem d_Fl_forget_15 : decode prog_4_method_10_code 15 = .ok (.getfield 37, 3) := by decide +kernel
theorem d_Fl_forget_18 : decode prog_4_method_10_code 18 = .ok (.iload_n 1, 1) := by decide +kernel
theorem d_Fl_forget_19 : decode prog_4_method_10_code 19 = .ok (.iconst (-1), 1) := by decide +kernel
theorem d_Fl_forget_20 : decode prog_4_method_10_code 20 = .ok (.iastore, 1) := by decide +kernel
theorem d_Fl_forget_21 : decode prog_4_method_10_code 21 = .ok (.aload_n 0, 1) := by decide +kernel
theorem d_Fl_forget_22 : decode prog_4_method_10_code 22 = .ok (.getfield 40, 3) := by decide +kernel
theorem d_Fl_forget_25 : decode prog_4_method_10_code 25 = .ok (.iload_n 1, 1) := by decide +kernel
theorem d_Fl_forget_26 : decode prog_4_method_10_code 26 = .ok (.iconst (-1), 1) := by decide +kernel
theorem d_Fl_forget_27 : decode prog_4_method_10_code 27 = .ok (.iastore, 1) := by decide +kernel
theorem d_Fl_forget_28 : decode prog_4_method_10_code 28 = .ok (.aload_n 0, 1) := by decide +kernel
theorem d_Fl_forget_29 : decode prog_4_method_10_code 29 = .ok (.dup, 1) := by decide +kernel
theorem d_Fl_forget_30 : decode prog_4_method_10_code 30 = .ok (.getfield 43, 3) := by decide +kernel
theorem d_Fl_forget_33 : decode prog_4_method_10_code 33 = .ok (.iconst 1, 1) := by decide +kernel
theorem d_Fl_forget_34 : decode prog_4_method_10_code 34 = .ok (.iload_n 1, 1) := by decide +kernel
theorem d_Fl_forget_35 : decode prog_4_method_10_code 35 = .ok (.ishl, 1) := by decide +kernel
theorem d_Fl_forget_36 : decode prog_4_method_10_code 36 = .ok (.iconst (-1), 1) := by decide +kernel
theorem d_Fl_forget_37 : decode prog_4_method_10_code 37 = .ok (.ixor, 1) := by decide +kernel
theorem d_Fl_forget_38 : decode prog_4_method_10_code 38 = .ok (.iand, 1) := by decide +kernel
theorem d_Fl_forget_39 : decode prog_4_method_10_code 39 = .ok (.putfield 43, 3) := by decide +kernel
theorem d_Fl_forget_42 : decode prog_4_method_10_code 42 = .ok (.iconst 0, 1) := by decide +kernel
theorem d_Fl_forget_43 : decode prog_4_method_10_code 43 = .ok (.istore_n 2, 1) := by decide +kernel
theorem d_Fl_forget_44 : decode prog_4_method_10_code 44 = .ok (.iload_n 2, 1) := by decide +kernel
theorem d_Fl_forget_45 : decode prog_4_method_10_code 45 = .ok (.iconst 4, 1) := by decide +kernel
theorem d_Fl_forget_46 : decode prog_4_method_10_code 46 = .ok (.if_icmp .ge 40, 3) := by decide +kernel
theorem d_Fl_forget_49 : decode prog_4_method_10_code 49 = .ok (.iload_n 1, 1) := by decide +kernel
theorem d_Fl_forget_50 : decode prog_4_method_10_code 50 = .ok (.iload_n 2, 1) := by decide +kernel
theorem d_Fl_forget_51 : decode prog_4_method_10_code 51 = .ok (.invokestatic 91, 3) := by decide +kernel
theorem d_Fl_forget_54 : decode prog_4_method_10_code 54 = .ok (.istore_n 3, 1) := by decide +kernel
theorem d_Fl_forget_55 : decode prog_4_method_10_code 55 = .ok (.aload_n 0, 1) := by decide +kernel
theorem d_Fl_forget_56 : decode prog_4_method_10_code 56 = .ok (.getfield 18, 3) := by decide +kernel
theorem d_Fl_forget_59 : decode prog_4_method_10_code 59 = .ok (.iload_n 3, 1) := by decide +kernel
theorem d_Fl_forget_60 : decode prog_4_method_10_code 60 = .ok (.iconst (-1), 1) := by decide +kernel
theorem d_Fl_forget_61 : decode prog_4_method_10_code 61 = .ok (.iconst 0, 1) := by decide +kernel
theorem d_Fl_forget_62 : decode prog_4_method_10_code 62 = .ok (.iconst 0, 1) := by decide +kernel
theorem d_Fl_forget_63 : decode prog_4_method_10_code 63 = .ok (.invokevirtual 95, 3) := by decide +kernel
theorem d_Fl_forget_66 : decode prog_4_method_10_code 66 = .ok (.aload_n 0, 1) := by decide +kernel
theorem d_Fl_forget_67 : decode prog_4_method_10_code 67 = .ok (.getfield 24, 3) := by decide +kernel
theorem d_Fl_forget_70 : decode prog_4_method_10_code 70 = .ok (.iload_n 3, 1) := by decide +kernel
theorem d_Fl_forget_71 : decode prog_4_method_10_code 71 = .ok (.iconst 3, 1) := by decide +kernel
theorem d_Fl_forget_72 : decode prog_4_method_10_code 72 = .ok (.iastore, 1) := by decide +kernel
theorem d_Fl_forget_73 : decode prog_4_method_10_code 73 = .ok (.aload_n 0, 1) := by decide +kernel
theorem d_Fl_forget_74 : decode prog_4_method_10_code 74 = .ok (.getfield 28, 3) := by decide +kernel
theorem d_Fl_forget_77 : decode prog_4_method_10_code 77 = .ok (.iload_n 3, 1) := by decide +kernel
theorem d_Fl_forget_78 : decode prog_4_method_10_code 78 = .ok (.iconst 0, 1) := by decide +kernel
theorem d_Fl_forget_79 : decode prog_4_method_10_code 79 = .ok (.iastore, 1) := by decide +kernel
theorem d_Fl_forget_80 : decode prog_4_method_10_code 80 = .ok (.iinc 2 1, 3) := by decide +kernel
theorem d_Fl_forget_83 : decode prog_4_method_10_code 83 = .ok (.goto (-39), 3) := by decide +kernel
theorem d_Fl_forget_86 : decode prog_4_method_10_code 86 = .ok (.return_, 1) := by decide +kernel
theorem d_CT_element_0 : decode prog_1_method_2_code 0 = .ok (.iload_n 1, 1) := by decide +kernel
theorem d_CT_element_1 : decode prog_1_method_2_code 1 = .ok (.iconst 0, 1) := by decide +kernel
theorem d_CT_element_2 : decode prog_1_method_2_code 2 = .ok (.bipush 15, 2) := by decide +kernel
theorem d_CT_element_4 : decode prog_1_method_2_code 4 = .ok (.invokestatic 53, 3) := by decide +kernel
theorem d_CT_element_7 : decode prog_1_method_2_code 7 = .ok (.ifCond .eq 17, 3) := by decide +kernel
theorem d_CT_element_10 : decode prog_1_method_2_code 10 = .ok (.iload_n 2, 1) := by decide +kernel
theorem d_CT_element_11 : decode prog_1_method_2_code 11 = .ok (.iconst 0, 1) := by decide +kernel
theorem d_CT_element_12 : decode prog_1_method_2_code 12 = .ok (.bipush 6, 2) := by decide +kernel
theorem d_CT_element_14 : decode prog_1_method_2_code 14 = .ok (.invokestatic 53, 3) := by decide +kernel
theorem d_CT_element_17 : decode prog_1_method_2_code 17 = .ok (.ifCond .eq 7, 3) := by decide +kernel
theorem d_CT_element_20 : decode prog_1_method_2_code 20 = .ok (.iconst 1, 1) := by decide +kernel
theorem d_CT_element_21 : decode prog_1_method_2_code 21 = .ok (.goto 4, 3) := by decide +kernel
theorem d_CT_element_24 : decode prog_1_method_2_code 24 = .ok (.iconst 0, 1) := by decide +kernel
theorem d_CT_element_25 : decode prog_1_method_2_code 25 = .ok (.invokestatic 57, 3) := by decide +kernel
theorem d_CT_element_28 : decode prog_1_method_2_code 28 = .ok (.iload_n 3, 1) := by decide +kernel
theorem d_CT_element_29 : decode prog_1_method_2_code 29 = .ok (.sipush (-1000), 3) := by decide +kernel
theorem d_CT_element_32 : decode prog_1_method_2_code 32 = .ok (.sipush 1000, 3) := by decide +kernel
theorem d_CT_element_35 : decode prog_1_method_2_code 35 = .ok (.invokestatic 53, 3) := by decide +kernel
theorem d_CT_element_38 : decode prog_1_method_2_code 38 = .ok (.invokestatic 57, 3) := by decide +kernel
theorem d_CT_element_41 : decode prog_1_method_2_code 41 = .ok (.iload 4, 2) := by decide +kernel
theorem d_CT_element_43 : decode prog_1_method_2_code 43 = .ok (.bipush (-9), 2) := by decide +kernel
theorem d_CT_element_45 : decode prog_1_method_2_code 45 = .ok (.bipush 9, 2) := by decide +kernel
theorem d_CT_element_47 : decode prog_1_method_2_code 47 = .ok (.invokestatic 53, 3) := by decide +kernel
theorem d_CT_element_50 : decode prog_1_method_2_code 50 = .ok (.invokestatic 57, 3) := by decide +kernel
theorem d_CT_element_53 : decode prog_1_method_2_code 53 = .ok (.aload_n 0, 1) := by decide +kernel
theorem d_CT_element_54 : decode prog_1_method_2_code 54 = .ok (.getfield 12, 3) := by decide +kernel
theorem d_CT_element_57 : decode prog_1_method_2_code 57 = .ok (.getfield 61, 3) := by decide +kernel
theorem d_CT_element_60 : decode prog_1_method_2_code 60 = .ok (.iload_n 1, 1) := by decide +kernel
theorem d_CT_element_61 : decode prog_1_method_2_code 61 = .ok (.baload, 1) := by decide +kernel
theorem d_CT_element_62 : decode prog_1_method_2_code 62 = .ok (.ifCond .eq 13, 3) := by decide +kernel
theorem d_CT_element_65 : decode prog_1_method_2_code 65 = .ok (.new 65, 3) := by decide +kernel
theorem d_CT_element_68 : decode prog_1_method_2_code 68 = .ok (.dup, 1) := by decide +kernel
theorem d_CT_element_69 : decode prog_1_method_2_code 69 = .ok (.ldc 67, 2) := by decide +kernel
theorem d_CT_element_71 : decode prog_1_method_2_code 71 = .ok (.invokespecial 69, 3) := by decide +kernel
theorem d_CT_element_74 : decode prog_1_method_2_code 74 = .ok (.athrow, 1) := by decide +kernel
theorem d_CT_element_75 : decode prog_1_method_2_code 75 = .ok (.aload_n 0, 1) := by decide +kernel
theorem d_CT_element_76 : decode prog_1_method_2_code 76 = .ok (.getfield 12, 3) := by decide +kernel
theorem d_CT_element_79 : decode prog_1_method_2_code 79 = .ok (.getfield 61, 3) := by decide +kernel
theorem d_CT_element_82 : decode prog_1_method_2_code 82 = .ok (.iload_n 1, 1) := by decide +kernel
theorem d_CT_element_83 : decode prog_1_method_2_code 83 = .ok (.iconst 1, 1) := by decide +kernel
theorem d_CT_element_84 : decode prog_1_method_2_code 84 = .ok (.bastore, 1) := by decide +kernel
theorem d_CT_element_85 : decode prog_1_method_2_code 85 = .ok (.aload_n 0, 1) := by decide +kernel
theorem d_CT_element_86 : decode prog_1_method_2_code 86 = .ok (.getfield 12, 3) := by decide +kernel
theorem d_CT_element_89 : decode prog_1_method_2_code 89 = .ok (.getfield 72, 3) := by decide +kernel
theorem d_CT_element_92 : decode prog_1_method_2_code 92 = .ok (.iload_n 1, 1) := by decide +kernel
theorem d_CT_element_93 : decode prog_1_method_2_code 93 = .ok (.iload_n 2, 1) := by decide +kernel
theorem d_CT_element_94 : decode prog_1_method_2_code 94 = .ok (.iastore, 1) := by decide +kernel
theorem d_CT_element_95 : decode prog_1_method_2_code 95 = .ok (.aload_n 0, 1) := by decide +kernel
theorem d_CT_element_96 : decode prog_1_method_2_code 96 = .ok (.getfield 12, 3) := by decide +kernel
theorem d_CT_element_99 : decode prog_1_method_2_code 99 = .ok (.getfield 75, 3) := by decide +kernel
theorem d_CT_element_102 : decode prog_1_method_2_code 102 = .ok (.iload_n 1, 1) := by decide +kernel
theorem d_CT_element_103 : decode prog_1_method_2_code 103 = .ok (.iload_n 3, 1) := by decide +kernel
theorem d_CT_element_104 : decode prog_1_method_2_code 104 = .ok (.iastore, 1) := by decide +kernel
theorem d_CT_element_105 : decode prog_1_method_2_code 105 = .ok (.aload_n 0, 1) := by decide +kernel
theorem d_CT_element_106 : decode prog_1_method_2_code 106 = .ok (.getfield 12, 3) := by decide +kernel
theorem d_CT_element_109 : decode prog_1_method_2_code 109 = .ok (.getfield 78, 3) := by decide +kernel
theorem d_CT_element_112 : decode prog_1_method_2_code 112 = .ok (.iload_n 1, 1) := by decide +kernel
theorem d_CT_element_113 : decode prog_1_method_2_code 113 = .ok (.iload 4, 2) := by decide +kernel
theorem d_CT_element_115 : decode prog_1_method_2_code 115 = .ok (.iastore, 1) := by decide +kernel
theorem d_CT_element_116 : decode prog_1_method_2_code 116 = .ok (.aload_n 0, 1) := by decide +kernel
theorem d_CT_element_117 : decode prog_1_method_2_code 117 = .ok (.getfield 31, 3) := by decide +kernel
theorem d_CT_element_120 : decode prog_1_method_2_code 120 = .ok (.iload_n 1, 1) := by decide +kernel
theorem d_CT_element_121 : decode prog_1_method_2_code 121 = .ok (.iload_n 3, 1) := by decide +kernel
theorem d_CT_element_122 : decode prog_1_method_2_code 122 = .ok (.invokevirtual 81, 3) := by decide +kernel
theorem d_CT_element_125 : decode prog_1_method_2_code 125 = .ok (.return_, 1) := by decide +kernel
theorem d_CT_refuseUnless_0 : decode prog_1_method_24_code 0 = .ok (.iload_n 0, 1) := by decide +kernel
theorem d_CT_refuseUnless_1 : decode prog_1_method_24_code 1 = .ok (.ifCond .ne 13, 3) := by decide +kernel
theorem d_CT_refuseUnless_4 : decode prog_1_method_24_code 4 = .ok (.new 190, 3) := by decide +kernel
theorem d_CT_refuseUnless_7 : decode prog_1_method_24_code 7 = .ok (.dup, 1) := by decide +kernel
theorem d_CT_refuseUnless_8 : decode prog_1_method_24_code 8 = .ok (.ldc 228, 2) := by decide +kernel
theorem d_CT_refuseUnless_10 : decode prog_1_method_24_code 10 = .ok (.invokespecial 194, 3) := by decide +kernel
theorem d_CT_refuseUnless_13 : decode prog_1_method_24_code 13 = .ok (.athrow, 1) := by decide +kernel
theorem d_CT_refuseUnless_14 : decode prog_1_method_24_code 14 = .ok (.return_, 1) := by decide +kernel
theorem d_Ck_start_0 : decode prog_3_method_2_code 0 = .ok (.aload_n 0, 1) := by decide +kernel
theorem d_Ck_start_1 : decode prog_3_method_2_code 1 = .ok (.getfield 9, 3) := by decide +kernel
theorem d_Ck_start_4 : decode prog_3_method_2_code 4 = .ok (.iload_n 1, 1) := by decide +kernel
theorem d_Ck_start_5 : decode prog_3_method_2_code 5 = .ok (.iload_n 2, 1) := by decide +kernel
theorem d_Ck_start_6 : decode prog_3_method_2_code 6 = .ok (.iastore, 1) := by decide +kernel
theorem d_Ck_start_7 : decode prog_3_method_2_code 7 = .ok (.aload_n 0, 1) := by decide +kernel
theorem d_Ck_start_8 : decode prog_3_method_2_code 8 = .ok (.getfield 15, 3) := by decide +kernel
theorem d_Ck_start_11 : decode prog_3_method_2_code 11 = .ok (.iload_n 1, 1) := by decide +kernel
theorem d_Ck_start_12 : decode prog_3_method_2_code 12 = .ok (.iload_n 2, 1) := by decide +kernel
theorem d_Ck_start_13 : decode prog_3_method_2_code 13 = .ok (.iastore, 1) := by decide +kernel
theorem d_Ck_start_14 : decode prog_3_method_2_code 14 = .ok (.return_, 1) := by decide +kernel
theorem d_CT_link_0 : decode prog_1_method_3_code 0 = .ok (.aload_n 0, 1) := by decide +kernel
theorem d_CT_link_1 : decode prog_1_method_3_code 1 = .ok (.getfield 12, 3) := by decide +kernel
theorem d_CT_link_4 : decode prog_1_method_3_code 4 = .ok (.iload_n 1, 1) := by decide +kernel
theorem d_CT_link_5 : decode prog_1_method_3_code 5 = .ok (.iload_n 2, 1) := by decide +kernel
theorem d_CT_link_6 : decode prog_1_method_3_code 6 = .ok (.invokevirtual 85, 3) := by decide +kernel
theorem d_CT_link_9 : decode prog_1_method_3_code 9 = .ok (.ifCond .eq 25, 3) := by decide +kernel
theorem d_CT_link_12 : decode prog_1_method_3_code 12 = .ok (.aload_n 0, 1) := by decide +kernel
theorem d_CT_link_13 : decode prog_1_method_3_code 13 = .ok (.getfield 12, 3) := by decide +kernel
theorem d_CT_link_16 : decode prog_1_method_3_code 16 = .ok (.iload_n 3, 1) := by decide +kernel
theorem d_CT_link_17 : decode prog_1_method_3_code 17 = .ok (.iload 4, 2) := by decide +kernel
theorem d_CT_link_19 : decode prog_1_method_3_code 19 = .ok (.invokevirtual 85, 3) := by decide +kernel
theorem d_CT_link_22 : decode prog_1_method_3_code 22 = .ok (.ifCond .eq 12, 3) := by decide +kernel
theorem d_CT_link_25 : decode prog_1_method_3_code 25 = .ok (.iload_n 1, 1) := by decide +kernel
theorem d_CT_link_26 : decode prog_1_method_3_code 26 = .ok (.iload_n 3, 1) := by decide +kernel
theorem d_CT_link_27 : decode prog_1_method_3_code 27 = .ok (.if_icmp .eq 7, 3) := by decide +kernel
theorem d_CT_link_30 : decode prog_1_method_3_code 30 = .ok (.iconst 1, 1) := by decide +kernel
theorem d_CT_link_31 : decode prog_1_method_3_code 31 = .ok (.goto 4, 3) := by decide +kernel
theorem d_CT_link_34 : decode prog_1_method_3_code 34 = .ok (.iconst 0, 1) := by decide +kernel
theorem d_CT_link_35 : decode prog_1_method_3_code 35 = .ok (.invokestatic 57, 3) := by decide +kernel
theorem d_CT_link_38 : decode prog_1_method_3_code 38 = .ok (.iload_n 1, 1) := by decide +kernel
theorem d_CT_link_39 : decode prog_1_method_3_code 39 = .ok (.iload_n 2, 1) := by decide +kernel
theorem d_CT_link_40 : decode prog_1_method_3_code 40 = .ok (.invokestatic 89, 3) := by decide +kernel
theorem d_CT_link_43 : decode prog_1_method_3_code 43 = .ok (.istore 5, 2) := by decide +kernel
theorem d_CT_link_45 : decode prog_1_method_3_code 45 = .ok (.iload_n 3, 1) := by decide +kernel
theorem d_CT_link_46 : decode prog_1_method_3_code 46 = .ok (.iload 4, 2) := by decide +kernel
theorem d_CT_link_48 : decode prog_1_method_3_code 48 = .ok (.invokestatic 89, 3) := by decide +kernel
theorem d_CT_link_51 : decode prog_1_method_3_code 51 = .ok (.istore 6, 2) := by decide +kernel
theorem d_CT_link_53 : decode prog_1_method_3_code 53 = .ok (.aload_n 0, 1) := by decide +kernel
theorem d_CT_link_54 : decode prog_1_method_3_code 54 = .ok (.getfield 12, 3) := by decide +kernel
theorem d_CT_link_57 : decode prog_1_method_3_code 57 = .ok (.iload 5, 2) := by decide +kernel
theorem d_CT_link_59 : decode prog_1_method_3_code 59 = .ok (.invokevirtual 93, 3) := by decide +kernel
theorem d_CT_link_62 : decode prog_1_method_3_code 62 = .ok (.ifCond .ne 27, 3) := by decide +kernel
theorem d_CT_link_65 : decode prog_1_method_3_code 65 = .ok (.aload_n 0, 1) := by decide +kernel
theorem d_CT_link_66 : decode prog_1_method_3_code 66 = .ok (.getfield 12, 3) := by decide +kernel
theorem d_CT_link_69 : decode prog_1_method_3_code 69 = .ok (.iload 6, 2) := by decide +kernel
theorem d_CT_link_71 : decode prog_1_method_3_code 71 = .ok (.invokevirtual 93, 3) := by decide +kernel
theorem d_CT_link_74 : decode prog_1_method_3_code 74 = .ok (.ifCond .ne 15, 3) := by decide +kernel
theorem d_CT_link_77 : decode prog_1_method_3_code 77 = .ok (.aload_n 0, 1) := by decide +kernel
theorem d_CT_link_78 : decode prog_1_method_3_code 78 = .ok (.getfield 12, 3) := by decide +kernel
theorem d_CT_link_81 : decode prog_1_method_3_code 81 = .ok (.getfield 97, 3) := by decide +kernel
theorem d_CT_link_84 : decode prog_1_method_3_code 84 = .ok (.bipush 24, 2) := by decide +kernel
theorem d_CT_link_86 : decode prog_1_method_3_code 86 = .ok (.if_icmp .lt 13, 3) := by decide +kernel
theorem d_CT_link_89 : decode prog_1_method_3_code 89 = .ok (.new 65, 3) := by decide +kernel
theorem d_CT_link_92 : decode prog_1_method_3_code 92 = .ok (.dup, 1) := by decide +kernel
theorem d_CT_link_93 : decode prog_1_method_3_code 93 = .ok (.ldc 100, 2) := by decide +kernel
theorem d_CT_link_95 : decode prog_1_method_3_code 95 = .ok (.invokespecial 69, 3) := by decide +kernel
theorem d_CT_link_98 : decode prog_1_method_3_code 98 = .ok (.athrow, 1) := by decide +kernel
theorem d_CT_link_99 : decode prog_1_method_3_code 99 = .ok (.aload_n 0, 1) := by decide +kernel
theorem d_CT_link_100 : decode prog_1_method_3_code 100 = .ok (.getfield 12, 3) := by decide +kernel
theorem d_CT_link_103 : decode prog_1_method_3_code 103 = .ok (.iload 5, 2) := by decide +kernel
theorem d_CT_link_105 : decode prog_1_method_3_code 105 = .ok (.iload 6, 2) := by decide +kernel
theorem d_CT_link_107 : decode prog_1_method_3_code 107 = .ok (.invokevirtual 102, 3) := by decide +kernel
theorem d_CT_link_110 : decode prog_1_method_3_code 110 = .ok (.ireturn, 1) := by decide +kernel
theorem d_Pl_isPort_0 : decode prog_5_method_3_code 0 = .ok (.aload_n 0, 1) := by decide +kernel
theorem d_Pl_isPort_1 : decode prog_5_method_3_code 1 = .ok (.iload_n 1, 1) := by decide +kernel
theorem d_Pl_isPort_2 : decode prog_5_method_3_code 2 = .ok (.invokevirtual 73, 3) := by decide +kernel
theorem d_Pl_isPort_5 : decode prog_5_method_3_code 5 = .ok (.ifCond .eq 16, 3) := by decide +kernel
theorem d_Pl_isPort_8 : decode prog_5_method_3_code 8 = .ok (.iload_n 2, 1) := by decide +kernel
theorem d_Pl_isPort_9 : decode prog_5_method_3_code 9 = .ok (.iconst 0, 1) := by decide +kernel
theorem d_Pl_isPort_10 : decode prog_5_method_3_code 10 = .ok (.iconst 3, 1) := by decide +kernel
theorem d_Pl_isPort_11 : decode prog_5_method_3_code 11 = .ok (.invokestatic 69, 3) := by decide +kernel
theorem d_Pl_isPort_14 : decode prog_5_method_3_code 14 = .ok (.ifCond .eq 7, 3) := by decide +kernel
theorem d_Pl_isPort_17 : decode prog_5_method_3_code 17 = .ok (.iconst 1, 1) := by decide +kernel
theorem d_Pl_isPort_18 : decode prog_5_method_3_code 18 = .ok (.goto 4, 3) := by decide +kernel
theorem d_Pl_isPort_21 : decode prog_5_method_3_code 21 = .ok (.iconst 0, 1) := by decide +kernel
theorem d_Pl_isPort_22 : decode prog_5_method_3_code 22 = .ok (.ireturn, 1) := by decide +kernel
theorem d_Pl_isThere_0 : decode prog_5_method_2_code 0 = .ok (.iload_n 1, 1) := by decide +kernel
theorem d_Pl_isThere_1 : decode prog_5_method_2_code 1 = .ok (.iconst 0, 1) := by decide +kernel
theorem d_Pl_isThere_2 : decode prog_5_method_2_code 2 = .ok (.bipush 15, 2) := by decide +kernel
theorem d_Pl_isThere_4 : decode prog_5_method_2_code 4 = .ok (.invokestatic 69, 3) := by decide +kernel
theorem d_Pl_isThere_7 : decode prog_5_method_2_code 7 = .ok (.ifCond .eq 16, 3) := by decide +kernel
theorem d_Pl_isThere_10 : decode prog_5_method_2_code 10 = .ok (.aload_n 0, 1) := by decide +kernel
theorem d_Pl_isThere_11 : decode prog_5_method_2_code 11 = .ok (.getfield 9, 3) := by decide +kernel
theorem d_Pl_isThere_14 : decode prog_5_method_2_code 14 = .ok (.iload_n 1, 1) := by decide +kernel
theorem d_Pl_isThere_15 : decode prog_5_method_2_code 15 = .ok (.baload, 1) := by decide +kernel
theorem d_Pl_isThere_16 : decode prog_5_method_2_code 16 = .ok (.ifCond .eq 7, 3) := by decide +kernel
theorem d_Pl_isThere_19 : decode prog_5_method_2_code 19 = .ok (.iconst 1, 1) := by decide +kernel
theorem d_Pl_isThere_20 : decode prog_5_method_2_code 20 = .ok (.goto 4, 3) := by decide +kernel
theorem d_Pl_isThere_23 : decode prog_5_method_2_code 23 = .ok (.iconst 0, 1) := by decide +kernel
theorem d_Pl_isThere_24 : decode prog_5_method_2_code 24 = .ok (.ireturn, 1) := by decide +kernel
theorem d_Pl_isTaken_0 : decode prog_5_method_5_code 0 = .ok (.aload_n 0, 1) := by decide +kernel
theorem d_Pl_isTaken_1 : decode prog_5_method_5_code 1 = .ok (.getfield 34, 3) := by decide +kernel
theorem d_Pl_isTaken_4 : decode prog_5_method_5_code 4 = .ok (.iload_n 1, 1) := by decide +kernel
theorem d_Pl_isTaken_5 : decode prog_5_method_5_code 5 = .ok (.iaload, 1) := by decide +kernel
theorem d_Pl_isTaken_6 : decode prog_5_method_5_code 6 = .ok (.iconst (-1), 1) := by decide +kernel
theorem d_Pl_isTaken_7 : decode prog_5_method_5_code 7 = .ok (.if_icmp .ne 11, 3) := by decide +kernel
theorem d_Pl_isTaken_10 : decode prog_5_method_5_code 10 = .ok (.aload_n 0, 1) := by decide +kernel
theorem d_Pl_isTaken_11 : decode prog_5_method_5_code 11 = .ok (.iload_n 1, 1) := by decide +kernel
theorem d_Pl_isTaken_12 : decode prog_5_method_5_code 12 = .ok (.invokevirtual 77, 3) := by decide +kernel
theorem d_Pl_isTaken_15 : decode prog_5_method_5_code 15 = .ok (.ifCond .eq 7, 3) := by decide +kernel
theorem d_Pl_isTaken_18 : decode prog_5_method_5_code 18 = .ok (.iconst 1, 1) := by decide +kernel
theorem d_Pl_isTaken_19 : decode prog_5_method_5_code 19 = .ok (.goto 4, 3) := by decide +kernel
theorem d_Pl_isTaken_22 : decode prog_5_method_5_code 22 = .ok (.iconst 0, 1) := by decide +kernel
theorem d_Pl_isTaken_23 : decode prog_5_method_5_code 23 = .ok (.ireturn, 1) := by decide +kernel
theorem d_Pl_join_0 : decode prog_5_method_7_code 0 = .ok (.aload_n 0, 1) := by decide +kernel
theorem d_Pl_join_1 : decode prog_5_method_7_code 1 = .ok (.getfield 55, 3) := by decide +kernel
theorem d_Pl_join_4 : decode prog_5_method_7_code 4 = .ok (.istore_n 3, 1) := by decide +kernel
theorem d_Pl_join_5 : decode prog_5_method_7_code 5 = .ok (.aload_n 0, 1) := by decide +kernel
theorem d_Pl_join_6 : decode prog_5_method_7_code 6 = .ok (.dup, 1) := by decide +kernel
theorem d_Pl_join_7 : decode prog_5_method_7_code 7 = .ok (.getfield 55, 3) := by decide +kernel
theorem d_Pl_join_10 : decode prog_5_method_7_code 10 = .ok (.iconst 1, 1) := by decide +kernel
theorem d_Pl_join_11 : decode prog_5_method_7_code 11 = .ok (.iadd, 1) := by decide +kernel
theorem d_Pl_join_12 : decode prog_5_method_7_code 12 = .ok (.putfield 55, 3) := by decide +kernel
theorem d_Pl_join_15 : decode prog_5_method_7_code 15 = .ok (.aload_n 0, 1) := by decide +kernel
theorem d_Pl_join_16 : decode prog_5_method_7_code 16 = .ok (.getfield 52, 3) := by decide +kernel
theorem d_Pl_join_19 : decode prog_5_method_7_code 19 = .ok (.iload_n 3, 1) := by decide +kernel
theorem d_Pl_join_20 : decode prog_5_method_7_code 20 = .ok (.iload_n 1, 1) := by decide +kernel
theorem d_Pl_join_21 : decode prog_5_method_7_code 21 = .ok (.iastore, 1) := by decide +kernel
theorem d_Pl_join_22 : decode prog_5_method_7_code 22 = .ok (.aload_n 0, 1) := by decide +kernel
theorem d_Pl_join_23 : decode prog_5_method_7_code 23 = .ok (.getfield 34, 3) := by decide +kernel
theorem d_Pl_join_26 : decode prog_5_method_7_code 26 = .ok (.iload_n 1, 1) := by decide +kernel
theorem d_Pl_join_27 : decode prog_5_method_7_code 27 = .ok (.iload_n 3, 1) := by decide +kernel
theorem d_Pl_join_28 : decode prog_5_method_7_code 28 = .ok (.iastore, 1) := by decide +kernel
theorem d_Pl_join_29 : decode prog_5_method_7_code 29 = .ok (.aload_n 0, 1) := by decide +kernel
theorem d_Pl_join_30 : decode prog_5_method_7_code 30 = .ok (.getfield 34, 3) := by decide +kernel
theorem d_Pl_join_33 : decode prog_5_method_7_code 33 = .ok (.iload_n 2, 1) := by decide +kernel
theorem d_Pl_join_34 : decode prog_5_method_7_code 34 = .ok (.iload_n 3, 1) := by decide +kernel
theorem d_Pl_join_35 : decode prog_5_method_7_code 35 = .ok (.iastore, 1) := by decide +kernel
theorem d_Pl_join_36 : decode prog_5_method_7_code 36 = .ok (.aload_n 0, 1) := by decide +kernel
theorem d_Pl_join_37 : decode prog_5_method_7_code 37 = .ok (.getfield 37, 3) := by decide +kernel
theorem d_Pl_join_40 : decode prog_5_method_7_code 40 = .ok (.iload_n 1, 1) := by decide +kernel
theorem d_Pl_join_41 : decode prog_5_method_7_code 41 = .ok (.iload_n 2, 1) := by decide +kernel
theorem d_Pl_join_42 : decode prog_5_method_7_code 42 = .ok (.iastore, 1) := by decide +kernel
theorem d_Pl_join_43 : decode prog_5_method_7_code 43 = .ok (.aload_n 0, 1) := by decide +kernel
theorem d_Pl_join_44 : decode prog_5_method_7_code 44 = .ok (.getfield 37, 3) := by decide +kernel
theorem d_Pl_join_47 : decode prog_5_method_7_code 47 = .ok (.iload_n 2, 1) := by decide +kernel
theorem d_Pl_join_48 : decode prog_5_method_7_code 48 = .ok (.iload_n 1, 1) := by decide +kernel
theorem d_Pl_join_49 : decode prog_5_method_7_code 49 = .ok (.iastore, 1) := by decide +kernel
theorem d_Pl_join_50 : decode prog_5_method_7_code 50 = .ok (.iload_n 3, 1) := by decide +kernel
theorem d_Pl_join_51 : decode prog_5_method_7_code 51 = .ok (.ireturn, 1) := by decide +kernel
theorem d_CT_source_0 : decode prog_1_method_4_code 0 = .ok (.aload_n 0, 1) := by decide +kernel
theorem d_CT_source_1 : decode prog_1_method_4_code 1 = .ok (.getfield 12, 3) := by decide +kernel
theorem d_CT_source_4 : decode prog_1_method_4_code 4 = .ok (.iload_n 1, 1) := by decide +kernel
theorem d_CT_source_5 : decode prog_1_method_4_code 5 = .ok (.iload_n 2, 1) := by decide +kernel
theorem d_CT_source_6 : decode prog_1_method_4_code 6 = .ok (.invokevirtual 85, 3) := by decide +kernel
theorem d_CT_source_9 : decode prog_1_method_4_code 9 = .ok (.invokestatic 57, 3) := by decide +kernel
theorem d_CT_source_12 : decode prog_1_method_4_code 12 = .ok (.iload_n 3, 1) := by decide +kernel
theorem d_CT_source_13 : decode prog_1_method_4_code 13 = .ok (.iconst (-1), 1) := by decide +kernel
theorem d_CT_source_14 : decode prog_1_method_4_code 14 = .ok (.if_icmp .eq 27, 3) := by decide +kernel
theorem d_CT_source_17 : decode prog_1_method_4_code 17 = .ok (.iload_n 3, 1) := by decide +kernel
theorem d_CT_source_18 : decode prog_1_method_4_code 18 = .ok (.iconst 0, 1) := by decide +kernel
theorem d_CT_source_19 : decode prog_1_method_4_code 19 = .ok (.bipush 6, 2) := by decide +kernel
theorem d_CT_source_21 : decode prog_1_method_4_code 21 = .ok (.invokestatic 53, 3) := by decide +kernel
theorem d_CT_source_24 : decode prog_1_method_4_code 24 = .ok (.ifCond .eq 21, 3) := by decide +kernel
theorem d_CT_source_27 : decode prog_1_method_4_code 27 = .ok (.iload 4, 2) := by decide +kernel
theorem d_CT_source_29 : decode prog_1_method_4_code 29 = .ok (.sipush (-1000), 3) := by decide +kernel
theorem d_CT_source_32 : decode prog_1_method_4_code 32 = .ok (.sipush 1000, 3) := by decide +kernel
theorem d_CT_source_35 : decode prog_1_method_4_code 35 = .ok (.invokestatic 53, 3) := by decide +kernel
theorem d_CT_source_38 : decode prog_1_method_4_code 38 = .ok (.ifCond .eq 7, 3) := by decide +kernel
theorem d_CT_source_41 : decode prog_1_method_4_code 41 = .ok (.iconst 1, 1) := by decide +kernel
theorem d_CT_source_42 : decode prog_1_method_4_code 42 = .ok (.goto 4, 3) := by decide +kernel
theorem d_CT_source_45 : decode prog_1_method_4_code 45 = .ok (.iconst 0, 1) := by decide +kernel
theorem d_CT_source_46 : decode prog_1_method_4_code 46 = .ok (.invokestatic 57, 3) := by decide +kernel
theorem d_CT_source_49 : decode prog_1_method_4_code 49 = .ok (.iload_n 1, 1) := by decide +kernel
theorem d_CT_source_50 : decode prog_1_method_4_code 50 = .ok (.iload_n 2, 1) := by decide +kernel
theorem d_CT_source_51 : decode prog_1_method_4_code 51 = .ok (.invokestatic 89, 3) := by decide +kernel
theorem d_CT_source_54 : decode prog_1_method_4_code 54 = .ok (.istore 5, 2) := by decide +kernel
theorem d_CT_source_56 : decode prog_1_method_4_code 56 = .ok (.aload_n 0, 1) := by decide +kernel
theorem d_CT_source_57 : decode prog_1_method_4_code 57 = .ok (.getfield 12, 3) := by decide +kernel
theorem d_CT_source_60 : decode prog_1_method_4_code 60 = .ok (.getfield 105, 3) := by decide +kernel
theorem d_CT_source_63 : decode prog_1_method_4_code 63 = .ok (.iload 5, 2) := by decide +kernel
theorem d_CT_source_65 : decode prog_1_method_4_code 65 = .ok (.iaload, 1) := by decide +kernel
theorem d_CT_source_66 : decode prog_1_method_4_code 66 = .ok (.iconst (-1), 1) := by decide +kernel
theorem d_CT_source_67 : decode prog_1_method_4_code 67 = .ok (.if_icmp .eq 13, 3) := by decide +kernel
theorem d_CT_source_70 : decode prog_1_method_4_code 70 = .ok (.new 65, 3) := by decide +kernel
theorem d_CT_source_73 : decode prog_1_method_4_code 73 = .ok (.dup, 1) := by decide +kernel
theorem d_CT_source_74 : decode prog_1_method_4_code 74 = .ok (.ldc 108, 2) := by decide +kernel
theorem d_CT_source_76 : decode prog_1_method_4_code 76 = .ok (.invokespecial 69, 3) := by decide +kernel
theorem d_CT_source_79 : decode prog_1_method_4_code 79 = .ok (.athrow, 1) := by decide +kernel
theorem d_CT_source_80 : decode prog_1_method_4_code 80 = .ok (.aload_n 0, 1) := by decide +kernel
theorem d_CT_source_81 : decode prog_1_method_4_code 81 = .ok (.getfield 12, 3) := by decide +kernel
theorem d_CT_source_84 : decode prog_1_method_4_code 84 = .ok (.getfield 110, 3) := by decide +kernel
theorem d_CT_source_87 : decode prog_1_method_4_code 87 = .ok (.iload 5, 2) := by decide +kernel
theorem d_CT_source_89 : decode prog_1_method_4_code 89 = .ok (.iload_n 3, 1) := by decide +kernel
theorem d_CT_source_90 : decode prog_1_method_4_code 90 = .ok (.iastore, 1) := by decide +kernel
theorem d_CT_source_91 : decode prog_1_method_4_code 91 = .ok (.aload_n 0, 1) := by decide +kernel
theorem d_CT_source_92 : decode prog_1_method_4_code 92 = .ok (.getfield 12, 3) := by decide +kernel
theorem d_CT_source_95 : decode prog_1_method_4_code 95 = .ok (.getfield 113, 3) := by decide +kernel
theorem d_CT_source_98 : decode prog_1_method_4_code 98 = .ok (.iload 5, 2) := by decide +kernel
theorem d_CT_source_100 : decode prog_1_method_4_code 100 = .ok (.iload 4, 2) := by decide +kernel
theorem d_CT_source_102 : decode prog_1_method_4_code 102 = .ok (.iastore, 1) := by decide +kernel
theorem d_CT_source_103 : decode prog_1_method_4_code 103 = .ok (.return_, 1) := by decide +kernel
theorem d_CT_priority_0 : decode prog_1_method_5_code 0 = .ok (.aload_n 0, 1) := by decide +kernel
theorem d_CT_priority_1 : decode prog_1_method_5_code 1 = .ok (.getfield 12, 3) := by decide +kernel
theorem d_CT_priority_4 : decode prog_1_method_5_code 4 = .ok (.iload_n 1, 1) := by decide +kernel
theorem d_CT_priority_5 : decode prog_1_method_5_code 5 = .ok (.iload_n 2, 1) := by decide +kernel
theorem d_CT_priority_6 : decode prog_1_method_5_code 6 = .ok (.invokevirtual 85, 3) := by decide +kernel
theorem d_CT_priority_9 : decode prog_1_method_5_code 9 = .ok (.ifCond .eq 17, 3) := by decide +kernel
theorem d_CT_priority_12 : decode prog_1_method_5_code 12 = .ok (.iload_n 3, 1) := by decide +kernel
theorem d_CT_priority_13 : decode prog_1_method_5_code 13 = .ok (.iconst 0, 1) := by decide +kernel
theorem d_CT_priority_14 : decode prog_1_method_5_code 14 = .ok (.bipush 9, 2) := by decide +kernel
theorem d_CT_priority_16 : decode prog_1_method_5_code 16 = .ok (.invokestatic 53, 3) := by decide +kernel
theorem d_CT_priority_19 : decode prog_1_method_5_code 19 = .ok (.ifCond .eq 7, 3) := by decide +kernel
theorem d_CT_priority_22 : decode prog_1_method_5_code 22 = .ok (.iconst 1, 1) := by decide +kernel
theorem d_CT_priority_23 : decode prog_1_method_5_code 23 = .ok (.goto 4, 3) := by decide +kernel
theorem d_CT_priority_26 : decode prog_1_method_5_code 26 = .ok (.iconst 0, 1) := by decide +kernel
theorem d_CT_priority_27 : decode prog_1_method_5_code 27 = .ok (.invokestatic 57, 3) := by decide +kernel
theorem d_CT_priority_30 : decode prog_1_method_5_code 30 = .ok (.iload_n 1, 1) := by decide +kernel
theorem d_CT_priority_31 : decode prog_1_method_5_code 31 = .ok (.iload_n 2, 1) := by decide +kernel
theorem d_CT_priority_32 : decode prog_1_method_5_code 32 = .ok (.invokestatic 89, 3) := by decide +kernel
theorem d_CT_priority_35 : decode prog_1_method_5_code 35 = .ok (.istore 4, 2) := by decide +kernel
theorem d_CT_priority_37 : decode prog_1_method_5_code 37 = .ok (.aload_n 0, 1) := by decide +kernel
theorem d_CT_priority_38 : decode prog_1_method_5_code 38 = .ok (.getfield 12, 3) := by decide +kernel
theorem d_CT_priority_41 : decode prog_1_method_5_code 41 = .ok (.getfield 116, 3) := by decide +kernel
theorem d_CT_priority_44 : decode prog_1_method_5_code 44 = .ok (.iload 4, 2) := by decide +kernel
theorem d_CT_priority_46 : decode prog_1_method_5_code 46 = .ok (.iaload, 1) := by decide +kernel
theorem d_CT_priority_47 : decode prog_1_method_5_code 47 = .ok (.istore 5, 2) := by decide +kernel
theorem d_CT_priority_49 : decode prog_1_method_5_code 49 = .ok (.aload_n 0, 1) := by decide +kernel
theorem d_CT_priority_50 : decode prog_1_method_5_code 50 = .ok (.getfield 12, 3) := by decide +kernel
theorem d_CT_priority_53 : decode prog_1_method_5_code 53 = .ok (.getfield 116, 3) := by decide +kernel
theorem d_CT_priority_56 : decode prog_1_method_5_code 56 = .ok (.iload 4, 2) := by decide +kernel
theorem d_CT_priority_58 : decode prog_1_method_5_code 58 = .ok (.iload_n 3, 1) := by decide +kernel
theorem d_CT_priority_59 : decode prog_1_method_5_code 59 = .ok (.iastore, 1) := by decide +kernel
theorem d_CT_priority_60 : decode prog_1_method_5_code 60 = .ok (.iload 5, 2) := by decide +kernel
theorem d_CT_priority_62 : decode prog_1_method_5_code 62 = .ok (.ireturn, 1) := by decide +kernel
theorem d_CT_restore_0 : decode prog_1_method_6_code 0 = .ok (.aload_n 0, 1) := by decide +kernel
theorem d_CT_restore_1 : decode prog_1_method_6_code 1 = .ok (.getfield 12, 3) := by decide +kernel
theorem d_CT_restore_4 : decode prog_1_method_6_code 4 = .ok (.iload_n 1, 1) := by decide +kernel
theorem d_CT_restore_5 : decode prog_1_method_6_code 5 = .ok (.invokevirtual 119, 3) := by decide +kernel
theorem d_CT_restore_8 : decode prog_1_method_6_code 8 = .ok (.ifCond .eq 17, 3) := by decide +kernel
theorem d_CT_restore_11 : decode prog_1_method_6_code 11 = .ok (.iload_n 2, 1) := by decide +kernel
theorem d_CT_restore_12 : decode prog_1_method_6_code 12 = .ok (.iconst 0, 1) := by decide +kernel
theorem d_CT_restore_13 : decode prog_1_method_6_code 13 = .ok (.bipush 10, 2) := by decide +kernel
theorem d_CT_restore_15 : decode prog_1_method_6_code 15 = .ok (.invokestatic 53, 3) := by decide +kernel
theorem d_CT_restore_18 : decode prog_1_method_6_code 18 = .ok (.ifCond .eq 7, 3) := by decide +kernel
theorem d_CT_restore_21 : decode prog_1_method_6_code 21 = .ok (.iconst 1, 1) := by decide +kernel
theorem d_CT_restore_22 : decode prog_1_method_6_code 22 = .ok (.goto 4, 3) := by decide +kernel
theorem d_CT_restore_25 : decode prog_1_method_6_code 25 = .ok (.iconst 0, 1) := by decide +kernel
theorem d_CT_restore_26 : decode prog_1_method_6_code 26 = .ok (.invokestatic 57, 3) := by decide +kernel
theorem d_CT_restore_29 : decode prog_1_method_6_code 29 = .ok (.aload_n 0, 1) := by decide +kernel
theorem d_CT_restore_30 : decode prog_1_method_6_code 30 = .ok (.getfield 12, 3) := by decide +kernel
theorem d_CT_restore_33 : decode prog_1_method_6_code 33 = .ok (.getfield 122, 3) := by decide +kernel
theorem d_CT_restore_36 : decode prog_1_method_6_code 36 = .ok (.iload_n 1, 1) := by decide +kernel
theorem d_CT_restore_37 : decode prog_1_method_6_code 37 = .ok (.iaload, 1) := by decide +kernel
theorem d_CT_restore_38 : decode prog_1_method_6_code 38 = .ok (.istore_n 3, 1) := by decide +kernel
theorem d_CT_restore_39 : decode prog_1_method_6_code 39 = .ok (.aload_n 0, 1) := by decide +kernel
theorem d_CT_restore_40 : decode prog_1_method_6_code 40 = .ok (.getfield 12, 3) := by decide +kernel
theorem d_CT_restore_43 : decode prog_1_method_6_code 43 = .ok (.getfield 122, 3) := by decide +kernel
theorem d_CT_restore_46 : decode prog_1_method_6_code 46 = .ok (.iload_n 1, 1) := by decide +kernel
theorem d_CT_restore_47 : decode prog_1_method_6_code 47 = .ok (.iload_n 2, 1) := by decide +kernel
theorem d_CT_restore_48 : decode prog_1_method_6_code 48 = .ok (.iastore, 1) := by decide +kernel
theorem d_CT_restore_49 : decode prog_1_method_6_code 49 = .ok (.iload_n 3, 1) := by decide +kernel
theorem d_CT_restore_50 : decode prog_1_method_6_code 50 = .ok (.ireturn, 1) := by decide +kernel
theorem d_CT_command_0 : decode prog_1_method_8_code 0 = .ok (.aload_n 0, 1) := by decide +kernel
theorem d_CT_command_1 : decode prog_1_method_8_code 1 = .ok (.getfield 12, 3) := by decide +kernel
theorem d_CT_command_4 : decode prog_1_method_8_code 4 = .ok (.iload_n 1, 1) := by decide +kernel
theorem d_CT_command_5 : decode prog_1_method_8_code 5 = .ok (.invokevirtual 119, 3) := by decide +kernel
theorem d_CT_command_8 : decode prog_1_method_8_code 8 = .ok (.ifCond .eq 16, 3) := by decide +kernel
theorem d_CT_command_11 : decode prog_1_method_8_code 11 = .ok (.iload_n 2, 1) := by decide +kernel
theorem d_CT_command_12 : decode prog_1_method_8_code 12 = .ok (.iconst 0, 1) := by decide +kernel
theorem d_CT_command_13 : decode prog_1_method_8_code 13 = .ok (.iconst 1, 1) := by decide +kernel
theorem d_CT_command_14 : decode prog_1_method_8_code 14 = .ok (.invokestatic 53, 3) := by decide +kernel
theorem d_CT_command_17 : decode prog_1_method_8_code 17 = .ok (.ifCond .eq 7, 3) := by decide +kernel
theorem d_CT_command_20 : decode prog_1_method_8_code 20 = .ok (.iconst 1, 1) := by decide +kernel
theorem d_CT_command_21 : decode prog_1_method_8_code 21 = .ok (.goto 4, 3) := by decide +kernel
theorem d_CT_command_24 : decode prog_1_method_8_code 24 = .ok (.iconst 0, 1) := by decide +kernel
theorem d_CT_command_25 : decode prog_1_method_8_code 25 = .ok (.invokestatic 57, 3) := by decide +kernel
theorem d_CT_command_28 : decode prog_1_method_8_code 28 = .ok (.iload_n 3, 1) := by decide +kernel
theorem d_CT_command_29 : decode prog_1_method_8_code 29 = .ok (.iconst (-1), 1) := by decide +kernel
theorem d_CT_command_30 : decode prog_1_method_8_code 30 = .ok (.if_icmp .eq 12, 3) := by decide +kernel
theorem d_CT_command_33 : decode prog_1_method_8_code 33 = .ok (.iload_n 3, 1) := by decide +kernel
theorem d_CT_command_34 : decode prog_1_method_8_code 34 = .ok (.iconst 0, 1) := by decide +kernel
theorem d_CT_command_35 : decode prog_1_method_8_code 35 = .ok (.iconst 3, 1) := by decide +kernel
theorem d_CT_command_36 : decode prog_1_method_8_code 36 = .ok (.invokestatic 53, 3) := by decide +kernel
theorem d_CT_command_39 : decode prog_1_method_8_code 39 = .ok (.ifCond .eq 7, 3) := by decide +kernel
theorem d_CT_command_42 : decode prog_1_method_8_code 42 = .ok (.iconst 1, 1) := by decide +kernel
theorem d_CT_command_43 : decode prog_1_method_8_code 43 = .ok (.goto 4, 3) := by decide +kernel
theorem d_CT_command_46 : decode prog_1_method_8_code 46 = .ok (.iconst 0, 1) := by decide +kernel
theorem d_CT_command_47 : decode prog_1_method_8_code 47 = .ok (.invokestatic 57, 3) := by decide +kernel
theorem d_CT_command_50 : decode prog_1_method_8_code 50 = .ok (.iload_n 2, 1) := by decide +kernel
theorem d_CT_command_51 : decode prog_1_method_8_code 51 = .ok (.ifCond .ne 13, 3) := by decide +kernel
theorem d_CT_command_54 : decode prog_1_method_8_code 54 = .ok (.aload_n 0, 1) := by decide +kernel
theorem d_CT_command_55 : decode prog_1_method_8_code 55 = .ok (.getfield 12, 3) := by decide +kernel
theorem d_CT_command_58 : decode prog_1_method_8_code 58 = .ok (.getfield 129, 3) := by decide +kernel
theorem d_CT_command_61 : decode prog_1_method_8_code 61 = .ok (.goto 10, 3) := by decide +kernel
theorem d_CT_command_64 : decode prog_1_method_8_code 64 = .ok (.aload_n 0, 1) := by decide +kernel
theorem d_CT_command_65 : decode prog_1_method_8_code 65 = .ok (.getfield 12, 3) := by decide +kernel
theorem d_CT_command_68 : decode prog_1_method_8_code 68 = .ok (.getfield 132, 3) := by decide +kernel
theorem d_CT_command_71 : decode prog_1_method_8_code 71 = .ok (.astore 4, 2) := by decide +kernel
theorem d_CT_command_73 : decode prog_1_method_8_code 73 = .ok (.aload 4, 2) := by decide +kernel
theorem d_CT_command_75 : decode prog_1_method_8_code 75 = .ok (.iload_n 1, 1) := by decide +kernel
theorem d_CT_command_76 : decode prog_1_method_8_code 76 = .ok (.iaload, 1) := by decide +kernel
theorem d_CT_command_77 : decode prog_1_method_8_code 77 = .ok (.istore 5, 2) := by decide +kernel
theorem d_CT_command_79 : decode prog_1_method_8_code 79 = .ok (.aload 4, 2) := by decide +kernel
theorem d_CT_command_81 : decode prog_1_method_8_code 81 = .ok (.iload_n 1, 1) := by decide +kernel
theorem d_CT_command_82 : decode prog_1_method_8_code 82 = .ok (.iload_n 3, 1) := by decide +kernel
theorem d_CT_command_83 : decode prog_1_method_8_code 83 = .ok (.iastore, 1) := by decide +kernel
theorem d_CT_command_84 : decode prog_1_method_8_code 84 = .ok (.iload 5, 2) := by decide +kernel
theorem d_CT_command_86 : decode prog_1_method_8_code 86 = .ok (.ireturn, 1) := by decide +kernel
theorem d_CT_lockout_0 : decode prog_1_method_9_code 0 = .ok (.aload_n 0, 1) := by decide +kernel
theorem d_CT_lockout_1 : decode prog_1_method_9_code 1 = .ok (.getfield 12, 3) := by decide +kernel
theorem d_CT_lockout_4 : decode prog_1_method_9_code 4 = .ok (.iload_n 1, 1) := by decide +kernel
theorem d_CT_lockout_5 : decode prog_1_method_9_code 5 = .ok (.iload_n 2, 1) := by decide +kernel
theorem d_CT_lockout_6 : decode prog_1_method_9_code 6 = .ok (.invokevirtual 85, 3) := by decide +kernel
theorem d_CT_lockout_9 : decode prog_1_method_9_code 9 = .ok (.invokestatic 57, 3) := by decide +kernel
theorem d_CT_lockout_12 : decode prog_1_method_9_code 12 = .ok (.iload_n 1, 1) := by decide +kernel
theorem d_CT_lockout_13 : decode prog_1_method_9_code 13 = .ok (.iload_n 2, 1) := by decide +kernel
theorem d_CT_lockout_14 : decode prog_1_method_9_code 14 = .ok (.invokestatic 89, 3) := by decide +kernel
theorem d_CT_lockout_17 : decode prog_1_method_9_code 17 = .ok (.istore 4, 2) := by decide +kernel
theorem d_CT_lockout_19 : decode prog_1_method_9_code 19 = .ok (.aload_n 0, 1) := by decide +kernel
theorem d_CT_lockout_20 : decode prog_1_method_9_code 20 = .ok (.getfield 12, 3) := by decide +kernel
theorem d_CT_lockout_23 : decode prog_1_method_9_code 23 = .ok (.getfield 135, 3) := by decide +kernel
theorem d_CT_lockout_26 : decode prog_1_method_9_code 26 = .ok (.iload 4, 2) := by decide +kernel
theorem d_CT_lockout_28 : decode prog_1_method_9_code 28 = .ok (.baload, 1) := by decide +kernel
theorem d_CT_lockout_29 : decode prog_1_method_9_code 29 = .ok (.istore 5, 2) := by decide +kernel
theorem d_CT_lockout_31 : decode prog_1_method_9_code 31 = .ok (.aload_n 0, 1) := by decide +kernel
theorem d_CT_lockout_32 : decode prog_1_method_9_code 32 = .ok (.getfield 12, 3) := by decide +kernel
theorem d_CT_lockout_35 : decode prog_1_method_9_code 35 = .ok (.getfield 135, 3) := by decide +kernel
theorem d_CT_lockout_38 : decode prog_1_method_9_code 38 = .ok (.iload 4, 2) := by decide +kernel
theorem d_CT_lockout_40 : decode prog_1_method_9_code 40 = .ok (.iload_n 3, 1) := by decide +kernel
theorem d_CT_lockout_41 : decode prog_1_method_9_code 41 = .ok (.bastore, 1) := by decide +kernel
theorem d_CT_lockout_42 : decode prog_1_method_9_code 42 = .ok (.iload 5, 2) := by decide +kernel
theorem d_CT_lockout_44 : decode prog_1_method_9_code 44 = .ok (.ireturn, 1) := by decide +kernel
theorem d_CT_fail_0 : decode prog_1_method_10_code 0 = .ok (.aload_n 0, 1) := by decide +kernel
theorem d_CT_fail_1 : decode prog_1_method_10_code 1 = .ok (.getfield 12, 3) := by decide +kernel
theorem d_CT_fail_4 : decode prog_1_method_10_code 4 = .ok (.iload_n 1, 1) := by decide +kernel
theorem d_CT_fail_5 : decode prog_1_method_10_code 5 = .ok (.invokevirtual 138, 3) := by decide +kernel
theorem d_CT_fail_8 : decode prog_1_method_10_code 8 = .ok (.invokestatic 57, 3) := by decide +kernel
theorem d_CT_fail_11 : decode prog_1_method_10_code 11 = .ok (.aload_n 0, 1) := by decide +kernel
theorem d_CT_fail_12 : decode prog_1_method_10_code 12 = .ok (.getfield 21, 3) := by decide +kernel
theorem d_CT_fail_15 : decode prog_1_method_10_code 15 = .ok (.iload_n 1, 1) := by decide +kernel
theorem d_CT_fail_16 : decode prog_1_method_10_code 16 = .ok (.invokevirtual 141, 3) := by decide +kernel
theorem d_CT_fail_19 : decode prog_1_method_10_code 19 = .ok (.ifCond .ne 7, 3) := by decide +kernel
theorem d_CT_fail_22 : decode prog_1_method_10_code 22 = .ok (.iconst 1, 1) := by decide +kernel
theorem d_CT_fail_23 : decode prog_1_method_10_code 23 = .ok (.goto 4, 3) := by decide +kernel
theorem d_CT_fail_26 : decode prog_1_method_10_code 26 = .ok (.iconst 0, 1) := by decide +kernel
theorem d_CT_fail_27 : decode prog_1_method_10_code 27 = .ok (.istore_n 3, 1) := by decide +kernel
theorem d_CT_fail_28 : decode prog_1_method_10_code 28 = .ok (.aload_n 0, 1) := by decide +kernel
theorem d_CT_fail_29 : decode prog_1_method_10_code 29 = .ok (.getfield 21, 3) := by decide +kernel
theorem d_CT_fail_32 : decode prog_1_method_10_code 32 = .ok (.iload_n 1, 1) := by decide +kernel
theorem d_CT_fail_33 : decode prog_1_method_10_code 33 = .ok (.iload_n 2, 1) := by decide +kernel
theorem d_CT_fail_34 : decode prog_1_method_10_code 34 = .ok (.invokevirtual 144, 3) := by decide +kernel
theorem d_CT_fail_37 : decode prog_1_method_10_code 37 = .ok (.iload_n 3, 1) := by decide +kernel
theorem d_CT_fail_38 : decode prog_1_method_10_code 38 = .ok (.ireturn, 1) := by decide +kernel
theorem d_Pl_isLink_0 : decode prog_5_method_4_code 0 = .ok (.iload_n 1, 1) := by decide +kernel
theorem d_Pl_isLink_1 : decode prog_5_method_4_code 1 = .ok (.iconst 0, 1) := by decide +kernel
theorem d_Pl_isLink_2 : decode prog_5_method_4_code 2 = .ok (.aload_n 0, 1) := by decide +kernel
theorem d_Pl_isLink_3 : decode prog_5_method_4_code 3 = .ok (.getfield 55, 3) := by decide +kernel
theorem d_Pl_isLink_6 : decode prog_5_method_4_code 6 = .ok (.iconst 1, 1) := by decide +kernel
theorem d_Pl_isLink_7 : decode prog_5_method_4_code 7 = .ok (.isub, 1) := by decide +kernel
theorem d_Pl_isLink_8 : decode prog_5_method_4_code 8 = .ok (.invokestatic 69, 3) := by decide +kernel
theorem d_Pl_isLink_11 : decode prog_5_method_4_code 11 = .ok (.ireturn, 1) := by decide +kernel
theorem d_CT_failElement_0 : decode prog_1_method_11_code 0 = .ok (.aload_n 0, 1) := by decide +kernel
theorem d_CT_failElement_1 : decode prog_1_method_11_code 1 = .ok (.getfield 12, 3) := by decide +kernel
theorem d_CT_failElement_4 : decode prog_1_method_11_code 4 = .ok (.iload_n 1, 1) := by decide +kernel
theorem d_CT_failElement_5 : decode prog_1_method_11_code 5 = .ok (.invokevirtual 119, 3) := by decide +kernel
theorem d_CT_failElement_8 : decode prog_1_method_11_code 8 = .ok (.invokestatic 57, 3) := by decide +kernel
theorem d_CT_failElement_11 : decode prog_1_method_11_code 11 = .ok (.aload_n 0, 1) := by decide +kernel
theorem d_CT_failElement_12 : decode prog_1_method_11_code 12 = .ok (.getfield 21, 3) := by decide +kernel
theorem d_CT_failElement_15 : decode prog_1_method_11_code 15 = .ok (.iload_n 1, 1) := by decide +kernel
theorem d_CT_failElement_16 : decode prog_1_method_11_code 16 = .ok (.invokevirtual 148, 3) := by decide +kernel
theorem d_CT_failElement_19 : decode prog_1_method_11_code 19 = .ok (.ifCond .ne 7, 3) := by decide +kernel
theorem d_CT_failElement_22 : decode prog_1_method_11_code 22 = .ok (.iconst 1, 1) := by decide +kernel
theorem d_CT_failElement_23 : decode prog_1_method_11_code 23 = .ok (.goto 4, 3) := by decide +kernel
theorem d_CT_failElement_26 : decode prog_1_method_11_code 26 = .ok (.iconst 0, 1) := by decide +kernel
theorem d_CT_failElement_27 : decode prog_1_method_11_code 27 = .ok (.istore_n 3, 1) := by decide +kernel
theorem d_CT_failElement_28 : decode prog_1_method_11_code 28 = .ok (.aload_n 0, 1) := by decide +kernel
theorem d_CT_failElement_29 : decode prog_1_method_11_code 29 = .ok (.getfield 21, 3) := by decide +kernel
theorem d_CT_failElement_32 : decode prog_1_method_11_code 32 = .ok (.iload_n 1, 1) := by decide +kernel
theorem d_CT_failElement_33 : decode prog_1_method_11_code 33 = .ok (.iload_n 2, 1) := by decide +kernel
theorem d_CT_failElement_34 : decode prog_1_method_11_code 34 = .ok (.invokevirtual 151, 3) := by decide +kernel
theorem d_CT_failElement_37 : decode prog_1_method_11_code 37 = .ok (.iload_n 3, 1) := by decide +kernel
theorem d_CT_failElement_38 : decode prog_1_method_11_code 38 = .ok (.ireturn, 1) := by decide +kernel
theorem d_CT_lose_0 : decode prog_1_method_12_code 0 = .ok (.aload_n 0, 1) := by decide +kernel
theorem d_CT_lose_1 : decode prog_1_method_12_code 1 = .ok (.getfield 12, 3) := by decide +kernel
theorem d_CT_lose_4 : decode prog_1_method_12_code 4 = .ok (.iload_n 1, 1) := by decide +kernel
theorem d_CT_lose_5 : decode prog_1_method_12_code 5 = .ok (.invokevirtual 138, 3) := by decide +kernel
theorem d_CT_lose_8 : decode prog_1_method_12_code 8 = .ok (.invokestatic 57, 3) := by decide +kernel
theorem d_CT_lose_11 : decode prog_1_method_12_code 11 = .ok (.aload_n 0, 1) := by decide +kernel
theorem d_CT_lose_12 : decode prog_1_method_12_code 12 = .ok (.getfield 12, 3) := by decide +kernel
theorem d_CT_lose_15 : decode prog_1_method_12_code 15 = .ok (.getfield 154, 3) := by decide +kernel
theorem d_CT_lose_18 : decode prog_1_method_12_code 18 = .ok (.iload_n 1, 1) := by decide +kernel
theorem d_CT_lose_19 : decode prog_1_method_12_code 19 = .ok (.iaload, 1) := by decide +kernel
theorem d_CT_lose_20 : decode prog_1_method_12_code 20 = .ok (.istore_n 3, 1) := by decide +kernel
theorem d_CT_lose_21 : decode prog_1_method_12_code 21 = .ok (.aload_n 0, 1) := by decide +kernel
theorem d_CT_lose_22 : decode prog_1_method_12_code 22 = .ok (.getfield 21, 3) := by decide +kernel
theorem d_CT_lose_25 : decode prog_1_method_12_code 25 = .ok (.iload_n 2, 1) := by decide +kernel
theorem d_CT_lose_26 : decode prog_1_method_12_code 26 = .ok (.ifCond .eq 15, 3) := by decide +kernel
theorem d_CT_lose_29 : decode prog_1_method_12_code 29 = .ok (.aload_n 0, 1) := by decide +kernel
theorem d_CT_lose_30 : decode prog_1_method_12_code 30 = .ok (.getfield 12, 3) := by decide +kernel
theorem d_CT_lose_33 : decode prog_1_method_12_code 33 = .ok (.getfield 157, 3) := by decide +kernel
theorem d_CT_lose_36 : decode prog_1_method_12_code 36 = .ok (.iload_n 3, 1) := by decide +kernel
theorem d_CT_lose_37 : decode prog_1_method_12_code 37 = .ok (.iaload, 1) := by decide +kernel
theorem d_CT_lose_38 : decode prog_1_method_12_code 38 = .ok (.goto 4, 3) := by decide +kernel
theorem d_CT_lose_41 : decode prog_1_method_12_code 41 = .ok (.iload_n 3, 1) := by decide +kernel
theorem d_CT_lose_42 : decode prog_1_method_12_code 42 = .ok (.invokevirtual 160, 3) := by decide +kernel
theorem d_CT_lose_45 : decode prog_1_method_12_code 45 = .ok (.return_, 1) := by decide +kernel
theorem d_Fl_loseFrom_0 : decode prog_4_method_9_code 0 = .ok (.aload_n 0, 1) := by decide +kernel
theorem d_Fl_loseFrom_1 : decode prog_4_method_9_code 1 = .ok (.dup, 1) := by decide +kernel
theorem d_Fl_loseFrom_2 : decode prog_4_method_9_code 2 = .ok (.getfield 53, 3) := by decide +kernel
theorem d_Fl_loseFrom_5 : decode prog_4_method_9_code 5 = .ok (.lconst 1, 1) := by decide +kernel
theorem d_Fl_loseFrom_6 : decode prog_4_method_9_code 6 = .ok (.iload_n 1, 1) := by decide +kernel
theorem d_Fl_loseFrom_7 : decode prog_4_method_9_code 7 = .ok (.lshl, 1) := by decide +kernel
theorem d_Fl_loseFrom_8 : decode prog_4_method_9_code 8 = .ok (.lor, 1) := by decide +kernel
theorem d_Fl_loseFrom_9 : decode prog_4_method_9_code 9 = .ok (.putfield 53, 3) := by decide +kernel
theorem d_Fl_loseFrom_12 : decode prog_4_method_9_code 12 = .ok (.return_, 1) := by decide +kernel
theorem d_CT_rounds_0 : decode prog_1_method_13_code 0 = .ok (.iload_n 1, 1) := by decide +kernel
theorem d_CT_rounds_1 : decode prog_1_method_13_code 1 = .ok (.iconst 1, 1) := by decide +kernel
theorem d_CT_rounds_2 : decode prog_1_method_13_code 2 = .ok (.sipush 200, 3) := by decide +kernel
theorem d_CT_rounds_5 : decode prog_1_method_13_code 5 = .ok (.invokestatic 53, 3) := by decide +kernel
theorem d_CT_rounds_8 : decode prog_1_method_13_code 8 = .ok (.invokestatic 57, 3) := by decide +kernel
theorem d_CT_rounds_11 : decode prog_1_method_13_code 11 = .ok (.iconst 0, 1) := by decide +kernel
theorem d_CT_rounds_12 : decode prog_1_method_13_code 12 = .ok (.istore_n 2, 1) := by decide +kernel
theorem d_CT_rounds_13 : decode prog_1_method_13_code 13 = .ok (.iload_n 2, 1) := by decide +kernel
theorem d_CT_rounds_14 : decode prog_1_method_13_code 14 = .ok (.iload_n 1, 1) := by decide +kernel
theorem d_CT_rounds_15 : decode prog_1_method_13_code 15 = .ok (.if_icmp .ge 42, 3) := by decide +kernel
theorem d_CT_rounds_18 : decode prog_1_method_13_code 18 = .ok (.aload_n 0, 1) := by decide +kernel
theorem d_CT_rounds_19 : decode prog_1_method_13_code 19 = .ok (.getfield 21, 3) := by decide +kernel
theorem d_CT_rounds_22 : decode prog_1_method_13_code 22 = .ok (.invokevirtual 164, 3) := by decide +kernel
theorem d_CT_rounds_25 : decode prog_1_method_13_code 25 = .ok (.aload_n 0, 1) := by decide +kernel
theorem d_CT_rounds_26 : decode prog_1_method_13_code 26 = .ok (.getfield 31, 3) := by decide +kernel
theorem d_CT_rounds_29 : decode prog_1_method_13_code 29 = .ok (.aload_n 0, 1) := by decide +kernel
theorem d_CT_rounds_30 : decode prog_1_method_13_code 30 = .ok (.getfield 12, 3) := by decide +kernel
theorem d_CT_rounds_33 : decode prog_1_method_13_code 33 = .ok (.aload_n 0, 1) := by decide +kernel
theorem d_CT_rounds_34 : decode prog_1_method_13_code 34 = .ok (.getfield 21, 3) := by decide +kernel
theorem d_CT_rounds_37 : decode prog_1_method_13_code 37 = .ok (.invokevirtual 167, 3) := by decide +kernel
theorem d_CT_rounds_40 : decode prog_1_method_13_code 40 = .ok (.aload_n 0, 1) := by decide +kernel
theorem d_CT_rounds_41 : decode prog_1_method_13_code 41 = .ok (.getfield 38, 3) := by decide +kernel
theorem d_CT_rounds_44 : decode prog_1_method_13_code 44 = .ok (.aload_n 0, 1) := by decide +kernel
theorem d_CT_rounds_45 : decode prog_1_method_13_code 45 = .ok (.getfield 21, 3) := by decide +kernel
theorem d_CT_rounds_48 : decode prog_1_method_13_code 48 = .ok (.invokevirtual 170, 3) := by decide +kernel
theorem d_CT_rounds_51 : decode prog_1_method_13_code 51 = .ok (.iinc 2 1, 3) := by decide +kernel
theorem d_CT_rounds_54 : decode prog_1_method_13_code 54 = .ok (.goto (-41), 3) := by decide +kernel
theorem d_CT_rounds_57 : decode prog_1_method_13_code 57 = .ok (.aload_n 0, 1) := by decide +kernel
theorem d_CT_rounds_58 : decode prog_1_method_13_code 58 = .ok (.getfield 38, 3) := by decide +kernel
theorem d_CT_rounds_61 : decode prog_1_method_13_code 61 = .ok (.getfield 173, 3) := by decide +kernel
theorem d_CT_rounds_64 : decode prog_1_method_13_code 64 = .ok (.ireturn, 1) := by decide +kernel
theorem d_Ck_passRound_0 : decode prog_3_method_3_code 0 = .ok (.iconst 0, 1) := by decide +kernel
theorem d_Ck_passRound_1 : decode prog_3_method_3_code 1 = .ok (.istore_n 3, 1) := by decide +kernel
theorem d_Ck_passRound_2 : decode prog_3_method_3_code 2 = .ok (.iload_n 3, 1) := by decide +kernel
theorem d_Ck_passRound_3 : decode prog_3_method_3_code 3 = .ok (.bipush 16, 2) := by decide +kernel
theorem d_Ck_passRound_5 : decode prog_3_method_3_code 5 = .ok (.if_icmp .ge 39, 3) := by decide +kernel
theorem d_Ck_passRound_8 : decode prog_3_method_3_code 8 = .ok (.aload_n 0, 1) := by decide +kernel
theorem d_Ck_passRound_9 : decode prog_3_method_3_code 9 = .ok (.getfield 18, 3) := by decide +kernel
theorem d_Ck_passRound_12 : decode prog_3_method_3_code 12 = .ok (.iload_n 3, 1) := by decide +kernel
theorem d_Ck_passRound_13 : decode prog_3_method_3_code 13 = .ok (.aload_n 2, 1) := by decide +kernel
theorem d_Ck_passRound_14 : decode prog_3_method_3_code 14 = .ok (.iload_n 3, 1) := by decide +kernel
theorem d_Ck_passRound_15 : decode prog_3_method_3_code 15 = .ok (.invokevirtual 25, 3) := by decide +kernel
theorem d_Ck_passRound_18 : decode prog_3_method_3_code 18 = .ok (.ifCond .eq 13, 3) := by decide +kernel
theorem d_Ck_passRound_21 : decode prog_3_method_3_code 21 = .ok (.aload_n 0, 1) := by decide +kernel
theorem d_Ck_passRound_22 : decode prog_3_method_3_code 22 = .ok (.iload_n 3, 1) := by decide +kernel
theorem d_Ck_passRound_23 : decode prog_3_method_3_code 23 = .ok (.aload_n 1, 1) := by decide +kernel
theorem d_Ck_passRound_24 : decode prog_3_method_3_code 24 = .ok (.aload_n 2, 1) := by decide +kernel
theorem d_Ck_passRound_25 : decode prog_3_method_3_code 25 = .ok (.invokevirtual 31, 3) := by decide +kernel
theorem d_Ck_passRound_28 : decode prog_3_method_3_code 28 = .ok (.goto 9, 3) := by decide +kernel
theorem d_Ck_passRound_31 : decode prog_3_method_3_code 31 = .ok (.aload_n 0, 1) := by decide +kernel
theorem d_Ck_passRound_32 : decode prog_3_method_3_code 32 = .ok (.getfield 9, 3) := by decide +kernel
theorem d_Ck_passRound_35 : decode prog_3_method_3_code 35 = .ok (.iload_n 3, 1) := by decide +kernel
theorem d_Ck_passRound_36 : decode prog_3_method_3_code 36 = .ok (.iaload, 1) := by decide +kernel
theorem d_Ck_passRound_37 : decode prog_3_method_3_code 37 = .ok (.iastore, 1) := by decide +kernel
theorem d_Ck_passRound_38 : decode prog_3_method_3_code 38 = .ok (.iinc 3 1, 3) := by decide +kernel
theorem d_Ck_passRound_41 : decode prog_3_method_3_code 41 = .ok (.goto (-39), 3) := by decide +kernel
theorem d_Ck_passRound_44 : decode prog_3_method_3_code 44 = .ok (.iconst 0, 1) := by decide +kernel
theorem d_Ck_passRound_45 : decode prog_3_method_3_code 45 = .ok (.istore_n 3, 1) := by decide +kernel
theorem d_Ck_passRound_46 : decode prog_3_method_3_code 46 = .ok (.iload_n 3, 1) := by decide +kernel
theorem d_Ck_passRound_47 : decode prog_3_method_3_code 47 = .ok (.bipush 16, 2) := by decide +kernel
theorem d_Ck_passRound_49 : decode prog_3_method_3_code 49 = .ok (.if_icmp .ge 57, 3) := by decide +kernel
theorem d_Ck_passRound_52 : decode prog_3_method_3_code 52 = .ok (.aload_n 0, 1) := by decide +kernel
theorem d_Ck_passRound_53 : decode prog_3_method_3_code 53 = .ok (.getfield 15, 3) := by decide +kernel
theorem d_Ck_passRound_56 : decode prog_3_method_3_code 56 = .ok (.iload_n 3, 1) := by decide +kernel
theorem d_Ck_passRound_57 : decode prog_3_method_3_code 57 = .ok (.aload_n 0, 1) := by decide +kernel
theorem d_Ck_passRound_58 : decode prog_3_method_3_code 58 = .ok (.getfield 9, 3) := by decide +kernel
theorem d_Ck_passRound_61 : decode prog_3_method_3_code 61 = .ok (.iload_n 3, 1) := by decide +kernel
theorem d_Ck_passRound_62 : decode prog_3_method_3_code 62 = .ok (.iaload, 1) := by decide +kernel
theorem d_Ck_passRound_63 : decode prog_3_method_3_code 63 = .ok (.iastore, 1) := by decide +kernel
theorem d_Ck_passRound_64 : decode prog_3_method_3_code 64 = .ok (.aload_n 0, 1) := by decide +kernel
theorem d_Ck_passRound_65 : decode prog_3_method_3_code 65 = .ok (.getfield 9, 3) := by decide +kernel
theorem d_Ck_passRound_68 : decode prog_3_method_3_code 68 = .ok (.iload_n 3, 1) := by decide +kernel
theorem d_Ck_passRound_69 : decode prog_3_method_3_code 69 = .ok (.aload_n 0, 1) := by decide +kernel
theorem d_Ck_passRound_70 : decode prog_3_method_3_code 70 = .ok (.getfield 18, 3) := by decide +kernel
theorem d_Ck_passRound_73 : decode prog_3_method_3_code 73 = .ok (.iload_n 3, 1) := by decide +kernel
theorem d_Ck_passRound_74 : decode prog_3_method_3_code 74 = .ok (.iaload, 1) := by decide +kernel
theorem d_Ck_passRound_75 : decode prog_3_method_3_code 75 = .ok (.iastore, 1) := by decide +kernel
theorem d_Ck_passRound_76 : decode prog_3_method_3_code 76 = .ok (.aload_n 2, 1) := by decide +kernel
theorem d_Ck_passRound_77 : decode prog_3_method_3_code 77 = .ok (.iload_n 3, 1) := by decide +kernel
theorem d_Ck_passRound_78 : decode prog_3_method_3_code 78 = .ok (.invokevirtual 25, 3) := by decide +kernel
theorem d_Ck_passRound_81 : decode prog_3_method_3_code 81 = .ok (.ifCond .eq 19, 3) := by decide +kernel
theorem d_Ck_passRound_84 : decode prog_3_method_3_code 84 = .ok (.aload_n 0, 1) := by decide +kernel
theorem d_Ck_passRound_85 : decode prog_3_method_3_code 85 = .ok (.getfield 21, 3) := by decide +kernel
theorem d_Ck_passRound_88 : decode prog_3_method_3_code 88 = .ok (.iload_n 3, 1) := by decide +kernel
theorem d_Ck_passRound_89 : decode prog_3_method_3_code 89 = .ok (.dup2, 1) := by decide +kernel
theorem d_Ck_passRound_90 : decode prog_3_method_3_code 90 = .ok (.laload, 1) := by decide +kernel
theorem d_Ck_passRound_91 : decode prog_3_method_3_code 91 = .ok (.aload_n 0, 1) := by decide +kernel
theorem d_Ck_passRound_92 : decode prog_3_method_3_code 92 = .ok (.getfield 9, 3) := by decide +kernel
theorem d_Ck_passRound_95 : decode prog_3_method_3_code 95 = .ok (.iload_n 3, 1) := by decide +kernel
theorem d_Ck_passRound_96 : decode prog_3_method_3_code 96 = .ok (.iaload, 1) := by decide +kernel
theorem d_Ck_passRound_97 : decode prog_3_method_3_code 97 = .ok (.i2l, 1) := by decide +kernel
theorem d_Ck_passRound_98 : decode prog_3_method_3_code 98 = .ok (.ladd, 1) := by decide +kernel
theorem d_Ck_passRound_99 : decode prog_3_method_3_code 99 = .ok (.lastore, 1) := by decide +kernel
theorem d_Ck_passRound_100 : decode prog_3_method_3_code 100 = .ok (.iinc 3 1, 3) := by decide +kernel
theorem d_Ck_passRound_103 : decode prog_3_method_3_code 103 = .ok (.goto (-57), 3) := by decide +kernel
theorem d_Ck_passRound_106 : decode prog_3_method_3_code 106 = .ok (.return_, 1) := by decide +kernel
theorem d_Ck_offsetAfter_0 : decode prog_3_method_4_code 0 = .ok (.aload_n 3, 1) := by decide +kernel
theorem d_Ck_offsetAfter_1 : decode prog_3_method_4_code 1 = .ok (.iload_n 1, 1) := by decide +kernel
theorem d_Ck_offsetAfter_2 : decode prog_3_method_4_code 2 = .ok (.invokevirtual 35, 3) := by decide +kernel
theorem d_Ck_offsetAfter_5 : decode prog_3_method_4_code 5 = .ok (.ifCond .eq 64, 3) := by decide +kernel
theorem d_Ck_offsetAfter_8 : decode prog_3_method_4_code 8 = .ok (.iload_n 1, 1) := by decide +kernel
theorem d_Ck_offsetAfter_9 : decode prog_3_method_4_code 9 = .ok (.aload_n 3, 1) := by decide +kernel
theorem d_Ck_offsetAfter_10 : decode prog_3_method_4_code 10 = .ok (.getfield 38, 3) := by decide +kernel
theorem d_Ck_offsetAfter_13 : decode prog_3_method_4_code 13 = .ok (.iload_n 1, 1) := by decide +kernel
theorem d_Ck_offsetAfter_14 : decode prog_3_method_4_code 14 = .ok (.iaload, 1) := by decide +kernel
theorem d_Ck_offsetAfter_15 : decode prog_3_method_4_code 15 = .ok (.invokestatic 41, 3) := by decide +kernel
theorem d_Ck_offsetAfter_18 : decode prog_3_method_4_code 18 = .ok (.istore 4, 2) := by decide +kernel
theorem d_Ck_offsetAfter_20 : decode prog_3_method_4_code 20 = .ok (.aload_n 2, 1) := by decide +kernel
theorem d_Ck_offsetAfter_21 : decode prog_3_method_4_code 21 = .ok (.getfield 45, 3) := by decide +kernel
theorem d_Ck_offsetAfter_24 : decode prog_3_method_4_code 24 = .ok (.iload 4, 2) := by decide +kernel
theorem d_Ck_offsetAfter_26 : decode prog_3_method_4_code 26 = .ok (.iaload, 1) := by decide +kernel
theorem d_Ck_offsetAfter_27 : decode prog_3_method_4_code 27 = .ok (.iconst (-1), 1) := by decide +kernel
theorem d_Ck_offsetAfter_28 : decode prog_3_method_4_code 28 = .ok (.if_icmp .eq 7, 3) := by decide +kernel
theorem d_Ck_offsetAfter_31 : decode prog_3_method_4_code 31 = .ok (.iconst 1, 1) := by decide +kernel
theorem d_Ck_offsetAfter_32 : decode prog_3_method_4_code 32 = .ok (.goto 4, 3) := by decide +kernel
theorem d_Ck_offsetAfter_35 : decode prog_3_method_4_code 35 = .ok (.iconst 0, 1) := by decide +kernel
theorem d_Ck_offsetAfter_36 : decode prog_3_method_4_code 36 = .ok (.istore 5, 2) := by decide +kernel
theorem d_Ck_offsetAfter_38 : decode prog_3_method_4_code 38 = .ok (.iload 5, 2) := by decide +kernel
theorem d_Ck_offsetAfter_40 : decode prog_3_method_4_code 40 = .ok (.ifCond .eq 21, 3) := by decide +kernel
theorem d_Ck_offsetAfter_43 : decode prog_3_method_4_code 43 = .ok (.aload_n 0, 1) := by decide +kernel
theorem d_Ck_offsetAfter_44 : decode prog_3_method_4_code 44 = .ok (.getfield 15, 3) := by decide +kernel
theorem d_Ck_offsetAfter_47 : decode prog_3_method_4_code 47 = .ok (.aload_n 2, 1) := by decide +kernel
theorem d_Ck_offsetAfter_48 : decode prog_3_method_4_code 48 = .ok (.getfield 50, 3) := by decide +kernel
theorem d_Ck_offsetAfter_51 : decode prog_3_method_4_code 51 = .ok (.iload 4, 2) := by decide +kernel
theorem d_Ck_offsetAfter_53 : decode prog_3_method_4_code 53 = .ok (.iaload, 1) := by decide +kernel
theorem d_Ck_offsetAfter_54 : decode prog_3_method_4_code 54 = .ok (.invokestatic 53, 3) := by decide +kernel
theorem d_Ck_offsetAfter_57 : decode prog_3_method_4_code 57 = .ok (.iaload, 1) := by decide +kernel
theorem d_Ck_offsetAfter_58 : decode prog_3_method_4_code 58 = .ok (.goto 10, 3) := by decide +kernel
theorem d_Ck_offsetAfter_61 : decode prog_3_method_4_code 61 = .ok (.aload_n 2, 1) := by decide +kernel
theorem d_Ck_offsetAfter_62 : decode prog_3_method_4_code 62 = .ok (.getfield 57, 3) := by decide +kernel
theorem d_Ck_offsetAfter_65 : decode prog_3_method_4_code 65 = .ok (.iload 4, 2) := by decide +kernel
theorem d_Ck_offsetAfter_67 : decode prog_3_method_4_code 67 = .ok (.iaload, 1) := by decide +kernel
theorem d_Ck_offsetAfter_68 : decode prog_3_method_4_code 68 = .ok (.ireturn, 1) := by decide +kernel
theorem d_Ck_offsetAfter_69 : decode prog_3_method_4_code 69 = .ok (.aload_n 3, 1) := by decide +kernel
theorem d_Ck_offsetAfter_70 : decode prog_3_method_4_code 70 = .ok (.getfield 60, 3) := by decide +kernel
theorem d_Ck_offsetAfter_73 : decode prog_3_method_4_code 73 = .ok (.iload_n 1, 1) := by decide +kernel
theorem d_Ck_offsetAfter_74 : decode prog_3_method_4_code 74 = .ok (.iaload, 1) := by decide +kernel
theorem d_Ck_offsetAfter_75 : decode prog_3_method_4_code 75 = .ok (.iconst 2, 1) := by decide +kernel
theorem d_Ck_offsetAfter_76 : decode prog_3_method_4_code 76 = .ok (.if_icmp .ne 19, 3) := by decide +kernel
theorem d_Ck_offsetAfter_79 : decode prog_3_method_4_code 79 = .ok (.aload_n 0, 1) := by decide +kernel
theorem d_Ck_offsetAfter_80 : decode prog_3_method_4_code 80 = .ok (.getfield 9, 3) := by decide +kernel
theorem d_Ck_offsetAfter_83 : decode prog_3_method_4_code 83 = .ok (.iload_n 1, 1) := by decide +kernel
theorem d_Ck_offsetAfter_84 : decode prog_3_method_4_code 84 = .ok (.iaload, 1) := by decide +kernel
theorem d_Ck_offsetAfter_85 : decode prog_3_method_4_code 85 = .ok (.aload_n 2, 1) := by decide +kernel
theorem d_Ck_offsetAfter_86 : decode prog_3_method_4_code 86 = .ok (.getfield 63, 3) := by decide +kernel
theorem d_Ck_offsetAfter_89 : decode prog_3_method_4_code 89 = .ok (.iload_n 1, 1) := by decide +kernel
theorem d_Ck_offsetAfter_90 : decode prog_3_method_4_code 90 = .ok (.iaload, 1) := by decide +kernel
theorem d_Ck_offsetAfter_91 : decode prog_3_method_4_code 91 = .ok (.iadd, 1) := by decide +kernel
theorem d_Ck_offsetAfter_92 : decode prog_3_method_4_code 92 = .ok (.goto 9, 3) := by decide +kernel
theorem d_Ck_offsetAfter_95 : decode prog_3_method_4_code 95 = .ok (.aload_n 2, 1) := by decide +kernel
theorem d_Ck_offsetAfter_96 : decode prog_3_method_4_code 96 = .ok (.getfield 66, 3) := by decide +kernel
theorem d_Ck_offsetAfter_99 : decode prog_3_method_4_code 99 = .ok (.iload_n 1, 1) := by decide +kernel
theorem d_Ck_offsetAfter_100 : decode prog_3_method_4_code 100 = .ok (.iaload, 1) := by decide +kernel
theorem d_Ck_offsetAfter_101 : decode prog_3_method_4_code 101 = .ok (.ireturn, 1) := by decide +kernel
theorem d_Ca_passRound_0 : decode prog_2_method_2_code 0 = .ok (.iconst 1, 1) := by decide +kernel
theorem d_Ca_passRound_1 : decode prog_2_method_2_code 1 = .ok (.istore_n 2, 1) := by decide +kernel
theorem d_Ca_passRound_2 : decode prog_2_method_2_code 2 = .ok (.iconst 0, 1) := by decide +kernel
theorem d_Ca_passRound_3 : decode prog_2_method_2_code 3 = .ok (.istore_n 3, 1) := by decide +kernel
theorem d_Ca_passRound_4 : decode prog_2_method_2_code 4 = .ok (.iload_n 3, 1) := by decide +kernel
theorem d_Ca_passRound_5 : decode prog_2_method_2_code 5 = .ok (.bipush 16, 2) := by decide +kernel
theorem d_Ca_passRound_7 : decode prog_2_method_2_code 7 = .ok (.if_icmp .ge 63, 3) := by decide +kernel
theorem d_Ca_passRound_10 : decode prog_2_method_2_code 10 = .ok (.aload_n 0, 1) := by decide +kernel
theorem d_Ca_passRound_11 : decode prog_2_method_2_code 11 = .ok (.getfield 9, 3) := by decide +kernel
theorem d_Ca_passRound_14 : decode prog_2_method_2_code 14 = .ok (.iload_n 3, 1) := by decide +kernel
theorem d_Ca_passRound_15 : decode prog_2_method_2_code 15 = .ok (.iaload, 1) := by decide +kernel
theorem d_Ca_passRound_16 : decode prog_2_method_2_code 16 = .ok (.aload_n 1, 1) := by decide +kernel
theorem d_Ca_passRound_17 : decode prog_2_method_2_code 17 = .ok (.iload_n 3, 1) := by decide +kernel
theorem d_Ca_passRound_18 : decode prog_2_method_2_code 18 = .ok (.invokevirtual 28, 3) := by decide +kernel
theorem d_Ca_passRound_21 : decode prog_2_method_2_code 21 = .ok (.if_icmp .ne 18, 3) := by decide +kernel
theorem d_Ca_passRound_24 : decode prog_2_method_2_code 24 = .ok (.aload_n 0, 1) := by decide +kernel
theorem d_Ca_passRound_25 : decode prog_2_method_2_code 25 = .ok (.getfield 15, 3) := by decide +kernel
theorem d_Ca_passRound_28 : decode prog_2_method_2_code 28 = .ok (.iload_n 3, 1) := by decide +kernel
theorem d_Ca_passRound_29 : decode prog_2_method_2_code 29 = .ok (.iaload, 1) := by decide +kernel
theorem d_Ca_passRound_30 : decode prog_2_method_2_code 30 = .ok (.aload_n 1, 1) := by decide +kernel
theorem d_Ca_passRound_31 : decode prog_2_method_2_code 31 = .ok (.getfield 34, 3) := by decide +kernel
theorem d_Ca_passRound_34 : decode prog_2_method_2_code 34 = .ok (.iload_n 3, 1) := by decide +kernel
theorem d_Ca_passRound_35 : decode prog_2_method_2_code 35 = .ok (.iaload, 1) := by decide +kernel
theorem d_Ca_passRound_36 : decode prog_2_method_2_code 36 = .ok (.if_icmp .eq 5, 3) := by decide +kernel
theorem d_Ca_passRound_39 : decode prog_2_method_2_code 39 = .ok (.iconst 0, 1) := by decide +kernel
theorem d_Ca_passRound_40 : decode prog_2_method_2_code 40 = .ok (.istore_n 2, 1) := by decide +kernel
theorem d_Ca_passRound_41 : decode prog_2_method_2_code 41 = .ok (.aload_n 0, 1) := by decide +kernel
theorem d_Ca_passRound_42 : decode prog_2_method_2_code 42 = .ok (.getfield 9, 3) := by decide +kernel
theorem d_Ca_passRound_45 : decode prog_2_method_2_code 45 = .ok (.iload_n 3, 1) := by decide +kernel
theorem d_Ca_passRound_46 : decode prog_2_method_2_code 46 = .ok (.aload_n 1, 1) := by decide +kernel
theorem d_Ca_passRound_47 : decode prog_2_method_2_code 47 = .ok (.iload_n 3, 1) := by decide +kernel
theorem d_Ca_passRound_48 : decode prog_2_method_2_code 48 = .ok (.invokevirtual 28, 3) := by decide +kernel
theorem d_Ca_passRound_51 : decode prog_2_method_2_code 51 = .ok (.iastore, 1) := by decide +kernel
theorem d_Ca_passRound_52 : decode prog_2_method_2_code 52 = .ok (.aload_n 0, 1) := by decide +kernel
theorem d_Ca_passRound_53 : decode prog_2_method_2_code 53 = .ok (.getfield 15, 3) := by decide +kernel
theorem d_Ca_passRound_56 : decode prog_2_method_2_code 56 = .ok (.iload_n 3, 1) := by decide +kernel
theorem d_Ca_passRound_57 : decode prog_2_method_2_code 57 = .ok (.aload_n 1, 1) := by decide +kernel
theorem d_Ca_passRound_58 : decode prog_2_method_2_code 58 = .ok (.getfield 34, 3) := by decide +kernel
theorem d_Ca_passRound_61 : decode prog_2_method_2_code 61 = .ok (.iload_n 3, 1) := by decide +kernel
theorem d_Ca_passRound_62 : decode prog_2_method_2_code 62 = .ok (.iaload, 1) := by decide +kernel
theorem d_Ca_passRound_63 : decode prog_2_method_2_code 63 = .ok (.iastore, 1) := by decide +kernel
theorem d_Ca_passRound_64 : decode prog_2_method_2_code 64 = .ok (.iinc 3 1, 3) := by decide +kernel
theorem d_Ca_passRound_67 : decode prog_2_method_2_code 67 = .ok (.goto (-63), 3) := by decide +kernel
theorem d_Ca_passRound_70 : decode prog_2_method_2_code 70 = .ok (.aload_n 0, 1) := by decide +kernel
theorem d_Ca_passRound_71 : decode prog_2_method_2_code 71 = .ok (.iload_n 2, 1) := by decide +kernel
theorem d_Ca_passRound_72 : decode prog_2_method_2_code 72 = .ok (.ifCond .eq 12, 3) := by decide +kernel
theorem d_Ca_passRound_75 : decode prog_2_method_2_code 75 = .ok (.aload_n 0, 1) := by decide +kernel
theorem d_Ca_passRound_76 : decode prog_2_method_2_code 76 = .ok (.getfield 18, 3) := by decide +kernel
theorem d_Ca_passRound_79 : decode prog_2_method_2_code 79 = .ok (.iconst 1, 1) := by decide +kernel
theorem d_Ca_passRound_80 : decode prog_2_method_2_code 80 = .ok (.iadd, 1) := by decide +kernel
theorem d_Ca_passRound_81 : decode prog_2_method_2_code 81 = .ok (.goto 4, 3) := by decide +kernel
theorem d_Ca_passRound_84 : decode prog_2_method_2_code 84 = .ok (.iconst 0, 1) := by decide +kernel
theorem d_Ca_passRound_85 : decode prog_2_method_2_code 85 = .ok (.putfield 18, 3) := by decide +kernel
theorem d_Ca_passRound_88 : decode prog_2_method_2_code 88 = .ok (.return_, 1) := by decide +kernel
theorem d_Fl_shownCondition_0 : decode prog_4_method_6_code 0 = .ok (.aload_n 0, 1) := by decide +kernel
theorem d_Fl_shownCondition_1 : decode prog_4_method_6_code 1 = .ok (.getfield 47, 3) := by decide +kernel
theorem d_Fl_shownCondition_4 : decode prog_4_method_6_code 4 = .ok (.iload_n 1, 1) := by decide +kernel
theorem d_Fl_shownCondition_5 : decode prog_4_method_6_code 5 = .ok (.ishr, 1) := by decide +kernel
theorem d_Fl_shownCondition_6 : decode prog_4_method_6_code 6 = .ok (.iconst 1, 1) := by decide +kernel
theorem d_Fl_shownCondition_7 : decode prog_4_method_6_code 7 = .ok (.iand, 1) := by decide +kernel
theorem d_Fl_shownCondition_8 : decode prog_4_method_6_code 8 = .ok (.iconst 1, 1) := by decide +kernel
theorem d_Fl_shownCondition_9 : decode prog_4_method_6_code 9 = .ok (.if_icmp .ne 7, 3) := by decide +kernel
theorem d_Fl_shownCondition_12 : decode prog_4_method_6_code 12 = .ok (.iconst 3, 1) := by decide +kernel
theorem d_Fl_shownCondition_13 : decode prog_4_method_6_code 13 = .ok (.goto 9, 3) := by decide +kernel
theorem d_Fl_shownCondition_16 : decode prog_4_method_6_code 16 = .ok (.aload_n 0, 1) := by decide +kernel
theorem d_Fl_shownCondition_17 : decode prog_4_method_6_code 17 = .ok (.getfield 31, 3) := by decide +kernel
theorem d_Fl_shownCondition_20 : decode prog_4_method_6_code 20 = .ok (.iload_n 1, 1) := by decide +kernel
theorem d_Fl_shownCondition_21 : decode prog_4_method_6_code 21 = .ok (.iaload, 1) := by decide +kernel
theorem d_Fl_shownCondition_22 : decode prog_4_method_6_code 22 = .ok (.ireturn, 1) := by decide +kernel
theorem d_CT_state_0 : decode prog_1_method_15_code 0 = .ok (.aload_n 0, 1) := by decide +kernel
theorem d_CT_state_1 : decode prog_1_method_15_code 1 = .ok (.getfield 12, 3) := by decide +kernel
theorem d_CT_state_4 : decode prog_1_method_15_code 4 = .ok (.iload_n 1, 1) := by decide +kernel
theorem d_CT_state_5 : decode prog_1_method_15_code 5 = .ok (.invokevirtual 119, 3) := by decide +kernel
theorem d_CT_state_8 : decode prog_1_method_15_code 8 = .ok (.invokestatic 57, 3) := by decide +kernel
theorem d_CT_state_11 : decode prog_1_method_15_code 11 = .ok (.iload_n 2, 1) := by decide +kernel
theorem d_CT_state_48 : decode prog_1_method_15_code 48 = .ok (.aload_n 0, 1) := by decide +kernel
theorem d_CT_state_49 : decode prog_1_method_15_code 49 = .ok (.getfield 21, 3) := by decide +kernel
theorem d_CT_state_52 : decode prog_1_method_15_code 52 = .ok (.iload_n 1, 1) := by decide +kernel
theorem d_CT_state_53 : decode prog_1_method_15_code 53 = .ok (.invokevirtual 176, 3) := by decide +kernel
theorem d_CT_state_56 : decode prog_1_method_15_code 56 = .ok (.ireturn, 1) := by decide +kernel
theorem d_CT_state_57 : decode prog_1_method_15_code 57 = .ok (.aload_n 0, 1) := by decide +kernel
theorem d_CT_state_58 : decode prog_1_method_15_code 58 = .ok (.getfield 21, 3) := by decide +kernel
theorem d_CT_state_61 : decode prog_1_method_15_code 61 = .ok (.getfield 180, 3) := by decide +kernel
theorem d_CT_state_64 : decode prog_1_method_15_code 64 = .ok (.iload_n 1, 1) := by decide +kernel
theorem d_CT_state_65 : decode prog_1_method_15_code 65 = .ok (.iaload, 1) := by decide +kernel
theorem d_CT_state_66 : decode prog_1_method_15_code 66 = .ok (.ireturn, 1) := by decide +kernel
theorem d_CT_state_67 : decode prog_1_method_15_code 67 = .ok (.aload_n 0, 1) := by decide +kernel
theorem d_CT_state_68 : decode prog_1_method_15_code 68 = .ok (.getfield 21, 3) := by decide +kernel
theorem d_CT_state_71 : decode prog_1_method_15_code 71 = .ok (.getfield 183, 3) := by decide +kernel
theorem d_CT_state_74 : decode prog_1_method_15_code 74 = .ok (.iload_n 1, 1) := by decide +kernel
theorem d_CT_state_75 : decode prog_1_method_15_code 75 = .ok (.iaload, 1) := by decide +kernel
theorem d_CT_state_76 : decode prog_1_method_15_code 76 = .ok (.ireturn, 1) := by decide +kernel
theorem d_CT_state_77 : decode prog_1_method_15_code 77 = .ok (.aload_n 0, 1) := by decide +kernel
theorem d_CT_state_78 : decode prog_1_method_15_code 78 = .ok (.getfield 21, 3) := by decide +kernel
theorem d_CT_state_81 : decode prog_1_method_15_code 81 = .ok (.getfield 186, 3) := by decide +kernel
theorem d_CT_state_84 : decode prog_1_method_15_code 84 = .ok (.iload_n 1, 1) := by decide +kernel
theorem d_CT_state_85 : decode prog_1_method_15_code 85 = .ok (.iaload, 1) := by decide +kernel
theorem d_CT_state_86 : decode prog_1_method_15_code 86 = .ok (.ireturn, 1) := by decide +kernel
theorem d_CT_state_87 : decode prog_1_method_15_code 87 = .ok (.aload_n 0, 1) := by decide +kernel
theorem d_CT_state_88 : decode prog_1_method_15_code 88 = .ok (.getfield 31, 3) := by decide +kernel
theorem d_CT_state_91 : decode prog_1_method_15_code 91 = .ok (.getfield 187, 3) := by decide +kernel
theorem d_CT_state_94 : decode prog_1_method_15_code 94 = .ok (.iload_n 1, 1) := by decide +kernel
theorem d_CT_state_95 : decode prog_1_method_15_code 95 = .ok (.iaload, 1) := by decide +kernel
theorem d_CT_state_96 : decode prog_1_method_15_code 96 = .ok (.ireturn, 1) := by decide +kernel
theorem d_CT_state_97 : decode prog_1_method_15_code 97 = .ok (.new 190, 3) := by decide +kernel
theorem d_CT_state_100 : decode prog_1_method_15_code 100 = .ok (.dup, 1) := by decide +kernel
theorem d_CT_state_101 : decode prog_1_method_15_code 101 = .ok (.ldc 192, 2) := by decide +kernel
theorem d_CT_state_103 : decode prog_1_method_15_code 103 = .ok (.invokespecial 194, 3) := by decide +kernel
theorem d_CT_state_106 : decode prog_1_method_15_code 106 = .ok (.athrow, 1) := by decide +kernel
theorem d_CT_phase_0 : decode prog_1_method_16_code 0 = .ok (.aload_n 0, 1) := by decide +kernel
theorem d_CT_phase_1 : decode prog_1_method_16_code 1 = .ok (.getfield 12, 3) := by decide +kernel
theorem d_CT_phase_4 : decode prog_1_method_16_code 4 = .ok (.iload_n 1, 1) := by decide +kernel
theorem d_CT_phase_5 : decode prog_1_method_16_code 5 = .ok (.invokevirtual 119, 3) := by decide +kernel
theorem d_CT_phase_8 : decode prog_1_method_16_code 8 = .ok (.invokestatic 57, 3) := by decide +kernel
theorem d_CT_phase_11 : decode prog_1_method_16_code 11 = .ok (.aload_n 0, 1) := by decide +kernel
theorem d_CT_phase_12 : decode prog_1_method_16_code 12 = .ok (.getfield 31, 3) := by decide +kernel
theorem d_CT_phase_15 : decode prog_1_method_16_code 15 = .ok (.getfield 195, 3) := by decide +kernel
theorem d_CT_phase_18 : decode prog_1_method_16_code 18 = .ok (.iload_n 1, 1) := by decide +kernel
theorem d_CT_phase_19 : decode prog_1_method_16_code 19 = .ok (.laload, 1) := by decide +kernel
theorem d_CT_phase_20 : decode prog_1_method_16_code 20 = .ok (.lreturn, 1) := by decide +kernel
theorem d_CT_sends_0 : decode prog_1_method_17_code 0 = .ok (.aload_n 0, 1) := by decide +kernel
theorem d_CT_sends_1 : decode prog_1_method_17_code 1 = .ok (.getfield 12, 3) := by decide +kernel
theorem d_CT_sends_4 : decode prog_1_method_17_code 4 = .ok (.iload_n 1, 1) := by decide +kernel
theorem d_CT_sends_5 : decode prog_1_method_17_code 5 = .ok (.iload_n 2, 1) := by decide +kernel
theorem d_CT_sends_6 : decode prog_1_method_17_code 6 = .ok (.invokevirtual 85, 3) := by decide +kernel
theorem d_CT_sends_9 : decode prog_1_method_17_code 9 = .ok (.invokestatic 57, 3) := by decide +kernel
theorem d_CT_sends_12 : decode prog_1_method_17_code 12 = .ok (.aload_n 0, 1) := by decide +kernel
theorem d_CT_sends_13 : decode prog_1_method_17_code 13 = .ok (.getfield 21, 3) := by decide +kernel
theorem d_CT_sends_16 : decode prog_1_method_17_code 16 = .ok (.getfield 199, 3) := by decide +kernel
theorem d_CT_sends_19 : decode prog_1_method_17_code 19 = .ok (.getfield 203, 3) := by decide +kernel
theorem d_CT_sends_22 : decode prog_1_method_17_code 22 = .ok (.iload_n 1, 1) := by decide +kernel
theorem d_CT_sends_23 : decode prog_1_method_17_code 23 = .ok (.iload_n 2, 1) := by decide +kernel
theorem d_CT_sends_24 : decode prog_1_method_17_code 24 = .ok (.invokestatic 89, 3) := by decide +kernel
theorem d_CT_sends_27 : decode prog_1_method_17_code 27 = .ok (.iaload, 1) := by decide +kernel
theorem d_CT_sends_28 : decode prog_1_method_17_code 28 = .ok (.ireturn, 1) := by decide +kernel
theorem d_CT_traced_0 : decode prog_1_method_18_code 0 = .ok (.aload_n 0, 1) := by decide +kernel
theorem d_CT_traced_1 : decode prog_1_method_18_code 1 = .ok (.getfield 12, 3) := by decide +kernel
theorem d_CT_traced_4 : decode prog_1_method_18_code 4 = .ok (.iload_n 1, 1) := by decide +kernel
theorem d_CT_traced_5 : decode prog_1_method_18_code 5 = .ok (.invokevirtual 119, 3) := by decide +kernel
theorem d_CT_traced_8 : decode prog_1_method_18_code 8 = .ok (.invokestatic 57, 3) := by decide +kernel
theorem d_CT_traced_11 : decode prog_1_method_18_code 11 = .ok (.aload_n 0, 1) := by decide +kernel
theorem d_CT_traced_12 : decode prog_1_method_18_code 12 = .ok (.getfield 21, 3) := by decide +kernel
theorem d_CT_traced_15 : decode prog_1_method_18_code 15 = .ok (.iload_n 1, 1) := by decide +kernel
theorem d_CT_traced_16 : decode prog_1_method_18_code 16 = .ok (.invokevirtual 206, 3) := by decide +kernel
theorem d_CT_traced_19 : decode prog_1_method_18_code 19 = .ok (.istore_n 2, 1) := by decide +kernel
theorem d_CT_traced_20 : decode prog_1_method_18_code 20 = .ok (.iload_n 2, 1) := by decide +kernel
theorem d_CT_traced_21 : decode prog_1_method_18_code 21 = .ok (.bipush (-2), 2) := by decide +kernel
theorem d_CT_traced_23 : decode prog_1_method_18_code 23 = .ok (.if_icmp .ne 7, 3) := by decide +kernel
theorem d_CT_traced_26 : decode prog_1_method_18_code 26 = .ok (.iconst (-1), 1) := by decide +kernel
theorem d_CT_traced_27 : decode prog_1_method_18_code 27 = .ok (.goto 4, 3) := by decide +kernel
theorem d_CT_traced_30 : decode prog_1_method_18_code 30 = .ok (.iload_n 2, 1) := by decide +kernel
theorem d_CT_traced_31 : decode prog_1_method_18_code 31 = .ok (.ireturn, 1) := by decide +kernel
theorem d_CT_best_0 : decode prog_1_method_20_code 0 = .ok (.aload_n 0, 1) := by decide +kernel
theorem d_CT_best_1 : decode prog_1_method_20_code 1 = .ok (.getfield 12, 3) := by decide +kernel
theorem d_CT_best_4 : decode prog_1_method_20_code 4 = .ok (.iload_n 1, 1) := by decide +kernel
theorem d_CT_best_5 : decode prog_1_method_20_code 5 = .ok (.invokevirtual 119, 3) := by decide +kernel
theorem d_CT_best_8 : decode prog_1_method_20_code 8 = .ok (.invokestatic 57, 3) := by decide +kernel
theorem d_CT_best_11 : decode prog_1_method_20_code 11 = .ok (.aload_n 0, 1) := by decide +kernel
theorem d_CT_best_12 : decode prog_1_method_20_code 12 = .ok (.getfield 21, 3) := by decide +kernel
theorem d_CT_best_15 : decode prog_1_method_20_code 15 = .ok (.iload_n 1, 1) := by decide +kernel
theorem d_CT_best_16 : decode prog_1_method_20_code 16 = .ok (.invokevirtual 209, 3) := by decide +kernel
theorem d_CT_best_19 : decode prog_1_method_20_code 19 = .ok (.ireturn, 1) := by decide +kernel
theorem d_CT_finding_0 : decode prog_1_method_22_code 0 = .ok (.iload_n 1, 1) := by decide +kernel
theorem d_CT_finding_1 : decode prog_1_method_22_code 1 = .ok (.iconst 0, 1) := by decide +kernel
theorem d_CT_finding_2 : decode prog_1_method_22_code 2 = .ok (.aload_n 0, 1) := by decide +kernel
theorem d_CT_finding_3 : decode prog_1_method_22_code 3 = .ok (.getfield 49, 3) := by decide +kernel
theorem d_CT_finding_6 : decode prog_1_method_22_code 6 = .ok (.iconst 1, 1) := by decide +kernel
theorem d_CT_finding_7 : decode prog_1_method_22_code 7 = .ok (.isub, 1) := by decide +kernel
theorem d_CT_finding_8 : decode prog_1_method_22_code 8 = .ok (.invokestatic 53, 3) := by decide +kernel
theorem d_CT_finding_11 : decode prog_1_method_22_code 11 = .ok (.ifCond .eq 16, 3) := by decide +kernel
theorem d_CT_finding_14 : decode prog_1_method_22_code 14 = .ok (.iload_n 2, 1) := by decide +kernel
theorem d_CT_finding_15 : decode prog_1_method_22_code 15 = .ok (.iconst 0, 1) := by decide +kernel
theorem d_CT_finding_16 : decode prog_1_method_22_code 16 = .ok (.iconst 1, 1) := by decide +kernel
theorem d_CT_finding_17 : decode prog_1_method_22_code 17 = .ok (.invokestatic 53, 3) := by decide +kernel
theorem d_CT_finding_20 : decode prog_1_method_22_code 20 = .ok (.ifCond .eq 7, 3) := by decide +kernel
theorem d_CT_finding_23 : decode prog_1_method_22_code 23 = .ok (.iconst 1, 1) := by decide +kernel
theorem d_CT_finding_24 : decode prog_1_method_22_code 24 = .ok (.goto 4, 3) := by decide +kernel
theorem d_CT_finding_27 : decode prog_1_method_22_code 27 = .ok (.iconst 0, 1) := by decide +kernel
theorem d_CT_finding_28 : decode prog_1_method_22_code 28 = .ok (.invokestatic 57, 3) := by decide +kernel
theorem d_CT_finding_31 : decode prog_1_method_22_code 31 = .ok (.iload_n 2, 1) := by decide +kernel
theorem d_CT_finding_32 : decode prog_1_method_22_code 32 = .ok (.ifCond .ne 12, 3) := by decide +kernel
theorem d_CT_finding_35 : decode prog_1_method_22_code 35 = .ok (.aload_n 0, 1) := by decide +kernel
theorem d_CT_finding_36 : decode prog_1_method_22_code 36 = .ok (.getfield 42, 3) := by decide +kernel
theorem d_CT_finding_39 : decode prog_1_method_22_code 39 = .ok (.iload_n 1, 1) := by decide +kernel
theorem d_CT_finding_40 : decode prog_1_method_22_code 40 = .ok (.iaload, 1) := by decide +kernel
theorem d_CT_finding_41 : decode prog_1_method_22_code 41 = .ok (.goto 9, 3) := by decide +kernel
theorem d_CT_finding_44 : decode prog_1_method_22_code 44 = .ok (.aload_n 0, 1) := by decide +kernel
theorem d_CT_finding_45 : decode prog_1_method_22_code 45 = .ok (.getfield 46, 3) := by decide +kernel
theorem d_CT_finding_48 : decode prog_1_method_22_code 48 = .ok (.iload_n 1, 1) := by decide +kernel
theorem d_CT_finding_49 : decode prog_1_method_22_code 49 = .ok (.iaload, 1) := by decide +kernel
theorem d_CT_finding_50 : decode prog_1_method_22_code 50 = .ok (.ireturn, 1) := by decide +kernel
