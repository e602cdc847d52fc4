theorem d_Mo_thrown_0 : decode prog_8_method_24_code 0 = .ok (.aload_n 0, 1) := by decide +kernel
theorem d_Mo_thrown_1 : decode prog_8_method_24_code 1 = .ok (.getfield 7, 3) := by decide +kernel
theorem d_Mo_thrown_4 : decode prog_8_method_24_code 4 = .ok (.ireturn, 1) := by decide +kernel
theorem d_Mo_element_0 : decode prog_8_method_28_code 0 = .ok (.iload_n 1, 1) := by decide +kernel
theorem d_Mo_element_1 : decode prog_8_method_28_code 1 = .ok (.ifCond .lt 47, 3) := by decide +kernel
theorem d_Mo_element_4 : decode prog_8_method_28_code 4 = .ok (.iload_n 1, 1) := by decide +kernel
theorem d_Mo_element_5 : decode prog_8_method_28_code 5 = .ok (.bipush 15, 2) := by decide +kernel
theorem d_Mo_element_7 : decode prog_8_method_28_code 7 = .ok (.if_icmp .gt 41, 3) := by decide +kernel
theorem d_Mo_element_10 : decode prog_8_method_28_code 10 = .ok (.iload_n 2, 1) := by decide +kernel
theorem d_Mo_element_11 : decode prog_8_method_28_code 11 = .ok (.ifCond .lt 37, 3) := by decide +kernel
theorem d_Mo_element_14 : decode prog_8_method_28_code 14 = .ok (.iload_n 2, 1) := by decide +kernel
theorem d_Mo_element_15 : decode prog_8_method_28_code 15 = .ok (.bipush 6, 2) := by decide +kernel
theorem d_Mo_element_17 : decode prog_8_method_28_code 17 = .ok (.if_icmp .gt 31, 3) := by decide +kernel
theorem d_Mo_element_20 : decode prog_8_method_28_code 20 = .ok (.iload_n 3, 1) := by decide +kernel
theorem d_Mo_element_21 : decode prog_8_method_28_code 21 = .ok (.sipush (-1000), 3) := by decide +kernel
theorem d_Mo_element_24 : decode prog_8_method_28_code 24 = .ok (.if_icmp .lt 24, 3) := by decide +kernel
theorem d_Mo_element_27 : decode prog_8_method_28_code 27 = .ok (.iload_n 3, 1) := by decide +kernel
theorem d_Mo_element_28 : decode prog_8_method_28_code 28 = .ok (.sipush 1000, 3) := by decide +kernel
theorem d_Mo_element_31 : decode prog_8_method_28_code 31 = .ok (.if_icmp .gt 17, 3) := by decide +kernel
theorem d_Mo_element_34 : decode prog_8_method_28_code 34 = .ok (.iload 4, 2) := by decide +kernel
theorem d_Mo_element_36 : decode prog_8_method_28_code 36 = .ok (.bipush (-9), 2) := by decide +kernel
theorem d_Mo_element_38 : decode prog_8_method_28_code 38 = .ok (.if_icmp .lt 10, 3) := by decide +kernel
theorem d_Mo_element_41 : decode prog_8_method_28_code 41 = .ok (.iload 4, 2) := by decide +kernel
theorem d_Mo_element_43 : decode prog_8_method_28_code 43 = .ok (.bipush 9, 2) := by decide +kernel
theorem d_Mo_element_45 : decode prog_8_method_28_code 45 = .ok (.if_icmp .le 7, 3) := by decide +kernel
theorem d_Mo_element_48 : decode prog_8_method_28_code 48 = .ok (.iconst 1, 1) := by decide +kernel
theorem d_Mo_element_49 : decode prog_8_method_28_code 49 = .ok (.goto 4, 3) := by decide +kernel
theorem d_Mo_element_52 : decode prog_8_method_28_code 52 = .ok (.iconst 0, 1) := by decide +kernel
theorem d_Mo_element_53 : decode prog_8_method_28_code 53 = .ok (.istore 5, 2) := by decide +kernel
theorem d_Mo_element_55 : decode prog_8_method_28_code 55 = .ok (.aload_n 0, 1) := by decide +kernel
theorem d_Mo_element_56 : decode prog_8_method_28_code 56 = .ok (.iload 5, 2) := by decide +kernel
theorem d_Mo_element_58 : decode prog_8_method_28_code 58 = .ok (.ifCond .eq 7, 3) := by decide +kernel
theorem d_Mo_element_61 : decode prog_8_method_28_code 61 = .ok (.iconst 1, 1) := by decide +kernel
theorem d_Mo_element_62 : decode prog_8_method_28_code 62 = .ok (.goto 17, 3) := by decide +kernel
theorem d_Mo_element_65 : decode prog_8_method_28_code 65 = .ok (.aload_n 0, 1) := by decide +kernel
theorem d_Mo_element_66 : decode prog_8_method_28_code 66 = .ok (.getfield 17, 3) := by decide +kernel
theorem d_Mo_element_69 : decode prog_8_method_28_code 69 = .ok (.iload_n 1, 1) := by decide +kernel
theorem d_Mo_element_70 : decode prog_8_method_28_code 70 = .ok (.baload, 1) := by decide +kernel
theorem d_Mo_element_71 : decode prog_8_method_28_code 71 = .ok (.ifCond .eq 7, 3) := by decide +kernel
theorem d_Mo_element_74 : decode prog_8_method_28_code 74 = .ok (.iconst 2, 1) := by decide +kernel
theorem d_Mo_element_75 : decode prog_8_method_28_code 75 = .ok (.goto 4, 3) := by decide +kernel
theorem d_Mo_element_78 : decode prog_8_method_28_code 78 = .ok (.iconst 0, 1) := by decide +kernel
theorem d_Mo_element_79 : decode prog_8_method_28_code 79 = .ok (.putfield 7, 3) := by decide +kernel
theorem d_Mo_element_82 : decode prog_8_method_28_code 82 = .ok (.aload_n 0, 1) := by decide +kernel
theorem d_Mo_element_83 : decode prog_8_method_28_code 83 = .ok (.getfield 7, 3) := by decide +kernel
theorem d_Mo_element_86 : decode prog_8_method_28_code 86 = .ok (.ifCond .eq 4, 3) := by decide +kernel
theorem d_Mo_element_89 : decode prog_8_method_28_code 89 = .ok (.return_, 1) := by decide +kernel
theorem d_Mo_element_90 : decode prog_8_method_28_code 90 = .ok (.aload_n 0, 1) := by decide +kernel
theorem d_Mo_element_91 : decode prog_8_method_28_code 91 = .ok (.getfield 17, 3) := by decide +kernel
theorem d_Mo_element_94 : decode prog_8_method_28_code 94 = .ok (.iload_n 1, 1) := by decide +kernel
theorem d_Mo_element_95 : decode prog_8_method_28_code 95 = .ok (.iconst 1, 1) := by decide +kernel
theorem d_Mo_element_96 : decode prog_8_method_28_code 96 = .ok (.bastore, 1) := by decide +kernel
theorem d_Mo_element_97 : decode prog_8_method_28_code 97 = .ok (.aload_n 0, 1) := by decide +kernel
theorem d_Mo_element_98 : decode prog_8_method_28_code 98 = .ok (.getfield 21, 3) := by decide +kernel
theorem d_Mo_element_101 : decode prog_8_method_28_code 101 = .ok (.iload_n 1, 1) := by decide +kernel
theorem d_Mo_element_102 : decode prog_8_method_28_code 102 = .ok (.iload_n 2, 1) := by decide +kernel
theorem d_Mo_element_103 : decode prog_8_method_28_code 103 = .ok (.iastore, 1) := by decide +kernel
theorem d_Mo_element_104 : decode prog_8_method_28_code 104 = .ok (.aload_n 0, 1) := by decide +kernel
theorem d_Mo_element_105 : decode prog_8_method_28_code 105 = .ok (.getfield 25, 3) := by decide +kernel
theorem d_Mo_element_108 : decode prog_8_method_28_code 108 = .ok (.iload_n 1, 1) := by decide +kernel
theorem d_Mo_element_109 : decode prog_8_method_28_code 109 = .ok (.iload_n 3, 1) := by decide +kernel
theorem d_Mo_element_110 : decode prog_8_method_28_code 110 = .ok (.iastore, 1) := by decide +kernel
theorem d_Mo_element_111 : decode prog_8_method_28_code 111 = .ok (.aload_n 0, 1) := by decide +kernel
theorem d_Mo_element_112 : decode prog_8_method_28_code 112 = .ok (.getfield 28, 3) := by decide +kernel
theorem d_Mo_element_115 : decode prog_8_method_28_code 115 = .ok (.iload_n 1, 1) := by decide +kernel
theorem d_Mo_element_116 : decode prog_8_method_28_code 116 = .ok (.iload 4, 2) := by decide +kernel
theorem d_Mo_element_118 : decode prog_8_method_28_code 118 = .ok (.iastore, 1) := by decide +kernel
theorem d_Mo_element_119 : decode prog_8_method_28_code 119 = .ok (.aload_n 0, 1) := by decide +kernel
theorem d_Mo_element_120 : decode prog_8_method_28_code 120 = .ok (.getfield 64, 3) := by decide +kernel
theorem d_Mo_element_123 : decode prog_8_method_28_code 123 = .ok (.sipush 560, 3) := by decide +kernel
theorem d_Mo_element_126 : decode prog_8_method_28_code 126 = .ok (.iload_n 1, 1) := by decide +kernel
theorem d_Mo_element_127 : decode prog_8_method_28_code 127 = .ok (.iadd, 1) := by decide +kernel
theorem d_Mo_element_128 : decode prog_8_method_28_code 128 = .ok (.iload_n 3, 1) := by decide +kernel
theorem d_Mo_element_129 : decode prog_8_method_28_code 129 = .ok (.iastore, 1) := by decide +kernel
theorem d_Mo_element_130 : decode prog_8_method_28_code 130 = .ok (.aload_n 0, 1) := by decide +kernel
theorem d_Mo_element_131 : decode prog_8_method_28_code 131 = .ok (.getfield 64, 3) := by decide +kernel
theorem d_Mo_element_134 : decode prog_8_method_28_code 134 = .ok (.sipush 576, 3) := by decide +kernel
theorem d_Mo_element_137 : decode prog_8_method_28_code 137 = .ok (.iload_n 1, 1) := by decide +kernel
theorem d_Mo_element_138 : decode prog_8_method_28_code 138 = .ok (.iadd, 1) := by decide +kernel
theorem d_Mo_element_139 : decode prog_8_method_28_code 139 = .ok (.iload_n 3, 1) := by decide +kernel
theorem d_Mo_element_140 : decode prog_8_method_28_code 140 = .ok (.iastore, 1) := by decide +kernel
theorem d_Mo_element_141 : decode prog_8_method_28_code 141 = .ok (.aload_n 0, 1) := by decide +kernel
theorem d_Mo_element_142 : decode prog_8_method_28_code 142 = .ok (.getfield 64, 3) := by decide +kernel
theorem d_Mo_element_145 : decode prog_8_method_28_code 145 = .ok (.sipush 592, 3) := by decide +kernel
theorem d_Mo_element_148 : decode prog_8_method_28_code 148 = .ok (.iload_n 1, 1) := by decide +kernel
theorem d_Mo_element_149 : decode prog_8_method_28_code 149 = .ok (.iadd, 1) := by decide +kernel
theorem d_Mo_element_150 : decode prog_8_method_28_code 150 = .ok (.iload_n 3, 1) := by decide +kernel
theorem d_Mo_element_151 : decode prog_8_method_28_code 151 = .ok (.iastore, 1) := by decide +kernel
theorem d_Mo_element_152 : decode prog_8_method_28_code 152 = .ok (.aload_n 0, 1) := by decide +kernel
theorem d_Mo_element_153 : decode prog_8_method_28_code 153 = .ok (.getfield 64, 3) := by decide +kernel
theorem d_Mo_element_156 : decode prog_8_method_28_code 156 = .ok (.sipush 608, 3) := by decide +kernel
theorem d_Mo_element_159 : decode prog_8_method_28_code 159 = .ok (.iload_n 1, 1) := by decide +kernel
theorem d_Mo_element_160 : decode prog_8_method_28_code 160 = .ok (.iadd, 1) := by decide +kernel
theorem d_Mo_element_161 : decode prog_8_method_28_code 161 = .ok (.iconst (-1), 1) := by decide +kernel
theorem d_Mo_element_162 : decode prog_8_method_28_code 162 = .ok (.iastore, 1) := by decide +kernel
theorem d_Mo_element_163 : decode prog_8_method_28_code 163 = .ok (.aload_n 0, 1) := by decide +kernel
theorem d_Mo_element_164 : decode prog_8_method_28_code 164 = .ok (.getfield 64, 3) := by decide +kernel
theorem d_Mo_element_167 : decode prog_8_method_28_code 167 = .ok (.sipush 624, 3) := by decide +kernel
theorem d_Mo_element_170 : decode prog_8_method_28_code 170 = .ok (.iload_n 1, 1) := by decide +kernel
theorem d_Mo_element_171 : decode prog_8_method_28_code 171 = .ok (.iadd, 1) := by decide +kernel
theorem d_Mo_element_172 : decode prog_8_method_28_code 172 = .ok (.iconst (-1), 1) := by decide +kernel
theorem d_Mo_element_173 : decode prog_8_method_28_code 173 = .ok (.iastore, 1) := by decide +kernel
theorem d_Mo_element_174 : decode prog_8_method_28_code 174 = .ok (.return_, 1) := by decide +kernel
theorem d_Mo_link_0 : decode prog_8_method_29_code 0 = .ok (.aload_n 0, 1) := by decide +kernel
theorem d_Mo_link_1 : decode prog_8_method_29_code 1 = .ok (.aload_n 0, 1) := by decide +kernel
theorem d_Mo_link_2 : decode prog_8_method_29_code 2 = .ok (.iload_n 1, 1) := by decide +kernel
theorem d_Mo_link_3 : decode prog_8_method_29_code 3 = .ok (.iload_n 2, 1) := by decide +kernel
theorem d_Mo_link_4 : decode prog_8_method_29_code 4 = .ok (.invokevirtual 152, 3) := by decide +kernel
theorem d_Mo_link_7 : decode prog_8_method_29_code 7 = .ok (.ifCond .ne 18, 3) := by decide +kernel
theorem d_Mo_link_10 : decode prog_8_method_29_code 10 = .ok (.aload_n 0, 1) := by decide +kernel
theorem d_Mo_link_11 : decode prog_8_method_29_code 11 = .ok (.iload_n 3, 1) := by decide +kernel
theorem d_Mo_link_12 : decode prog_8_method_29_code 12 = .ok (.iload 4, 2) := by decide +kernel
theorem d_Mo_link_14 : decode prog_8_method_29_code 14 = .ok (.invokevirtual 152, 3) := by decide +kernel
theorem d_Mo_link_17 : decode prog_8_method_29_code 17 = .ok (.ifCond .ne 8, 3) := by decide +kernel
theorem d_Mo_link_20 : decode prog_8_method_29_code 20 = .ok (.iload_n 1, 1) := by decide +kernel
theorem d_Mo_link_21 : decode prog_8_method_29_code 21 = .ok (.iload_n 3, 1) := by decide +kernel
theorem d_Mo_link_22 : decode prog_8_method_29_code 22 = .ok (.if_icmp .ne 7, 3) := by decide +kernel
theorem d_Mo_link_25 : decode prog_8_method_29_code 25 = .ok (.iconst 1, 1) := by decide +kernel
theorem d_Mo_link_26 : decode prog_8_method_29_code 26 = .ok (.goto 4, 3) := by decide +kernel
theorem d_Mo_link_29 : decode prog_8_method_29_code 29 = .ok (.iconst 0, 1) := by decide +kernel
theorem d_Mo_link_30 : decode prog_8_method_29_code 30 = .ok (.putfield 7, 3) := by decide +kernel
theorem d_Mo_link_33 : decode prog_8_method_29_code 33 = .ok (.aload_n 0, 1) := by decide +kernel
theorem d_Mo_link_34 : decode prog_8_method_29_code 34 = .ok (.getfield 7, 3) := by decide +kernel
theorem d_Mo_link_37 : decode prog_8_method_29_code 37 = .ok (.ifCond .eq 5, 3) := by decide +kernel
theorem d_Mo_link_40 : decode prog_8_method_29_code 40 = .ok (.iconst 0, 1) := by decide +kernel
theorem d_Mo_link_41 : decode prog_8_method_29_code 41 = .ok (.ireturn, 1) := by decide +kernel
theorem d_Mo_link_42 : decode prog_8_method_29_code 42 = .ok (.iconst 4, 1) := by decide +kernel
theorem d_Mo_link_43 : decode prog_8_method_29_code 43 = .ok (.iload_n 1, 1) := by decide +kernel
theorem d_Mo_link_44 : decode prog_8_method_29_code 44 = .ok (.imul, 1) := by decide +kernel
theorem d_Mo_link_45 : decode prog_8_method_29_code 45 = .ok (.iload_n 2, 1) := by decide +kernel
theorem d_Mo_link_46 : decode prog_8_method_29_code 46 = .ok (.iadd, 1) := by decide +kernel
theorem d_Mo_link_47 : decode prog_8_method_29_code 47 = .ok (.istore 5, 2) := by decide +kernel
theorem d_Mo_link_49 : decode prog_8_method_29_code 49 = .ok (.iconst 4, 1) := by decide +kernel
theorem d_Mo_link_50 : decode prog_8_method_29_code 50 = .ok (.iload_n 3, 1) := by decide +kernel
theorem d_Mo_link_51 : decode prog_8_method_29_code 51 = .ok (.imul, 1) := by decide +kernel
theorem d_Mo_link_52 : decode prog_8_method_29_code 52 = .ok (.iload 4, 2) := by decide +kernel
theorem d_Mo_link_54 : decode prog_8_method_29_code 54 = .ok (.iadd, 1) := by decide +kernel
theorem d_Mo_link_55 : decode prog_8_method_29_code 55 = .ok (.istore 6, 2) := by decide +kernel
theorem d_Mo_link_57 : decode prog_8_method_29_code 57 = .ok (.aload_n 0, 1) := by decide +kernel
theorem d_Mo_link_58 : decode prog_8_method_29_code 58 = .ok (.getfield 40, 3) := by decide +kernel
theorem d_Mo_link_61 : decode prog_8_method_29_code 61 = .ok (.iload 5, 2) := by decide +kernel
theorem d_Mo_link_63 : decode prog_8_method_29_code 63 = .ok (.iaload, 1) := by decide +kernel
theorem d_Mo_link_64 : decode prog_8_method_29_code 64 = .ok (.ifCond .ge 42, 3) := by decide +kernel
theorem d_Mo_link_67 : decode prog_8_method_29_code 67 = .ok (.aload_n 0, 1) := by decide +kernel
theorem d_Mo_link_68 : decode prog_8_method_29_code 68 = .ok (.getfield 40, 3) := by decide +kernel
theorem d_Mo_link_71 : decode prog_8_method_29_code 71 = .ok (.iload 6, 2) := by decide +kernel
theorem d_Mo_link_73 : decode prog_8_method_29_code 73 = .ok (.iaload, 1) := by decide +kernel
theorem d_Mo_link_74 : decode prog_8_method_29_code 74 = .ok (.ifCond .ge 32, 3) := by decide +kernel
theorem d_Mo_link_77 : decode prog_8_method_29_code 77 = .ok (.aload_n 0, 1) := by decide +kernel
theorem d_Mo_link_78 : decode prog_8_method_29_code 78 = .ok (.getfield 46, 3) := by decide +kernel
theorem d_Mo_link_81 : decode prog_8_method_29_code 81 = .ok (.iload 5, 2) := by decide +kernel
theorem d_Mo_link_83 : decode prog_8_method_29_code 83 = .ok (.iaload, 1) := by decide +kernel
theorem d_Mo_link_84 : decode prog_8_method_29_code 84 = .ok (.ifCond .ge 22, 3) := by decide +kernel
theorem d_Mo_link_87 : decode prog_8_method_29_code 87 = .ok (.aload_n 0, 1) := by decide +kernel
theorem d_Mo_link_88 : decode prog_8_method_29_code 88 = .ok (.getfield 46, 3) := by decide +kernel
theorem d_Mo_link_91 : decode prog_8_method_29_code 91 = .ok (.iload 6, 2) := by decide +kernel
theorem d_Mo_link_93 : decode prog_8_method_29_code 93 = .ok (.iaload, 1) := by decide +kernel
theorem d_Mo_link_94 : decode prog_8_method_29_code 94 = .ok (.ifCond .ge 12, 3) := by decide +kernel
theorem d_Mo_link_97 : decode prog_8_method_29_code 97 = .ok (.aload_n 0, 1) := by decide +kernel
theorem d_Mo_link_98 : decode prog_8_method_29_code 98 = .ok (.getfield 55, 3) := by decide +kernel
theorem d_Mo_link_101 : decode prog_8_method_29_code 101 = .ok (.bipush 24, 2) := by decide +kernel
theorem d_Mo_link_103 : decode prog_8_method_29_code 103 = .ok (.if_icmp .ne 10, 3) := by decide +kernel
theorem d_Mo_link_106 : decode prog_8_method_29_code 106 = .ok (.aload_n 0, 1) := by decide +kernel
theorem d_Mo_link_107 : decode prog_8_method_29_code 107 = .ok (.iconst 2, 1) := by decide +kernel
theorem d_Mo_link_108 : decode prog_8_method_29_code 108 = .ok (.putfield 7, 3) := by decide +kernel
theorem d_Mo_link_111 : decode prog_8_method_29_code 111 = .ok (.iconst 0, 1) := by decide +kernel
theorem d_Mo_link_112 : decode prog_8_method_29_code 112 = .ok (.ireturn, 1) := by decide +kernel
theorem d_Mo_link_113 : decode prog_8_method_29_code 113 = .ok (.aload_n 0, 1) := by decide +kernel
theorem d_Mo_link_114 : decode prog_8_method_29_code 114 = .ok (.getfield 58, 3) := by decide +kernel
theorem d_Mo_link_117 : decode prog_8_method_29_code 117 = .ok (.aload_n 0, 1) := by decide +kernel
theorem d_Mo_link_118 : decode prog_8_method_29_code 118 = .ok (.getfield 55, 3) := by decide +kernel
theorem d_Mo_link_121 : decode prog_8_method_29_code 121 = .ok (.iload 5, 2) := by decide +kernel
theorem d_Mo_link_123 : decode prog_8_method_29_code 123 = .ok (.iastore, 1) := by decide +kernel
theorem d_Mo_link_124 : decode prog_8_method_29_code 124 = .ok (.aload_n 0, 1) := by decide +kernel
theorem d_Mo_link_125 : decode prog_8_method_29_code 125 = .ok (.getfield 61, 3) := by decide +kernel
theorem d_Mo_link_128 : decode prog_8_method_29_code 128 = .ok (.aload_n 0, 1) := by decide +kernel
theorem d_Mo_link_129 : decode prog_8_method_29_code 129 = .ok (.getfield 55, 3) := by decide +kernel
theorem d_Mo_link_132 : decode prog_8_method_29_code 132 = .ok (.iload 6, 2) := by decide +kernel
theorem d_Mo_link_134 : decode prog_8_method_29_code 134 = .ok (.iastore, 1) := by decide +kernel
theorem d_Mo_link_135 : decode prog_8_method_29_code 135 = .ok (.aload_n 0, 1) := by decide +kernel
theorem d_Mo_link_136 : decode prog_8_method_29_code 136 = .ok (.getfield 46, 3) := by decide +kernel
theorem d_Mo_link_139 : decode prog_8_method_29_code 139 = .ok (.iload 5, 2) := by decide +kernel
theorem d_Mo_link_141 : decode prog_8_method_29_code 141 = .ok (.aload_n 0, 1) := by decide +kernel
theorem d_Mo_link_142 : decode prog_8_method_29_code 142 = .ok (.getfield 55, 3) := by decide +kernel
theorem d_Mo_link_145 : decode prog_8_method_29_code 145 = .ok (.iastore, 1) := by decide +kernel
theorem d_Mo_link_146 : decode prog_8_method_29_code 146 = .ok (.aload_n 0, 1) := by decide +kernel
theorem d_Mo_link_147 : decode prog_8_method_29_code 147 = .ok (.getfield 46, 3) := by decide +kernel
theorem d_Mo_link_150 : decode prog_8_method_29_code 150 = .ok (.iload 6, 2) := by decide +kernel
theorem d_Mo_link_152 : decode prog_8_method_29_code 152 = .ok (.aload_n 0, 1) := by decide +kernel
theorem d_Mo_link_153 : decode prog_8_method_29_code 153 = .ok (.getfield 55, 3) := by decide +kernel
theorem d_Mo_link_156 : decode prog_8_method_29_code 156 = .ok (.iastore, 1) := by decide +kernel
theorem d_Mo_link_157 : decode prog_8_method_29_code 157 = .ok (.aload_n 0, 1) := by decide +kernel
theorem d_Mo_link_158 : decode prog_8_method_29_code 158 = .ok (.dup, 1) := by decide +kernel
theorem d_Mo_link_159 : decode prog_8_method_29_code 159 = .ok (.getfield 55, 3) := by decide +kernel
theorem d_Mo_link_162 : decode prog_8_method_29_code 162 = .ok (.iconst 1, 1) := by decide +kernel
theorem d_Mo_link_163 : decode prog_8_method_29_code 163 = .ok (.iadd, 1) := by decide +kernel
theorem d_Mo_link_164 : decode prog_8_method_29_code 164 = .ok (.putfield 55, 3) := by decide +kernel
theorem d_Mo_link_167 : decode prog_8_method_29_code 167 = .ok (.aload_n 0, 1) := by decide +kernel
theorem d_Mo_link_168 : decode prog_8_method_29_code 168 = .ok (.getfield 55, 3) := by decide +kernel
theorem d_Mo_link_171 : decode prog_8_method_29_code 171 = .ok (.iconst 1, 1) := by decide +kernel
theorem d_Mo_link_172 : decode prog_8_method_29_code 172 = .ok (.isub, 1) := by decide +kernel
theorem d_Mo_link_173 : decode prog_8_method_29_code 173 = .ok (.ireturn, 1) := by decide +kernel
theorem d_Mo_noPort_0 : decode prog_8_method_26_code 0 = .ok (.aload_n 0, 1) := by decide +kernel
theorem d_Mo_noPort_1 : decode prog_8_method_26_code 1 = .ok (.iload_n 1, 1) := by decide +kernel
theorem d_Mo_noPort_2 : decode prog_8_method_26_code 2 = .ok (.invokevirtual 149, 3) := by decide +kernel
theorem d_Mo_noPort_5 : decode prog_8_method_26_code 5 = .ok (.ifCond .ne 12, 3) := by decide +kernel
theorem d_Mo_noPort_8 : decode prog_8_method_26_code 8 = .ok (.iload_n 2, 1) := by decide +kernel
theorem d_Mo_noPort_9 : decode prog_8_method_26_code 9 = .ok (.ifCond .lt 8, 3) := by decide +kernel
theorem d_Mo_noPort_12 : decode prog_8_method_26_code 12 = .ok (.iload_n 2, 1) := by decide +kernel
theorem d_Mo_noPort_13 : decode prog_8_method_26_code 13 = .ok (.iconst 3, 1) := by decide +kernel
theorem d_Mo_noPort_14 : decode prog_8_method_26_code 14 = .ok (.if_icmp .le 7, 3) := by decide +kernel
theorem d_Mo_noPort_17 : decode prog_8_method_26_code 17 = .ok (.iconst 1, 1) := by decide +kernel
theorem d_Mo_noPort_18 : decode prog_8_method_26_code 18 = .ok (.goto 4, 3) := by decide +kernel
theorem d_Mo_noPort_21 : decode prog_8_method_26_code 21 = .ok (.iconst 0, 1) := by decide +kernel
theorem d_Mo_noPort_22 : decode prog_8_method_26_code 22 = .ok (.ireturn, 1) := by decide +kernel
theorem d_Mo_noElement_0 : decode prog_8_method_25_code 0 = .ok (.iload_n 1, 1) := by decide +kernel
theorem d_Mo_noElement_1 : decode prog_8_method_25_code 1 = .ok (.ifCond .lt 18, 3) := by decide +kernel
theorem d_Mo_noElement_4 : decode prog_8_method_25_code 4 = .ok (.iload_n 1, 1) := by decide +kernel
theorem d_Mo_noElement_5 : decode prog_8_method_25_code 5 = .ok (.bipush 15, 2) := by decide +kernel
theorem d_Mo_noElement_7 : decode prog_8_method_25_code 7 = .ok (.if_icmp .gt 12, 3) := by decide +kernel
theorem d_Mo_noElement_10 : decode prog_8_method_25_code 10 = .ok (.aload_n 0, 1) := by decide +kernel
theorem d_Mo_noElement_11 : decode prog_8_method_25_code 11 = .ok (.getfield 17, 3) := by decide +kernel
theorem d_Mo_noElement_14 : decode prog_8_method_25_code 14 = .ok (.iload_n 1, 1) := by decide +kernel
theorem d_Mo_noElement_15 : decode prog_8_method_25_code 15 = .ok (.baload, 1) := by decide +kernel
theorem d_Mo_noElement_16 : decode prog_8_method_25_code 16 = .ok (.ifCond .ne 7, 3) := by decide +kernel
theorem d_Mo_noElement_19 : decode prog_8_method_25_code 19 = .ok (.iconst 1, 1) := by decide +kernel
theorem d_Mo_noElement_20 : decode prog_8_method_25_code 20 = .ok (.goto 4, 3) := by decide +kernel
theorem d_Mo_noElement_23 : decode prog_8_method_25_code 23 = .ok (.iconst 0, 1) := by decide +kernel
theorem d_Mo_noElement_24 : decode prog_8_method_25_code 24 = .ok (.ireturn, 1) := by decide +kernel
theorem d_Mo_source_0 : decode prog_8_method_30_code 0 = .ok (.aload_n 0, 1) := by decide +kernel
theorem d_Mo_source_1 : decode prog_8_method_30_code 1 = .ok (.aload_n 0, 1) := by decide +kernel
theorem d_Mo_source_2 : decode prog_8_method_30_code 2 = .ok (.iload_n 1, 1) := by decide +kernel
theorem d_Mo_source_3 : decode prog_8_method_30_code 3 = .ok (.iload_n 2, 1) := by decide +kernel
theorem d_Mo_source_4 : decode prog_8_method_30_code 4 = .ok (.invokevirtual 152, 3) := by decide +kernel
theorem d_Mo_source_7 : decode prog_8_method_30_code 7 = .ok (.ifCond .ne 34, 3) := by decide +kernel
theorem d_Mo_source_10 : decode prog_8_method_30_code 10 = .ok (.iload_n 3, 1) := by decide +kernel
theorem d_Mo_source_11 : decode prog_8_method_30_code 11 = .ok (.iconst (-1), 1) := by decide +kernel
theorem d_Mo_source_12 : decode prog_8_method_30_code 12 = .ok (.if_icmp .lt 29, 3) := by decide +kernel
theorem d_Mo_source_15 : decode prog_8_method_30_code 15 = .ok (.iload_n 3, 1) := by decide +kernel
theorem d_Mo_source_16 : decode prog_8_method_30_code 16 = .ok (.bipush 6, 2) := by decide +kernel
theorem d_Mo_source_18 : decode prog_8_method_30_code 18 = .ok (.if_icmp .gt 23, 3) := by decide +kernel
theorem d_Mo_source_21 : decode prog_8_method_30_code 21 = .ok (.iload_n 3, 1) := by decide +kernel
theorem d_Mo_source_22 : decode prog_8_method_30_code 22 = .ok (.ifCond .lt 23, 3) := by decide +kernel
theorem d_Mo_source_25 : decode prog_8_method_30_code 25 = .ok (.iload 4, 2) := by decide +kernel
theorem d_Mo_source_27 : decode prog_8_method_30_code 27 = .ok (.sipush (-1000), 3) := by decide +kernel
theorem d_Mo_source_30 : decode prog_8_method_30_code 30 = .ok (.if_icmp .lt 11, 3) := by decide +kernel
theorem d_Mo_source_33 : decode prog_8_method_30_code 33 = .ok (.iload 4, 2) := by decide +kernel
theorem d_Mo_source_35 : decode prog_8_method_30_code 35 = .ok (.sipush 1000, 3) := by decide +kernel
theorem d_Mo_source_38 : decode prog_8_method_30_code 38 = .ok (.if_icmp .le 7, 3) := by decide +kernel
theorem d_Mo_source_41 : decode prog_8_method_30_code 41 = .ok (.iconst 1, 1) := by decide +kernel
theorem d_Mo_source_42 : decode prog_8_method_30_code 42 = .ok (.goto 21, 3) := by decide +kernel
theorem d_Mo_source_45 : decode prog_8_method_30_code 45 = .ok (.aload_n 0, 1) := by decide +kernel
theorem d_Mo_source_46 : decode prog_8_method_30_code 46 = .ok (.getfield 46, 3) := by decide +kernel
theorem d_Mo_source_49 : decode prog_8_method_30_code 49 = .ok (.iconst 4, 1) := by decide +kernel
theorem d_Mo_source_50 : decode prog_8_method_30_code 50 = .ok (.iload_n 1, 1) := by decide +kernel
theorem d_Mo_source_51 : decode prog_8_method_30_code 51 = .ok (.imul, 1) := by decide +kernel
theorem d_Mo_source_52 : decode prog_8_method_30_code 52 = .ok (.iload_n 2, 1) := by decide +kernel
theorem d_Mo_source_53 : decode prog_8_method_30_code 53 = .ok (.iadd, 1) := by decide +kernel
theorem d_Mo_source_54 : decode prog_8_method_30_code 54 = .ok (.iaload, 1) := by decide +kernel
theorem d_Mo_source_55 : decode prog_8_method_30_code 55 = .ok (.ifCond .lt 7, 3) := by decide +kernel
theorem d_Mo_source_58 : decode prog_8_method_30_code 58 = .ok (.iconst 2, 1) := by decide +kernel
theorem d_Mo_source_59 : decode prog_8_method_30_code 59 = .ok (.goto 4, 3) := by decide +kernel
theorem d_Mo_source_62 : decode prog_8_method_30_code 62 = .ok (.iconst 0, 1) := by decide +kernel
theorem d_Mo_source_63 : decode prog_8_method_30_code 63 = .ok (.putfield 7, 3) := by decide +kernel
theorem d_Mo_source_66 : decode prog_8_method_30_code 66 = .ok (.aload_n 0, 1) := by decide +kernel
theorem d_Mo_source_67 : decode prog_8_method_30_code 67 = .ok (.getfield 7, 3) := by decide +kernel
theorem d_Mo_source_70 : decode prog_8_method_30_code 70 = .ok (.ifCond .eq 4, 3) := by decide +kernel
theorem d_Mo_source_73 : decode prog_8_method_30_code 73 = .ok (.return_, 1) := by decide +kernel
theorem d_Mo_source_74 : decode prog_8_method_30_code 74 = .ok (.aload_n 0, 1) := by decide +kernel
theorem d_Mo_source_75 : decode prog_8_method_30_code 75 = .ok (.getfield 40, 3) := by decide +kernel
theorem d_Mo_source_78 : decode prog_8_method_30_code 78 = .ok (.iconst 4, 1) := by decide +kernel
theorem d_Mo_source_79 : decode prog_8_method_30_code 79 = .ok (.iload_n 1, 1) := by decide +kernel
theorem d_Mo_source_80 : decode prog_8_method_30_code 80 = .ok (.imul, 1) := by decide +kernel
theorem d_Mo_source_81 : decode prog_8_method_30_code 81 = .ok (.iload_n 2, 1) := by decide +kernel
theorem d_Mo_source_82 : decode prog_8_method_30_code 82 = .ok (.iadd, 1) := by decide +kernel
theorem d_Mo_source_83 : decode prog_8_method_30_code 83 = .ok (.iload_n 3, 1) := by decide +kernel
theorem d_Mo_source_84 : decode prog_8_method_30_code 84 = .ok (.iastore, 1) := by decide +kernel
theorem d_Mo_source_85 : decode prog_8_method_30_code 85 = .ok (.aload_n 0, 1) := by decide +kernel
theorem d_Mo_source_86 : decode prog_8_method_30_code 86 = .ok (.getfield 43, 3) := by decide +kernel
theorem d_Mo_source_89 : decode prog_8_method_30_code 89 = .ok (.iconst 4, 1) := by decide +kernel
theorem d_Mo_source_90 : decode prog_8_method_30_code 90 = .ok (.iload_n 1, 1) := by decide +kernel
theorem d_Mo_source_91 : decode prog_8_method_30_code 91 = .ok (.imul, 1) := by decide +kernel
theorem d_Mo_source_92 : decode prog_8_method_30_code 92 = .ok (.iload_n 2, 1) := by decide +kernel
theorem d_Mo_source_93 : decode prog_8_method_30_code 93 = .ok (.iadd, 1) := by decide +kernel
theorem d_Mo_source_94 : decode prog_8_method_30_code 94 = .ok (.iload 4, 2) := by decide +kernel
theorem d_Mo_source_96 : decode prog_8_method_30_code 96 = .ok (.iastore, 1) := by decide +kernel
theorem d_Mo_source_97 : decode prog_8_method_30_code 97 = .ok (.return_, 1) := by decide +kernel
theorem d_Mo_priority_0 : decode prog_8_method_31_code 0 = .ok (.aload_n 0, 1) := by decide +kernel
theorem d_Mo_priority_1 : decode prog_8_method_31_code 1 = .ok (.aload_n 0, 1) := by decide +kernel
theorem d_Mo_priority_2 : decode prog_8_method_31_code 2 = .ok (.iload_n 1, 1) := by decide +kernel
theorem d_Mo_priority_3 : decode prog_8_method_31_code 3 = .ok (.iload_n 2, 1) := by decide +kernel
theorem d_Mo_priority_4 : decode prog_8_method_31_code 4 = .ok (.invokevirtual 152, 3) := by decide +kernel
theorem d_Mo_priority_7 : decode prog_8_method_31_code 7 = .ok (.ifCond .ne 13, 3) := by decide +kernel
theorem d_Mo_priority_10 : decode prog_8_method_31_code 10 = .ok (.iload_n 3, 1) := by decide +kernel
theorem d_Mo_priority_11 : decode prog_8_method_31_code 11 = .ok (.ifCond .lt 9, 3) := by decide +kernel
theorem d_Mo_priority_14 : decode prog_8_method_31_code 14 = .ok (.iload_n 3, 1) := by decide +kernel
theorem d_Mo_priority_15 : decode prog_8_method_31_code 15 = .ok (.bipush 9, 2) := by decide +kernel
theorem d_Mo_priority_17 : decode prog_8_method_31_code 17 = .ok (.if_icmp .le 7, 3) := by decide +kernel
theorem d_Mo_priority_20 : decode prog_8_method_31_code 20 = .ok (.iconst 1, 1) := by decide +kernel
theorem d_Mo_priority_21 : decode prog_8_method_31_code 21 = .ok (.goto 4, 3) := by decide +kernel
theorem d_Mo_priority_24 : decode prog_8_method_31_code 24 = .ok (.iconst 0, 1) := by decide +kernel
theorem d_Mo_priority_25 : decode prog_8_method_31_code 25 = .ok (.putfield 7, 3) := by decide +kernel
theorem d_Mo_priority_28 : decode prog_8_method_31_code 28 = .ok (.aload_n 0, 1) := by decide +kernel
theorem d_Mo_priority_29 : decode prog_8_method_31_code 29 = .ok (.getfield 7, 3) := by decide +kernel
theorem d_Mo_priority_32 : decode prog_8_method_31_code 32 = .ok (.ifCond .eq 5, 3) := by decide +kernel
theorem d_Mo_priority_35 : decode prog_8_method_31_code 35 = .ok (.iconst 0, 1) := by decide +kernel
theorem d_Mo_priority_36 : decode prog_8_method_31_code 36 = .ok (.ireturn, 1) := by decide +kernel
theorem d_Mo_priority_37 : decode prog_8_method_31_code 37 = .ok (.aload_n 0, 1) := by decide +kernel
theorem d_Mo_priority_38 : decode prog_8_method_31_code 38 = .ok (.getfield 49, 3) := by decide +kernel
theorem d_Mo_priority_41 : decode prog_8_method_31_code 41 = .ok (.iconst 4, 1) := by decide +kernel
theorem d_Mo_priority_42 : decode prog_8_method_31_code 42 = .ok (.iload_n 1, 1) := by decide +kernel
theorem d_Mo_priority_43 : decode prog_8_method_31_code 43 = .ok (.imul, 1) := by decide +kernel
theorem d_Mo_priority_44 : decode prog_8_method_31_code 44 = .ok (.iload_n 2, 1) := by decide +kernel
theorem d_Mo_priority_45 : decode prog_8_method_31_code 45 = .ok (.iadd, 1) := by decide +kernel
theorem d_Mo_priority_46 : decode prog_8_method_31_code 46 = .ok (.iaload, 1) := by decide +kernel
theorem d_Mo_priority_47 : decode prog_8_method_31_code 47 = .ok (.istore 4, 2) := by decide +kernel
theorem d_Mo_priority_49 : decode prog_8_method_31_code 49 = .ok (.aload_n 0, 1) := by decide +kernel
theorem d_Mo_priority_50 : decode prog_8_method_31_code 50 = .ok (.getfield 49, 3) := by decide +kernel
theorem d_Mo_priority_53 : decode prog_8_method_31_code 53 = .ok (.iconst 4, 1) := by decide +kernel
theorem d_Mo_priority_54 : decode prog_8_method_31_code 54 = .ok (.iload_n 1, 1) := by decide +kernel
theorem d_Mo_priority_55 : decode prog_8_method_31_code 55 = .ok (.imul, 1) := by decide +kernel
theorem d_Mo_priority_56 : decode prog_8_method_31_code 56 = .ok (.iload_n 2, 1) := by decide +kernel
theorem d_Mo_priority_57 : decode prog_8_method_31_code 57 = .ok (.iadd, 1) := by decide +kernel
theorem d_Mo_priority_58 : decode prog_8_method_31_code 58 = .ok (.iload_n 3, 1) := by decide +kernel
theorem d_Mo_priority_59 : decode prog_8_method_31_code 59 = .ok (.iastore, 1) := by decide +kernel
theorem d_Mo_priority_60 : decode prog_8_method_31_code 60 = .ok (.iload 4, 2) := by decide +kernel
theorem d_Mo_priority_62 : decode prog_8_method_31_code 62 = .ok (.ireturn, 1) := by decide +kernel
theorem d_Mo_restore_0 : decode prog_8_method_32_code 0 = .ok (.aload_n 0, 1) := by decide +kernel
theorem d_Mo_restore_1 : decode prog_8_method_32_code 1 = .ok (.aload_n 0, 1) := by decide +kernel
theorem d_Mo_restore_2 : decode prog_8_method_32_code 2 = .ok (.iload_n 1, 1) := by decide +kernel
theorem d_Mo_restore_3 : decode prog_8_method_32_code 3 = .ok (.invokevirtual 149, 3) := by decide +kernel
theorem d_Mo_restore_6 : decode prog_8_method_32_code 6 = .ok (.ifCond .ne 13, 3) := by decide +kernel
theorem d_Mo_restore_9 : decode prog_8_method_32_code 9 = .ok (.iload_n 2, 1) := by decide +kernel
theorem d_Mo_restore_10 : decode prog_8_method_32_code 10 = .ok (.ifCond .lt 9, 3) := by decide +kernel
theorem d_Mo_restore_13 : decode prog_8_method_32_code 13 = .ok (.iload_n 2, 1) := by decide +kernel
theorem d_Mo_restore_14 : decode prog_8_method_32_code 14 = .ok (.bipush 10, 2) := by decide +kernel
theorem d_Mo_restore_16 : decode prog_8_method_32_code 16 = .ok (.if_icmp .le 7, 3) := by decide +kernel
theorem d_Mo_restore_19 : decode prog_8_method_32_code 19 = .ok (.iconst 1, 1) := by decide +kernel
theorem d_Mo_restore_20 : decode prog_8_method_32_code 20 = .ok (.goto 4, 3) := by decide +kernel
theorem d_Mo_restore_23 : decode prog_8_method_32_code 23 = .ok (.iconst 0, 1) := by decide +kernel
theorem d_Mo_restore_24 : decode prog_8_method_32_code 24 = .ok (.putfield 7, 3) := by decide +kernel
theorem d_Mo_restore_27 : decode prog_8_method_32_code 27 = .ok (.aload_n 0, 1) := by decide +kernel
theorem d_Mo_restore_28 : decode prog_8_method_32_code 28 = .ok (.getfield 7, 3) := by decide +kernel
theorem d_Mo_restore_31 : decode prog_8_method_32_code 31 = .ok (.ifCond .eq 5, 3) := by decide +kernel
theorem d_Mo_restore_34 : decode prog_8_method_32_code 34 = .ok (.iconst 0, 1) := by decide +kernel
theorem d_Mo_restore_35 : decode prog_8_method_32_code 35 = .ok (.ireturn, 1) := by decide +kernel
theorem d_Mo_restore_36 : decode prog_8_method_32_code 36 = .ok (.aload_n 0, 1) := by decide +kernel
theorem d_Mo_restore_37 : decode prog_8_method_32_code 37 = .ok (.getfield 31, 3) := by decide +kernel
theorem d_Mo_restore_40 : decode prog_8_method_32_code 40 = .ok (.iload_n 1, 1) := by decide +kernel
theorem d_Mo_restore_41 : decode prog_8_method_32_code 41 = .ok (.iaload, 1) := by decide +kernel
theorem d_Mo_restore_42 : decode prog_8_method_32_code 42 = .ok (.istore_n 3, 1) := by decide +kernel
theorem d_Mo_restore_43 : decode prog_8_method_32_code 43 = .ok (.aload_n 0, 1) := by decide +kernel
theorem d_Mo_restore_44 : decode prog_8_method_32_code 44 = .ok (.getfield 31, 3) := by decide +kernel
theorem d_Mo_restore_47 : decode prog_8_method_32_code 47 = .ok (.iload_n 1, 1) := by decide +kernel
theorem d_Mo_restore_48 : decode prog_8_method_32_code 48 = .ok (.iload_n 2, 1) := by decide +kernel
theorem d_Mo_restore_49 : decode prog_8_method_32_code 49 = .ok (.iastore, 1) := by decide +kernel
theorem d_Mo_restore_50 : decode prog_8_method_32_code 50 = .ok (.iload_n 3, 1) := by decide +kernel
theorem d_Mo_restore_51 : decode prog_8_method_32_code 51 = .ok (.ireturn, 1) := by decide +kernel
theorem d_Mo_tracing_0 : decode prog_8_method_33_code 0 = .ok (.aload_n 0, 1) := by decide +kernel
theorem d_Mo_tracing_1 : decode prog_8_method_33_code 1 = .ok (.iconst 0, 1) := by decide +kernel
theorem d_Mo_tracing_2 : decode prog_8_method_33_code 2 = .ok (.putfield 7, 3) := by decide +kernel
theorem d_Mo_tracing_5 : decode prog_8_method_33_code 5 = .ok (.aload_n 0, 1) := by decide +kernel
theorem d_Mo_tracing_6 : decode prog_8_method_33_code 6 = .ok (.getfield 13, 3) := by decide +kernel
theorem d_Mo_tracing_9 : decode prog_8_method_33_code 9 = .ok (.istore_n 2, 1) := by decide +kernel
theorem d_Mo_tracing_10 : decode prog_8_method_33_code 10 = .ok (.aload_n 0, 1) := by decide +kernel
theorem d_Mo_tracing_11 : decode prog_8_method_33_code 11 = .ok (.iload_n 1, 1) := by decide +kernel
theorem d_Mo_tracing_12 : decode prog_8_method_33_code 12 = .ok (.putfield 13, 3) := by decide +kernel
theorem d_Mo_tracing_15 : decode prog_8_method_33_code 15 = .ok (.iload_n 2, 1) := by decide +kernel
theorem d_Mo_tracing_16 : decode prog_8_method_33_code 16 = .ok (.ireturn, 1) := by decide +kernel
theorem d_Mo_command_0 : decode prog_8_method_34_code 0 = .ok (.aload_n 0, 1) := by decide +kernel
theorem d_Mo_command_1 : decode prog_8_method_34_code 1 = .ok (.aload_n 0, 1) := by decide +kernel
theorem d_Mo_command_2 : decode prog_8_method_34_code 2 = .ok (.iload_n 1, 1) := by decide +kernel
theorem d_Mo_command_3 : decode prog_8_method_34_code 3 = .ok (.invokevirtual 149, 3) := by decide +kernel
theorem d_Mo_command_6 : decode prog_8_method_34_code 6 = .ok (.ifCond .ne 22, 3) := by decide +kernel
theorem d_Mo_command_9 : decode prog_8_method_34_code 9 = .ok (.iload_n 2, 1) := by decide +kernel
theorem d_Mo_command_10 : decode prog_8_method_34_code 10 = .ok (.ifCond .lt 18, 3) := by decide +kernel
theorem d_Mo_command_13 : decode prog_8_method_34_code 13 = .ok (.iload_n 2, 1) := by decide +kernel
theorem d_Mo_command_14 : decode prog_8_method_34_code 14 = .ok (.iconst 1, 1) := by decide +kernel
theorem d_Mo_command_15 : decode prog_8_method_34_code 15 = .ok (.if_icmp .gt 13, 3) := by decide +kernel
theorem d_Mo_command_18 : decode prog_8_method_34_code 18 = .ok (.iload_n 3, 1) := by decide +kernel
theorem d_Mo_command_19 : decode prog_8_method_34_code 19 = .ok (.iconst (-1), 1) := by decide +kernel
theorem d_Mo_command_20 : decode prog_8_method_34_code 20 = .ok (.if_icmp .lt 8, 3) := by decide +kernel
theorem d_Mo_command_23 : decode prog_8_method_34_code 23 = .ok (.iload_n 3, 1) := by decide +kernel
theorem d_Mo_command_24 : decode prog_8_method_34_code 24 = .ok (.iconst 3, 1) := by decide +kernel
theorem d_Mo_command_25 : decode prog_8_method_34_code 25 = .ok (.if_icmp .le 7, 3) := by decide +kernel
theorem d_Mo_command_28 : decode prog_8_method_34_code 28 = .ok (.iconst 1, 1) := by decide +kernel
theorem d_Mo_command_29 : decode prog_8_method_34_code 29 = .ok (.goto 4, 3) := by decide +kernel
theorem d_Mo_command_32 : decode prog_8_method_34_code 32 = .ok (.iconst 0, 1) := by decide +kernel
theorem d_Mo_command_33 : decode prog_8_method_34_code 33 = .ok (.putfield 7, 3) := by decide +kernel
theorem d_Mo_command_36 : decode prog_8_method_34_code 36 = .ok (.aload_n 0, 1) := by decide +kernel
theorem d_Mo_command_37 : decode prog_8_method_34_code 37 = .ok (.getfield 7, 3) := by decide +kernel
theorem d_Mo_command_40 : decode prog_8_method_34_code 40 = .ok (.ifCond .eq 5, 3) := by decide +kernel
theorem d_Mo_command_43 : decode prog_8_method_34_code 43 = .ok (.iconst 0, 1) := by decide +kernel
theorem d_Mo_command_44 : decode prog_8_method_34_code 44 = .ok (.ireturn, 1) := by decide +kernel
theorem d_Mo_command_45 : decode prog_8_method_34_code 45 = .ok (.iload_n 2, 1) := by decide +kernel
theorem d_Mo_command_46 : decode prog_8_method_34_code 46 = .ok (.ifCond .ne 12, 3) := by decide +kernel
theorem d_Mo_command_49 : decode prog_8_method_34_code 49 = .ok (.aload_n 0, 1) := by decide +kernel
theorem d_Mo_command_50 : decode prog_8_method_34_code 50 = .ok (.getfield 34, 3) := by decide +kernel
theorem d_Mo_command_53 : decode prog_8_method_34_code 53 = .ok (.iload_n 1, 1) := by decide +kernel
theorem d_Mo_command_54 : decode prog_8_method_34_code 54 = .ok (.iaload, 1) := by decide +kernel
theorem d_Mo_command_55 : decode prog_8_method_34_code 55 = .ok (.goto 9, 3) := by decide +kernel
theorem d_Mo_command_58 : decode prog_8_method_34_code 58 = .ok (.aload_n 0, 1) := by decide +kernel
theorem d_Mo_command_59 : decode prog_8_method_34_code 59 = .ok (.getfield 37, 3) := by decide +kernel
theorem d_Mo_command_62 : decode prog_8_method_34_code 62 = .ok (.iload_n 1, 1) := by decide +kernel
theorem d_Mo_command_63 : decode prog_8_method_34_code 63 = .ok (.iaload, 1) := by decide +kernel
theorem d_Mo_command_64 : decode prog_8_method_34_code 64 = .ok (.istore 4, 2) := by decide +kernel
theorem d_Mo_command_66 : decode prog_8_method_34_code 66 = .ok (.iload_n 2, 1) := by decide +kernel
theorem d_Mo_command_67 : decode prog_8_method_34_code 67 = .ok (.ifCond .ne 13, 3) := by decide +kernel
theorem d_Mo_command_70 : decode prog_8_method_34_code 70 = .ok (.aload_n 0, 1) := by decide +kernel
theorem d_Mo_command_71 : decode prog_8_method_34_code 71 = .ok (.getfield 34, 3) := by decide +kernel
theorem d_Mo_command_74 : decode prog_8_method_34_code 74 = .ok (.iload_n 1, 1) := by decide +kernel
theorem d_Mo_command_75 : decode prog_8_method_34_code 75 = .ok (.iload_n 3, 1) := by decide +kernel
theorem d_Mo_command_76 : decode prog_8_method_34_code 76 = .ok (.iastore, 1) := by decide +kernel
theorem d_Mo_command_77 : decode prog_8_method_34_code 77 = .ok (.goto 10, 3) := by decide +kernel
theorem d_Mo_command_80 : decode prog_8_method_34_code 80 = .ok (.aload_n 0, 1) := by decide +kernel
theorem d_Mo_command_81 : decode prog_8_method_34_code 81 = .ok (.getfield 37, 3) := by decide +kernel
theorem d_Mo_command_84 : decode prog_8_method_34_code 84 = .ok (.iload_n 1, 1) := by decide +kernel
theorem d_Mo_command_85 : decode prog_8_method_34_code 85 = .ok (.iload_n 3, 1) := by decide +kernel
theorem d_Mo_command_86 : decode prog_8_method_34_code 86 = .ok (.iastore, 1) := by decide +kernel
theorem d_Mo_command_87 : decode prog_8_method_34_code 87 = .ok (.iload 4, 2) := by decide +kernel
theorem d_Mo_command_89 : decode prog_8_method_34_code 89 = .ok (.ireturn, 1) := by decide +kernel
theorem d_Mo_lockout_0 : decode prog_8_method_35_code 0 = .ok (.aload_n 0, 1) := by decide +kernel
theorem d_Mo_lockout_1 : decode prog_8_method_35_code 1 = .ok (.aload_n 0, 1) := by decide +kernel
theorem d_Mo_lockout_2 : decode prog_8_method_35_code 2 = .ok (.iload_n 1, 1) := by decide +kernel
theorem d_Mo_lockout_3 : decode prog_8_method_35_code 3 = .ok (.iload_n 2, 1) := by decide +kernel
theorem d_Mo_lockout_4 : decode prog_8_method_35_code 4 = .ok (.invokevirtual 152, 3) := by decide +kernel
theorem d_Mo_lockout_7 : decode prog_8_method_35_code 7 = .ok (.ifCond .eq 7, 3) := by decide +kernel
theorem d_Mo_lockout_10 : decode prog_8_method_35_code 10 = .ok (.iconst 1, 1) := by decide +kernel
theorem d_Mo_lockout_11 : decode prog_8_method_35_code 11 = .ok (.goto 4, 3) := by decide +kernel
theorem d_Mo_lockout_14 : decode prog_8_method_35_code 14 = .ok (.iconst 0, 1) := by decide +kernel
theorem d_Mo_lockout_15 : decode prog_8_method_35_code 15 = .ok (.putfield 7, 3) := by decide +kernel
theorem d_Mo_lockout_18 : decode prog_8_method_35_code 18 = .ok (.aload_n 0, 1) := by decide +kernel
theorem d_Mo_lockout_19 : decode prog_8_method_35_code 19 = .ok (.getfield 7, 3) := by decide +kernel
theorem d_Mo_lockout_22 : decode prog_8_method_35_code 22 = .ok (.ifCond .eq 5, 3) := by decide +kernel
theorem d_Mo_lockout_25 : decode prog_8_method_35_code 25 = .ok (.iconst 0, 1) := by decide +kernel
theorem d_Mo_lockout_26 : decode prog_8_method_35_code 26 = .ok (.ireturn, 1) := by decide +kernel
theorem d_Mo_lockout_27 : decode prog_8_method_35_code 27 = .ok (.aload_n 0, 1) := by decide +kernel
theorem d_Mo_lockout_28 : decode prog_8_method_35_code 28 = .ok (.getfield 52, 3) := by decide +kernel
theorem d_Mo_lockout_31 : decode prog_8_method_35_code 31 = .ok (.iconst 4, 1) := by decide +kernel
theorem d_Mo_lockout_32 : decode prog_8_method_35_code 32 = .ok (.iload_n 1, 1) := by decide +kernel
theorem d_Mo_lockout_33 : decode prog_8_method_35_code 33 = .ok (.imul, 1) := by decide +kernel
theorem d_Mo_lockout_34 : decode prog_8_method_35_code 34 = .ok (.iload_n 2, 1) := by decide +kernel
theorem d_Mo_lockout_35 : decode prog_8_method_35_code 35 = .ok (.iadd, 1) := by decide +kernel
theorem d_Mo_lockout_36 : decode prog_8_method_35_code 36 = .ok (.baload, 1) := by decide +kernel
theorem d_Mo_lockout_37 : decode prog_8_method_35_code 37 = .ok (.istore 4, 2) := by decide +kernel
theorem d_Mo_lockout_39 : decode prog_8_method_35_code 39 = .ok (.aload_n 0, 1) := by decide +kernel
theorem d_Mo_lockout_40 : decode prog_8_method_35_code 40 = .ok (.getfield 52, 3) := by decide +kernel
theorem d_Mo_lockout_43 : decode prog_8_method_35_code 43 = .ok (.iconst 4, 1) := by decide +kernel
theorem d_Mo_lockout_44 : decode prog_8_method_35_code 44 = .ok (.iload_n 1, 1) := by decide +kernel
theorem d_Mo_lockout_45 : decode prog_8_method_35_code 45 = .ok (.imul, 1) := by decide +kernel
theorem d_Mo_lockout_46 : decode prog_8_method_35_code 46 = .ok (.iload_n 2, 1) := by decide +kernel
theorem d_Mo_lockout_47 : decode prog_8_method_35_code 47 = .ok (.iadd, 1) := by decide +kernel
theorem d_Mo_lockout_48 : decode prog_8_method_35_code 48 = .ok (.iload_n 3, 1) := by decide +kernel
theorem d_Mo_lockout_49 : decode prog_8_method_35_code 49 = .ok (.bastore, 1) := by decide +kernel
theorem d_Mo_lockout_50 : decode prog_8_method_35_code 50 = .ok (.iload 4, 2) := by decide +kernel
theorem d_Mo_lockout_52 : decode prog_8_method_35_code 52 = .ok (.ireturn, 1) := by decide +kernel
theorem d_Mo_fail_0 : decode prog_8_method_36_code 0 = .ok (.aload_n 0, 1) := by decide +kernel
theorem d_Mo_fail_1 : decode prog_8_method_36_code 1 = .ok (.aload_n 0, 1) := by decide +kernel
theorem d_Mo_fail_2 : decode prog_8_method_36_code 2 = .ok (.iload_n 1, 1) := by decide +kernel
theorem d_Mo_fail_3 : decode prog_8_method_36_code 3 = .ok (.invokevirtual 155, 3) := by decide +kernel
theorem d_Mo_fail_6 : decode prog_8_method_36_code 6 = .ok (.ifCond .eq 7, 3) := by decide +kernel
theorem d_Mo_fail_9 : decode prog_8_method_36_code 9 = .ok (.iconst 1, 1) := by decide +kernel
theorem d_Mo_fail_10 : decode prog_8_method_36_code 10 = .ok (.goto 4, 3) := by decide +kernel
theorem d_Mo_fail_13 : decode prog_8_method_36_code 13 = .ok (.iconst 0, 1) := by decide +kernel
theorem d_Mo_fail_14 : decode prog_8_method_36_code 14 = .ok (.putfield 7, 3) := by decide +kernel
theorem d_Mo_fail_17 : decode prog_8_method_36_code 17 = .ok (.aload_n 0, 1) := by decide +kernel
theorem d_Mo_fail_18 : decode prog_8_method_36_code 18 = .ok (.getfield 7, 3) := by decide +kernel
theorem d_Mo_fail_21 : decode prog_8_method_36_code 21 = .ok (.ifCond .eq 5, 3) := by decide +kernel
theorem d_Mo_fail_24 : decode prog_8_method_36_code 24 = .ok (.iconst 0, 1) := by decide +kernel
theorem d_Mo_fail_25 : decode prog_8_method_36_code 25 = .ok (.ireturn, 1) := by decide +kernel
theorem d_Mo_fail_26 : decode prog_8_method_36_code 26 = .ok (.aload_n 0, 1) := by decide +kernel
theorem d_Mo_fail_27 : decode prog_8_method_36_code 27 = .ok (.getfield 64, 3) := by decide +kernel
theorem d_Mo_fail_30 : decode prog_8_method_36_code 30 = .ok (.sipush 688, 3) := by decide +kernel
theorem d_Mo_fail_33 : decode prog_8_method_36_code 33 = .ok (.iload_n 1, 1) := by decide +kernel
theorem d_Mo_fail_34 : decode prog_8_method_36_code 34 = .ok (.iadd, 1) := by decide +kernel
theorem d_Mo_fail_35 : decode prog_8_method_36_code 35 = .ok (.iaload, 1) := by decide +kernel
theorem d_Mo_fail_36 : decode prog_8_method_36_code 36 = .ok (.iconst 1, 1) := by decide +kernel
theorem d_Mo_fail_37 : decode prog_8_method_36_code 37 = .ok (.if_icmp .ne 7, 3) := by decide +kernel
theorem d_Mo_fail_40 : decode prog_8_method_36_code 40 = .ok (.iconst 1, 1) := by decide +kernel
theorem d_Mo_fail_41 : decode prog_8_method_36_code 41 = .ok (.goto 4, 3) := by decide +kernel
theorem d_Mo_fail_44 : decode prog_8_method_36_code 44 = .ok (.iconst 0, 1) := by decide +kernel
theorem d_Mo_fail_45 : decode prog_8_method_36_code 45 = .ok (.istore_n 3, 1) := by decide +kernel
theorem d_Mo_fail_46 : decode prog_8_method_36_code 46 = .ok (.aload_n 0, 1) := by decide +kernel
theorem d_Mo_fail_47 : decode prog_8_method_36_code 47 = .ok (.getfield 64, 3) := by decide +kernel
theorem d_Mo_fail_50 : decode prog_8_method_36_code 50 = .ok (.sipush 688, 3) := by decide +kernel
theorem d_Mo_fail_53 : decode prog_8_method_36_code 53 = .ok (.iload_n 1, 1) := by decide +kernel
theorem d_Mo_fail_54 : decode prog_8_method_36_code 54 = .ok (.iadd, 1) := by decide +kernel
theorem d_Mo_fail_55 : decode prog_8_method_36_code 55 = .ok (.iload_n 2, 1) := by decide +kernel
theorem d_Mo_fail_56 : decode prog_8_method_36_code 56 = .ok (.ifCond .eq 7, 3) := by decide +kernel
theorem d_Mo_fail_59 : decode prog_8_method_36_code 59 = .ok (.iconst 1, 1) := by decide +kernel
theorem d_Mo_fail_60 : decode prog_8_method_36_code 60 = .ok (.goto 4, 3) := by decide +kernel
theorem d_Mo_fail_63 : decode prog_8_method_36_code 63 = .ok (.iconst 0, 1) := by decide +kernel
theorem d_Mo_fail_64 : decode prog_8_method_36_code 64 = .ok (.iastore, 1) := by decide +kernel
theorem d_Mo_fail_65 : decode prog_8_method_36_code 65 = .ok (.iload_n 3, 1) := by decide +kernel
theorem d_Mo_fail_66 : decode prog_8_method_36_code 66 = .ok (.ireturn, 1) := by decide +kernel
theorem d_Mo_noLink_0 : decode prog_8_method_27_code 0 = .ok (.iload_n 1, 1) := by decide +kernel
theorem d_Mo_noLink_1 : decode prog_8_method_27_code 1 = .ok (.ifCond .lt 11, 3) := by decide +kernel
theorem d_Mo_noLink_4 : decode prog_8_method_27_code 4 = .ok (.iload_n 1, 1) := by decide +kernel
theorem d_Mo_noLink_5 : decode prog_8_method_27_code 5 = .ok (.aload_n 0, 1) := by decide +kernel
theorem d_Mo_noLink_6 : decode prog_8_method_27_code 6 = .ok (.getfield 55, 3) := by decide +kernel
theorem d_Mo_noLink_9 : decode prog_8_method_27_code 9 = .ok (.if_icmp .lt 7, 3) := by decide +kernel
theorem d_Mo_noLink_12 : decode prog_8_method_27_code 12 = .ok (.iconst 1, 1) := by decide +kernel
theorem d_Mo_noLink_13 : decode prog_8_method_27_code 13 = .ok (.goto 4, 3) := by decide +kernel
theorem d_Mo_noLink_16 : decode prog_8_method_27_code 16 = .ok (.iconst 0, 1) := by decide +kernel
theorem d_Mo_noLink_17 : decode prog_8_method_27_code 17 = .ok (.ireturn, 1) := by decide +kernel
theorem d_Mo_failElement_0 : decode prog_8_method_37_code 0 = .ok (.aload_n 0, 1) := by decide +kernel
theorem d_Mo_failElement_1 : decode prog_8_method_37_code 1 = .ok (.aload_n 0, 1) := by decide +kernel
theorem d_Mo_failElement_2 : decode prog_8_method_37_code 2 = .ok (.iload_n 1, 1) := by decide +kernel
theorem d_Mo_failElement_3 : decode prog_8_method_37_code 3 = .ok (.invokevirtual 149, 3) := by decide +kernel
theorem d_Mo_failElement_6 : decode prog_8_method_37_code 6 = .ok (.ifCond .eq 7, 3) := by decide +kernel
theorem d_Mo_failElement_9 : decode prog_8_method_37_code 9 = .ok (.iconst 1, 1) := by decide +kernel
theorem d_Mo_failElement_10 : decode prog_8_method_37_code 10 = .ok (.goto 4, 3) := by decide +kernel
theorem d_Mo_failElement_13 : decode prog_8_method_37_code 13 = .ok (.iconst 0, 1) := by decide +kernel
theorem d_Mo_failElement_14 : decode prog_8_method_37_code 14 = .ok (.putfield 7, 3) := by decide +kernel
theorem d_Mo_failElement_17 : decode prog_8_method_37_code 17 = .ok (.aload_n 0, 1) := by decide +kernel
theorem d_Mo_failElement_18 : decode prog_8_method_37_code 18 = .ok (.getfield 7, 3) := by decide +kernel
theorem d_Mo_failElement_21 : decode prog_8_method_37_code 21 = .ok (.ifCond .eq 5, 3) := by decide +kernel
theorem d_Mo_failElement_24 : decode prog_8_method_37_code 24 = .ok (.iconst 0, 1) := by decide +kernel
theorem d_Mo_failElement_25 : decode prog_8_method_37_code 25 = .ok (.ireturn, 1) := by decide +kernel
theorem d_Mo_failElement_26 : decode prog_8_method_37_code 26 = .ok (.aload_n 0, 1) := by decide +kernel
theorem d_Mo_failElement_27 : decode prog_8_method_37_code 27 = .ok (.getfield 64, 3) := by decide +kernel
theorem d_Mo_failElement_30 : decode prog_8_method_37_code 30 = .ok (.sipush 672, 3) := by decide +kernel
theorem d_Mo_failElement_33 : decode prog_8_method_37_code 33 = .ok (.iload_n 1, 1) := by decide +kernel
theorem d_Mo_failElement_34 : decode prog_8_method_37_code 34 = .ok (.iadd, 1) := by decide +kernel
theorem d_Mo_failElement_35 : decode prog_8_method_37_code 35 = .ok (.iaload, 1) := by decide +kernel
theorem d_Mo_failElement_36 : decode prog_8_method_37_code 36 = .ok (.iconst 1, 1) := by decide +kernel
theorem d_Mo_failElement_37 : decode prog_8_method_37_code 37 = .ok (.if_icmp .ne 7, 3) := by decide +kernel
theorem d_Mo_failElement_40 : decode prog_8_method_37_code 40 = .ok (.iconst 1, 1) := by decide +kernel
theorem d_Mo_failElement_41 : decode prog_8_method_37_code 41 = .ok (.goto 4, 3) := by decide +kernel
theorem d_Mo_failElement_44 : decode prog_8_method_37_code 44 = .ok (.iconst 0, 1) := by decide +kernel
theorem d_Mo_failElement_45 : decode prog_8_method_37_code 45 = .ok (.istore_n 3, 1) := by decide +kernel
theorem d_Mo_failElement_46 : decode prog_8_method_37_code 46 = .ok (.iload_n 2, 1) := by decide +kernel
theorem d_Mo_failElement_47 : decode prog_8_method_37_code 47 = .ok (.ifCond .eq 12, 3) := by decide +kernel
theorem d_Mo_failElement_50 : decode prog_8_method_37_code 50 = .ok (.iload_n 3, 1) := by decide +kernel
theorem d_Mo_failElement_51 : decode prog_8_method_37_code 51 = .ok (.ifCond .ne 8, 3) := by decide +kernel
theorem d_Mo_failElement_54 : decode prog_8_method_37_code 54 = .ok (.aload_n 0, 1) := by decide +kernel
theorem d_Mo_failElement_55 : decode prog_8_method_37_code 55 = .ok (.iload_n 1, 1) := by decide +kernel
theorem d_Mo_failElement_56 : decode prog_8_method_37_code 56 = .ok (.invokevirtual 158, 3) := by decide +kernel
theorem d_Mo_failElement_59 : decode prog_8_method_37_code 59 = .ok (.iload_n 2, 1) := by decide +kernel
theorem d_Mo_failElement_60 : decode prog_8_method_37_code 60 = .ok (.ifCond .ne 12, 3) := by decide +kernel
theorem d_Mo_failElement_63 : decode prog_8_method_37_code 63 = .ok (.iload_n 3, 1) := by decide +kernel
theorem d_Mo_failElement_64 : decode prog_8_method_37_code 64 = .ok (.ifCond .eq 8, 3) := by decide +kernel
theorem d_Mo_failElement_67 : decode prog_8_method_37_code 67 = .ok (.aload_n 0, 1) := by decide +kernel
theorem d_Mo_failElement_68 : decode prog_8_method_37_code 68 = .ok (.iload_n 1, 1) := by decide +kernel
theorem d_Mo_failElement_69 : decode prog_8_method_37_code 69 = .ok (.invokevirtual 161, 3) := by decide +kernel
theorem d_Mo_failElement_72 : decode prog_8_method_37_code 72 = .ok (.iload_n 3, 1) := by decide +kernel
theorem d_Mo_failElement_73 : decode prog_8_method_37_code 73 = .ok (.ireturn, 1) := by decide +kernel
theorem d_Mo_breakDown_0 : decode prog_8_method_17_code 0 = .ok (.aload_n 0, 1) := by decide +kernel
theorem d_Mo_breakDown_1 : decode prog_8_method_17_code 1 = .ok (.getfield 64, 3) := by decide +kernel
theorem d_Mo_breakDown_4 : decode prog_8_method_17_code 4 = .ok (.sipush 672, 3) := by decide +kernel
theorem d_Mo_breakDown_7 : decode prog_8_method_17_code 7 = .ok (.iload_n 1, 1) := by decide +kernel
theorem d_Mo_breakDown_8 : decode prog_8_method_17_code 8 = .ok (.iadd, 1) := by decide +kernel
theorem d_Mo_breakDown_9 : decode prog_8_method_17_code 9 = .ok (.iconst 1, 1) := by decide +kernel
theorem d_Mo_breakDown_10 : decode prog_8_method_17_code 10 = .ok (.iastore, 1) := by decide +kernel
theorem d_Mo_breakDown_11 : decode prog_8_method_17_code 11 = .ok (.aload_n 0, 1) := by decide +kernel
theorem d_Mo_breakDown_12 : decode prog_8_method_17_code 12 = .ok (.iload_n 1, 1) := by decide +kernel
theorem d_Mo_breakDown_13 : decode prog_8_method_17_code 13 = .ok (.invokevirtual 133, 3) := by decide +kernel
theorem d_Mo_breakDown_16 : decode prog_8_method_17_code 16 = .ok (.return_, 1) := by decide +kernel
theorem d_Mo_sentNothing_0 : decode prog_8_method_16_code 0 = .ok (.iconst 4, 1) := by decide +kernel
theorem d_Mo_sentNothing_1 : decode prog_8_method_16_code 1 = .ok (.iload_n 1, 1) := by decide +kernel
theorem d_Mo_sentNothing_2 : decode prog_8_method_16_code 2 = .ok (.imul, 1) := by decide +kernel
theorem d_Mo_sentNothing_3 : decode prog_8_method_16_code 3 = .ok (.istore_n 2, 1) := by decide +kernel
theorem d_Mo_sentNothing_4 : decode prog_8_method_16_code 4 = .ok (.iload_n 2, 1) := by decide +kernel
theorem d_Mo_sentNothing_5 : decode prog_8_method_16_code 5 = .ok (.iconst 4, 1) := by decide +kernel
theorem d_Mo_sentNothing_6 : decode prog_8_method_16_code 6 = .ok (.iload_n 1, 1) := by decide +kernel
theorem d_Mo_sentNothing_7 : decode prog_8_method_16_code 7 = .ok (.imul, 1) := by decide +kernel
theorem d_Mo_sentNothing_8 : decode prog_8_method_16_code 8 = .ok (.iconst 4, 1) := by decide +kernel
theorem d_Mo_sentNothing_9 : decode prog_8_method_16_code 9 = .ok (.iadd, 1) := by decide +kernel
theorem d_Mo_sentNothing_10 : decode prog_8_method_16_code 10 = .ok (.if_icmp .ge 20, 3) := by decide +kernel
theorem d_Mo_sentNothing_13 : decode prog_8_method_16_code 13 = .ok (.aload_n 0, 1) := by decide +kernel
theorem d_Mo_sentNothing_14 : decode prog_8_method_16_code 14 = .ok (.getfield 64, 3) := by decide +kernel
theorem d_Mo_sentNothing_17 : decode prog_8_method_16_code 17 = .ok (.sipush 256, 3) := by decide +kernel
theorem d_Mo_sentNothing_20 : decode prog_8_method_16_code 20 = .ok (.iload_n 2, 1) := by decide +kernel
theorem d_Mo_sentNothing_21 : decode prog_8_method_16_code 21 = .ok (.iadd, 1) := by decide +kernel
theorem d_Mo_sentNothing_22 : decode prog_8_method_16_code 22 = .ok (.iconst (-1), 1) := by decide +kernel
theorem d_Mo_sentNothing_23 : decode prog_8_method_16_code 23 = .ok (.iastore, 1) := by decide +kernel
theorem d_Mo_sentNothing_24 : decode prog_8_method_16_code 24 = .ok (.iinc 2 1, 3) := by decide +kernel
theorem d_Mo_sentNothing_27 : decode prog_8_method_16_code 27 = .ok (.goto (-23), 3) := by decide +kernel
theorem d_Mo_sentNothing_30 : decode prog_8_method_16_code 30 = .ok (.return_, 1) := by decide +kernel
theorem d_Mo_comesBack_0 : decode prog_8_method_18_code 0 = .ok (.aload_n 0, 1) := by decide +kernel
theorem d_Mo_comesBack_1 : decode prog_8_method_18_code 1 = .ok (.getfield 64, 3) := by decide +kernel
theorem d_Mo_comesBack_4 : decode prog_8_method_18_code 4 = .ok (.sipush 672, 3) := by decide +kernel
theorem d_Mo_comesBack_7 : decode prog_8_method_18_code 7 = .ok (.iload_n 1, 1) := by decide +kernel
theorem d_Mo_comesBack_8 : decode prog_8_method_18_code 8 = .ok (.iadd, 1) := by decide +kernel
theorem d_Mo_comesBack_9 : decode prog_8_method_18_code 9 = .ok (.iconst 0, 1) := by decide +kernel
theorem d_Mo_comesBack_10 : decode prog_8_method_18_code 10 = .ok (.iastore, 1) := by decide +kernel
theorem d_Mo_comesBack_11 : decode prog_8_method_18_code 11 = .ok (.aload_n 0, 1) := by decide +kernel
theorem d_Mo_comesBack_12 : decode prog_8_method_18_code 12 = .ok (.iload_n 1, 1) := by decide +kernel
theorem d_Mo_comesBack_13 : decode prog_8_method_18_code 13 = .ok (.invokevirtual 133, 3) := by decide +kernel
theorem d_Mo_comesBack_16 : decode prog_8_method_18_code 16 = .ok (.aload_n 0, 1) := by decide +kernel
theorem d_Mo_comesBack_17 : decode prog_8_method_18_code 17 = .ok (.getfield 64, 3) := by decide +kernel
theorem d_Mo_comesBack_20 : decode prog_8_method_18_code 20 = .ok (.sipush 512, 3) := by decide +kernel
theorem d_Mo_comesBack_23 : decode prog_8_method_18_code 23 = .ok (.iload_n 1, 1) := by decide +kernel
theorem d_Mo_comesBack_24 : decode prog_8_method_18_code 24 = .ok (.iadd, 1) := by decide +kernel
theorem d_Mo_comesBack_25 : decode prog_8_method_18_code 25 = .ok (.iconst 0, 1) := by decide +kernel
theorem d_Mo_comesBack_26 : decode prog_8_method_18_code 26 = .ok (.iastore, 1) := by decide +kernel
theorem d_Mo_comesBack_27 : decode prog_8_method_18_code 27 = .ok (.aload_n 0, 1) := by decide +kernel
theorem d_Mo_comesBack_28 : decode prog_8_method_18_code 28 = .ok (.getfield 64, 3) := by decide +kernel
theorem d_Mo_comesBack_31 : decode prog_8_method_18_code 31 = .ok (.sipush 528, 3) := by decide +kernel
theorem d_Mo_comesBack_34 : decode prog_8_method_18_code 34 = .ok (.iload_n 1, 1) := by decide +kernel
theorem d_Mo_comesBack_35 : decode prog_8_method_18_code 35 = .ok (.iadd, 1) := by decide +kernel
theorem d_Mo_comesBack_36 : decode prog_8_method_18_code 36 = .ok (.iconst (-1), 1) := by decide +kernel
theorem d_Mo_comesBack_37 : decode prog_8_method_18_code 37 = .ok (.iastore, 1) := by decide +kernel
theorem d_Mo_comesBack_38 : decode prog_8_method_18_code 38 = .ok (.aload_n 0, 1) := by decide +kernel
theorem d_Mo_comesBack_39 : decode prog_8_method_18_code 39 = .ok (.getfield 64, 3) := by decide +kernel
theorem d_Mo_comesBack_42 : decode prog_8_method_18_code 42 = .ok (.sipush 544, 3) := by decide +kernel
theorem d_Mo_comesBack_45 : decode prog_8_method_18_code 45 = .ok (.iload_n 1, 1) := by decide +kernel
theorem d_Mo_comesBack_46 : decode prog_8_method_18_code 46 = .ok (.iadd, 1) := by decide +kernel
theorem d_Mo_comesBack_47 : decode prog_8_method_18_code 47 = .ok (.iconst 0, 1) := by decide +kernel
theorem d_Mo_comesBack_48 : decode prog_8_method_18_code 48 = .ok (.iastore, 1) := by decide +kernel
theorem d_Mo_comesBack_49 : decode prog_8_method_18_code 49 = .ok (.aload_n 0, 1) := by decide +kernel
theorem d_Mo_comesBack_50 : decode prog_8_method_18_code 50 = .ok (.getfield 64, 3) := by decide +kernel
theorem d_Mo_comesBack_53 : decode prog_8_method_18_code 53 = .ok (.sipush 608, 3) := by decide +kernel
theorem d_Mo_comesBack_56 : decode prog_8_method_18_code 56 = .ok (.iload_n 1, 1) := by decide +kernel
theorem d_Mo_comesBack_57 : decode prog_8_method_18_code 57 = .ok (.iadd, 1) := by decide +kernel
theorem d_Mo_comesBack_58 : decode prog_8_method_18_code 58 = .ok (.iconst (-1), 1) := by decide +kernel
theorem d_Mo_comesBack_59 : decode prog_8_method_18_code 59 = .ok (.iastore, 1) := by decide +kernel
theorem d_Mo_comesBack_60 : decode prog_8_method_18_code 60 = .ok (.aload_n 0, 1) := by decide +kernel
theorem d_Mo_comesBack_61 : decode prog_8_method_18_code 61 = .ok (.getfield 64, 3) := by decide +kernel
theorem d_Mo_comesBack_64 : decode prog_8_method_18_code 64 = .ok (.sipush 624, 3) := by decide +kernel
theorem d_Mo_comesBack_67 : decode prog_8_method_18_code 67 = .ok (.iload_n 1, 1) := by decide +kernel
theorem d_Mo_comesBack_68 : decode prog_8_method_18_code 68 = .ok (.iadd, 1) := by decide +kernel
theorem d_Mo_comesBack_69 : decode prog_8_method_18_code 69 = .ok (.iconst (-1), 1) := by decide +kernel
theorem d_Mo_comesBack_70 : decode prog_8_method_18_code 70 = .ok (.iastore, 1) := by decide +kernel
theorem d_Mo_comesBack_71 : decode prog_8_method_18_code 71 = .ok (.iconst 4, 1) := by decide +kernel
theorem d_Mo_comesBack_72 : decode prog_8_method_18_code 72 = .ok (.iload_n 1, 1) := by decide +kernel
theorem d_Mo_comesBack_73 : decode prog_8_method_18_code 73 = .ok (.imul, 1) := by decide +kernel
theorem d_Mo_comesBack_74 : decode prog_8_method_18_code 74 = .ok (.istore_n 2, 1) := by decide +kernel
theorem d_Mo_comesBack_75 : decode prog_8_method_18_code 75 = .ok (.iload_n 2, 1) := by decide +kernel
theorem d_Mo_comesBack_76 : decode prog_8_method_18_code 76 = .ok (.iconst 4, 1) := by decide +kernel
theorem d_Mo_comesBack_77 : decode prog_8_method_18_code 77 = .ok (.iload_n 1, 1) := by decide +kernel
theorem d_Mo_comesBack_78 : decode prog_8_method_18_code 78 = .ok (.imul, 1) := by decide +kernel
theorem d_Mo_comesBack_79 : decode prog_8_method_18_code 79 = .ok (.iconst 4, 1) := by decide +kernel
theorem d_Mo_comesBack_80 : decode prog_8_method_18_code 80 = .ok (.iadd, 1) := by decide +kernel
theorem d_Mo_comesBack_81 : decode prog_8_method_18_code 81 = .ok (.if_icmp .ge 29, 3) := by decide +kernel
theorem d_Mo_comesBack_84 : decode prog_8_method_18_code 84 = .ok (.aload_n 0, 1) := by decide +kernel
theorem d_Mo_comesBack_85 : decode prog_8_method_18_code 85 = .ok (.getfield 64, 3) := by decide +kernel
theorem d_Mo_comesBack_88 : decode prog_8_method_18_code 88 = .ok (.iconst 0, 1) := by decide +kernel
theorem d_Mo_comesBack_89 : decode prog_8_method_18_code 89 = .ok (.iload_n 2, 1) := by decide +kernel
theorem d_Mo_comesBack_90 : decode prog_8_method_18_code 90 = .ok (.iadd, 1) := by decide +kernel
theorem d_Mo_comesBack_91 : decode prog_8_method_18_code 91 = .ok (.iconst (-1), 1) := by decide +kernel
theorem d_Mo_comesBack_92 : decode prog_8_method_18_code 92 = .ok (.iastore, 1) := by decide +kernel
theorem d_Mo_comesBack_93 : decode prog_8_method_18_code 93 = .ok (.aload_n 0, 1) := by decide +kernel
theorem d_Mo_comesBack_94 : decode prog_8_method_18_code 94 = .ok (.getfield 64, 3) := by decide +kernel
theorem d_Mo_comesBack_97 : decode prog_8_method_18_code 97 = .ok (.sipush 448, 3) := by decide +kernel
theorem d_Mo_comesBack_100 : decode prog_8_method_18_code 100 = .ok (.iload_n 2, 1) := by decide +kernel
theorem d_Mo_comesBack_101 : decode prog_8_method_18_code 101 = .ok (.iadd, 1) := by decide +kernel
theorem d_Mo_comesBack_102 : decode prog_8_method_18_code 102 = .ok (.iconst 0, 1) := by decide +kernel
theorem d_Mo_comesBack_103 : decode prog_8_method_18_code 103 = .ok (.iastore, 1) := by decide +kernel
theorem d_Mo_comesBack_104 : decode prog_8_method_18_code 104 = .ok (.iinc 2 1, 3) := by decide +kernel
theorem d_Mo_comesBack_107 : decode prog_8_method_18_code 107 = .ok (.goto (-32), 3) := by decide +kernel
theorem d_Mo_comesBack_110 : decode prog_8_method_18_code 110 = .ok (.return_, 1) := by decide +kernel
theorem d_Mo_lose_0 : decode prog_8_method_38_code 0 = .ok (.aload_n 0, 1) := by decide +kernel
theorem d_Mo_lose_1 : decode prog_8_method_38_code 1 = .ok (.aload_n 0, 1) := by decide +kernel
theorem d_Mo_lose_2 : decode prog_8_method_38_code 2 = .ok (.iload_n 1, 1) := by decide +kernel
theorem d_Mo_lose_3 : decode prog_8_method_38_code 3 = .ok (.invokevirtual 155, 3) := by decide +kernel
theorem d_Mo_lose_6 : decode prog_8_method_38_code 6 = .ok (.ifCond .eq 7, 3) := by decide +kernel
theorem d_Mo_lose_9 : decode prog_8_method_38_code 9 = .ok (.iconst 1, 1) := by decide +kernel
theorem d_Mo_lose_10 : decode prog_8_method_38_code 10 = .ok (.goto 4, 3) := by decide +kernel
theorem d_Mo_lose_13 : decode prog_8_method_38_code 13 = .ok (.iconst 0, 1) := by decide +kernel
theorem d_Mo_lose_14 : decode prog_8_method_38_code 14 = .ok (.putfield 7, 3) := by decide +kernel
theorem d_Mo_lose_17 : decode prog_8_method_38_code 17 = .ok (.aload_n 0, 1) := by decide +kernel
theorem d_Mo_lose_18 : decode prog_8_method_38_code 18 = .ok (.getfield 7, 3) := by decide +kernel
theorem d_Mo_lose_21 : decode prog_8_method_38_code 21 = .ok (.ifCond .ne 26, 3) := by decide +kernel
theorem d_Mo_lose_24 : decode prog_8_method_38_code 24 = .ok (.aload_n 0, 1) := by decide +kernel
theorem d_Mo_lose_25 : decode prog_8_method_38_code 25 = .ok (.getfield 64, 3) := by decide +kernel
theorem d_Mo_lose_28 : decode prog_8_method_38_code 28 = .ok (.sipush 712, 3) := by decide +kernel
theorem d_Mo_lose_31 : decode prog_8_method_38_code 31 = .ok (.iconst 2, 1) := by decide +kernel
theorem d_Mo_lose_32 : decode prog_8_method_38_code 32 = .ok (.iload_n 1, 1) := by decide +kernel
theorem d_Mo_lose_33 : decode prog_8_method_38_code 33 = .ok (.imul, 1) := by decide +kernel
theorem d_Mo_lose_34 : decode prog_8_method_38_code 34 = .ok (.iadd, 1) := by decide +kernel
theorem d_Mo_lose_35 : decode prog_8_method_38_code 35 = .ok (.iload_n 2, 1) := by decide +kernel
theorem d_Mo_lose_36 : decode prog_8_method_38_code 36 = .ok (.ifCond .eq 7, 3) := by decide +kernel
theorem d_Mo_lose_39 : decode prog_8_method_38_code 39 = .ok (.iconst 1, 1) := by decide +kernel
theorem d_Mo_lose_40 : decode prog_8_method_38_code 40 = .ok (.goto 4, 3) := by decide +kernel
theorem d_Mo_lose_43 : decode prog_8_method_38_code 43 = .ok (.iconst 0, 1) := by decide +kernel
theorem d_Mo_lose_44 : decode prog_8_method_38_code 44 = .ok (.iadd, 1) := by decide +kernel
theorem d_Mo_lose_45 : decode prog_8_method_38_code 45 = .ok (.iconst 1, 1) := by decide +kernel
theorem d_Mo_lose_46 : decode prog_8_method_38_code 46 = .ok (.iastore, 1) := by decide +kernel
theorem d_Mo_lose_47 : decode prog_8_method_38_code 47 = .ok (.return_, 1) := by decide +kernel
theorem d_Mo_rounds_0 : decode prog_8_method_39_code 0 = .ok (.aload_n 0, 1) := by decide +kernel
theorem d_Mo_rounds_1 : decode prog_8_method_39_code 1 = .ok (.iload_n 1, 1) := by decide +kernel
theorem d_Mo_rounds_2 : decode prog_8_method_39_code 2 = .ok (.iconst 1, 1) := by decide +kernel
theorem d_Mo_rounds_3 : decode prog_8_method_39_code 3 = .ok (.if_icmp .lt 10, 3) := by decide +kernel
theorem d_Mo_rounds_6 : decode prog_8_method_39_code 6 = .ok (.iload_n 1, 1) := by decide +kernel
theorem d_Mo_rounds_7 : decode prog_8_method_39_code 7 = .ok (.sipush 200, 3) := by decide +kernel
theorem d_Mo_rounds_10 : decode prog_8_method_39_code 10 = .ok (.if_icmp .le 7, 3) := by decide +kernel
theorem d_Mo_rounds_13 : decode prog_8_method_39_code 13 = .ok (.iconst 1, 1) := by decide +kernel
theorem d_Mo_rounds_14 : decode prog_8_method_39_code 14 = .ok (.goto 4, 3) := by decide +kernel
theorem d_Mo_rounds_17 : decode prog_8_method_39_code 17 = .ok (.iconst 0, 1) := by decide +kernel
theorem d_Mo_rounds_18 : decode prog_8_method_39_code 18 = .ok (.putfield 7, 3) := by decide +kernel
theorem d_Mo_rounds_21 : decode prog_8_method_39_code 21 = .ok (.aload_n 0, 1) := by decide +kernel
theorem d_Mo_rounds_22 : decode prog_8_method_39_code 22 = .ok (.getfield 7, 3) := by decide +kernel
theorem d_Mo_rounds_25 : decode prog_8_method_39_code 25 = .ok (.ifCond .eq 5, 3) := by decide +kernel
theorem d_Mo_rounds_28 : decode prog_8_method_39_code 28 = .ok (.iconst 0, 1) := by decide +kernel
theorem d_Mo_rounds_29 : decode prog_8_method_39_code 29 = .ok (.ireturn, 1) := by decide +kernel
theorem d_Mo_rounds_30 : decode prog_8_method_39_code 30 = .ok (.iconst 0, 1) := by decide +kernel
theorem d_Mo_rounds_31 : decode prog_8_method_39_code 31 = .ok (.istore_n 2, 1) := by decide +kernel
theorem d_Mo_rounds_32 : decode prog_8_method_39_code 32 = .ok (.iload_n 2, 1) := by decide +kernel
theorem d_Mo_rounds_33 : decode prog_8_method_39_code 33 = .ok (.iload_n 1, 1) := by decide +kernel
theorem d_Mo_rounds_34 : decode prog_8_method_39_code 34 = .ok (.if_icmp .ge 13, 3) := by decide +kernel
theorem d_Mo_rounds_37 : decode prog_8_method_39_code 37 = .ok (.aload_n 0, 1) := by decide +kernel
theorem d_Mo_rounds_38 : decode prog_8_method_39_code 38 = .ok (.invokevirtual 139, 3) := by decide +kernel
theorem d_Mo_rounds_41 : decode prog_8_method_39_code 41 = .ok (.iinc 2 1, 3) := by decide +kernel
theorem d_Mo_rounds_44 : decode prog_8_method_39_code 44 = .ok (.goto (-12), 3) := by decide +kernel
theorem d_Mo_rounds_47 : decode prog_8_method_39_code 47 = .ok (.aload_n 0, 1) := by decide +kernel
theorem d_Mo_rounds_48 : decode prog_8_method_39_code 48 = .ok (.getfield 64, 3) := by decide +kernel
theorem d_Mo_rounds_51 : decode prog_8_method_39_code 51 = .ok (.sipush 761, 3) := by decide +kernel
theorem d_Mo_rounds_54 : decode prog_8_method_39_code 54 = .ok (.iaload, 1) := by decide +kernel
theorem d_Mo_rounds_55 : decode prog_8_method_39_code 55 = .ok (.ireturn, 1) := by decide +kernel
theorem d_Mo_round_0 : decode prog_8_method_13_code 0 = .ok (.aload_n 0, 1) := by decide +kernel
theorem d_Mo_round_1 : decode prog_8_method_13_code 1 = .ok (.getfield 64, 3) := by decide +kernel
theorem d_Mo_round_4 : decode prog_8_method_13_code 4 = .ok (.sipush 760, 3) := by decide +kernel
theorem d_Mo_round_7 : decode prog_8_method_13_code 7 = .ok (.aload_n 0, 1) := by decide +kernel
theorem d_Mo_round_8 : decode prog_8_method_13_code 8 = .ok (.getfield 64, 3) := by decide +kernel
theorem d_Mo_round_11 : decode prog_8_method_13_code 11 = .ok (.sipush 760, 3) := by decide +kernel
theorem d_Mo_round_14 : decode prog_8_method_13_code 14 = .ok (.iaload, 1) := by decide +kernel
theorem d_Mo_round_15 : decode prog_8_method_13_code 15 = .ok (.iconst 1, 1) := by decide +kernel
theorem d_Mo_round_16 : decode prog_8_method_13_code 16 = .ok (.iadd, 1) := by decide +kernel
theorem d_Mo_round_17 : decode prog_8_method_13_code 17 = .ok (.iastore, 1) := by decide +kernel
theorem d_Mo_round_18 : decode prog_8_method_13_code 18 = .ok (.iconst 0, 1) := by decide +kernel
theorem d_Mo_round_19 : decode prog_8_method_13_code 19 = .ok (.istore_n 1, 1) := by decide +kernel
theorem d_Mo_round_20 : decode prog_8_method_13_code 20 = .ok (.iload_n 1, 1) := by decide +kernel
theorem d_Mo_round_21 : decode prog_8_method_13_code 21 = .ok (.bipush 64, 2) := by decide +kernel
theorem d_Mo_round_23 : decode prog_8_method_13_code 23 = .ok (.if_icmp .ge 31, 3) := by decide +kernel
theorem d_Mo_round_26 : decode prog_8_method_13_code 26 = .ok (.aload_n 0, 1) := by decide +kernel
theorem d_Mo_round_27 : decode prog_8_method_13_code 27 = .ok (.getfield 77, 3) := by decide +kernel
theorem d_Mo_round_30 : decode prog_8_method_13_code 30 = .ok (.iload_n 1, 1) := by decide +kernel
theorem d_Mo_round_31 : decode prog_8_method_13_code 31 = .ok (.iconst (-1), 1) := by decide +kernel
theorem d_Mo_round_32 : decode prog_8_method_13_code 32 = .ok (.iastore, 1) := by decide +kernel
theorem d_Mo_round_33 : decode prog_8_method_13_code 33 = .ok (.aload_n 0, 1) := by decide +kernel
theorem d_Mo_round_34 : decode prog_8_method_13_code 34 = .ok (.iload_n 1, 1) := by decide +kernel
theorem d_Mo_round_35 : decode prog_8_method_13_code 35 = .ok (.iconst 4, 1) := by decide +kernel
theorem d_Mo_round_36 : decode prog_8_method_13_code 36 = .ok (.idiv, 1) := by decide +kernel
theorem d_Mo_round_37 : decode prog_8_method_13_code 37 = .ok (.invokevirtual 93, 3) := by decide +kernel
theorem d_Mo_round_40 : decode prog_8_method_13_code 40 = .ok (.ifCond .eq 8, 3) := by decide +kernel
theorem d_Mo_round_43 : decode prog_8_method_13_code 43 = .ok (.aload_n 0, 1) := by decide +kernel
theorem d_Mo_round_44 : decode prog_8_method_13_code 44 = .ok (.iload_n 1, 1) := by decide +kernel
theorem d_Mo_round_45 : decode prog_8_method_13_code 45 = .ok (.invokevirtual 120, 3) := by decide +kernel
theorem d_Mo_round_48 : decode prog_8_method_13_code 48 = .ok (.iinc 1 1, 3) := by decide +kernel
theorem d_Mo_round_51 : decode prog_8_method_13_code 51 = .ok (.goto (-31), 3) := by decide +kernel
theorem d_Mo_round_54 : decode prog_8_method_13_code 54 = .ok (.iconst 0, 1) := by decide +kernel
theorem d_Mo_round_55 : decode prog_8_method_13_code 55 = .ok (.istore_n 1, 1) := by decide +kernel
theorem d_Mo_round_56 : decode prog_8_method_13_code 56 = .ok (.iload_n 1, 1) := by decide +kernel
theorem d_Mo_round_57 : decode prog_8_method_13_code 57 = .ok (.bipush 16, 2) := by decide +kernel
theorem d_Mo_round_59 : decode prog_8_method_13_code 59 = .ok (.if_icmp .ge 22, 3) := by decide +kernel
theorem d_Mo_round_62 : decode prog_8_method_13_code 62 = .ok (.aload_n 0, 1) := by decide +kernel
theorem d_Mo_round_63 : decode prog_8_method_13_code 63 = .ok (.iload_n 1, 1) := by decide +kernel
theorem d_Mo_round_64 : decode prog_8_method_13_code 64 = .ok (.invokevirtual 93, 3) := by decide +kernel
theorem d_Mo_round_67 : decode prog_8_method_13_code 67 = .ok (.ifCond .eq 8, 3) := by decide +kernel
theorem d_Mo_round_70 : decode prog_8_method_13_code 70 = .ok (.aload_n 0, 1) := by decide +kernel
theorem d_Mo_round_71 : decode prog_8_method_13_code 71 = .ok (.iload_n 1, 1) := by decide +kernel
theorem d_Mo_round_72 : decode prog_8_method_13_code 72 = .ok (.invokevirtual 124, 3) := by decide +kernel
theorem d_Mo_round_75 : decode prog_8_method_13_code 75 = .ok (.iinc 1 1, 3) := by decide +kernel
theorem d_Mo_round_78 : decode prog_8_method_13_code 78 = .ok (.goto (-22), 3) := by decide +kernel
theorem d_Mo_round_81 : decode prog_8_method_13_code 81 = .ok (.iconst 0, 1) := by decide +kernel
theorem d_Mo_round_82 : decode prog_8_method_13_code 82 = .ok (.istore_n 1, 1) := by decide +kernel
theorem d_Mo_round_83 : decode prog_8_method_13_code 83 = .ok (.iload_n 1, 1) := by decide +kernel
theorem d_Mo_round_84 : decode prog_8_method_13_code 84 = .ok (.bipush 64, 2) := by decide +kernel
theorem d_Mo_round_86 : decode prog_8_method_13_code 86 = .ok (.if_icmp .ge 64, 3) := by decide +kernel
theorem d_Mo_round_89 : decode prog_8_method_13_code 89 = .ok (.aload_n 0, 1) := by decide +kernel
theorem d_Mo_round_90 : decode prog_8_method_13_code 90 = .ok (.getfield 64, 3) := by decide +kernel
theorem d_Mo_round_93 : decode prog_8_method_13_code 93 = .ok (.sipush 256, 3) := by decide +kernel
theorem d_Mo_round_96 : decode prog_8_method_13_code 96 = .ok (.iload_n 1, 1) := by decide +kernel
theorem d_Mo_round_97 : decode prog_8_method_13_code 97 = .ok (.iadd, 1) := by decide +kernel
theorem d_Mo_round_98 : decode prog_8_method_13_code 98 = .ok (.aload_n 0, 1) := by decide +kernel
theorem d_Mo_round_99 : decode prog_8_method_13_code 99 = .ok (.getfield 77, 3) := by decide +kernel
theorem d_Mo_round_102 : decode prog_8_method_13_code 102 = .ok (.iload_n 1, 1) := by decide +kernel
theorem d_Mo_round_103 : decode prog_8_method_13_code 103 = .ok (.iaload, 1) := by decide +kernel
theorem d_Mo_round_104 : decode prog_8_method_13_code 104 = .ok (.iastore, 1) := by decide +kernel
theorem d_Mo_round_105 : decode prog_8_method_13_code 105 = .ok (.aload_n 0, 1) := by decide +kernel
theorem d_Mo_round_106 : decode prog_8_method_13_code 106 = .ok (.getfield 64, 3) := by decide +kernel
theorem d_Mo_round_109 : decode prog_8_method_13_code 109 = .ok (.sipush 320, 3) := by decide +kernel
theorem d_Mo_round_112 : decode prog_8_method_13_code 112 = .ok (.iload_n 1, 1) := by decide +kernel
theorem d_Mo_round_113 : decode prog_8_method_13_code 113 = .ok (.iadd, 1) := by decide +kernel
theorem d_Mo_round_114 : decode prog_8_method_13_code 114 = .ok (.aload_n 0, 1) := by decide +kernel
theorem d_Mo_round_115 : decode prog_8_method_13_code 115 = .ok (.getfield 77, 3) := by decide +kernel
theorem d_Mo_round_118 : decode prog_8_method_13_code 118 = .ok (.bipush 64, 2) := by decide +kernel
theorem d_Mo_round_120 : decode prog_8_method_13_code 120 = .ok (.iload_n 1, 1) := by decide +kernel
theorem d_Mo_round_121 : decode prog_8_method_13_code 121 = .ok (.iadd, 1) := by decide +kernel
theorem d_Mo_round_122 : decode prog_8_method_13_code 122 = .ok (.iaload, 1) := by decide +kernel
theorem d_Mo_round_123 : decode prog_8_method_13_code 123 = .ok (.iastore, 1) := by decide +kernel
theorem d_Mo_round_124 : decode prog_8_method_13_code 124 = .ok (.aload_n 0, 1) := by decide +kernel
theorem d_Mo_round_125 : decode prog_8_method_13_code 125 = .ok (.getfield 64, 3) := by decide +kernel
theorem d_Mo_round_128 : decode prog_8_method_13_code 128 = .ok (.sipush 384, 3) := by decide +kernel
theorem d_Mo_round_131 : decode prog_8_method_13_code 131 = .ok (.iload_n 1, 1) := by decide +kernel
theorem d_Mo_round_132 : decode prog_8_method_13_code 132 = .ok (.iadd, 1) := by decide +kernel
theorem d_Mo_round_133 : decode prog_8_method_13_code 133 = .ok (.aload_n 0, 1) := by decide +kernel
theorem d_Mo_round_134 : decode prog_8_method_13_code 134 = .ok (.getfield 77, 3) := by decide +kernel
theorem d_Mo_round_137 : decode prog_8_method_13_code 137 = .ok (.sipush 128, 3) := by decide +kernel
theorem d_Mo_round_140 : decode prog_8_method_13_code 140 = .ok (.iload_n 1, 1) := by decide +kernel
theorem d_Mo_round_141 : decode prog_8_method_13_code 141 = .ok (.iadd, 1) := by decide +kernel
theorem d_Mo_round_142 : decode prog_8_method_13_code 142 = .ok (.iaload, 1) := by decide +kernel
theorem d_Mo_round_143 : decode prog_8_method_13_code 143 = .ok (.iastore, 1) := by decide +kernel
theorem d_Mo_round_144 : decode prog_8_method_13_code 144 = .ok (.iinc 1 1, 3) := by decide +kernel
theorem d_Mo_round_147 : decode prog_8_method_13_code 147 = .ok (.goto (-64), 3) := by decide +kernel
theorem d_Mo_round_150 : decode prog_8_method_13_code 150 = .ok (.iconst 0, 1) := by decide +kernel
theorem d_Mo_round_151 : decode prog_8_method_13_code 151 = .ok (.istore_n 1, 1) := by decide +kernel
theorem d_Mo_round_152 : decode prog_8_method_13_code 152 = .ok (.iload_n 1, 1) := by decide +kernel
theorem d_Mo_round_153 : decode prog_8_method_13_code 153 = .ok (.bipush 48, 2) := by decide +kernel
theorem d_Mo_round_155 : decode prog_8_method_13_code 155 = .ok (.if_icmp .ge 20, 3) := by decide +kernel
theorem d_Mo_round_158 : decode prog_8_method_13_code 158 = .ok (.aload_n 0, 1) := by decide +kernel
theorem d_Mo_round_159 : decode prog_8_method_13_code 159 = .ok (.getfield 64, 3) := by decide +kernel
theorem d_Mo_round_162 : decode prog_8_method_13_code 162 = .ok (.sipush 712, 3) := by decide +kernel
theorem d_Mo_round_165 : decode prog_8_method_13_code 165 = .ok (.iload_n 1, 1) := by decide +kernel
theorem d_Mo_round_166 : decode prog_8_method_13_code 166 = .ok (.iadd, 1) := by decide +kernel
theorem d_Mo_round_167 : decode prog_8_method_13_code 167 = .ok (.iconst 0, 1) := by decide +kernel
theorem d_Mo_round_168 : decode prog_8_method_13_code 168 = .ok (.iastore, 1) := by decide +kernel
theorem d_Mo_round_169 : decode prog_8_method_13_code 169 = .ok (.iinc 1 1, 3) := by decide +kernel
theorem d_Mo_round_172 : decode prog_8_method_13_code 172 = .ok (.goto (-20), 3) := by decide +kernel
theorem d_Mo_round_175 : decode prog_8_method_13_code 175 = .ok (.iconst 1, 1) := by decide +kernel
theorem d_Mo_round_176 : decode prog_8_method_13_code 176 = .ok (.istore_n 1, 1) := by decide +kernel
theorem d_Mo_round_177 : decode prog_8_method_13_code 177 = .ok (.iconst 0, 1) := by decide +kernel
theorem d_Mo_round_178 : decode prog_8_method_13_code 178 = .ok (.istore_n 2, 1) := by decide +kernel
theorem d_Mo_round_179 : decode prog_8_method_13_code 179 = .ok (.iload_n 2, 1) := by decide +kernel
theorem d_Mo_round_180 : decode prog_8_method_13_code 180 = .ok (.bipush 16, 2) := by decide +kernel
theorem d_Mo_round_182 : decode prog_8_method_13_code 182 = .ok (.if_icmp .ge 148, 3) := by decide +kernel
theorem d_Mo_round_185 : decode prog_8_method_13_code 185 = .ok (.aload_n 0, 1) := by decide +kernel
theorem d_Mo_round_186 : decode prog_8_method_13_code 186 = .ok (.iload_n 2, 1) := by decide +kernel
theorem d_Mo_round_187 : decode prog_8_method_13_code 187 = .ok (.invokevirtual 93, 3) := by decide +kernel
theorem d_Mo_round_190 : decode prog_8_method_13_code 190 = .ok (.ifCond .eq 27, 3) := by decide +kernel
theorem d_Mo_round_193 : decode prog_8_method_13_code 193 = .ok (.aload_n 0, 1) := by decide +kernel
theorem d_Mo_round_194 : decode prog_8_method_13_code 194 = .ok (.getfield 70, 3) := by decide +kernel
theorem d_Mo_round_197 : decode prog_8_method_13_code 197 = .ok (.iload_n 2, 1) := by decide +kernel
theorem d_Mo_round_198 : decode prog_8_method_13_code 198 = .ok (.aload_n 0, 1) := by decide +kernel
theorem d_Mo_round_199 : decode prog_8_method_13_code 199 = .ok (.getfield 70, 3) := by decide +kernel
theorem d_Mo_round_202 : decode prog_8_method_13_code 202 = .ok (.iload_n 2, 1) := by decide +kernel
theorem d_Mo_round_203 : decode prog_8_method_13_code 203 = .ok (.laload, 1) := by decide +kernel
theorem d_Mo_round_204 : decode prog_8_method_13_code 204 = .ok (.aload_n 0, 1) := by decide +kernel
theorem d_Mo_round_205 : decode prog_8_method_13_code 205 = .ok (.getfield 64, 3) := by decide +kernel
theorem d_Mo_round_208 : decode prog_8_method_13_code 208 = .ok (.sipush 560, 3) := by decide +kernel
theorem d_Mo_round_211 : decode prog_8_method_13_code 211 = .ok (.iload_n 2, 1) := by decide +kernel
theorem d_Mo_round_212 : decode prog_8_method_13_code 212 = .ok (.iadd, 1) := by decide +kernel
theorem d_Mo_round_213 : decode prog_8_method_13_code 213 = .ok (.iaload, 1) := by decide +kernel
theorem d_Mo_round_214 : decode prog_8_method_13_code 214 = .ok (.i2l, 1) := by decide +kernel
theorem d_Mo_round_215 : decode prog_8_method_13_code 215 = .ok (.ladd, 1) := by decide +kernel
theorem d_Mo_round_216 : decode prog_8_method_13_code 216 = .ok (.lastore, 1) := by decide +kernel
theorem d_Mo_round_217 : decode prog_8_method_13_code 217 = .ok (.aload_n 0, 1) := by decide +kernel
theorem d_Mo_round_218 : decode prog_8_method_13_code 218 = .ok (.getfield 64, 3) := by decide +kernel
theorem d_Mo_round_221 : decode prog_8_method_13_code 221 = .ok (.sipush 592, 3) := by decide +kernel
theorem d_Mo_round_224 : decode prog_8_method_13_code 224 = .ok (.iload_n 2, 1) := by decide +kernel
theorem d_Mo_round_225 : decode prog_8_method_13_code 225 = .ok (.iadd, 1) := by decide +kernel
theorem d_Mo_round_226 : decode prog_8_method_13_code 226 = .ok (.aload_n 0, 1) := by decide +kernel
theorem d_Mo_round_227 : decode prog_8_method_13_code 227 = .ok (.getfield 64, 3) := by decide +kernel
theorem d_Mo_round_230 : decode prog_8_method_13_code 230 = .ok (.sipush 576, 3) := by decide +kernel
theorem d_Mo_round_233 : decode prog_8_method_13_code 233 = .ok (.iload_n 2, 1) := by decide +kernel
theorem d_Mo_round_234 : decode prog_8_method_13_code 234 = .ok (.iadd, 1) := by decide +kernel
theorem d_Mo_round_235 : decode prog_8_method_13_code 235 = .ok (.iaload, 1) := by decide +kernel
theorem d_Mo_round_236 : decode prog_8_method_13_code 236 = .ok (.iastore, 1) := by decide +kernel
theorem d_Mo_round_237 : decode prog_8_method_13_code 237 = .ok (.aload_n 0, 1) := by decide +kernel
theorem d_Mo_round_238 : decode prog_8_method_13_code 238 = .ok (.getfield 64, 3) := by decide +kernel
theorem d_Mo_round_241 : decode prog_8_method_13_code 241 = .ok (.sipush 576, 3) := by decide +kernel
theorem d_Mo_round_244 : decode prog_8_method_13_code 244 = .ok (.iload_n 2, 1) := by decide +kernel
theorem d_Mo_round_245 : decode prog_8_method_13_code 245 = .ok (.iadd, 1) := by decide +kernel
theorem d_Mo_round_246 : decode prog_8_method_13_code 246 = .ok (.aload_n 0, 1) := by decide +kernel
theorem d_Mo_round_247 : decode prog_8_method_13_code 247 = .ok (.getfield 64, 3) := by decide +kernel
theorem d_Mo_round_250 : decode prog_8_method_13_code 250 = .ok (.sipush 560, 3) := by decide +kernel
theorem d_Mo_round_253 : decode prog_8_method_13_code 253 = .ok (.iload_n 2, 1) := by decide +kernel
theorem d_Mo_round_254 : decode prog_8_method_13_code 254 = .ok (.iadd, 1) := by decide +kernel
theorem d_Mo_round_255 : decode prog_8_method_13_code 255 = .ok (.iaload, 1) := by decide +kernel
theorem d_Mo_round_256 : decode prog_8_method_13_code 256 = .ok (.iastore, 1) := by decide +kernel
theorem d_Mo_round_257 : decode prog_8_method_13_code 257 = .ok (.aload_n 0, 1) := by decide +kernel
theorem d_Mo_round_258 : decode prog_8_method_13_code 258 = .ok (.iload_n 2, 1) := by decide +kernel
theorem d_Mo_round_259 : decode prog_8_method_13_code 259 = .ok (.invokevirtual 127, 3) := by decide +kernel
theorem d_Mo_round_262 : decode prog_8_method_13_code 262 = .ok (.istore_n 3, 1) := by decide +kernel
theorem d_Mo_round_263 : decode prog_8_method_13_code 263 = .ok (.aload_n 0, 1) := by decide +kernel
theorem d_Mo_round_264 : decode prog_8_method_13_code 264 = .ok (.iload_n 2, 1) := by decide +kernel
theorem d_Mo_round_265 : decode prog_8_method_13_code 265 = .ok (.invokevirtual 130, 3) := by decide +kernel
theorem d_Mo_round_268 : decode prog_8_method_13_code 268 = .ok (.istore 4, 2) := by decide +kernel
theorem d_Mo_round_270 : decode prog_8_method_13_code 270 = .ok (.iload_n 3, 1) := by decide +kernel
theorem d_Mo_round_271 : decode prog_8_method_13_code 271 = .ok (.aload_n 0, 1) := by decide +kernel
theorem d_Mo_round_272 : decode prog_8_method_13_code 272 = .ok (.getfield 64, 3) := by decide +kernel
theorem d_Mo_round_275 : decode prog_8_method_13_code 275 = .ok (.sipush 640, 3) := by decide +kernel
theorem d_Mo_round_278 : decode prog_8_method_13_code 278 = .ok (.iload_n 2, 1) := by decide +kernel
theorem d_Mo_round_279 : decode prog_8_method_13_code 279 = .ok (.iadd, 1) := by decide +kernel
theorem d_Mo_round_280 : decode prog_8_method_13_code 280 = .ok (.iaload, 1) := by decide +kernel
theorem d_Mo_round_281 : decode prog_8_method_13_code 281 = .ok (.if_icmp .ne 18, 3) := by decide +kernel
theorem d_Mo_round_284 : decode prog_8_method_13_code 284 = .ok (.iload 4, 2) := by decide +kernel
theorem d_Mo_round_286 : decode prog_8_method_13_code 286 = .ok (.aload_n 0, 1) := by decide +kernel
theorem d_Mo_round_287 : decode prog_8_method_13_code 287 = .ok (.getfield 64, 3) := by decide +kernel
theorem d_Mo_round_290 : decode prog_8_method_13_code 290 = .ok (.sipush 656, 3) := by decide +kernel
theorem d_Mo_round_293 : decode prog_8_method_13_code 293 = .ok (.iload_n 2, 1) := by decide +kernel
theorem d_Mo_round_294 : decode prog_8_method_13_code 294 = .ok (.iadd, 1) := by decide +kernel
theorem d_Mo_round_295 : decode prog_8_method_13_code 295 = .ok (.iaload, 1) := by decide +kernel
theorem d_Mo_round_296 : decode prog_8_method_13_code 296 = .ok (.if_icmp .eq 5, 3) := by decide +kernel
theorem d_Mo_round_299 : decode prog_8_method_13_code 299 = .ok (.iconst 0, 1) := by decide +kernel
theorem d_Mo_round_300 : decode prog_8_method_13_code 300 = .ok (.istore_n 1, 1) := by decide +kernel
theorem d_Mo_round_301 : decode prog_8_method_13_code 301 = .ok (.aload_n 0, 1) := by decide +kernel
theorem d_Mo_round_302 : decode prog_8_method_13_code 302 = .ok (.getfield 64, 3) := by decide +kernel
theorem d_Mo_round_305 : decode prog_8_method_13_code 305 = .ok (.sipush 640, 3) := by decide +kernel
theorem d_Mo_round_308 : decode prog_8_method_13_code 308 = .ok (.iload_n 2, 1) := by decide +kernel
theorem d_Mo_round_309 : decode prog_8_method_13_code 309 = .ok (.iadd, 1) := by decide +kernel
theorem d_Mo_round_310 : decode prog_8_method_13_code 310 = .ok (.iload_n 3, 1) := by decide +kernel
theorem d_Mo_round_311 : decode prog_8_method_13_code 311 = .ok (.iastore, 1) := by decide +kernel
theorem d_Mo_round_312 : decode prog_8_method_13_code 312 = .ok (.aload_n 0, 1) := by decide +kernel
theorem d_Mo_round_313 : decode prog_8_method_13_code 313 = .ok (.getfield 64, 3) := by decide +kernel
theorem d_Mo_round_316 : decode prog_8_method_13_code 316 = .ok (.sipush 656, 3) := by decide +kernel
theorem d_Mo_round_319 : decode prog_8_method_13_code 319 = .ok (.iload_n 2, 1) := by decide +kernel
theorem d_Mo_round_320 : decode prog_8_method_13_code 320 = .ok (.iadd, 1) := by decide +kernel
theorem d_Mo_round_321 : decode prog_8_method_13_code 321 = .ok (.iload 4, 2) := by decide +kernel
theorem d_Mo_round_323 : decode prog_8_method_13_code 323 = .ok (.iastore, 1) := by decide +kernel
theorem d_Mo_round_324 : decode prog_8_method_13_code 324 = .ok (.iinc 2 1, 3) := by decide +kernel
theorem d_Mo_round_327 : decode prog_8_method_13_code 327 = .ok (.goto (-148), 3) := by decide +kernel
theorem d_Mo_round_330 : decode prog_8_method_13_code 330 = .ok (.aload_n 0, 1) := by decide +kernel
theorem d_Mo_round_331 : decode prog_8_method_13_code 331 = .ok (.getfield 64, 3) := by decide +kernel
theorem d_Mo_round_334 : decode prog_8_method_13_code 334 = .ok (.sipush 761, 3) := by decide +kernel
theorem d_Mo_round_337 : decode prog_8_method_13_code 337 = .ok (.iload_n 1, 1) := by decide +kernel
theorem d_Mo_round_338 : decode prog_8_method_13_code 338 = .ok (.ifCond .eq 16, 3) := by decide +kernel
theorem d_Mo_round_341 : decode prog_8_method_13_code 341 = .ok (.aload_n 0, 1) := by decide +kernel
theorem d_Mo_round_342 : decode prog_8_method_13_code 342 = .ok (.getfield 64, 3) := by decide +kernel
theorem d_Mo_round_345 : decode prog_8_method_13_code 345 = .ok (.sipush 761, 3) := by decide +kernel
theorem d_Mo_round_348 : decode prog_8_method_13_code 348 = .ok (.iaload, 1) := by decide +kernel
theorem d_Mo_round_349 : decode prog_8_method_13_code 349 = .ok (.iconst 1, 1) := by decide +kernel
theorem d_Mo_round_350 : decode prog_8_method_13_code 350 = .ok (.iadd, 1) := by decide +kernel
theorem d_Mo_round_351 : decode prog_8_method_13_code 351 = .ok (.goto 4, 3) := by decide +kernel
theorem d_Mo_round_354 : decode prog_8_method_13_code 354 = .ok (.iconst 0, 1) := by decide +kernel
theorem d_Mo_round_355 : decode prog_8_method_13_code 355 = .ok (.iastore, 1) := by decide +kernel
theorem d_Mo_round_356 : decode prog_8_method_13_code 356 = .ok (.return_, 1) := by decide +kernel
theorem d_Mo_whole_0 : decode prog_8_method_2_code 0 = .ok (.aload_n 0, 1) := by decide +kernel
theorem d_Mo_whole_1 : decode prog_8_method_2_code 1 = .ok (.getfield 17, 3) := by decide +kernel
theorem d_Mo_whole_4 : decode prog_8_method_2_code 4 = .ok (.iload_n 1, 1) := by decide +kernel
theorem d_Mo_whole_5 : decode prog_8_method_2_code 5 = .ok (.baload, 1) := by decide +kernel
theorem d_Mo_whole_6 : decode prog_8_method_2_code 6 = .ok (.ifCond .eq 20, 3) := by decide +kernel
theorem d_Mo_whole_9 : decode prog_8_method_2_code 9 = .ok (.aload_n 0, 1) := by decide +kernel
theorem d_Mo_whole_10 : decode prog_8_method_2_code 10 = .ok (.getfield 64, 3) := by decide +kernel
theorem d_Mo_whole_13 : decode prog_8_method_2_code 13 = .ok (.sipush 672, 3) := by decide +kernel
theorem d_Mo_whole_16 : decode prog_8_method_2_code 16 = .ok (.iload_n 1, 1) := by decide +kernel
theorem d_Mo_whole_17 : decode prog_8_method_2_code 17 = .ok (.iadd, 1) := by decide +kernel
theorem d_Mo_whole_18 : decode prog_8_method_2_code 18 = .ok (.iaload, 1) := by decide +kernel
theorem d_Mo_whole_19 : decode prog_8_method_2_code 19 = .ok (.ifCond .ne 7, 3) := by decide +kernel
theorem d_Mo_whole_22 : decode prog_8_method_2_code 22 = .ok (.iconst 1, 1) := by decide +kernel
theorem d_Mo_whole_23 : decode prog_8_method_2_code 23 = .ok (.goto 4, 3) := by decide +kernel
theorem d_Mo_whole_26 : decode prog_8_method_2_code 26 = .ok (.iconst 0, 1) := by decide +kernel
theorem d_Mo_whole_27 : decode prog_8_method_2_code 27 = .ok (.ireturn, 1) := by decide +kernel
theorem d_Mo_gets_0 : decode prog_8_method_4_code 0 = .ok (.aload_n 0, 1) := by decide +kernel
theorem d_Mo_gets_1 : decode prog_8_method_4_code 1 = .ok (.getfield 46, 3) := by decide +kernel
theorem d_Mo_gets_4 : decode prog_8_method_4_code 4 = .ok (.iload_n 1, 1) := by decide +kernel
theorem d_Mo_gets_5 : decode prog_8_method_4_code 5 = .ok (.iaload, 1) := by decide +kernel
theorem d_Mo_gets_6 : decode prog_8_method_4_code 6 = .ok (.istore_n 2, 1) := by decide +kernel
theorem d_Mo_gets_7 : decode prog_8_method_4_code 7 = .ok (.iload_n 2, 1) := by decide +kernel
theorem d_Mo_gets_8 : decode prog_8_method_4_code 8 = .ok (.ifCond .lt 17, 3) := by decide +kernel
theorem d_Mo_gets_11 : decode prog_8_method_4_code 11 = .ok (.aload_n 0, 1) := by decide +kernel
theorem d_Mo_gets_12 : decode prog_8_method_4_code 12 = .ok (.getfield 64, 3) := by decide +kernel
theorem d_Mo_gets_15 : decode prog_8_method_4_code 15 = .ok (.sipush 688, 3) := by decide +kernel
theorem d_Mo_gets_18 : decode prog_8_method_4_code 18 = .ok (.iload_n 2, 1) := by decide +kernel
theorem d_Mo_gets_19 : decode prog_8_method_4_code 19 = .ok (.iadd, 1) := by decide +kernel
theorem d_Mo_gets_20 : decode prog_8_method_4_code 20 = .ok (.iaload, 1) := by decide +kernel
theorem d_Mo_gets_21 : decode prog_8_method_4_code 21 = .ok (.iconst 1, 1) := by decide +kernel
theorem d_Mo_gets_22 : decode prog_8_method_4_code 22 = .ok (.if_icmp .ne 4, 3) := by decide +kernel
theorem d_Mo_gets_25 : decode prog_8_method_4_code 25 = .ok (.return_, 1) := by decide +kernel
theorem d_Mo_gets_26 : decode prog_8_method_4_code 26 = .ok (.aload_n 0, 1) := by decide +kernel
theorem d_Mo_gets_27 : decode prog_8_method_4_code 27 = .ok (.iload_n 1, 1) := by decide +kernel
theorem d_Mo_gets_28 : decode prog_8_method_4_code 28 = .ok (.invokevirtual 89, 3) := by decide +kernel
theorem d_Mo_gets_31 : decode prog_8_method_4_code 31 = .ok (.istore_n 3, 1) := by decide +kernel
theorem d_Mo_gets_32 : decode prog_8_method_4_code 32 = .ok (.aload_n 0, 1) := by decide +kernel
theorem d_Mo_gets_33 : decode prog_8_method_4_code 33 = .ok (.getfield 64, 3) := by decide +kernel
theorem d_Mo_gets_36 : decode prog_8_method_4_code 36 = .ok (.sipush 712, 3) := by decide +kernel
theorem d_Mo_gets_39 : decode prog_8_method_4_code 39 = .ok (.iconst 2, 1) := by decide +kernel
theorem d_Mo_gets_40 : decode prog_8_method_4_code 40 = .ok (.iload_n 2, 1) := by decide +kernel
theorem d_Mo_gets_41 : decode prog_8_method_4_code 41 = .ok (.imul, 1) := by decide +kernel
theorem d_Mo_gets_42 : decode prog_8_method_4_code 42 = .ok (.iadd, 1) := by decide +kernel
theorem d_Mo_gets_43 : decode prog_8_method_4_code 43 = .ok (.aload_n 0, 1) := by decide +kernel
theorem d_Mo_gets_44 : decode prog_8_method_4_code 44 = .ok (.getfield 61, 3) := by decide +kernel
theorem d_Mo_gets_47 : decode prog_8_method_4_code 47 = .ok (.iload_n 2, 1) := by decide +kernel
theorem d_Mo_gets_48 : decode prog_8_method_4_code 48 = .ok (.iaload, 1) := by decide +kernel
theorem d_Mo_gets_49 : decode prog_8_method_4_code 49 = .ok (.iload_n 1, 1) := by decide +kernel
theorem d_Mo_gets_50 : decode prog_8_method_4_code 50 = .ok (.if_icmp .ne 7, 3) := by decide +kernel
theorem d_Mo_gets_53 : decode prog_8_method_4_code 53 = .ok (.iconst 0, 1) := by decide +kernel
theorem d_Mo_gets_54 : decode prog_8_method_4_code 54 = .ok (.goto 4, 3) := by decide +kernel
theorem d_Mo_gets_57 : decode prog_8_method_4_code 57 = .ok (.iconst 1, 1) := by decide +kernel
theorem d_Mo_gets_58 : decode prog_8_method_4_code 58 = .ok (.iadd, 1) := by decide +kernel
theorem d_Mo_gets_59 : decode prog_8_method_4_code 59 = .ok (.iaload, 1) := by decide +kernel
theorem d_Mo_gets_60 : decode prog_8_method_4_code 60 = .ok (.iconst 1, 1) := by decide +kernel
theorem d_Mo_gets_61 : decode prog_8_method_4_code 61 = .ok (.if_icmp .ne 7, 3) := by decide +kernel
theorem d_Mo_gets_64 : decode prog_8_method_4_code 64 = .ok (.iconst 1, 1) := by decide +kernel
theorem d_Mo_gets_65 : decode prog_8_method_4_code 65 = .ok (.goto 4, 3) := by decide +kernel
theorem d_Mo_gets_68 : decode prog_8_method_4_code 68 = .ok (.iconst 0, 1) := by decide +kernel
theorem d_Mo_gets_69 : decode prog_8_method_4_code 69 = .ok (.istore 4, 2) := by decide +kernel
theorem d_Mo_gets_71 : decode prog_8_method_4_code 71 = .ok (.aload_n 0, 1) := by decide +kernel
theorem d_Mo_gets_72 : decode prog_8_method_4_code 72 = .ok (.iload_n 3, 1) := by decide +kernel
theorem d_Mo_gets_73 : decode prog_8_method_4_code 73 = .ok (.iconst 4, 1) := by decide +kernel
theorem d_Mo_gets_74 : decode prog_8_method_4_code 74 = .ok (.idiv, 1) := by decide +kernel
theorem d_Mo_gets_75 : decode prog_8_method_4_code 75 = .ok (.invokevirtual 93, 3) := by decide +kernel
theorem d_Mo_gets_78 : decode prog_8_method_4_code 78 = .ok (.ifCond .eq 21, 3) := by decide +kernel
theorem d_Mo_gets_81 : decode prog_8_method_4_code 81 = .ok (.iload 4, 2) := by decide +kernel
theorem d_Mo_gets_83 : decode prog_8_method_4_code 83 = .ok (.ifCond .ne 16, 3) := by decide +kernel
theorem d_Mo_gets_86 : decode prog_8_method_4_code 86 = .ok (.aload_n 0, 1) := by decide +kernel
theorem d_Mo_gets_87 : decode prog_8_method_4_code 87 = .ok (.getfield 64, 3) := by decide +kernel
theorem d_Mo_gets_90 : decode prog_8_method_4_code 90 = .ok (.sipush 256, 3) := by decide +kernel
theorem d_Mo_gets_93 : decode prog_8_method_4_code 93 = .ok (.iload_n 3, 1) := by decide +kernel
theorem d_Mo_gets_94 : decode prog_8_method_4_code 94 = .ok (.iadd, 1) := by decide +kernel
theorem d_Mo_gets_95 : decode prog_8_method_4_code 95 = .ok (.iaload, 1) := by decide +kernel
theorem d_Mo_gets_96 : decode prog_8_method_4_code 96 = .ok (.ifCond .ge 4, 3) := by decide +kernel
theorem d_Mo_gets_99 : decode prog_8_method_4_code 99 = .ok (.return_, 1) := by decide +kernel
theorem d_Mo_gets_100 : decode prog_8_method_4_code 100 = .ok (.aload_n 0, 1) := by decide +kernel
theorem d_Mo_gets_101 : decode prog_8_method_4_code 101 = .ok (.getfield 64, 3) := by decide +kernel
theorem d_Mo_gets_104 : decode prog_8_method_4_code 104 = .ok (.iconst 0, 1) := by decide +kernel
theorem d_Mo_gets_105 : decode prog_8_method_4_code 105 = .ok (.iload_n 1, 1) := by decide +kernel
theorem d_Mo_gets_106 : decode prog_8_method_4_code 106 = .ok (.iadd, 1) := by decide +kernel
theorem d_Mo_gets_107 : decode prog_8_method_4_code 107 = .ok (.aload_n 0, 1) := by decide +kernel
theorem d_Mo_gets_108 : decode prog_8_method_4_code 108 = .ok (.getfield 64, 3) := by decide +kernel
theorem d_Mo_gets_111 : decode prog_8_method_4_code 111 = .ok (.sipush 256, 3) := by decide +kernel
theorem d_Mo_gets_114 : decode prog_8_method_4_code 114 = .ok (.iload_n 3, 1) := by decide +kernel
theorem d_Mo_gets_115 : decode prog_8_method_4_code 115 = .ok (.iadd, 1) := by decide +kernel
theorem d_Mo_gets_116 : decode prog_8_method_4_code 116 = .ok (.iaload, 1) := by decide +kernel
theorem d_Mo_gets_117 : decode prog_8_method_4_code 117 = .ok (.iastore, 1) := by decide +kernel
theorem d_Mo_gets_118 : decode prog_8_method_4_code 118 = .ok (.aload_n 0, 1) := by decide +kernel
theorem d_Mo_gets_119 : decode prog_8_method_4_code 119 = .ok (.getfield 64, 3) := by decide +kernel
theorem d_Mo_gets_122 : decode prog_8_method_4_code 122 = .ok (.bipush 64, 2) := by decide +kernel
theorem d_Mo_gets_124 : decode prog_8_method_4_code 124 = .ok (.iload_n 1, 1) := by decide +kernel
theorem d_Mo_gets_125 : decode prog_8_method_4_code 125 = .ok (.iadd, 1) := by decide +kernel
theorem d_Mo_gets_126 : decode prog_8_method_4_code 126 = .ok (.aload_n 0, 1) := by decide +kernel
theorem d_Mo_gets_127 : decode prog_8_method_4_code 127 = .ok (.getfield 64, 3) := by decide +kernel
theorem d_Mo_gets_130 : decode prog_8_method_4_code 130 = .ok (.sipush 320, 3) := by decide +kernel
theorem d_Mo_gets_133 : decode prog_8_method_4_code 133 = .ok (.iload_n 3, 1) := by decide +kernel
theorem d_Mo_gets_134 : decode prog_8_method_4_code 134 = .ok (.iadd, 1) := by decide +kernel
theorem d_Mo_gets_135 : decode prog_8_method_4_code 135 = .ok (.iaload, 1) := by decide +kernel
theorem d_Mo_gets_136 : decode prog_8_method_4_code 136 = .ok (.iastore, 1) := by decide +kernel
theorem d_Mo_gets_137 : decode prog_8_method_4_code 137 = .ok (.aload_n 0, 1) := by decide +kernel
theorem d_Mo_gets_138 : decode prog_8_method_4_code 138 = .ok (.getfield 64, 3) := by decide +kernel
theorem d_Mo_gets_141 : decode prog_8_method_4_code 141 = .ok (.sipush 128, 3) := by decide +kernel
theorem d_Mo_gets_144 : decode prog_8_method_4_code 144 = .ok (.iload_n 1, 1) := by decide +kernel
theorem d_Mo_gets_145 : decode prog_8_method_4_code 145 = .ok (.iadd, 1) := by decide +kernel
theorem d_Mo_gets_146 : decode prog_8_method_4_code 146 = .ok (.aload_n 0, 1) := by decide +kernel
theorem d_Mo_gets_147 : decode prog_8_method_4_code 147 = .ok (.getfield 64, 3) := by decide +kernel
theorem d_Mo_gets_150 : decode prog_8_method_4_code 150 = .ok (.sipush 384, 3) := by decide +kernel
theorem d_Mo_gets_153 : decode prog_8_method_4_code 153 = .ok (.iload_n 3, 1) := by decide +kernel
theorem d_Mo_gets_154 : decode prog_8_method_4_code 154 = .ok (.iadd, 1) := by decide +kernel
theorem d_Mo_gets_155 : decode prog_8_method_4_code 155 = .ok (.iaload, 1) := by decide +kernel
theorem d_Mo_gets_156 : decode prog_8_method_4_code 156 = .ok (.iastore, 1) := by decide +kernel
theorem d_Mo_gets_157 : decode prog_8_method_4_code 157 = .ok (.aload_n 0, 1) := by decide +kernel
theorem d_Mo_gets_158 : decode prog_8_method_4_code 158 = .ok (.getfield 64, 3) := by decide +kernel
theorem d_Mo_gets_161 : decode prog_8_method_4_code 161 = .ok (.sipush 192, 3) := by decide +kernel
theorem d_Mo_gets_164 : decode prog_8_method_4_code 164 = .ok (.iload_n 1, 1) := by decide +kernel
theorem d_Mo_gets_165 : decode prog_8_method_4_code 165 = .ok (.iadd, 1) := by decide +kernel
theorem d_Mo_gets_166 : decode prog_8_method_4_code 166 = .ok (.aload_n 0, 1) := by decide +kernel
theorem d_Mo_gets_167 : decode prog_8_method_4_code 167 = .ok (.getfield 64, 3) := by decide +kernel
theorem d_Mo_gets_170 : decode prog_8_method_4_code 170 = .ok (.sipush 760, 3) := by decide +kernel
theorem d_Mo_gets_173 : decode prog_8_method_4_code 173 = .ok (.iaload, 1) := by decide +kernel
theorem d_Mo_gets_174 : decode prog_8_method_4_code 174 = .ok (.iastore, 1) := by decide +kernel
theorem d_Mo_gets_175 : decode prog_8_method_4_code 175 = .ok (.return_, 1) := by decide +kernel
theorem d_Mo_across_0 : decode prog_8_method_3_code 0 = .ok (.aload_n 0, 1) := by decide +kernel
theorem d_Mo_across_1 : decode prog_8_method_3_code 1 = .ok (.getfield 46, 3) := by decide +kernel
theorem d_Mo_across_4 : decode prog_8_method_3_code 4 = .ok (.iload_n 1, 1) := by decide +kernel
theorem d_Mo_across_5 : decode prog_8_method_3_code 5 = .ok (.iaload, 1) := by decide +kernel
theorem d_Mo_across_6 : decode prog_8_method_3_code 6 = .ok (.istore_n 2, 1) := by decide +kernel
theorem d_Mo_across_7 : decode prog_8_method_3_code 7 = .ok (.aload_n 0, 1) := by decide +kernel
theorem d_Mo_across_8 : decode prog_8_method_3_code 8 = .ok (.getfield 58, 3) := by decide +kernel
theorem d_Mo_across_11 : decode prog_8_method_3_code 11 = .ok (.iload_n 2, 1) := by decide +kernel
theorem d_Mo_across_12 : decode prog_8_method_3_code 12 = .ok (.iaload, 1) := by decide +kernel
theorem d_Mo_across_13 : decode prog_8_method_3_code 13 = .ok (.iload_n 1, 1) := by decide +kernel
theorem d_Mo_across_14 : decode prog_8_method_3_code 14 = .ok (.if_icmp .ne 12, 3) := by decide +kernel
theorem d_Mo_across_17 : decode prog_8_method_3_code 17 = .ok (.aload_n 0, 1) := by decide +kernel
theorem d_Mo_across_18 : decode prog_8_method_3_code 18 = .ok (.getfield 61, 3) := by decide +kernel
theorem d_Mo_across_21 : decode prog_8_method_3_code 21 = .ok (.iload_n 2, 1) := by decide +kernel
theorem d_Mo_across_22 : decode prog_8_method_3_code 22 = .ok (.iaload, 1) := by decide +kernel
theorem d_Mo_across_23 : decode prog_8_method_3_code 23 = .ok (.goto 9, 3) := by decide +kernel
theorem d_Mo_across_26 : decode prog_8_method_3_code 26 = .ok (.aload_n 0, 1) := by decide +kernel
theorem d_Mo_across_27 : decode prog_8_method_3_code 27 = .ok (.getfield 58, 3) := by decide +kernel
theorem d_Mo_across_30 : decode prog_8_method_3_code 30 = .ok (.iload_n 2, 1) := by decide +kernel
theorem d_Mo_across_31 : decode prog_8_method_3_code 31 = .ok (.iaload, 1) := by decide +kernel
theorem d_Mo_across_32 : decode prog_8_method_3_code 32 = .ok (.ireturn, 1) := by decide +kernel
theorem d_Mo_chooses_0 : decode prog_8_method_12_code 0 = .ok (.iconst 4, 1) := by decide +kernel
theorem d_Mo_chooses_1 : decode prog_8_method_12_code 1 = .ok (.iload_n 1, 1) := by decide +kernel
theorem d_Mo_chooses_2 : decode prog_8_method_12_code 2 = .ok (.imul, 1) := by decide +kernel
theorem d_Mo_chooses_3 : decode prog_8_method_12_code 3 = .ok (.istore_n 2, 1) := by decide +kernel
theorem d_Mo_chooses_4 : decode prog_8_method_12_code 4 = .ok (.iload_n 2, 1) := by decide +kernel
theorem d_Mo_chooses_5 : decode prog_8_method_12_code 5 = .ok (.iconst 4, 1) := by decide +kernel
theorem d_Mo_chooses_6 : decode prog_8_method_12_code 6 = .ok (.iload_n 1, 1) := by decide +kernel
theorem d_Mo_chooses_7 : decode prog_8_method_12_code 7 = .ok (.imul, 1) := by decide +kernel
theorem d_Mo_chooses_8 : decode prog_8_method_12_code 8 = .ok (.iconst 4, 1) := by decide +kernel
theorem d_Mo_chooses_9 : decode prog_8_method_12_code 9 = .ok (.iadd, 1) := by decide +kernel
theorem d_Mo_chooses_10 : decode prog_8_method_12_code 10 = .ok (.if_icmp .ge 43, 3) := by decide +kernel
theorem d_Mo_chooses_13 : decode prog_8_method_12_code 13 = .ok (.aload_n 0, 1) := by decide +kernel
theorem d_Mo_chooses_14 : decode prog_8_method_12_code 14 = .ok (.getfield 64, 3) := by decide +kernel
theorem d_Mo_chooses_17 : decode prog_8_method_12_code 17 = .ok (.sipush 448, 3) := by decide +kernel
theorem d_Mo_chooses_20 : decode prog_8_method_12_code 20 = .ok (.iload_n 2, 1) := by decide +kernel
theorem d_Mo_chooses_21 : decode prog_8_method_12_code 21 = .ok (.iadd, 1) := by decide +kernel
theorem d_Mo_chooses_22 : decode prog_8_method_12_code 22 = .ok (.aload_n 0, 1) := by decide +kernel
theorem d_Mo_chooses_23 : decode prog_8_method_12_code 23 = .ok (.iload_n 2, 1) := by decide +kernel
theorem d_Mo_chooses_24 : decode prog_8_method_12_code 24 = .ok (.invokevirtual 114, 3) := by decide +kernel
theorem d_Mo_chooses_27 : decode prog_8_method_12_code 27 = .ok (.ifCond .eq 18, 3) := by decide +kernel
theorem d_Mo_chooses_30 : decode prog_8_method_12_code 30 = .ok (.aload_n 0, 1) := by decide +kernel
theorem d_Mo_chooses_31 : decode prog_8_method_12_code 31 = .ok (.getfield 64, 3) := by decide +kernel
theorem d_Mo_chooses_34 : decode prog_8_method_12_code 34 = .ok (.sipush 448, 3) := by decide +kernel
theorem d_Mo_chooses_37 : decode prog_8_method_12_code 37 = .ok (.iload_n 2, 1) := by decide +kernel
theorem d_Mo_chooses_38 : decode prog_8_method_12_code 38 = .ok (.iadd, 1) := by decide +kernel
theorem d_Mo_chooses_39 : decode prog_8_method_12_code 39 = .ok (.iaload, 1) := by decide +kernel
theorem d_Mo_chooses_40 : decode prog_8_method_12_code 40 = .ok (.iconst 1, 1) := by decide +kernel
theorem d_Mo_chooses_41 : decode prog_8_method_12_code 41 = .ok (.iadd, 1) := by decide +kernel
theorem d_Mo_chooses_42 : decode prog_8_method_12_code 42 = .ok (.goto 4, 3) := by decide +kernel
theorem d_Mo_chooses_45 : decode prog_8_method_12_code 45 = .ok (.iconst 0, 1) := by decide +kernel
theorem d_Mo_chooses_46 : decode prog_8_method_12_code 46 = .ok (.iastore, 1) := by decide +kernel
theorem d_Mo_chooses_47 : decode prog_8_method_12_code 47 = .ok (.iinc 2 1, 3) := by decide +kernel
theorem d_Mo_chooses_50 : decode prog_8_method_12_code 50 = .ok (.goto (-46), 3) := by decide +kernel
theorem d_Mo_chooses_53 : decode prog_8_method_12_code 53 = .ok (.aload_n 0, 1) := by decide +kernel
theorem d_Mo_chooses_54 : decode prog_8_method_12_code 54 = .ok (.iload_n 1, 1) := by decide +kernel
theorem d_Mo_chooses_55 : decode prog_8_method_12_code 55 = .ok (.invokevirtual 117, 3) := by decide +kernel
theorem d_Mo_chooses_58 : decode prog_8_method_12_code 58 = .ok (.istore_n 2, 1) := by decide +kernel
theorem d_Mo_chooses_59 : decode prog_8_method_12_code 59 = .ok (.iload_n 2, 1) := by decide +kernel
theorem d_Mo_chooses_60 : decode prog_8_method_12_code 60 = .ok (.ifCond .lt 20, 3) := by decide +kernel
theorem d_Mo_chooses_63 : decode prog_8_method_12_code 63 = .ok (.aload_n 0, 1) := by decide +kernel
theorem d_Mo_chooses_64 : decode prog_8_method_12_code 64 = .ok (.getfield 64, 3) := by decide +kernel
theorem d_Mo_chooses_67 : decode prog_8_method_12_code 67 = .ok (.sipush 448, 3) := by decide +kernel
theorem d_Mo_chooses_70 : decode prog_8_method_12_code 70 = .ok (.iload_n 2, 1) := by decide +kernel
theorem d_Mo_chooses_71 : decode prog_8_method_12_code 71 = .ok (.iadd, 1) := by decide +kernel
theorem d_Mo_chooses_72 : decode prog_8_method_12_code 72 = .ok (.iaload, 1) := by decide +kernel
theorem d_Mo_chooses_73 : decode prog_8_method_12_code 73 = .ok (.ifCond .le 7, 3) := by decide +kernel
theorem d_Mo_chooses_76 : decode prog_8_method_12_code 76 = .ok (.iconst 1, 1) := by decide +kernel
theorem d_Mo_chooses_77 : decode prog_8_method_12_code 77 = .ok (.goto 4, 3) := by decide +kernel
theorem d_Mo_chooses_80 : decode prog_8_method_12_code 80 = .ok (.iconst 0, 1) := by decide +kernel
theorem d_Mo_chooses_81 : decode prog_8_method_12_code 81 = .ok (.istore_n 3, 1) := by decide +kernel
theorem d_Mo_chooses_82 : decode prog_8_method_12_code 82 = .ok (.aload_n 0, 1) := by decide +kernel
theorem d_Mo_chooses_83 : decode prog_8_method_12_code 83 = .ok (.getfield 64, 3) := by decide +kernel
theorem d_Mo_chooses_86 : decode prog_8_method_12_code 86 = .ok (.sipush 528, 3) := by decide +kernel
theorem d_Mo_chooses_89 : decode prog_8_method_12_code 89 = .ok (.iload_n 1, 1) := by decide +kernel
theorem d_Mo_chooses_90 : decode prog_8_method_12_code 90 = .ok (.iadd, 1) := by decide +kernel
theorem d_Mo_chooses_91 : decode prog_8_method_12_code 91 = .ok (.iload_n 2, 1) := by decide +kernel
theorem d_Mo_chooses_92 : decode prog_8_method_12_code 92 = .ok (.ifCond .ge 7, 3) := by decide +kernel
theorem d_Mo_chooses_95 : decode prog_8_method_12_code 95 = .ok (.iconst (-1), 1) := by decide +kernel
theorem d_Mo_chooses_96 : decode prog_8_method_12_code 96 = .ok (.goto 6, 3) := by decide +kernel
theorem d_Mo_chooses_99 : decode prog_8_method_12_code 99 = .ok (.iload_n 2, 1) := by decide +kernel
theorem d_Mo_chooses_100 : decode prog_8_method_12_code 100 = .ok (.iconst 4, 1) := by decide +kernel
theorem d_Mo_chooses_101 : decode prog_8_method_12_code 101 = .ok (.irem, 1) := by decide +kernel
theorem d_Mo_chooses_102 : decode prog_8_method_12_code 102 = .ok (.iastore, 1) := by decide +kernel
theorem d_Mo_chooses_103 : decode prog_8_method_12_code 103 = .ok (.iload_n 3, 1) := by decide +kernel
theorem d_Mo_chooses_104 : decode prog_8_method_12_code 104 = .ok (.ifCond .eq 14, 3) := by decide +kernel
theorem d_Mo_chooses_107 : decode prog_8_method_12_code 107 = .ok (.aload_n 0, 1) := by decide +kernel
theorem d_Mo_chooses_108 : decode prog_8_method_12_code 108 = .ok (.getfield 64, 3) := by decide +kernel
theorem d_Mo_chooses_111 : decode prog_8_method_12_code 111 = .ok (.sipush 544, 3) := by decide +kernel
theorem d_Mo_chooses_114 : decode prog_8_method_12_code 114 = .ok (.iload_n 1, 1) := by decide +kernel
theorem d_Mo_chooses_115 : decode prog_8_method_12_code 115 = .ok (.iadd, 1) := by decide +kernel
theorem d_Mo_chooses_116 : decode prog_8_method_12_code 116 = .ok (.iconst 1, 1) := by decide +kernel
theorem d_Mo_chooses_117 : decode prog_8_method_12_code 117 = .ok (.iastore, 1) := by decide +kernel
theorem d_Mo_chooses_118 : decode prog_8_method_12_code 118 = .ok (.aload_n 0, 1) := by decide +kernel
theorem d_Mo_chooses_119 : decode prog_8_method_12_code 119 = .ok (.getfield 64, 3) := by decide +kernel
theorem d_Mo_chooses_122 : decode prog_8_method_12_code 122 = .ok (.sipush 512, 3) := by decide +kernel
theorem d_Mo_chooses_125 : decode prog_8_method_12_code 125 = .ok (.iload_n 1, 1) := by decide +kernel
theorem d_Mo_chooses_126 : decode prog_8_method_12_code 126 = .ok (.iadd, 1) := by decide +kernel
theorem d_Mo_chooses_127 : decode prog_8_method_12_code 127 = .ok (.iload_n 3, 1) := by decide +kernel
theorem d_Mo_chooses_128 : decode prog_8_method_12_code 128 = .ok (.ifCond .eq 7, 3) := by decide +kernel
theorem d_Mo_chooses_131 : decode prog_8_method_12_code 131 = .ok (.iconst 1, 1) := by decide +kernel
theorem d_Mo_chooses_132 : decode prog_8_method_12_code 132 = .ok (.goto 22, 3) := by decide +kernel
theorem d_Mo_chooses_135 : decode prog_8_method_12_code 135 = .ok (.aload_n 0, 1) := by decide +kernel
theorem d_Mo_chooses_136 : decode prog_8_method_12_code 136 = .ok (.getfield 64, 3) := by decide +kernel
theorem d_Mo_chooses_139 : decode prog_8_method_12_code 139 = .ok (.sipush 544, 3) := by decide +kernel
theorem d_Mo_chooses_142 : decode prog_8_method_12_code 142 = .ok (.iload_n 1, 1) := by decide +kernel
theorem d_Mo_chooses_143 : decode prog_8_method_12_code 143 = .ok (.iadd, 1) := by decide +kernel
theorem d_Mo_chooses_144 : decode prog_8_method_12_code 144 = .ok (.iaload, 1) := by decide +kernel
theorem d_Mo_chooses_145 : decode prog_8_method_12_code 145 = .ok (.iconst 1, 1) := by decide +kernel
theorem d_Mo_chooses_146 : decode prog_8_method_12_code 146 = .ok (.if_icmp .ne 7, 3) := by decide +kernel
theorem d_Mo_chooses_149 : decode prog_8_method_12_code 149 = .ok (.iconst 2, 1) := by decide +kernel
theorem d_Mo_chooses_150 : decode prog_8_method_12_code 150 = .ok (.goto 4, 3) := by decide +kernel
theorem d_Mo_chooses_153 : decode prog_8_method_12_code 153 = .ok (.iconst 0, 1) := by decide +kernel
theorem d_Mo_chooses_154 : decode prog_8_method_12_code 154 = .ok (.iastore, 1) := by decide +kernel
theorem d_Mo_chooses_155 : decode prog_8_method_12_code 155 = .ok (.aload_n 0, 1) := by decide +kernel
theorem d_Mo_chooses_156 : decode prog_8_method_12_code 156 = .ok (.getfield 64, 3) := by decide +kernel
theorem d_Mo_chooses_159 : decode prog_8_method_12_code 159 = .ok (.sipush 608, 3) := by decide +kernel
theorem d_Mo_chooses_162 : decode prog_8_method_12_code 162 = .ok (.iload_n 1, 1) := by decide +kernel
theorem d_Mo_chooses_163 : decode prog_8_method_12_code 163 = .ok (.iadd, 1) := by decide +kernel
theorem d_Mo_chooses_164 : decode prog_8_method_12_code 164 = .ok (.iload_n 3, 1) := by decide +kernel
theorem d_Mo_chooses_165 : decode prog_8_method_12_code 165 = .ok (.ifCond .eq 11, 3) := by decide +kernel
theorem d_Mo_chooses_168 : decode prog_8_method_12_code 168 = .ok (.aload_n 0, 1) := by decide +kernel
theorem d_Mo_chooses_169 : decode prog_8_method_12_code 169 = .ok (.iload_n 2, 1) := by decide +kernel
theorem d_Mo_chooses_170 : decode prog_8_method_12_code 170 = .ok (.invokevirtual 103, 3) := by decide +kernel
theorem d_Mo_chooses_173 : decode prog_8_method_12_code 173 = .ok (.goto 4, 3) := by decide +kernel
theorem d_Mo_chooses_176 : decode prog_8_method_12_code 176 = .ok (.iconst (-1), 1) := by decide +kernel
theorem d_Mo_chooses_177 : decode prog_8_method_12_code 177 = .ok (.iastore, 1) := by decide +kernel
theorem d_Mo_chooses_178 : decode prog_8_method_12_code 178 = .ok (.aload_n 0, 1) := by decide +kernel
theorem d_Mo_chooses_179 : decode prog_8_method_12_code 179 = .ok (.getfield 64, 3) := by decide +kernel
theorem d_Mo_chooses_182 : decode prog_8_method_12_code 182 = .ok (.sipush 624, 3) := by decide +kernel
theorem d_Mo_chooses_185 : decode prog_8_method_12_code 185 = .ok (.iload_n 1, 1) := by decide +kernel
theorem d_Mo_chooses_186 : decode prog_8_method_12_code 186 = .ok (.iadd, 1) := by decide +kernel
theorem d_Mo_chooses_187 : decode prog_8_method_12_code 187 = .ok (.iload_n 3, 1) := by decide +kernel
theorem d_Mo_chooses_188 : decode prog_8_method_12_code 188 = .ok (.ifCond .eq 11, 3) := by decide +kernel
theorem d_Mo_chooses_191 : decode prog_8_method_12_code 191 = .ok (.aload_n 0, 1) := by decide +kernel
theorem d_Mo_chooses_192 : decode prog_8_method_12_code 192 = .ok (.iload_n 2, 1) := by decide +kernel
theorem d_Mo_chooses_193 : decode prog_8_method_12_code 193 = .ok (.invokevirtual 100, 3) := by decide +kernel
theorem d_Mo_chooses_196 : decode prog_8_method_12_code 196 = .ok (.goto 4, 3) := by decide +kernel
theorem d_Mo_chooses_199 : decode prog_8_method_12_code 199 = .ok (.iconst (-1), 1) := by decide +kernel
theorem d_Mo_chooses_200 : decode prog_8_method_12_code 200 = .ok (.iastore, 1) := by decide +kernel
theorem d_Mo_chooses_201 : decode prog_8_method_12_code 201 = .ok (.iconst 4, 1) := by decide +kernel
theorem d_Mo_chooses_202 : decode prog_8_method_12_code 202 = .ok (.iload_n 1, 1) := by decide +kernel
theorem d_Mo_chooses_203 : decode prog_8_method_12_code 203 = .ok (.imul, 1) := by decide +kernel
theorem d_Mo_chooses_204 : decode prog_8_method_12_code 204 = .ok (.istore 4, 2) := by decide +kernel
theorem d_Mo_chooses_206 : decode prog_8_method_12_code 206 = .ok (.iload 4, 2) := by decide +kernel
theorem d_Mo_chooses_208 : decode prog_8_method_12_code 208 = .ok (.iconst 4, 1) := by decide +kernel
theorem d_Mo_chooses_209 : decode prog_8_method_12_code 209 = .ok (.iload_n 1, 1) := by decide +kernel
theorem d_Mo_chooses_210 : decode prog_8_method_12_code 210 = .ok (.imul, 1) := by decide +kernel
theorem d_Mo_chooses_211 : decode prog_8_method_12_code 211 = .ok (.iconst 4, 1) := by decide +kernel
theorem d_Mo_chooses_212 : decode prog_8_method_12_code 212 = .ok (.iadd, 1) := by decide +kernel
theorem d_Mo_chooses_213 : decode prog_8_method_12_code 213 = .ok (.if_icmp .ge 152, 3) := by decide +kernel
theorem d_Mo_chooses_216 : decode prog_8_method_12_code 216 = .ok (.iload 4, 2) := by decide +kernel
theorem d_Mo_chooses_218 : decode prog_8_method_12_code 218 = .ok (.iload_n 2, 1) := by decide +kernel
theorem d_Mo_chooses_219 : decode prog_8_method_12_code 219 = .ok (.if_icmp .eq 7, 3) := by decide +kernel
theorem d_Mo_chooses_222 : decode prog_8_method_12_code 222 = .ok (.iload_n 3, 1) := by decide +kernel
theorem d_Mo_chooses_223 : decode prog_8_method_12_code 223 = .ok (.ifCond .ne 7, 3) := by decide +kernel
theorem d_Mo_chooses_226 : decode prog_8_method_12_code 226 = .ok (.iconst 1, 1) := by decide +kernel
theorem d_Mo_chooses_227 : decode prog_8_method_12_code 227 = .ok (.goto 4, 3) := by decide +kernel
theorem d_Mo_chooses_230 : decode prog_8_method_12_code 230 = .ok (.iconst 0, 1) := by decide +kernel
theorem d_Mo_chooses_231 : decode prog_8_method_12_code 231 = .ok (.istore 5, 2) := by decide +kernel
theorem d_Mo_chooses_233 : decode prog_8_method_12_code 233 = .ok (.aload_n 0, 1) := by decide +kernel
theorem d_Mo_chooses_234 : decode prog_8_method_12_code 234 = .ok (.getfield 77, 3) := by decide +kernel
theorem d_Mo_chooses_237 : decode prog_8_method_12_code 237 = .ok (.iload 4, 2) := by decide +kernel
theorem d_Mo_chooses_239 : decode prog_8_method_12_code 239 = .ok (.aload_n 0, 1) := by decide +kernel
theorem d_Mo_chooses_240 : decode prog_8_method_12_code 240 = .ok (.getfield 46, 3) := by decide +kernel
theorem d_Mo_chooses_243 : decode prog_8_method_12_code 243 = .ok (.iload 4, 2) := by decide +kernel
theorem d_Mo_chooses_245 : decode prog_8_method_12_code 245 = .ok (.iaload, 1) := by decide +kernel
theorem d_Mo_chooses_246 : decode prog_8_method_12_code 246 = .ok (.ifCond .ge 7, 3) := by decide +kernel
theorem d_Mo_chooses_249 : decode prog_8_method_12_code 249 = .ok (.iconst (-1), 1) := by decide +kernel
theorem d_Mo_chooses_250 : decode prog_8_method_12_code 250 = .ok (.goto 35, 3) := by decide +kernel
theorem d_Mo_chooses_253 : decode prog_8_method_12_code 253 = .ok (.iload 4, 2) := by decide +kernel
theorem d_Mo_chooses_255 : decode prog_8_method_12_code 255 = .ok (.iload_n 2, 1) := by decide +kernel
theorem d_Mo_chooses_256 : decode prog_8_method_12_code 256 = .ok (.if_icmp .ne 8, 3) := by decide +kernel
theorem d_Mo_chooses_259 : decode prog_8_method_12_code 259 = .ok (.bipush 7, 2) := by decide +kernel
theorem d_Mo_chooses_261 : decode prog_8_method_12_code 261 = .ok (.goto 24, 3) := by decide +kernel
theorem d_Mo_chooses_264 : decode prog_8_method_12_code 264 = .ok (.iload_n 3, 1) := by decide +kernel
theorem d_Mo_chooses_265 : decode prog_8_method_12_code 265 = .ok (.ifCond .eq 11, 3) := by decide +kernel
theorem d_Mo_chooses_268 : decode prog_8_method_12_code 268 = .ok (.aload_n 0, 1) := by decide +kernel
theorem d_Mo_chooses_269 : decode prog_8_method_12_code 269 = .ok (.iload_n 2, 1) := by decide +kernel
theorem d_Mo_chooses_270 : decode prog_8_method_12_code 270 = .ok (.invokevirtual 100, 3) := by decide +kernel
theorem d_Mo_chooses_273 : decode prog_8_method_12_code 273 = .ok (.goto 12, 3) := by decide +kernel
theorem d_Mo_chooses_276 : decode prog_8_method_12_code 276 = .ok (.bipush 8, 2) := by decide +kernel
theorem d_Mo_chooses_278 : decode prog_8_method_12_code 278 = .ok (.aload_n 0, 1) := by decide +kernel
theorem d_Mo_chooses_279 : decode prog_8_method_12_code 279 = .ok (.getfield 21, 3) := by decide +kernel
theorem d_Mo_chooses_282 : decode prog_8_method_12_code 282 = .ok (.iload_n 1, 1) := by decide +kernel
theorem d_Mo_chooses_283 : decode prog_8_method_12_code 283 = .ok (.iaload, 1) := by decide +kernel
theorem d_Mo_chooses_284 : decode prog_8_method_12_code 284 = .ok (.iadd, 1) := by decide +kernel
theorem d_Mo_chooses_285 : decode prog_8_method_12_code 285 = .ok (.iastore, 1) := by decide +kernel
theorem d_Mo_chooses_286 : decode prog_8_method_12_code 286 = .ok (.aload_n 0, 1) := by decide +kernel
theorem d_Mo_chooses_287 : decode prog_8_method_12_code 287 = .ok (.getfield 77, 3) := by decide +kernel
theorem d_Mo_chooses_290 : decode prog_8_method_12_code 290 = .ok (.bipush 64, 2) := by decide +kernel
theorem d_Mo_chooses_292 : decode prog_8_method_12_code 292 = .ok (.iload 4, 2) := by decide +kernel
theorem d_Mo_chooses_294 : decode prog_8_method_12_code 294 = .ok (.iadd, 1) := by decide +kernel
theorem d_Mo_chooses_295 : decode prog_8_method_12_code 295 = .ok (.iload 5, 2) := by decide +kernel
theorem d_Mo_chooses_297 : decode prog_8_method_12_code 297 = .ok (.ifCond .eq 7, 3) := by decide +kernel
theorem d_Mo_chooses_300 : decode prog_8_method_12_code 300 = .ok (.iconst 0, 1) := by decide +kernel
theorem d_Mo_chooses_301 : decode prog_8_method_12_code 301 = .ok (.goto 10, 3) := by decide +kernel
theorem d_Mo_chooses_304 : decode prog_8_method_12_code 304 = .ok (.aload_n 0, 1) := by decide +kernel
theorem d_Mo_chooses_305 : decode prog_8_method_12_code 305 = .ok (.iload_n 2, 1) := by decide +kernel
theorem d_Mo_chooses_306 : decode prog_8_method_12_code 306 = .ok (.invokevirtual 103, 3) := by decide +kernel
theorem d_Mo_chooses_309 : decode prog_8_method_12_code 309 = .ok (.iconst 1, 1) := by decide +kernel
theorem d_Mo_chooses_310 : decode prog_8_method_12_code 310 = .ok (.iadd, 1) := by decide +kernel
theorem d_Mo_chooses_311 : decode prog_8_method_12_code 311 = .ok (.iastore, 1) := by decide +kernel
theorem d_Mo_chooses_312 : decode prog_8_method_12_code 312 = .ok (.aload_n 0, 1) := by decide +kernel
theorem d_Mo_chooses_313 : decode prog_8_method_12_code 313 = .ok (.getfield 77, 3) := by decide +kernel
theorem d_Mo_chooses_316 : decode prog_8_method_12_code 316 = .ok (.sipush 128, 3) := by decide +kernel
theorem d_Mo_chooses_319 : decode prog_8_method_12_code 319 = .ok (.iload 4, 2) := by decide +kernel
theorem d_Mo_chooses_321 : decode prog_8_method_12_code 321 = .ok (.iadd, 1) := by decide +kernel
theorem d_Mo_chooses_322 : decode prog_8_method_12_code 322 = .ok (.iload 5, 2) := by decide +kernel
theorem d_Mo_chooses_324 : decode prog_8_method_12_code 324 = .ok (.ifCond .eq 7, 3) := by decide +kernel
theorem d_Mo_chooses_327 : decode prog_8_method_12_code 327 = .ok (.iconst 0, 1) := by decide +kernel
theorem d_Mo_chooses_328 : decode prog_8_method_12_code 328 = .ok (.goto 30, 3) := by decide +kernel
theorem d_Mo_chooses_331 : decode prog_8_method_12_code 331 = .ok (.aload_n 0, 1) := by decide +kernel
theorem d_Mo_chooses_332 : decode prog_8_method_12_code 332 = .ok (.getfield 40, 3) := by decide +kernel
theorem d_Mo_chooses_335 : decode prog_8_method_12_code 335 = .ok (.iload_n 2, 1) := by decide +kernel
theorem d_Mo_chooses_336 : decode prog_8_method_12_code 336 = .ok (.iaload, 1) := by decide +kernel
theorem d_Mo_chooses_337 : decode prog_8_method_12_code 337 = .ok (.ifCond .lt 7, 3) := by decide +kernel
theorem d_Mo_chooses_340 : decode prog_8_method_12_code 340 = .ok (.iconst 0, 1) := by decide +kernel
theorem d_Mo_chooses_341 : decode prog_8_method_12_code 341 = .ok (.goto 13, 3) := by decide +kernel
theorem d_Mo_chooses_344 : decode prog_8_method_12_code 344 = .ok (.aload_n 0, 1) := by decide +kernel
theorem d_Mo_chooses_345 : decode prog_8_method_12_code 345 = .ok (.getfield 64, 3) := by decide +kernel
theorem d_Mo_chooses_348 : decode prog_8_method_12_code 348 = .ok (.sipush 128, 3) := by decide +kernel
theorem d_Mo_chooses_351 : decode prog_8_method_12_code 351 = .ok (.iload_n 2, 1) := by decide +kernel
theorem d_Mo_chooses_352 : decode prog_8_method_12_code 352 = .ok (.iadd, 1) := by decide +kernel
theorem d_Mo_chooses_353 : decode prog_8_method_12_code 353 = .ok (.iaload, 1) := by decide +kernel
theorem d_Mo_chooses_354 : decode prog_8_method_12_code 354 = .ok (.iconst 1, 1) := by decide +kernel
theorem d_Mo_chooses_355 : decode prog_8_method_12_code 355 = .ok (.iload_n 1, 1) := by decide +kernel
theorem d_Mo_chooses_356 : decode prog_8_method_12_code 356 = .ok (.ishl, 1) := by decide +kernel
theorem d_Mo_chooses_357 : decode prog_8_method_12_code 357 = .ok (.ior, 1) := by decide +kernel
theorem d_Mo_chooses_358 : decode prog_8_method_12_code 358 = .ok (.iastore, 1) := by decide +kernel
theorem d_Mo_chooses_359 : decode prog_8_method_12_code 359 = .ok (.iinc 4 1, 3) := by decide +kernel
theorem d_Mo_chooses_362 : decode prog_8_method_12_code 362 = .ok (.goto (-156), 3) := by decide +kernel
theorem d_Mo_chooses_365 : decode prog_8_method_12_code 365 = .ok (.iload_n 3, 1) := by decide +kernel
theorem d_Mo_chooses_366 : decode prog_8_method_12_code 366 = .ok (.ifCond .eq 50, 3) := by decide +kernel
theorem d_Mo_chooses_369 : decode prog_8_method_12_code 369 = .ok (.aload_n 0, 1) := by decide +kernel
theorem d_Mo_chooses_370 : decode prog_8_method_12_code 370 = .ok (.getfield 64, 3) := by decide +kernel
theorem d_Mo_chooses_373 : decode prog_8_method_12_code 373 = .ok (.sipush 560, 3) := by decide +kernel
theorem d_Mo_chooses_376 : decode prog_8_method_12_code 376 = .ok (.iload_n 1, 1) := by decide +kernel
theorem d_Mo_chooses_377 : decode prog_8_method_12_code 377 = .ok (.iadd, 1) := by decide +kernel
theorem d_Mo_chooses_378 : decode prog_8_method_12_code 378 = .ok (.aload_n 0, 1) := by decide +kernel
theorem d_Mo_chooses_379 : decode prog_8_method_12_code 379 = .ok (.getfield 40, 3) := by decide +kernel
theorem d_Mo_chooses_382 : decode prog_8_method_12_code 382 = .ok (.iload_n 2, 1) := by decide +kernel
theorem d_Mo_chooses_383 : decode prog_8_method_12_code 383 = .ok (.iaload, 1) := by decide +kernel
theorem d_Mo_chooses_384 : decode prog_8_method_12_code 384 = .ok (.ifCond .lt 12, 3) := by decide +kernel
theorem d_Mo_chooses_387 : decode prog_8_method_12_code 387 = .ok (.aload_n 0, 1) := by decide +kernel
theorem d_Mo_chooses_388 : decode prog_8_method_12_code 388 = .ok (.getfield 43, 3) := by decide +kernel
theorem d_Mo_chooses_391 : decode prog_8_method_12_code 391 = .ok (.iload_n 2, 1) := by decide +kernel
theorem d_Mo_chooses_392 : decode prog_8_method_12_code 392 = .ok (.iaload, 1) := by decide +kernel
theorem d_Mo_chooses_393 : decode prog_8_method_12_code 393 = .ok (.goto 19, 3) := by decide +kernel
theorem d_Mo_chooses_396 : decode prog_8_method_12_code 396 = .ok (.aload_n 0, 1) := by decide +kernel
theorem d_Mo_chooses_397 : decode prog_8_method_12_code 397 = .ok (.getfield 64, 3) := by decide +kernel
theorem d_Mo_chooses_400 : decode prog_8_method_12_code 400 = .ok (.sipush 592, 3) := by decide +kernel
theorem d_Mo_chooses_403 : decode prog_8_method_12_code 403 = .ok (.aload_n 0, 1) := by decide +kernel
theorem d_Mo_chooses_404 : decode prog_8_method_12_code 404 = .ok (.iload_n 2, 1) := by decide +kernel
theorem d_Mo_chooses_405 : decode prog_8_method_12_code 405 = .ok (.invokevirtual 89, 3) := by decide +kernel
theorem d_Mo_chooses_408 : decode prog_8_method_12_code 408 = .ok (.iconst 4, 1) := by decide +kernel
theorem d_Mo_chooses_409 : decode prog_8_method_12_code 409 = .ok (.idiv, 1) := by decide +kernel
theorem d_Mo_chooses_410 : decode prog_8_method_12_code 410 = .ok (.iadd, 1) := by decide +kernel
theorem d_Mo_chooses_411 : decode prog_8_method_12_code 411 = .ok (.iaload, 1) := by decide +kernel
theorem d_Mo_chooses_412 : decode prog_8_method_12_code 412 = .ok (.iastore, 1) := by decide +kernel
theorem d_Mo_chooses_413 : decode prog_8_method_12_code 413 = .ok (.goto 63, 3) := by decide +kernel
theorem d_Mo_chooses_416 : decode prog_8_method_12_code 416 = .ok (.aload_n 0, 1) := by decide +kernel
theorem d_Mo_chooses_417 : decode prog_8_method_12_code 417 = .ok (.getfield 64, 3) := by decide +kernel
theorem d_Mo_chooses_420 : decode prog_8_method_12_code 420 = .ok (.sipush 512, 3) := by decide +kernel
theorem d_Mo_chooses_423 : decode prog_8_method_12_code 423 = .ok (.iload_n 1, 1) := by decide +kernel
theorem d_Mo_chooses_424 : decode prog_8_method_12_code 424 = .ok (.iadd, 1) := by decide +kernel
theorem d_Mo_chooses_425 : decode prog_8_method_12_code 425 = .ok (.iaload, 1) := by decide +kernel
theorem d_Mo_chooses_426 : decode prog_8_method_12_code 426 = .ok (.iconst 2, 1) := by decide +kernel
theorem d_Mo_chooses_427 : decode prog_8_method_12_code 427 = .ok (.if_icmp .ne 33, 3) := by decide +kernel
theorem d_Mo_chooses_430 : decode prog_8_method_12_code 430 = .ok (.aload_n 0, 1) := by decide +kernel
theorem d_Mo_chooses_431 : decode prog_8_method_12_code 431 = .ok (.getfield 64, 3) := by decide +kernel
theorem d_Mo_chooses_434 : decode prog_8_method_12_code 434 = .ok (.sipush 560, 3) := by decide +kernel
theorem d_Mo_chooses_437 : decode prog_8_method_12_code 437 = .ok (.iload_n 1, 1) := by decide +kernel
theorem d_Mo_chooses_438 : decode prog_8_method_12_code 438 = .ok (.iadd, 1) := by decide +kernel
theorem d_Mo_chooses_439 : decode prog_8_method_12_code 439 = .ok (.aload_n 0, 1) := by decide +kernel
theorem d_Mo_chooses_440 : decode prog_8_method_12_code 440 = .ok (.getfield 64, 3) := by decide +kernel
theorem d_Mo_chooses_443 : decode prog_8_method_12_code 443 = .ok (.sipush 560, 3) := by decide +kernel
theorem d_Mo_chooses_446 : decode prog_8_method_12_code 446 = .ok (.iload_n 1, 1) := by decide +kernel
theorem d_Mo_chooses_447 : decode prog_8_method_12_code 447 = .ok (.iadd, 1) := by decide +kernel
theorem d_Mo_chooses_448 : decode prog_8_method_12_code 448 = .ok (.iaload, 1) := by decide +kernel
theorem d_Mo_chooses_449 : decode prog_8_method_12_code 449 = .ok (.aload_n 0, 1) := by decide +kernel
theorem d_Mo_chooses_450 : decode prog_8_method_12_code 450 = .ok (.getfield 28, 3) := by decide +kernel
theorem d_Mo_chooses_453 : decode prog_8_method_12_code 453 = .ok (.iload_n 1, 1) := by decide +kernel
theorem d_Mo_chooses_454 : decode prog_8_method_12_code 454 = .ok (.iaload, 1) := by decide +kernel
theorem d_Mo_chooses_455 : decode prog_8_method_12_code 455 = .ok (.iadd, 1) := by decide +kernel
theorem d_Mo_chooses_456 : decode prog_8_method_12_code 456 = .ok (.iastore, 1) := by decide +kernel
theorem d_Mo_chooses_457 : decode prog_8_method_12_code 457 = .ok (.goto 19, 3) := by decide +kernel
theorem d_Mo_chooses_460 : decode prog_8_method_12_code 460 = .ok (.aload_n 0, 1) := by decide +kernel
theorem d_Mo_chooses_461 : decode prog_8_method_12_code 461 = .ok (.getfield 64, 3) := by decide +kernel
theorem d_Mo_chooses_464 : decode prog_8_method_12_code 464 = .ok (.sipush 560, 3) := by decide +kernel
theorem d_Mo_chooses_467 : decode prog_8_method_12_code 467 = .ok (.iload_n 1, 1) := by decide +kernel
theorem d_Mo_chooses_468 : decode prog_8_method_12_code 468 = .ok (.iadd, 1) := by decide +kernel
theorem d_Mo_chooses_469 : decode prog_8_method_12_code 469 = .ok (.aload_n 0, 1) := by decide +kernel
theorem d_Mo_chooses_470 : decode prog_8_method_12_code 470 = .ok (.getfield 25, 3) := by decide +kernel
theorem d_Mo_chooses_473 : decode prog_8_method_12_code 473 = .ok (.iload_n 1, 1) := by decide +kernel
theorem d_Mo_chooses_474 : decode prog_8_method_12_code 474 = .ok (.iaload, 1) := by decide +kernel
theorem d_Mo_chooses_475 : decode prog_8_method_12_code 475 = .ok (.iastore, 1) := by decide +kernel
theorem d_Mo_chooses_476 : decode prog_8_method_12_code 476 = .ok (.return_, 1) := by decide +kernel
theorem d_Mo_usable_0 : decode prog_8_method_6_code 0 = .ok (.aload_n 0, 1) := by decide +kernel
theorem d_Mo_usable_1 : decode prog_8_method_6_code 1 = .ok (.getfield 52, 3) := by decide +kernel
theorem d_Mo_usable_4 : decode prog_8_method_6_code 4 = .ok (.iload_n 1, 1) := by decide +kernel
theorem d_Mo_usable_5 : decode prog_8_method_6_code 5 = .ok (.baload, 1) := by decide +kernel
theorem d_Mo_usable_6 : decode prog_8_method_6_code 6 = .ok (.ifCond .eq 5, 3) := by decide +kernel
theorem d_Mo_usable_9 : decode prog_8_method_6_code 9 = .ok (.iconst 0, 1) := by decide +kernel
theorem d_Mo_usable_10 : decode prog_8_method_6_code 10 = .ok (.ireturn, 1) := by decide +kernel
theorem d_Mo_usable_11 : decode prog_8_method_6_code 11 = .ok (.aload_n 0, 1) := by decide +kernel
theorem d_Mo_usable_12 : decode prog_8_method_6_code 12 = .ok (.getfield 40, 3) := by decide +kernel
theorem d_Mo_usable_15 : decode prog_8_method_6_code 15 = .ok (.iload_n 1, 1) := by decide +kernel
theorem d_Mo_usable_16 : decode prog_8_method_6_code 16 = .ok (.iaload, 1) := by decide +kernel
theorem d_Mo_usable_17 : decode prog_8_method_6_code 17 = .ok (.ifCond .lt 5, 3) := by decide +kernel
theorem d_Mo_usable_20 : decode prog_8_method_6_code 20 = .ok (.iconst 1, 1) := by decide +kernel
theorem d_Mo_usable_21 : decode prog_8_method_6_code 21 = .ok (.ireturn, 1) := by decide +kernel
theorem d_Mo_usable_22 : decode prog_8_method_6_code 22 = .ok (.aload_n 0, 1) := by decide +kernel
theorem d_Mo_usable_23 : decode prog_8_method_6_code 23 = .ok (.getfield 13, 3) := by decide +kernel
theorem d_Mo_usable_26 : decode prog_8_method_6_code 26 = .ok (.ifCond .eq 27, 3) := by decide +kernel
theorem d_Mo_usable_29 : decode prog_8_method_6_code 29 = .ok (.aload_n 0, 1) := by decide +kernel
theorem d_Mo_usable_30 : decode prog_8_method_6_code 30 = .ok (.getfield 64, 3) := by decide +kernel
theorem d_Mo_usable_33 : decode prog_8_method_6_code 33 = .ok (.sipush 128, 3) := by decide +kernel
theorem d_Mo_usable_36 : decode prog_8_method_6_code 36 = .ok (.iload_n 1, 1) := by decide +kernel
theorem d_Mo_usable_37 : decode prog_8_method_6_code 37 = .ok (.iadd, 1) := by decide +kernel
theorem d_Mo_usable_38 : decode prog_8_method_6_code 38 = .ok (.iaload, 1) := by decide +kernel
theorem d_Mo_usable_39 : decode prog_8_method_6_code 39 = .ok (.iload_n 1, 1) := by decide +kernel
theorem d_Mo_usable_40 : decode prog_8_method_6_code 40 = .ok (.iconst 4, 1) := by decide +kernel
theorem d_Mo_usable_41 : decode prog_8_method_6_code 41 = .ok (.idiv, 1) := by decide +kernel
theorem d_Mo_usable_42 : decode prog_8_method_6_code 42 = .ok (.ishr, 1) := by decide +kernel
theorem d_Mo_usable_43 : decode prog_8_method_6_code 43 = .ok (.iconst 1, 1) := by decide +kernel
theorem d_Mo_usable_44 : decode prog_8_method_6_code 44 = .ok (.iand, 1) := by decide +kernel
theorem d_Mo_usable_45 : decode prog_8_method_6_code 45 = .ok (.iconst 1, 1) := by decide +kernel
theorem d_Mo_usable_46 : decode prog_8_method_6_code 46 = .ok (.if_icmp .ne 7, 3) := by decide +kernel
theorem d_Mo_usable_49 : decode prog_8_method_6_code 49 = .ok (.iconst 1, 1) := by decide +kernel
theorem d_Mo_usable_50 : decode prog_8_method_6_code 50 = .ok (.goto 4, 3) := by decide +kernel
theorem d_Mo_usable_53 : decode prog_8_method_6_code 53 = .ok (.iconst 0, 1) := by decide +kernel
theorem d_Mo_usable_54 : decode prog_8_method_6_code 54 = .ok (.istore_n 2, 1) := by decide +kernel
theorem d_Mo_usable_55 : decode prog_8_method_6_code 55 = .ok (.aload_n 0, 1) := by decide +kernel
theorem d_Mo_usable_56 : decode prog_8_method_6_code 56 = .ok (.iload_n 1, 1) := by decide +kernel
theorem d_Mo_usable_57 : decode prog_8_method_6_code 57 = .ok (.invokevirtual 97, 3) := by decide +kernel
theorem d_Mo_usable_60 : decode prog_8_method_6_code 60 = .ok (.ifCond .eq 24, 3) := by decide +kernel
theorem d_Mo_usable_63 : decode prog_8_method_6_code 63 = .ok (.aload_n 0, 1) := by decide +kernel
theorem d_Mo_usable_64 : decode prog_8_method_6_code 64 = .ok (.getfield 64, 3) := by decide +kernel
theorem d_Mo_usable_67 : decode prog_8_method_6_code 67 = .ok (.iconst 0, 1) := by decide +kernel
theorem d_Mo_usable_68 : decode prog_8_method_6_code 68 = .ok (.iload_n 1, 1) := by decide +kernel
theorem d_Mo_usable_69 : decode prog_8_method_6_code 69 = .ok (.iadd, 1) := by decide +kernel
theorem d_Mo_usable_70 : decode prog_8_method_6_code 70 = .ok (.iaload, 1) := by decide +kernel
theorem d_Mo_usable_71 : decode prog_8_method_6_code 71 = .ok (.bipush 7, 2) := by decide +kernel
theorem d_Mo_usable_73 : decode prog_8_method_6_code 73 = .ok (.if_icmp .ge 11, 3) := by decide +kernel
theorem d_Mo_usable_76 : decode prog_8_method_6_code 76 = .ok (.iload_n 2, 1) := by decide +kernel
theorem d_Mo_usable_77 : decode prog_8_method_6_code 77 = .ok (.ifCond .ne 7, 3) := by decide +kernel
theorem d_Mo_usable_80 : decode prog_8_method_6_code 80 = .ok (.iconst 1, 1) := by decide +kernel
theorem d_Mo_usable_81 : decode prog_8_method_6_code 81 = .ok (.goto 4, 3) := by decide +kernel
theorem d_Mo_usable_84 : decode prog_8_method_6_code 84 = .ok (.iconst 0, 1) := by decide +kernel
theorem d_Mo_usable_85 : decode prog_8_method_6_code 85 = .ok (.ireturn, 1) := by decide +kernel
theorem d_Mo_hasWord_0 : decode prog_8_method_5_code 0 = .ok (.aload_n 0, 1) := by decide +kernel
theorem d_Mo_hasWord_1 : decode prog_8_method_5_code 1 = .ok (.getfield 46, 3) := by decide +kernel
theorem d_Mo_hasWord_4 : decode prog_8_method_5_code 4 = .ok (.iload_n 1, 1) := by decide +kernel
theorem d_Mo_hasWord_5 : decode prog_8_method_5_code 5 = .ok (.iaload, 1) := by decide +kernel
theorem d_Mo_hasWord_6 : decode prog_8_method_5_code 6 = .ok (.ifCond .lt 41, 3) := by decide +kernel
theorem d_Mo_hasWord_9 : decode prog_8_method_5_code 9 = .ok (.aload_n 0, 1) := by decide +kernel
theorem d_Mo_hasWord_10 : decode prog_8_method_5_code 10 = .ok (.getfield 64, 3) := by decide +kernel
theorem d_Mo_hasWord_13 : decode prog_8_method_5_code 13 = .ok (.iconst 0, 1) := by decide +kernel
theorem d_Mo_hasWord_14 : decode prog_8_method_5_code 14 = .ok (.iload_n 1, 1) := by decide +kernel
theorem d_Mo_hasWord_15 : decode prog_8_method_5_code 15 = .ok (.iadd, 1) := by decide +kernel
theorem d_Mo_hasWord_16 : decode prog_8_method_5_code 16 = .ok (.iaload, 1) := by decide +kernel
theorem d_Mo_hasWord_17 : decode prog_8_method_5_code 17 = .ok (.ifCond .lt 30, 3) := by decide +kernel
theorem d_Mo_hasWord_20 : decode prog_8_method_5_code 20 = .ok (.aload_n 0, 1) := by decide +kernel
theorem d_Mo_hasWord_21 : decode prog_8_method_5_code 21 = .ok (.getfield 64, 3) := by decide +kernel
theorem d_Mo_hasWord_24 : decode prog_8_method_5_code 24 = .ok (.sipush 760, 3) := by decide +kernel
theorem d_Mo_hasWord_27 : decode prog_8_method_5_code 27 = .ok (.iaload, 1) := by decide +kernel
theorem d_Mo_hasWord_28 : decode prog_8_method_5_code 28 = .ok (.aload_n 0, 1) := by decide +kernel
theorem d_Mo_hasWord_29 : decode prog_8_method_5_code 29 = .ok (.getfield 64, 3) := by decide +kernel
theorem d_Mo_hasWord_32 : decode prog_8_method_5_code 32 = .ok (.sipush 192, 3) := by decide +kernel
theorem d_Mo_hasWord_35 : decode prog_8_method_5_code 35 = .ok (.iload_n 1, 1) := by decide +kernel
theorem d_Mo_hasWord_36 : decode prog_8_method_5_code 36 = .ok (.iadd, 1) := by decide +kernel
theorem d_Mo_hasWord_37 : decode prog_8_method_5_code 37 = .ok (.iaload, 1) := by decide +kernel
theorem d_Mo_hasWord_38 : decode prog_8_method_5_code 38 = .ok (.isub, 1) := by decide +kernel
theorem d_Mo_hasWord_39 : decode prog_8_method_5_code 39 = .ok (.iconst 3, 1) := by decide +kernel
theorem d_Mo_hasWord_40 : decode prog_8_method_5_code 40 = .ok (.if_icmp .ge 7, 3) := by decide +kernel
theorem d_Mo_hasWord_43 : decode prog_8_method_5_code 43 = .ok (.iconst 1, 1) := by decide +kernel
theorem d_Mo_hasWord_44 : decode prog_8_method_5_code 44 = .ok (.goto 4, 3) := by decide +kernel
theorem d_Mo_hasWord_47 : decode prog_8_method_5_code 47 = .ok (.iconst 0, 1) := by decide +kernel
theorem d_Mo_hasWord_48 : decode prog_8_method_5_code 48 = .ok (.ireturn, 1) := by decide +kernel
theorem d_Mo_choice_0 : decode prog_8_method_11_code 0 = .ok (.aload_n 0, 1) := by decide +kernel
theorem d_Mo_choice_1 : decode prog_8_method_11_code 1 = .ok (.getfield 34, 3) := by decide +kernel
theorem d_Mo_choice_4 : decode prog_8_method_11_code 4 = .ok (.iload_n 1, 1) := by decide +kernel
theorem d_Mo_choice_5 : decode prog_8_method_11_code 5 = .ok (.iaload, 1) := by decide +kernel
theorem d_Mo_choice_6 : decode prog_8_method_11_code 6 = .ok (.ifCond .lt 14, 3) := by decide +kernel
theorem d_Mo_choice_9 : decode prog_8_method_11_code 9 = .ok (.iconst 4, 1) := by decide +kernel
theorem d_Mo_choice_10 : decode prog_8_method_11_code 10 = .ok (.iload_n 1, 1) := by decide +kernel
theorem d_Mo_choice_11 : decode prog_8_method_11_code 11 = .ok (.imul, 1) := by decide +kernel
theorem d_Mo_choice_12 : decode prog_8_method_11_code 12 = .ok (.aload_n 0, 1) := by decide +kernel
theorem d_Mo_choice_13 : decode prog_8_method_11_code 13 = .ok (.getfield 34, 3) := by decide +kernel
theorem d_Mo_choice_16 : decode prog_8_method_11_code 16 = .ok (.iload_n 1, 1) := by decide +kernel
theorem d_Mo_choice_17 : decode prog_8_method_11_code 17 = .ok (.iaload, 1) := by decide +kernel
theorem d_Mo_choice_18 : decode prog_8_method_11_code 18 = .ok (.iadd, 1) := by decide +kernel
theorem d_Mo_choice_19 : decode prog_8_method_11_code 19 = .ok (.ireturn, 1) := by decide +kernel
theorem d_Mo_choice_20 : decode prog_8_method_11_code 20 = .ok (.aload_n 0, 1) := by decide +kernel
theorem d_Mo_choice_21 : decode prog_8_method_11_code 21 = .ok (.getfield 37, 3) := by decide +kernel
theorem d_Mo_choice_24 : decode prog_8_method_11_code 24 = .ok (.iload_n 1, 1) := by decide +kernel
theorem d_Mo_choice_25 : decode prog_8_method_11_code 25 = .ok (.iaload, 1) := by decide +kernel
theorem d_Mo_choice_26 : decode prog_8_method_11_code 26 = .ok (.ifCond .lt 36, 3) := by decide +kernel
theorem d_Mo_choice_29 : decode prog_8_method_11_code 29 = .ok (.aload_n 0, 1) := by decide +kernel
theorem d_Mo_choice_30 : decode prog_8_method_11_code 30 = .ok (.getfield 64, 3) := by decide +kernel
theorem d_Mo_choice_33 : decode prog_8_method_11_code 33 = .ok (.sipush 448, 3) := by decide +kernel
theorem d_Mo_choice_36 : decode prog_8_method_11_code 36 = .ok (.iconst 4, 1) := by decide +kernel
theorem d_Mo_choice_37 : decode prog_8_method_11_code 37 = .ok (.iload_n 1, 1) := by decide +kernel
theorem d_Mo_choice_38 : decode prog_8_method_11_code 38 = .ok (.imul, 1) := by decide +kernel
theorem d_Mo_choice_39 : decode prog_8_method_11_code 39 = .ok (.iadd, 1) := by decide +kernel
theorem d_Mo_choice_40 : decode prog_8_method_11_code 40 = .ok (.aload_n 0, 1) := by decide +kernel
theorem d_Mo_choice_41 : decode prog_8_method_11_code 41 = .ok (.getfield 37, 3) := by decide +kernel
theorem d_Mo_choice_44 : decode prog_8_method_11_code 44 = .ok (.iload_n 1, 1) := by decide +kernel
theorem d_Mo_choice_45 : decode prog_8_method_11_code 45 = .ok (.iaload, 1) := by decide +kernel
theorem d_Mo_choice_46 : decode prog_8_method_11_code 46 = .ok (.iadd, 1) := by decide +kernel
theorem d_Mo_choice_47 : decode prog_8_method_11_code 47 = .ok (.iaload, 1) := by decide +kernel
theorem d_Mo_choice_48 : decode prog_8_method_11_code 48 = .ok (.ifCond .le 14, 3) := by decide +kernel
theorem d_Mo_choice_51 : decode prog_8_method_11_code 51 = .ok (.iconst 4, 1) := by decide +kernel
theorem d_Mo_choice_52 : decode prog_8_method_11_code 52 = .ok (.iload_n 1, 1) := by decide +kernel
theorem d_Mo_choice_53 : decode prog_8_method_11_code 53 = .ok (.imul, 1) := by decide +kernel
theorem d_Mo_choice_54 : decode prog_8_method_11_code 54 = .ok (.aload_n 0, 1) := by decide +kernel
theorem d_Mo_choice_55 : decode prog_8_method_11_code 55 = .ok (.getfield 37, 3) := by decide +kernel
theorem d_Mo_choice_58 : decode prog_8_method_11_code 58 = .ok (.iload_n 1, 1) := by decide +kernel
theorem d_Mo_choice_59 : decode prog_8_method_11_code 59 = .ok (.iaload, 1) := by decide +kernel
theorem d_Mo_choice_60 : decode prog_8_method_11_code 60 = .ok (.iadd, 1) := by decide +kernel
theorem d_Mo_choice_61 : decode prog_8_method_11_code 61 = .ok (.ireturn, 1) := by decide +kernel
theorem d_Mo_choice_62 : decode prog_8_method_11_code 62 = .ok (.aload_n 0, 1) := by decide +kernel
theorem d_Mo_choice_63 : decode prog_8_method_11_code 63 = .ok (.iload_n 1, 1) := by decide +kernel
theorem d_Mo_choice_64 : decode prog_8_method_11_code 64 = .ok (.aload_n 0, 1) := by decide +kernel
theorem d_Mo_choice_65 : decode prog_8_method_11_code 65 = .ok (.getfield 31, 3) := by decide +kernel
theorem d_Mo_choice_68 : decode prog_8_method_11_code 68 = .ok (.iload_n 1, 1) := by decide +kernel
theorem d_Mo_choice_69 : decode prog_8_method_11_code 69 = .ok (.iaload, 1) := by decide +kernel
theorem d_Mo_choice_70 : decode prog_8_method_11_code 70 = .ok (.invokevirtual 110, 3) := by decide +kernel
theorem d_Mo_choice_73 : decode prog_8_method_11_code 73 = .ok (.istore_n 2, 1) := by decide +kernel
theorem d_Mo_choice_74 : decode prog_8_method_11_code 74 = .ok (.iload_n 2, 1) := by decide +kernel
theorem d_Mo_choice_75 : decode prog_8_method_11_code 75 = .ok (.ifCond .lt 7, 3) := by decide +kernel
theorem d_Mo_choice_78 : decode prog_8_method_11_code 78 = .ok (.iload_n 2, 1) := by decide +kernel
theorem d_Mo_choice_79 : decode prog_8_method_11_code 79 = .ok (.goto 9, 3) := by decide +kernel
theorem d_Mo_choice_82 : decode prog_8_method_11_code 82 = .ok (.aload_n 0, 1) := by decide +kernel
theorem d_Mo_choice_83 : decode prog_8_method_11_code 83 = .ok (.iload_n 1, 1) := by decide +kernel
theorem d_Mo_choice_84 : decode prog_8_method_11_code 84 = .ok (.iconst 0, 1) := by decide +kernel
theorem d_Mo_choice_85 : decode prog_8_method_11_code 85 = .ok (.invokevirtual 110, 3) := by decide +kernel
theorem d_Mo_choice_88 : decode prog_8_method_11_code 88 = .ok (.ireturn, 1) := by decide +kernel
theorem d_Mo_bestOf_0 : decode prog_8_method_10_code 0 = .ok (.iconst (-1), 1) := by decide +kernel
theorem d_Mo_bestOf_1 : decode prog_8_method_10_code 1 = .ok (.istore_n 3, 1) := by decide +kernel
theorem d_Mo_bestOf_2 : decode prog_8_method_10_code 2 = .ok (.iconst 4, 1) := by decide +kernel
theorem d_Mo_bestOf_3 : decode prog_8_method_10_code 3 = .ok (.iload_n 1, 1) := by decide +kernel
theorem d_Mo_bestOf_4 : decode prog_8_method_10_code 4 = .ok (.imul, 1) := by decide +kernel
theorem d_Mo_bestOf_5 : decode prog_8_method_10_code 5 = .ok (.istore 4, 2) := by decide +kernel
theorem d_Mo_bestOf_7 : decode prog_8_method_10_code 7 = .ok (.iload 4, 2) := by decide +kernel
theorem d_Mo_bestOf_9 : decode prog_8_method_10_code 9 = .ok (.iconst 4, 1) := by decide +kernel
theorem d_Mo_bestOf_10 : decode prog_8_method_10_code 10 = .ok (.iload_n 1, 1) := by decide +kernel
theorem d_Mo_bestOf_11 : decode prog_8_method_10_code 11 = .ok (.imul, 1) := by decide +kernel
theorem d_Mo_bestOf_12 : decode prog_8_method_10_code 12 = .ok (.iconst 4, 1) := by decide +kernel
theorem d_Mo_bestOf_13 : decode prog_8_method_10_code 13 = .ok (.iadd, 1) := by decide +kernel
theorem d_Mo_bestOf_14 : decode prog_8_method_10_code 14 = .ok (.if_icmp .ge 41, 3) := by decide +kernel
theorem d_Mo_bestOf_17 : decode prog_8_method_10_code 17 = .ok (.aload_n 0, 1) := by decide +kernel
theorem d_Mo_bestOf_18 : decode prog_8_method_10_code 18 = .ok (.getfield 64, 3) := by decide +kernel
theorem d_Mo_bestOf_21 : decode prog_8_method_10_code 21 = .ok (.sipush 448, 3) := by decide +kernel
theorem d_Mo_bestOf_24 : decode prog_8_method_10_code 24 = .ok (.iload 4, 2) := by decide +kernel
theorem d_Mo_bestOf_26 : decode prog_8_method_10_code 26 = .ok (.iadd, 1) := by decide +kernel
theorem d_Mo_bestOf_27 : decode prog_8_method_10_code 27 = .ok (.iaload, 1) := by decide +kernel
theorem d_Mo_bestOf_28 : decode prog_8_method_10_code 28 = .ok (.iload_n 2, 1) := by decide +kernel
theorem d_Mo_bestOf_29 : decode prog_8_method_10_code 29 = .ok (.if_icmp .le 20, 3) := by decide +kernel
theorem d_Mo_bestOf_32 : decode prog_8_method_10_code 32 = .ok (.iload_n 3, 1) := by decide +kernel
theorem d_Mo_bestOf_33 : decode prog_8_method_10_code 33 = .ok (.ifCond .lt 13, 3) := by decide +kernel
theorem d_Mo_bestOf_36 : decode prog_8_method_10_code 36 = .ok (.aload_n 0, 1) := by decide +kernel
theorem d_Mo_bestOf_37 : decode prog_8_method_10_code 37 = .ok (.iload 4, 2) := by decide +kernel
theorem d_Mo_bestOf_39 : decode prog_8_method_10_code 39 = .ok (.iload_n 3, 1) := by decide +kernel
theorem d_Mo_bestOf_40 : decode prog_8_method_10_code 40 = .ok (.invokevirtual 106, 3) := by decide +kernel
theorem d_Mo_bestOf_43 : decode prog_8_method_10_code 43 = .ok (.ifCond .eq 6, 3) := by decide +kernel
theorem d_Mo_bestOf_46 : decode prog_8_method_10_code 46 = .ok (.iload 4, 2) := by decide +kernel
theorem d_Mo_bestOf_48 : decode prog_8_method_10_code 48 = .ok (.istore_n 3, 1) := by decide +kernel
theorem d_Mo_bestOf_49 : decode prog_8_method_10_code 49 = .ok (.iinc 4 1, 3) := by decide +kernel
theorem d_Mo_bestOf_52 : decode prog_8_method_10_code 52 = .ok (.goto (-45), 3) := by decide +kernel
theorem d_Mo_bestOf_55 : decode prog_8_method_10_code 55 = .ok (.iload_n 3, 1) := by decide +kernel
theorem d_Mo_bestOf_56 : decode prog_8_method_10_code 56 = .ok (.ireturn, 1) := by decide +kernel
theorem d_Mo_better_0 : decode prog_8_method_9_code 0 = .ok (.aload_n 0, 1) := by decide +kernel
theorem d_Mo_better_1 : decode prog_8_method_9_code 1 = .ok (.iload_n 1, 1) := by decide +kernel
theorem d_Mo_better_2 : decode prog_8_method_9_code 2 = .ok (.invokevirtual 100, 3) := by decide +kernel
theorem d_Mo_better_5 : decode prog_8_method_9_code 5 = .ok (.aload_n 0, 1) := by decide +kernel
theorem d_Mo_better_6 : decode prog_8_method_9_code 6 = .ok (.iload_n 2, 1) := by decide +kernel
theorem d_Mo_better_7 : decode prog_8_method_9_code 7 = .ok (.invokevirtual 100, 3) := by decide +kernel
theorem d_Mo_better_10 : decode prog_8_method_9_code 10 = .ok (.if_icmp .eq 22, 3) := by decide +kernel
theorem d_Mo_better_13 : decode prog_8_method_9_code 13 = .ok (.aload_n 0, 1) := by decide +kernel
theorem d_Mo_better_14 : decode prog_8_method_9_code 14 = .ok (.iload_n 1, 1) := by decide +kernel
theorem d_Mo_better_15 : decode prog_8_method_9_code 15 = .ok (.invokevirtual 100, 3) := by decide +kernel
theorem d_Mo_better_18 : decode prog_8_method_9_code 18 = .ok (.aload_n 0, 1) := by decide +kernel
theorem d_Mo_better_19 : decode prog_8_method_9_code 19 = .ok (.iload_n 2, 1) := by decide +kernel
theorem d_Mo_better_20 : decode prog_8_method_9_code 20 = .ok (.invokevirtual 100, 3) := by decide +kernel
theorem d_Mo_better_23 : decode prog_8_method_9_code 23 = .ok (.if_icmp .ge 7, 3) := by decide +kernel
theorem d_Mo_better_26 : decode prog_8_method_9_code 26 = .ok (.iconst 1, 1) := by decide +kernel
theorem d_Mo_better_27 : decode prog_8_method_9_code 27 = .ok (.goto 4, 3) := by decide +kernel
theorem d_Mo_better_30 : decode prog_8_method_9_code 30 = .ok (.iconst 0, 1) := by decide +kernel
theorem d_Mo_better_31 : decode prog_8_method_9_code 31 = .ok (.ireturn, 1) := by decide +kernel
theorem d_Mo_better_32 : decode prog_8_method_9_code 32 = .ok (.aload_n 0, 1) := by decide +kernel
theorem d_Mo_better_33 : decode prog_8_method_9_code 33 = .ok (.iload_n 1, 1) := by decide +kernel
theorem d_Mo_better_34 : decode prog_8_method_9_code 34 = .ok (.invokevirtual 103, 3) := by decide +kernel
theorem d_Mo_better_37 : decode prog_8_method_9_code 37 = .ok (.aload_n 0, 1) := by decide +kernel
theorem d_Mo_better_38 : decode prog_8_method_9_code 38 = .ok (.iload_n 2, 1) := by decide +kernel
theorem d_Mo_better_39 : decode prog_8_method_9_code 39 = .ok (.invokevirtual 103, 3) := by decide +kernel
theorem d_Mo_better_42 : decode prog_8_method_9_code 42 = .ok (.if_icmp .eq 22, 3) := by decide +kernel
theorem d_Mo_better_45 : decode prog_8_method_9_code 45 = .ok (.aload_n 0, 1) := by decide +kernel
theorem d_Mo_better_46 : decode prog_8_method_9_code 46 = .ok (.iload_n 1, 1) := by decide +kernel
theorem d_Mo_better_47 : decode prog_8_method_9_code 47 = .ok (.invokevirtual 103, 3) := by decide +kernel
theorem d_Mo_better_50 : decode prog_8_method_9_code 50 = .ok (.aload_n 0, 1) := by decide +kernel
theorem d_Mo_better_51 : decode prog_8_method_9_code 51 = .ok (.iload_n 2, 1) := by decide +kernel
theorem d_Mo_better_52 : decode prog_8_method_9_code 52 = .ok (.invokevirtual 103, 3) := by decide +kernel
theorem d_Mo_better_55 : decode prog_8_method_9_code 55 = .ok (.if_icmp .ge 7, 3) := by decide +kernel
theorem d_Mo_better_58 : decode prog_8_method_9_code 58 = .ok (.iconst 1, 1) := by decide +kernel
theorem d_Mo_better_59 : decode prog_8_method_9_code 59 = .ok (.goto 4, 3) := by decide +kernel
theorem d_Mo_better_62 : decode prog_8_method_9_code 62 = .ok (.iconst 0, 1) := by decide +kernel
theorem d_Mo_better_63 : decode prog_8_method_9_code 63 = .ok (.ireturn, 1) := by decide +kernel
theorem d_Mo_better_64 : decode prog_8_method_9_code 64 = .ok (.aload_n 0, 1) := by decide +kernel
theorem d_Mo_better_65 : decode prog_8_method_9_code 65 = .ok (.getfield 49, 3) := by decide +kernel
theorem d_Mo_better_68 : decode prog_8_method_9_code 68 = .ok (.iload_n 1, 1) := by decide +kernel
theorem d_Mo_better_69 : decode prog_8_method_9_code 69 = .ok (.iaload, 1) := by decide +kernel
theorem d_Mo_better_70 : decode prog_8_method_9_code 70 = .ok (.aload_n 0, 1) := by decide +kernel
theorem d_Mo_better_71 : decode prog_8_method_9_code 71 = .ok (.getfield 49, 3) := by decide +kernel
theorem d_Mo_better_74 : decode prog_8_method_9_code 74 = .ok (.iload_n 2, 1) := by decide +kernel
theorem d_Mo_better_75 : decode prog_8_method_9_code 75 = .ok (.iaload, 1) := by decide +kernel
theorem d_Mo_better_76 : decode prog_8_method_9_code 76 = .ok (.if_icmp .ge 7, 3) := by decide +kernel
theorem d_Mo_better_79 : decode prog_8_method_9_code 79 = .ok (.iconst 1, 1) := by decide +kernel
theorem d_Mo_better_80 : decode prog_8_method_9_code 80 = .ok (.goto 4, 3) := by decide +kernel
theorem d_Mo_better_83 : decode prog_8_method_9_code 83 = .ok (.iconst 0, 1) := by decide +kernel
theorem d_Mo_better_84 : decode prog_8_method_9_code 84 = .ok (.ireturn, 1) := by decide +kernel
theorem d_Mo_qualityOf_0 : decode prog_8_method_7_code 0 = .ok (.aload_n 0, 1) := by decide +kernel
theorem d_Mo_qualityOf_1 : decode prog_8_method_7_code 1 = .ok (.getfield 40, 3) := by decide +kernel
theorem d_Mo_qualityOf_4 : decode prog_8_method_7_code 4 = .ok (.iload_n 1, 1) := by decide +kernel
theorem d_Mo_qualityOf_5 : decode prog_8_method_7_code 5 = .ok (.iaload, 1) := by decide +kernel
theorem d_Mo_qualityOf_6 : decode prog_8_method_7_code 6 = .ok (.ifCond .lt 12, 3) := by decide +kernel
theorem d_Mo_qualityOf_9 : decode prog_8_method_7_code 9 = .ok (.aload_n 0, 1) := by decide +kernel
theorem d_Mo_qualityOf_10 : decode prog_8_method_7_code 10 = .ok (.getfield 40, 3) := by decide +kernel
theorem d_Mo_qualityOf_13 : decode prog_8_method_7_code 13 = .ok (.iload_n 1, 1) := by decide +kernel
theorem d_Mo_qualityOf_14 : decode prog_8_method_7_code 14 = .ok (.iaload, 1) := by decide +kernel
theorem d_Mo_qualityOf_15 : decode prog_8_method_7_code 15 = .ok (.goto 11, 3) := by decide +kernel
theorem d_Mo_qualityOf_18 : decode prog_8_method_7_code 18 = .ok (.aload_n 0, 1) := by decide +kernel
theorem d_Mo_qualityOf_19 : decode prog_8_method_7_code 19 = .ok (.getfield 64, 3) := by decide +kernel
theorem d_Mo_qualityOf_22 : decode prog_8_method_7_code 22 = .ok (.iconst 0, 1) := by decide +kernel
theorem d_Mo_qualityOf_23 : decode prog_8_method_7_code 23 = .ok (.iload_n 1, 1) := by decide +kernel
theorem d_Mo_qualityOf_24 : decode prog_8_method_7_code 24 = .ok (.iadd, 1) := by decide +kernel
theorem d_Mo_qualityOf_25 : decode prog_8_method_7_code 25 = .ok (.iaload, 1) := by decide +kernel
theorem d_Mo_qualityOf_26 : decode prog_8_method_7_code 26 = .ok (.ireturn, 1) := by decide +kernel
theorem d_Mo_hopsOf_0 : decode prog_8_method_8_code 0 = .ok (.aload_n 0, 1) := by decide +kernel
theorem d_Mo_hopsOf_1 : decode prog_8_method_8_code 1 = .ok (.getfield 40, 3) := by decide +kernel
theorem d_Mo_hopsOf_4 : decode prog_8_method_8_code 4 = .ok (.iload_n 1, 1) := by decide +kernel
theorem d_Mo_hopsOf_5 : decode prog_8_method_8_code 5 = .ok (.iaload, 1) := by decide +kernel
theorem d_Mo_hopsOf_6 : decode prog_8_method_8_code 6 = .ok (.ifCond .lt 7, 3) := by decide +kernel
theorem d_Mo_hopsOf_9 : decode prog_8_method_8_code 9 = .ok (.iconst 0, 1) := by decide +kernel
theorem d_Mo_hopsOf_10 : decode prog_8_method_8_code 10 = .ok (.goto 12, 3) := by decide +kernel
theorem d_Mo_hopsOf_13 : decode prog_8_method_8_code 13 = .ok (.aload_n 0, 1) := by decide +kernel
theorem d_Mo_hopsOf_14 : decode prog_8_method_8_code 14 = .ok (.getfield 64, 3) := by decide +kernel
theorem d_Mo_hopsOf_17 : decode prog_8_method_8_code 17 = .ok (.bipush 64, 2) := by decide +kernel
theorem d_Mo_hopsOf_19 : decode prog_8_method_8_code 19 = .ok (.iload_n 1, 1) := by decide +kernel
theorem d_Mo_hopsOf_20 : decode prog_8_method_8_code 20 = .ok (.iadd, 1) := by decide +kernel
theorem d_Mo_hopsOf_21 : decode prog_8_method_8_code 21 = .ok (.iaload, 1) := by decide +kernel
theorem d_Mo_hopsOf_22 : decode prog_8_method_8_code 22 = .ok (.ireturn, 1) := by decide +kernel
theorem d_Mo_stateOf_0 : decode prog_8_method_14_code 0 = .ok (.aload_n 0, 1) := by decide +kernel
theorem d_Mo_stateOf_1 : decode prog_8_method_14_code 1 = .ok (.getfield 64, 3) := by decide +kernel
theorem d_Mo_stateOf_4 : decode prog_8_method_14_code 4 = .ok (.sipush 672, 3) := by decide +kernel
theorem d_Mo_stateOf_7 : decode prog_8_method_14_code 7 = .ok (.iload_n 1, 1) := by decide +kernel
theorem d_Mo_stateOf_8 : decode prog_8_method_14_code 8 = .ok (.iadd, 1) := by decide +kernel
theorem d_Mo_stateOf_9 : decode prog_8_method_14_code 9 = .ok (.iaload, 1) := by decide +kernel
theorem d_Mo_stateOf_10 : decode prog_8_method_14_code 10 = .ok (.iconst 1, 1) := by decide +kernel
theorem d_Mo_stateOf_11 : decode prog_8_method_14_code 11 = .ok (.if_icmp .ne 7, 3) := by decide +kernel
theorem d_Mo_stateOf_14 : decode prog_8_method_14_code 14 = .ok (.iconst 3, 1) := by decide +kernel
theorem d_Mo_stateOf_15 : decode prog_8_method_14_code 15 = .ok (.goto 13, 3) := by decide +kernel
theorem d_Mo_stateOf_18 : decode prog_8_method_14_code 18 = .ok (.aload_n 0, 1) := by decide +kernel
theorem d_Mo_stateOf_19 : decode prog_8_method_14_code 19 = .ok (.getfield 64, 3) := by decide +kernel
theorem d_Mo_stateOf_22 : decode prog_8_method_14_code 22 = .ok (.sipush 512, 3) := by decide +kernel
theorem d_Mo_stateOf_25 : decode prog_8_method_14_code 25 = .ok (.iload_n 1, 1) := by decide +kernel
theorem d_Mo_stateOf_26 : decode prog_8_method_14_code 26 = .ok (.iadd, 1) := by decide +kernel
theorem d_Mo_stateOf_27 : decode prog_8_method_14_code 27 = .ok (.iaload, 1) := by decide +kernel
theorem d_Mo_stateOf_28 : decode prog_8_method_14_code 28 = .ok (.ireturn, 1) := by decide +kernel
theorem d_Mo_portOf_0 : decode prog_8_method_15_code 0 = .ok (.aload_n 0, 1) := by decide +kernel
theorem d_Mo_portOf_1 : decode prog_8_method_15_code 1 = .ok (.getfield 64, 3) := by decide +kernel
theorem d_Mo_portOf_4 : decode prog_8_method_15_code 4 = .ok (.sipush 672, 3) := by decide +kernel
theorem d_Mo_portOf_7 : decode prog_8_method_15_code 7 = .ok (.iload_n 1, 1) := by decide +kernel
theorem d_Mo_portOf_8 : decode prog_8_method_15_code 8 = .ok (.iadd, 1) := by decide +kernel
theorem d_Mo_portOf_9 : decode prog_8_method_15_code 9 = .ok (.iaload, 1) := by decide +kernel
theorem d_Mo_portOf_10 : decode prog_8_method_15_code 10 = .ok (.iconst 1, 1) := by decide +kernel
theorem d_Mo_portOf_11 : decode prog_8_method_15_code 11 = .ok (.if_icmp .ne 7, 3) := by decide +kernel
theorem d_Mo_portOf_14 : decode prog_8_method_15_code 14 = .ok (.iconst (-1), 1) := by decide +kernel
theorem d_Mo_portOf_15 : decode prog_8_method_15_code 15 = .ok (.goto 13, 3) := by decide +kernel
theorem d_Mo_portOf_18 : decode prog_8_method_15_code 18 = .ok (.aload_n 0, 1) := by decide +kernel
theorem d_Mo_portOf_19 : decode prog_8_method_15_code 19 = .ok (.getfield 64, 3) := by decide +kernel
theorem d_Mo_portOf_22 : decode prog_8_method_15_code 22 = .ok (.sipush 528, 3) := by decide +kernel
theorem d_Mo_portOf_25 : decode prog_8_method_15_code 25 = .ok (.iload_n 1, 1) := by decide +kernel
theorem d_Mo_portOf_26 : decode prog_8_method_15_code 26 = .ok (.iadd, 1) := by decide +kernel
theorem d_Mo_portOf_27 : decode prog_8_method_15_code 27 = .ok (.iaload, 1) := by decide +kernel
theorem d_Mo_portOf_28 : decode prog_8_method_15_code 28 = .ok (.ireturn, 1) := by decide +kernel
theorem d_Mo_settled_0 : decode prog_8_method_40_code 0 = .ok (.aload_n 0, 1) := by decide +kernel
theorem d_Mo_settled_1 : decode prog_8_method_40_code 1 = .ok (.iconst 0, 1) := by decide +kernel
theorem d_Mo_settled_2 : decode prog_8_method_40_code 2 = .ok (.putfield 7, 3) := by decide +kernel
theorem d_Mo_settled_5 : decode prog_8_method_40_code 5 = .ok (.aload_n 0, 1) := by decide +kernel
theorem d_Mo_settled_6 : decode prog_8_method_40_code 6 = .ok (.getfield 64, 3) := by decide +kernel
theorem d_Mo_settled_9 : decode prog_8_method_40_code 9 = .ok (.sipush 761, 3) := by decide +kernel
theorem d_Mo_settled_12 : decode prog_8_method_40_code 12 = .ok (.iaload, 1) := by decide +kernel
theorem d_Mo_settled_13 : decode prog_8_method_40_code 13 = .ok (.ireturn, 1) := by decide +kernel
theorem d_Mo_state_0 : decode prog_8_method_41_code 0 = .ok (.aload_n 0, 1) := by decide +kernel
theorem d_Mo_state_1 : decode prog_8_method_41_code 1 = .ok (.aload_n 0, 1) := by decide +kernel
theorem d_Mo_state_2 : decode prog_8_method_41_code 2 = .ok (.iload_n 1, 1) := by decide +kernel
theorem d_Mo_state_3 : decode prog_8_method_41_code 3 = .ok (.invokevirtual 149, 3) := by decide +kernel
theorem d_Mo_state_6 : decode prog_8_method_41_code 6 = .ok (.ifCond .ne 12, 3) := by decide +kernel
theorem d_Mo_state_9 : decode prog_8_method_41_code 9 = .ok (.iload_n 2, 1) := by decide +kernel
theorem d_Mo_state_10 : decode prog_8_method_41_code 10 = .ok (.ifCond .lt 8, 3) := by decide +kernel
theorem d_Mo_state_13 : decode prog_8_method_41_code 13 = .ok (.iload_n 2, 1) := by decide +kernel
theorem d_Mo_state_14 : decode prog_8_method_41_code 14 = .ok (.iconst 4, 1) := by decide +kernel
theorem d_Mo_state_15 : decode prog_8_method_41_code 15 = .ok (.if_icmp .le 7, 3) := by decide +kernel
theorem d_Mo_state_18 : decode prog_8_method_41_code 18 = .ok (.iconst 1, 1) := by decide +kernel
theorem d_Mo_state_19 : decode prog_8_method_41_code 19 = .ok (.goto 4, 3) := by decide +kernel
theorem d_Mo_state_22 : decode prog_8_method_41_code 22 = .ok (.iconst 0, 1) := by decide +kernel
theorem d_Mo_state_23 : decode prog_8_method_41_code 23 = .ok (.putfield 7, 3) := by decide +kernel
theorem d_Mo_state_26 : decode prog_8_method_41_code 26 = .ok (.aload_n 0, 1) := by decide +kernel
theorem d_Mo_state_27 : decode prog_8_method_41_code 27 = .ok (.getfield 7, 3) := by decide +kernel
theorem d_Mo_state_30 : decode prog_8_method_41_code 30 = .ok (.ifCond .eq 5, 3) := by decide +kernel
theorem d_Mo_state_33 : decode prog_8_method_41_code 33 = .ok (.iconst 0, 1) := by decide +kernel
theorem d_Mo_state_34 : decode prog_8_method_41_code 34 = .ok (.ireturn, 1) := by decide +kernel
theorem d_Mo_state_35 : decode prog_8_method_41_code 35 = .ok (.iload_n 2, 1) := by decide +kernel
theorem d_Mo_state_36 : decode prog_8_method_41_code 36 = .ok (.ifCond .ne 9, 3) := by decide +kernel
theorem d_Mo_state_39 : decode prog_8_method_41_code 39 = .ok (.aload_n 0, 1) := by decide +kernel
theorem d_Mo_state_40 : decode prog_8_method_41_code 40 = .ok (.iload_n 1, 1) := by decide +kernel
theorem d_Mo_state_41 : decode prog_8_method_41_code 41 = .ok (.invokevirtual 127, 3) := by decide +kernel
theorem d_Mo_state_44 : decode prog_8_method_41_code 44 = .ok (.ireturn, 1) := by decide +kernel
theorem d_Mo_state_45 : decode prog_8_method_41_code 45 = .ok (.iload_n 2, 1) := by decide +kernel
theorem d_Mo_state_46 : decode prog_8_method_41_code 46 = .ok (.iconst 1, 1) := by decide +kernel
theorem d_Mo_state_47 : decode prog_8_method_41_code 47 = .ok (.if_icmp .ne 9, 3) := by decide +kernel
theorem d_Mo_state_50 : decode prog_8_method_41_code 50 = .ok (.aload_n 0, 1) := by decide +kernel
theorem d_Mo_state_51 : decode prog_8_method_41_code 51 = .ok (.iload_n 1, 1) := by decide +kernel
theorem d_Mo_state_52 : decode prog_8_method_41_code 52 = .ok (.invokevirtual 130, 3) := by decide +kernel
theorem d_Mo_state_55 : decode prog_8_method_41_code 55 = .ok (.ireturn, 1) := by decide +kernel
theorem d_Mo_state_56 : decode prog_8_method_41_code 56 = .ok (.iload_n 2, 1) := by decide +kernel
theorem d_Mo_state_57 : decode prog_8_method_41_code 57 = .ok (.iconst 4, 1) := by decide +kernel
theorem d_Mo_state_58 : decode prog_8_method_41_code 58 = .ok (.if_icmp .ne 14, 3) := by decide +kernel
theorem d_Mo_state_61 : decode prog_8_method_41_code 61 = .ok (.aload_n 0, 1) := by decide +kernel
theorem d_Mo_state_62 : decode prog_8_method_41_code 62 = .ok (.getfield 64, 3) := by decide +kernel
theorem d_Mo_state_65 : decode prog_8_method_41_code 65 = .ok (.sipush 560, 3) := by decide +kernel
theorem d_Mo_state_68 : decode prog_8_method_41_code 68 = .ok (.iload_n 1, 1) := by decide +kernel
theorem d_Mo_state_69 : decode prog_8_method_41_code 69 = .ok (.iadd, 1) := by decide +kernel
theorem d_Mo_state_70 : decode prog_8_method_41_code 70 = .ok (.iaload, 1) := by decide +kernel
theorem d_Mo_state_71 : decode prog_8_method_41_code 71 = .ok (.ireturn, 1) := by decide +kernel
theorem d_Mo_state_72 : decode prog_8_method_41_code 72 = .ok (.aload_n 0, 1) := by decide +kernel
theorem d_Mo_state_73 : decode prog_8_method_41_code 73 = .ok (.iload_n 1, 1) := by decide +kernel
theorem d_Mo_state_74 : decode prog_8_method_41_code 74 = .ok (.invokevirtual 127, 3) := by decide +kernel
theorem d_Mo_state_77 : decode prog_8_method_41_code 77 = .ok (.iconst 1, 1) := by decide +kernel
theorem d_Mo_state_78 : decode prog_8_method_41_code 78 = .ok (.if_icmp .eq 7, 3) := by decide +kernel
theorem d_Mo_state_81 : decode prog_8_method_41_code 81 = .ok (.iconst (-1), 1) := by decide +kernel
theorem d_Mo_state_82 : decode prog_8_method_41_code 82 = .ok (.goto 31, 3) := by decide +kernel
theorem d_Mo_state_85 : decode prog_8_method_41_code 85 = .ok (.iload_n 2, 1) := by decide +kernel
theorem d_Mo_state_86 : decode prog_8_method_41_code 86 = .ok (.iconst 2, 1) := by decide +kernel
theorem d_Mo_state_87 : decode prog_8_method_41_code 87 = .ok (.if_icmp .ne 16, 3) := by decide +kernel
theorem d_Mo_state_90 : decode prog_8_method_41_code 90 = .ok (.aload_n 0, 1) := by decide +kernel
theorem d_Mo_state_91 : decode prog_8_method_41_code 91 = .ok (.getfield 64, 3) := by decide +kernel
theorem d_Mo_state_94 : decode prog_8_method_41_code 94 = .ok (.sipush 608, 3) := by decide +kernel
theorem d_Mo_state_97 : decode prog_8_method_41_code 97 = .ok (.iload_n 1, 1) := by decide +kernel
theorem d_Mo_state_98 : decode prog_8_method_41_code 98 = .ok (.iadd, 1) := by decide +kernel
theorem d_Mo_state_99 : decode prog_8_method_41_code 99 = .ok (.iaload, 1) := by decide +kernel
theorem d_Mo_state_100 : decode prog_8_method_41_code 100 = .ok (.goto 13, 3) := by decide +kernel
theorem d_Mo_state_103 : decode prog_8_method_41_code 103 = .ok (.aload_n 0, 1) := by decide +kernel
theorem d_Mo_state_104 : decode prog_8_method_41_code 104 = .ok (.getfield 64, 3) := by decide +kernel
theorem d_Mo_state_107 : decode prog_8_method_41_code 107 = .ok (.sipush 624, 3) := by decide +kernel
theorem d_Mo_state_110 : decode prog_8_method_41_code 110 = .ok (.iload_n 1, 1) := by decide +kernel
theorem d_Mo_state_111 : decode prog_8_method_41_code 111 = .ok (.iadd, 1) := by decide +kernel
theorem d_Mo_state_112 : decode prog_8_method_41_code 112 = .ok (.iaload, 1) := by decide +kernel
theorem d_Mo_state_113 : decode prog_8_method_41_code 113 = .ok (.ireturn, 1) := by decide +kernel
theorem d_Mo_phase_0 : decode prog_8_method_42_code 0 = .ok (.aload_n 0, 1) := by decide +kernel
theorem d_Mo_phase_1 : decode prog_8_method_42_code 1 = .ok (.aload_n 0, 1) := by decide +kernel
theorem d_Mo_phase_2 : decode prog_8_method_42_code 2 = .ok (.iload_n 1, 1) := by decide +kernel
theorem d_Mo_phase_3 : decode prog_8_method_42_code 3 = .ok (.invokevirtual 149, 3) := by decide +kernel
theorem d_Mo_phase_6 : decode prog_8_method_42_code 6 = .ok (.ifCond .eq 7, 3) := by decide +kernel
theorem d_Mo_phase_9 : decode prog_8_method_42_code 9 = .ok (.iconst 1, 1) := by decide +kernel
theorem d_Mo_phase_10 : decode prog_8_method_42_code 10 = .ok (.goto 4, 3) := by decide +kernel
theorem d_Mo_phase_13 : decode prog_8_method_42_code 13 = .ok (.iconst 0, 1) := by decide +kernel
theorem d_Mo_phase_14 : decode prog_8_method_42_code 14 = .ok (.putfield 7, 3) := by decide +kernel
theorem d_Mo_phase_17 : decode prog_8_method_42_code 17 = .ok (.aload_n 0, 1) := by decide +kernel
theorem d_Mo_phase_18 : decode prog_8_method_42_code 18 = .ok (.getfield 7, 3) := by decide +kernel
theorem d_Mo_phase_21 : decode prog_8_method_42_code 21 = .ok (.ifCond .eq 7, 3) := by decide +kernel
theorem d_Mo_phase_24 : decode prog_8_method_42_code 24 = .ok (.lconst 0, 1) := by decide +kernel
theorem d_Mo_phase_25 : decode prog_8_method_42_code 25 = .ok (.goto 9, 3) := by decide +kernel
theorem d_Mo_phase_28 : decode prog_8_method_42_code 28 = .ok (.aload_n 0, 1) := by decide +kernel
theorem d_Mo_phase_29 : decode prog_8_method_42_code 29 = .ok (.getfield 70, 3) := by decide +kernel
theorem d_Mo_phase_32 : decode prog_8_method_42_code 32 = .ok (.iload_n 1, 1) := by decide +kernel
theorem d_Mo_phase_33 : decode prog_8_method_42_code 33 = .ok (.laload, 1) := by decide +kernel
theorem d_Mo_phase_34 : decode prog_8_method_42_code 34 = .ok (.lreturn, 1) := by decide +kernel
theorem d_Mo_sends_0 : decode prog_8_method_43_code 0 = .ok (.aload_n 0, 1) := by decide +kernel
theorem d_Mo_sends_1 : decode prog_8_method_43_code 1 = .ok (.aload_n 0, 1) := by decide +kernel
theorem d_Mo_sends_2 : decode prog_8_method_43_code 2 = .ok (.iload_n 1, 1) := by decide +kernel
theorem d_Mo_sends_3 : decode prog_8_method_43_code 3 = .ok (.iload_n 2, 1) := by decide +kernel
theorem d_Mo_sends_4 : decode prog_8_method_43_code 4 = .ok (.invokevirtual 152, 3) := by decide +kernel
theorem d_Mo_sends_7 : decode prog_8_method_43_code 7 = .ok (.ifCond .eq 7, 3) := by decide +kernel
theorem d_Mo_sends_10 : decode prog_8_method_43_code 10 = .ok (.iconst 1, 1) := by decide +kernel
theorem d_Mo_sends_11 : decode prog_8_method_43_code 11 = .ok (.goto 4, 3) := by decide +kernel
theorem d_Mo_sends_14 : decode prog_8_method_43_code 14 = .ok (.iconst 0, 1) := by decide +kernel
theorem d_Mo_sends_15 : decode prog_8_method_43_code 15 = .ok (.putfield 7, 3) := by decide +kernel
theorem d_Mo_sends_18 : decode prog_8_method_43_code 18 = .ok (.aload_n 0, 1) := by decide +kernel
theorem d_Mo_sends_19 : decode prog_8_method_43_code 19 = .ok (.getfield 7, 3) := by decide +kernel
theorem d_Mo_sends_22 : decode prog_8_method_43_code 22 = .ok (.ifCond .eq 7, 3) := by decide +kernel
theorem d_Mo_sends_25 : decode prog_8_method_43_code 25 = .ok (.iconst 0, 1) := by decide +kernel
theorem d_Mo_sends_26 : decode prog_8_method_43_code 26 = .ok (.goto 17, 3) := by decide +kernel
theorem d_Mo_sends_29 : decode prog_8_method_43_code 29 = .ok (.aload_n 0, 1) := by decide +kernel
theorem d_Mo_sends_30 : decode prog_8_method_43_code 30 = .ok (.getfield 64, 3) := by decide +kernel
theorem d_Mo_sends_33 : decode prog_8_method_43_code 33 = .ok (.sipush 256, 3) := by decide +kernel
theorem d_Mo_sends_36 : decode prog_8_method_43_code 36 = .ok (.iconst 4, 1) := by decide +kernel
theorem d_Mo_sends_37 : decode prog_8_method_43_code 37 = .ok (.iload_n 1, 1) := by decide +kernel
theorem d_Mo_sends_38 : decode prog_8_method_43_code 38 = .ok (.imul, 1) := by decide +kernel
theorem d_Mo_sends_39 : decode prog_8_method_43_code 39 = .ok (.iadd, 1) := by decide +kernel
theorem d_Mo_sends_40 : decode prog_8_method_43_code 40 = .ok (.iload_n 2, 1) := by decide +kernel
theorem d_Mo_sends_41 : decode prog_8_method_43_code 41 = .ok (.iadd, 1) := by decide +kernel
theorem d_Mo_sends_42 : decode prog_8_method_43_code 42 = .ok (.iaload, 1) := by decide +kernel
theorem d_Mo_sends_43 : decode prog_8_method_43_code 43 = .ok (.ireturn, 1) := by decide +kernel
theorem d_Mo_traced_0 : decode prog_8_method_44_code 0 = .ok (.aload_n 0, 1) := by decide +kernel
theorem d_Mo_traced_1 : decode prog_8_method_44_code 1 = .ok (.aload_n 0, 1) := by decide +kernel
theorem d_Mo_traced_2 : decode prog_8_method_44_code 2 = .ok (.iload_n 1, 1) := by decide +kernel
theorem d_Mo_traced_3 : decode prog_8_method_44_code 3 = .ok (.invokevirtual 149, 3) := by decide +kernel
theorem d_Mo_traced_6 : decode prog_8_method_44_code 6 = .ok (.ifCond .eq 7, 3) := by decide +kernel
theorem d_Mo_traced_9 : decode prog_8_method_44_code 9 = .ok (.iconst 1, 1) := by decide +kernel
theorem d_Mo_traced_10 : decode prog_8_method_44_code 10 = .ok (.goto 4, 3) := by decide +kernel
theorem d_Mo_traced_13 : decode prog_8_method_44_code 13 = .ok (.iconst 0, 1) := by decide +kernel
theorem d_Mo_traced_14 : decode prog_8_method_44_code 14 = .ok (.putfield 7, 3) := by decide +kernel
theorem d_Mo_traced_17 : decode prog_8_method_44_code 17 = .ok (.aload_n 0, 1) := by decide +kernel
theorem d_Mo_traced_18 : decode prog_8_method_44_code 18 = .ok (.getfield 7, 3) := by decide +kernel
theorem d_Mo_traced_21 : decode prog_8_method_44_code 21 = .ok (.ifCond .eq 5, 3) := by decide +kernel
theorem d_Mo_traced_24 : decode prog_8_method_44_code 24 = .ok (.iconst 0, 1) := by decide +kernel
theorem d_Mo_traced_25 : decode prog_8_method_44_code 25 = .ok (.ireturn, 1) := by decide +kernel
theorem d_Mo_traced_26 : decode prog_8_method_44_code 26 = .ok (.iload_n 1, 1) := by decide +kernel
theorem d_Mo_traced_27 : decode prog_8_method_44_code 27 = .ok (.istore_n 2, 1) := by decide +kernel
theorem d_Mo_traced_28 : decode prog_8_method_44_code 28 = .ok (.iconst 0, 1) := by decide +kernel
theorem d_Mo_traced_29 : decode prog_8_method_44_code 29 = .ok (.istore_n 3, 1) := by decide +kernel
theorem d_Mo_traced_30 : decode prog_8_method_44_code 30 = .ok (.iload_n 3, 1) := by decide +kernel
theorem d_Mo_traced_31 : decode prog_8_method_44_code 31 = .ok (.bipush 17, 2) := by decide +kernel
theorem d_Mo_traced_33 : decode prog_8_method_44_code 33 = .ok (.if_icmp .ge 25, 3) := by decide +kernel
theorem d_Mo_traced_36 : decode prog_8_method_44_code 36 = .ok (.iload_n 2, 1) := by decide +kernel
theorem d_Mo_traced_37 : decode prog_8_method_44_code 37 = .ok (.ifCond .lt 21, 3) := by decide +kernel
theorem d_Mo_traced_40 : decode prog_8_method_44_code 40 = .ok (.iload_n 2, 1) := by decide +kernel
theorem d_Mo_traced_41 : decode prog_8_method_44_code 41 = .ok (.bipush 16, 2) := by decide +kernel
theorem d_Mo_traced_43 : decode prog_8_method_44_code 43 = .ok (.if_icmp .ge 15, 3) := by decide +kernel
theorem d_Mo_traced_46 : decode prog_8_method_44_code 46 = .ok (.aload_n 0, 1) := by decide +kernel
theorem d_Mo_traced_47 : decode prog_8_method_44_code 47 = .ok (.iload_n 2, 1) := by decide +kernel
theorem d_Mo_traced_48 : decode prog_8_method_44_code 48 = .ok (.invokevirtual 164, 3) := by decide +kernel
theorem d_Mo_traced_51 : decode prog_8_method_44_code 51 = .ok (.istore_n 2, 1) := by decide +kernel
theorem d_Mo_traced_52 : decode prog_8_method_44_code 52 = .ok (.iinc 3 1, 3) := by decide +kernel
theorem d_Mo_traced_55 : decode prog_8_method_44_code 55 = .ok (.goto (-25), 3) := by decide +kernel
theorem d_Mo_traced_58 : decode prog_8_method_44_code 58 = .ok (.iload_n 2, 1) := by decide +kernel
theorem d_Mo_traced_59 : decode prog_8_method_44_code 59 = .ok (.bipush 16, 2) := by decide +kernel
theorem d_Mo_traced_61 : decode prog_8_method_44_code 61 = .ok (.if_icmp .ge 7, 3) := by decide +kernel
theorem d_Mo_traced_64 : decode prog_8_method_44_code 64 = .ok (.iconst (-1), 1) := by decide +kernel
theorem d_Mo_traced_65 : decode prog_8_method_44_code 65 = .ok (.goto 7, 3) := by decide +kernel
theorem d_Mo_traced_68 : decode prog_8_method_44_code 68 = .ok (.iload_n 2, 1) := by decide +kernel
theorem d_Mo_traced_69 : decode prog_8_method_44_code 69 = .ok (.bipush 16, 2) := by decide +kernel
theorem d_Mo_traced_71 : decode prog_8_method_44_code 71 = .ok (.isub, 1) := by decide +kernel
theorem d_Mo_traced_72 : decode prog_8_method_44_code 72 = .ok (.ireturn, 1) := by decide +kernel
theorem d_Mo_followed_0 : decode prog_8_method_21_code 0 = .ok (.aload_n 0, 1) := by decide +kernel
theorem d_Mo_followed_1 : decode prog_8_method_21_code 1 = .ok (.iload_n 1, 1) := by decide +kernel
theorem d_Mo_followed_2 : decode prog_8_method_21_code 2 = .ok (.invokevirtual 93, 3) := by decide +kernel
theorem d_Mo_followed_5 : decode prog_8_method_21_code 5 = .ok (.ifCond .eq 17, 3) := by decide +kernel
theorem d_Mo_followed_8 : decode prog_8_method_21_code 8 = .ok (.aload_n 0, 1) := by decide +kernel
theorem d_Mo_followed_9 : decode prog_8_method_21_code 9 = .ok (.getfield 64, 3) := by decide +kernel
theorem d_Mo_followed_12 : decode prog_8_method_21_code 12 = .ok (.sipush 512, 3) := by decide +kernel
theorem d_Mo_followed_15 : decode prog_8_method_21_code 15 = .ok (.iload_n 1, 1) := by decide +kernel
theorem d_Mo_followed_16 : decode prog_8_method_21_code 16 = .ok (.iadd, 1) := by decide +kernel
theorem d_Mo_followed_17 : decode prog_8_method_21_code 17 = .ok (.iaload, 1) := by decide +kernel
theorem d_Mo_followed_18 : decode prog_8_method_21_code 18 = .ok (.iconst 1, 1) := by decide +kernel
theorem d_Mo_followed_19 : decode prog_8_method_21_code 19 = .ok (.if_icmp .eq 5, 3) := by decide +kernel
theorem d_Mo_followed_22 : decode prog_8_method_21_code 22 = .ok (.iconst (-1), 1) := by decide +kernel
theorem d_Mo_followed_23 : decode prog_8_method_21_code 23 = .ok (.ireturn, 1) := by decide +kernel
theorem d_Mo_followed_24 : decode prog_8_method_21_code 24 = .ok (.iconst 4, 1) := by decide +kernel
theorem d_Mo_followed_25 : decode prog_8_method_21_code 25 = .ok (.iload_n 1, 1) := by decide +kernel
theorem d_Mo_followed_26 : decode prog_8_method_21_code 26 = .ok (.imul, 1) := by decide +kernel
theorem d_Mo_followed_27 : decode prog_8_method_21_code 27 = .ok (.aload_n 0, 1) := by decide +kernel
theorem d_Mo_followed_28 : decode prog_8_method_21_code 28 = .ok (.getfield 64, 3) := by decide +kernel
theorem d_Mo_followed_31 : decode prog_8_method_21_code 31 = .ok (.sipush 528, 3) := by decide +kernel
theorem d_Mo_followed_34 : decode prog_8_method_21_code 34 = .ok (.iload_n 1, 1) := by decide +kernel
theorem d_Mo_followed_35 : decode prog_8_method_21_code 35 = .ok (.iadd, 1) := by decide +kernel
theorem d_Mo_followed_36 : decode prog_8_method_21_code 36 = .ok (.iaload, 1) := by decide +kernel
theorem d_Mo_followed_37 : decode prog_8_method_21_code 37 = .ok (.iadd, 1) := by decide +kernel
theorem d_Mo_followed_38 : decode prog_8_method_21_code 38 = .ok (.istore_n 2, 1) := by decide +kernel
theorem d_Mo_followed_39 : decode prog_8_method_21_code 39 = .ok (.aload_n 0, 1) := by decide +kernel
theorem d_Mo_followed_40 : decode prog_8_method_21_code 40 = .ok (.getfield 46, 3) := by decide +kernel
theorem d_Mo_followed_43 : decode prog_8_method_21_code 43 = .ok (.iload_n 2, 1) := by decide +kernel
theorem d_Mo_followed_44 : decode prog_8_method_21_code 44 = .ok (.iaload, 1) := by decide +kernel
theorem d_Mo_followed_45 : decode prog_8_method_21_code 45 = .ok (.ifCond .lt 13, 3) := by decide +kernel
theorem d_Mo_followed_48 : decode prog_8_method_21_code 48 = .ok (.aload_n 0, 1) := by decide +kernel
theorem d_Mo_followed_49 : decode prog_8_method_21_code 49 = .ok (.iload_n 2, 1) := by decide +kernel
theorem d_Mo_followed_50 : decode prog_8_method_21_code 50 = .ok (.invokevirtual 89, 3) := by decide +kernel
theorem d_Mo_followed_53 : decode prog_8_method_21_code 53 = .ok (.iconst 4, 1) := by decide +kernel
theorem d_Mo_followed_54 : decode prog_8_method_21_code 54 = .ok (.idiv, 1) := by decide +kernel
theorem d_Mo_followed_55 : decode prog_8_method_21_code 55 = .ok (.goto 7, 3) := by decide +kernel
theorem d_Mo_followed_58 : decode prog_8_method_21_code 58 = .ok (.bipush 16, 2) := by decide +kernel
theorem d_Mo_followed_60 : decode prog_8_method_21_code 60 = .ok (.iload_n 2, 1) := by decide +kernel
theorem d_Mo_followed_61 : decode prog_8_method_21_code 61 = .ok (.iadd, 1) := by decide +kernel
theorem d_Mo_followed_62 : decode prog_8_method_21_code 62 = .ok (.ireturn, 1) := by decide +kernel
theorem d_Mo_loop_0 : decode prog_8_method_45_code 0 = .ok (.aload_n 0, 1) := by decide +kernel
theorem d_Mo_loop_1 : decode prog_8_method_45_code 1 = .ok (.iconst 0, 1) := by decide +kernel
theorem d_Mo_loop_2 : decode prog_8_method_45_code 2 = .ok (.putfield 7, 3) := by decide +kernel
theorem d_Mo_loop_5 : decode prog_8_method_45_code 5 = .ok (.iconst 0, 1) := by decide +kernel
theorem d_Mo_loop_6 : decode prog_8_method_45_code 6 = .ok (.istore_n 1, 1) := by decide +kernel
theorem d_Mo_loop_7 : decode prog_8_method_45_code 7 = .ok (.iconst 0, 1) := by decide +kernel
theorem d_Mo_loop_8 : decode prog_8_method_45_code 8 = .ok (.istore_n 2, 1) := by decide +kernel
theorem d_Mo_loop_9 : decode prog_8_method_45_code 9 = .ok (.iload_n 2, 1) := by decide +kernel
theorem d_Mo_loop_10 : decode prog_8_method_45_code 10 = .ok (.bipush 16, 2) := by decide +kernel
theorem d_Mo_loop_12 : decode prog_8_method_45_code 12 = .ok (.if_icmp .ge 55, 3) := by decide +kernel
theorem d_Mo_loop_15 : decode prog_8_method_45_code 15 = .ok (.iload_n 2, 1) := by decide +kernel
theorem d_Mo_loop_16 : decode prog_8_method_45_code 16 = .ok (.istore_n 3, 1) := by decide +kernel
theorem d_Mo_loop_17 : decode prog_8_method_45_code 17 = .ok (.iconst 0, 1) := by decide +kernel
theorem d_Mo_loop_18 : decode prog_8_method_45_code 18 = .ok (.istore 4, 2) := by decide +kernel
theorem d_Mo_loop_20 : decode prog_8_method_45_code 20 = .ok (.iload 4, 2) := by decide +kernel
theorem d_Mo_loop_22 : decode prog_8_method_45_code 22 = .ok (.bipush 17, 2) := by decide +kernel
theorem d_Mo_loop_24 : decode prog_8_method_45_code 24 = .ok (.if_icmp .ge 25, 3) := by decide +kernel
theorem d_Mo_loop_27 : decode prog_8_method_45_code 27 = .ok (.iload_n 3, 1) := by decide +kernel
theorem d_Mo_loop_28 : decode prog_8_method_45_code 28 = .ok (.ifCond .lt 21, 3) := by decide +kernel
theorem d_Mo_loop_31 : decode prog_8_method_45_code 31 = .ok (.iload_n 3, 1) := by decide +kernel
theorem d_Mo_loop_32 : decode prog_8_method_45_code 32 = .ok (.bipush 16, 2) := by decide +kernel
theorem d_Mo_loop_34 : decode prog_8_method_45_code 34 = .ok (.if_icmp .ge 15, 3) := by decide +kernel
theorem d_Mo_loop_37 : decode prog_8_method_45_code 37 = .ok (.aload_n 0, 1) := by decide +kernel
theorem d_Mo_loop_38 : decode prog_8_method_45_code 38 = .ok (.iload_n 3, 1) := by decide +kernel
theorem d_Mo_loop_39 : decode prog_8_method_45_code 39 = .ok (.invokevirtual 164, 3) := by decide +kernel
theorem d_Mo_loop_42 : decode prog_8_method_45_code 42 = .ok (.istore_n 3, 1) := by decide +kernel
theorem d_Mo_loop_43 : decode prog_8_method_45_code 43 = .ok (.iinc 4 1, 3) := by decide +kernel
theorem d_Mo_loop_46 : decode prog_8_method_45_code 46 = .ok (.goto (-26), 3) := by decide +kernel
theorem d_Mo_loop_49 : decode prog_8_method_45_code 49 = .ok (.iload_n 3, 1) := by decide +kernel
theorem d_Mo_loop_50 : decode prog_8_method_45_code 50 = .ok (.ifCond .lt 11, 3) := by decide +kernel
theorem d_Mo_loop_53 : decode prog_8_method_45_code 53 = .ok (.iload_n 3, 1) := by decide +kernel
theorem d_Mo_loop_54 : decode prog_8_method_45_code 54 = .ok (.bipush 16, 2) := by decide +kernel
theorem d_Mo_loop_56 : decode prog_8_method_45_code 56 = .ok (.if_icmp .ge 5, 3) := by decide +kernel
theorem d_Mo_loop_59 : decode prog_8_method_45_code 59 = .ok (.iconst 1, 1) := by decide +kernel
theorem d_Mo_loop_60 : decode prog_8_method_45_code 60 = .ok (.istore_n 1, 1) := by decide +kernel
theorem d_Mo_loop_61 : decode prog_8_method_45_code 61 = .ok (.iinc 2 1, 3) := by decide +kernel
theorem d_Mo_loop_64 : decode prog_8_method_45_code 64 = .ok (.goto (-55), 3) := by decide +kernel
theorem d_Mo_loop_67 : decode prog_8_method_45_code 67 = .ok (.iload_n 1, 1) := by decide +kernel
theorem d_Mo_loop_68 : decode prog_8_method_45_code 68 = .ok (.ireturn, 1) := by decide +kernel
theorem d_Mo_best_0 : decode prog_8_method_46_code 0 = .ok (.aload_n 0, 1) := by decide +kernel
theorem d_Mo_best_1 : decode prog_8_method_46_code 1 = .ok (.aload_n 0, 1) := by decide +kernel
theorem d_Mo_best_2 : decode prog_8_method_46_code 2 = .ok (.iload_n 1, 1) := by decide +kernel
theorem d_Mo_best_3 : decode prog_8_method_46_code 3 = .ok (.invokevirtual 149, 3) := by decide +kernel
theorem d_Mo_best_6 : decode prog_8_method_46_code 6 = .ok (.ifCond .eq 7, 3) := by decide +kernel
theorem d_Mo_best_9 : decode prog_8_method_46_code 9 = .ok (.iconst 1, 1) := by decide +kernel
theorem d_Mo_best_10 : decode prog_8_method_46_code 10 = .ok (.goto 4, 3) := by decide +kernel
theorem d_Mo_best_13 : decode prog_8_method_46_code 13 = .ok (.iconst 0, 1) := by decide +kernel
theorem d_Mo_best_14 : decode prog_8_method_46_code 14 = .ok (.putfield 7, 3) := by decide +kernel
theorem d_Mo_best_17 : decode prog_8_method_46_code 17 = .ok (.aload_n 0, 1) := by decide +kernel
theorem d_Mo_best_18 : decode prog_8_method_46_code 18 = .ok (.getfield 7, 3) := by decide +kernel
theorem d_Mo_best_21 : decode prog_8_method_46_code 21 = .ok (.ifCond .eq 7, 3) := by decide +kernel
theorem d_Mo_best_24 : decode prog_8_method_46_code 24 = .ok (.iconst 0, 1) := by decide +kernel
theorem d_Mo_best_25 : decode prog_8_method_46_code 25 = .ok (.goto 8, 3) := by decide +kernel
theorem d_Mo_best_28 : decode prog_8_method_46_code 28 = .ok (.aload_n 0, 1) := by decide +kernel
theorem d_Mo_best_29 : decode prog_8_method_46_code 29 = .ok (.iload_n 1, 1) := by decide +kernel
theorem d_Mo_best_30 : decode prog_8_method_46_code 30 = .ok (.invokevirtual 142, 3) := by decide +kernel
theorem d_Mo_best_33 : decode prog_8_method_46_code 33 = .ok (.ireturn, 1) := by decide +kernel
theorem d_Mo_bestFor_0 : decode prog_8_method_20_code 0 = .ok (.aload_n 0, 1) := by decide +kernel
theorem d_Mo_bestFor_1 : decode prog_8_method_20_code 1 = .ok (.iload_n 1, 1) := by decide +kernel
theorem d_Mo_bestFor_2 : decode prog_8_method_20_code 2 = .ok (.invokevirtual 93, 3) := by decide +kernel
theorem d_Mo_bestFor_5 : decode prog_8_method_20_code 5 = .ok (.ifCond .ne 6, 3) := by decide +kernel
theorem d_Mo_bestFor_8 : decode prog_8_method_20_code 8 = .ok (.bipush 7, 2) := by decide +kernel
theorem d_Mo_bestFor_10 : decode prog_8_method_20_code 10 = .ok (.ireturn, 1) := by decide +kernel
theorem d_Mo_bestFor_11 : decode prog_8_method_20_code 11 = .ok (.aload_n 0, 1) := by decide +kernel
theorem d_Mo_bestFor_12 : decode prog_8_method_20_code 12 = .ok (.iload_n 1, 1) := by decide +kernel
theorem d_Mo_bestFor_13 : decode prog_8_method_20_code 13 = .ok (.invokevirtual 136, 3) := by decide +kernel
theorem d_Mo_bestFor_16 : decode prog_8_method_20_code 16 = .ok (.istore_n 2, 1) := by decide +kernel
theorem d_Mo_bestFor_17 : decode prog_8_method_20_code 17 = .ok (.bipush 7, 2) := by decide +kernel
theorem d_Mo_bestFor_19 : decode prog_8_method_20_code 19 = .ok (.istore_n 3, 1) := by decide +kernel
theorem d_Mo_bestFor_20 : decode prog_8_method_20_code 20 = .ok (.iconst 0, 1) := by decide +kernel
theorem d_Mo_bestFor_21 : decode prog_8_method_20_code 21 = .ok (.istore 4, 2) := by decide +kernel
theorem d_Mo_bestFor_23 : decode prog_8_method_20_code 23 = .ok (.iload 4, 2) := by decide +kernel
theorem d_Mo_bestFor_25 : decode prog_8_method_20_code 25 = .ok (.bipush 64, 2) := by decide +kernel
theorem d_Mo_bestFor_27 : decode prog_8_method_20_code 27 = .ok (.if_icmp .ge 50, 3) := by decide +kernel
theorem d_Mo_bestFor_30 : decode prog_8_method_20_code 30 = .ok (.iload_n 2, 1) := by decide +kernel
theorem d_Mo_bestFor_31 : decode prog_8_method_20_code 31 = .ok (.iload 4, 2) := by decide +kernel
theorem d_Mo_bestFor_33 : decode prog_8_method_20_code 33 = .ok (.iconst 4, 1) := by decide +kernel
theorem d_Mo_bestFor_34 : decode prog_8_method_20_code 34 = .ok (.idiv, 1) := by decide +kernel
theorem d_Mo_bestFor_35 : decode prog_8_method_20_code 35 = .ok (.ishr, 1) := by decide +kernel
theorem d_Mo_bestFor_36 : decode prog_8_method_20_code 36 = .ok (.iconst 1, 1) := by decide +kernel
theorem d_Mo_bestFor_37 : decode prog_8_method_20_code 37 = .ok (.iand, 1) := by decide +kernel
theorem d_Mo_bestFor_38 : decode prog_8_method_20_code 38 = .ok (.iconst 1, 1) := by decide +kernel
theorem d_Mo_bestFor_39 : decode prog_8_method_20_code 39 = .ok (.if_icmp .ne 32, 3) := by decide +kernel
theorem d_Mo_bestFor_42 : decode prog_8_method_20_code 42 = .ok (.aload_n 0, 1) := by decide +kernel
theorem d_Mo_bestFor_43 : decode prog_8_method_20_code 43 = .ok (.getfield 40, 3) := by decide +kernel
theorem d_Mo_bestFor_46 : decode prog_8_method_20_code 46 = .ok (.iload 4, 2) := by decide +kernel
theorem d_Mo_bestFor_48 : decode prog_8_method_20_code 48 = .ok (.iaload, 1) := by decide +kernel
theorem d_Mo_bestFor_49 : decode prog_8_method_20_code 49 = .ok (.ifCond .lt 22, 3) := by decide +kernel
theorem d_Mo_bestFor_52 : decode prog_8_method_20_code 52 = .ok (.aload_n 0, 1) := by decide +kernel
theorem d_Mo_bestFor_53 : decode prog_8_method_20_code 53 = .ok (.getfield 40, 3) := by decide +kernel
theorem d_Mo_bestFor_56 : decode prog_8_method_20_code 56 = .ok (.iload 4, 2) := by decide +kernel
theorem d_Mo_bestFor_58 : decode prog_8_method_20_code 58 = .ok (.iaload, 1) := by decide +kernel
theorem d_Mo_bestFor_59 : decode prog_8_method_20_code 59 = .ok (.iload_n 3, 1) := by decide +kernel
theorem d_Mo_bestFor_60 : decode prog_8_method_20_code 60 = .ok (.if_icmp .ge 11, 3) := by decide +kernel
theorem d_Mo_bestFor_63 : decode prog_8_method_20_code 63 = .ok (.aload_n 0, 1) := by decide +kernel
theorem d_Mo_bestFor_64 : decode prog_8_method_20_code 64 = .ok (.getfield 40, 3) := by decide +kernel
theorem d_Mo_bestFor_67 : decode prog_8_method_20_code 67 = .ok (.iload 4, 2) := by decide +kernel
theorem d_Mo_bestFor_69 : decode prog_8_method_20_code 69 = .ok (.iaload, 1) := by decide +kernel
theorem d_Mo_bestFor_70 : decode prog_8_method_20_code 70 = .ok (.istore_n 3, 1) := by decide +kernel
theorem d_Mo_bestFor_71 : decode prog_8_method_20_code 71 = .ok (.iinc 4 1, 3) := by decide +kernel
theorem d_Mo_bestFor_74 : decode prog_8_method_20_code 74 = .ok (.goto (-51), 3) := by decide +kernel
theorem d_Mo_bestFor_77 : decode prog_8_method_20_code 77 = .ok (.iload_n 3, 1) := by decide +kernel
theorem d_Mo_bestFor_78 : decode prog_8_method_20_code 78 = .ok (.ireturn, 1) := by decide +kernel
theorem d_Mo_reached_0 : decode prog_8_method_19_code 0 = .ok (.iconst 1, 1) := by decide +kernel
theorem d_Mo_reached_1 : decode prog_8_method_19_code 1 = .ok (.iload_n 1, 1) := by decide +kernel
theorem d_Mo_reached_2 : decode prog_8_method_19_code 2 = .ok (.ishl, 1) := by decide +kernel
theorem d_Mo_reached_3 : decode prog_8_method_19_code 3 = .ok (.istore_n 2, 1) := by decide +kernel
theorem d_Mo_reached_4 : decode prog_8_method_19_code 4 = .ok (.iconst 0, 1) := by decide +kernel
theorem d_Mo_reached_5 : decode prog_8_method_19_code 5 = .ok (.istore_n 3, 1) := by decide +kernel
theorem d_Mo_reached_6 : decode prog_8_method_19_code 6 = .ok (.iload_n 3, 1) := by decide +kernel
theorem d_Mo_reached_7 : decode prog_8_method_19_code 7 = .ok (.iload_n 2, 1) := by decide +kernel
theorem d_Mo_reached_8 : decode prog_8_method_19_code 8 = .ok (.if_icmp .eq 119, 3) := by decide +kernel
theorem d_Mo_reached_11 : decode prog_8_method_19_code 11 = .ok (.iload_n 2, 1) := by decide +kernel
theorem d_Mo_reached_12 : decode prog_8_method_19_code 12 = .ok (.istore_n 3, 1) := by decide +kernel
theorem d_Mo_reached_13 : decode prog_8_method_19_code 13 = .ok (.iconst 0, 1) := by decide +kernel
theorem d_Mo_reached_14 : decode prog_8_method_19_code 14 = .ok (.istore 4, 2) := by decide +kernel
theorem d_Mo_reached_16 : decode prog_8_method_19_code 16 = .ok (.iload 4, 2) := by decide +kernel
theorem d_Mo_reached_18 : decode prog_8_method_19_code 18 = .ok (.aload_n 0, 1) := by decide +kernel
theorem d_Mo_reached_19 : decode prog_8_method_19_code 19 = .ok (.getfield 55, 3) := by decide +kernel
theorem d_Mo_reached_22 : decode prog_8_method_19_code 22 = .ok (.if_icmp .ge 102, 3) := by decide +kernel
theorem d_Mo_reached_25 : decode prog_8_method_19_code 25 = .ok (.aload_n 0, 1) := by decide +kernel
theorem d_Mo_reached_26 : decode prog_8_method_19_code 26 = .ok (.getfield 58, 3) := by decide +kernel
theorem d_Mo_reached_29 : decode prog_8_method_19_code 29 = .ok (.iload 4, 2) := by decide +kernel
theorem d_Mo_reached_31 : decode prog_8_method_19_code 31 = .ok (.iaload, 1) := by decide +kernel
theorem d_Mo_reached_32 : decode prog_8_method_19_code 32 = .ok (.iconst 4, 1) := by decide +kernel
theorem d_Mo_reached_33 : decode prog_8_method_19_code 33 = .ok (.idiv, 1) := by decide +kernel
theorem d_Mo_reached_34 : decode prog_8_method_19_code 34 = .ok (.istore 5, 2) := by decide +kernel
theorem d_Mo_reached_36 : decode prog_8_method_19_code 36 = .ok (.aload_n 0, 1) := by decide +kernel
theorem d_Mo_reached_37 : decode prog_8_method_19_code 37 = .ok (.getfield 61, 3) := by decide +kernel
theorem d_Mo_reached_40 : decode prog_8_method_19_code 40 = .ok (.iload 4, 2) := by decide +kernel
theorem d_Mo_reached_42 : decode prog_8_method_19_code 42 = .ok (.iaload, 1) := by decide +kernel
theorem d_Mo_reached_43 : decode prog_8_method_19_code 43 = .ok (.iconst 4, 1) := by decide +kernel
theorem d_Mo_reached_44 : decode prog_8_method_19_code 44 = .ok (.idiv, 1) := by decide +kernel
theorem d_Mo_reached_45 : decode prog_8_method_19_code 45 = .ok (.istore 6, 2) := by decide +kernel
theorem d_Mo_reached_47 : decode prog_8_method_19_code 47 = .ok (.aload_n 0, 1) := by decide +kernel
theorem d_Mo_reached_48 : decode prog_8_method_19_code 48 = .ok (.getfield 64, 3) := by decide +kernel
theorem d_Mo_reached_51 : decode prog_8_method_19_code 51 = .ok (.sipush 688, 3) := by decide +kernel
theorem d_Mo_reached_54 : decode prog_8_method_19_code 54 = .ok (.iload 4, 2) := by decide +kernel
theorem d_Mo_reached_56 : decode prog_8_method_19_code 56 = .ok (.iadd, 1) := by decide +kernel
theorem d_Mo_reached_57 : decode prog_8_method_19_code 57 = .ok (.iaload, 1) := by decide +kernel
theorem d_Mo_reached_58 : decode prog_8_method_19_code 58 = .ok (.ifCond .ne 25, 3) := by decide +kernel
theorem d_Mo_reached_61 : decode prog_8_method_19_code 61 = .ok (.aload_n 0, 1) := by decide +kernel
theorem d_Mo_reached_62 : decode prog_8_method_19_code 62 = .ok (.iload 5, 2) := by decide +kernel
theorem d_Mo_reached_64 : decode prog_8_method_19_code 64 = .ok (.invokevirtual 93, 3) := by decide +kernel
theorem d_Mo_reached_67 : decode prog_8_method_19_code 67 = .ok (.ifCond .eq 16, 3) := by decide +kernel
theorem d_Mo_reached_70 : decode prog_8_method_19_code 70 = .ok (.aload_n 0, 1) := by decide +kernel
theorem d_Mo_reached_71 : decode prog_8_method_19_code 71 = .ok (.iload 6, 2) := by decide +kernel
theorem d_Mo_reached_73 : decode prog_8_method_19_code 73 = .ok (.invokevirtual 93, 3) := by decide +kernel
theorem d_Mo_reached_76 : decode prog_8_method_19_code 76 = .ok (.ifCond .eq 7, 3) := by decide +kernel
theorem d_Mo_reached_79 : decode prog_8_method_19_code 79 = .ok (.iconst 1, 1) := by decide +kernel
theorem d_Mo_reached_80 : decode prog_8_method_19_code 80 = .ok (.goto 4, 3) := by decide +kernel
theorem d_Mo_reached_83 : decode prog_8_method_19_code 83 = .ok (.iconst 0, 1) := by decide +kernel
theorem d_Mo_reached_84 : decode prog_8_method_19_code 84 = .ok (.istore 7, 2) := by decide +kernel
theorem d_Mo_reached_86 : decode prog_8_method_19_code 86 = .ok (.iload 7, 2) := by decide +kernel
theorem d_Mo_reached_88 : decode prog_8_method_19_code 88 = .ok (.ifCond .eq 30, 3) := by decide +kernel
theorem d_Mo_reached_91 : decode prog_8_method_19_code 91 = .ok (.iload_n 2, 1) := by decide +kernel
theorem d_Mo_reached_92 : decode prog_8_method_19_code 92 = .ok (.iload 5, 2) := by decide +kernel
theorem d_Mo_reached_94 : decode prog_8_method_19_code 94 = .ok (.ishr, 1) := by decide +kernel
theorem d_Mo_reached_95 : decode prog_8_method_19_code 95 = .ok (.iload_n 2, 1) := by decide +kernel
theorem d_Mo_reached_96 : decode prog_8_method_19_code 96 = .ok (.iload 6, 2) := by decide +kernel
theorem d_Mo_reached_98 : decode prog_8_method_19_code 98 = .ok (.ishr, 1) := by decide +kernel
theorem d_Mo_reached_99 : decode prog_8_method_19_code 99 = .ok (.ior, 1) := by decide +kernel
theorem d_Mo_reached_100 : decode prog_8_method_19_code 100 = .ok (.iconst 1, 1) := by decide +kernel
theorem d_Mo_reached_101 : decode prog_8_method_19_code 101 = .ok (.iand, 1) := by decide +kernel
theorem d_Mo_reached_102 : decode prog_8_method_19_code 102 = .ok (.iconst 1, 1) := by decide +kernel
theorem d_Mo_reached_103 : decode prog_8_method_19_code 103 = .ok (.if_icmp .ne 15, 3) := by decide +kernel
theorem d_Mo_reached_106 : decode prog_8_method_19_code 106 = .ok (.iload_n 2, 1) := by decide +kernel
theorem d_Mo_reached_107 : decode prog_8_method_19_code 107 = .ok (.iconst 1, 1) := by decide +kernel
theorem d_Mo_reached_108 : decode prog_8_method_19_code 108 = .ok (.iload 5, 2) := by decide +kernel
theorem d_Mo_reached_110 : decode prog_8_method_19_code 110 = .ok (.ishl, 1) := by decide +kernel
theorem d_Mo_reached_111 : decode prog_8_method_19_code 111 = .ok (.ior, 1) := by decide +kernel
theorem d_Mo_reached_112 : decode prog_8_method_19_code 112 = .ok (.iconst 1, 1) := by decide +kernel
theorem d_Mo_reached_113 : decode prog_8_method_19_code 113 = .ok (.iload 6, 2) := by decide +kernel
theorem d_Mo_reached_115 : decode prog_8_method_19_code 115 = .ok (.ishl, 1) := by decide +kernel
theorem d_Mo_reached_116 : decode prog_8_method_19_code 116 = .ok (.ior, 1) := by decide +kernel
theorem d_Mo_reached_117 : decode prog_8_method_19_code 117 = .ok (.istore_n 2, 1) := by decide +kernel
theorem d_Mo_reached_118 : decode prog_8_method_19_code 118 = .ok (.iinc 4 1, 3) := by decide +kernel
theorem d_Mo_reached_121 : decode prog_8_method_19_code 121 = .ok (.goto (-105), 3) := by decide +kernel
theorem d_Mo_reached_124 : decode prog_8_method_19_code 124 = .ok (.goto (-118), 3) := by decide +kernel
theorem d_Mo_reached_127 : decode prog_8_method_19_code 127 = .ok (.iload_n 2, 1) := by decide +kernel
theorem d_Mo_reached_128 : decode prog_8_method_19_code 128 = .ok (.ireturn, 1) := by decide +kernel
theorem d_Mo_check_0 : decode prog_8_method_47_code 0 = .ok (.aload_n 0, 1) := by decide +kernel
theorem d_Mo_check_1 : decode prog_8_method_47_code 1 = .ok (.iconst 0, 1) := by decide +kernel
theorem d_Mo_check_2 : decode prog_8_method_47_code 2 = .ok (.putfield 7, 3) := by decide +kernel
theorem d_Mo_check_5 : decode prog_8_method_47_code 5 = .ok (.aload_n 0, 1) := by decide +kernel
theorem d_Mo_check_6 : decode prog_8_method_47_code 6 = .ok (.iconst 0, 1) := by decide +kernel
theorem d_Mo_check_7 : decode prog_8_method_47_code 7 = .ok (.putfield 80, 3) := by decide +kernel
theorem d_Mo_check_10 : decode prog_8_method_47_code 10 = .ok (.aload_n 0, 1) := by decide +kernel
theorem d_Mo_check_11 : decode prog_8_method_47_code 11 = .ok (.iconst 0, 1) := by decide +kernel
theorem d_Mo_check_12 : decode prog_8_method_47_code 12 = .ok (.invokevirtual 145, 3) := by decide +kernel
theorem d_Mo_check_15 : decode prog_8_method_47_code 15 = .ok (.iconst 0, 1) := by decide +kernel
theorem d_Mo_check_16 : decode prog_8_method_47_code 16 = .ok (.istore_n 1, 1) := by decide +kernel
theorem d_Mo_check_17 : decode prog_8_method_47_code 17 = .ok (.iload_n 1, 1) := by decide +kernel
theorem d_Mo_check_18 : decode prog_8_method_47_code 18 = .ok (.aload_n 0, 1) := by decide +kernel
theorem d_Mo_check_19 : decode prog_8_method_47_code 19 = .ok (.getfield 55, 3) := by decide +kernel
theorem d_Mo_check_22 : decode prog_8_method_47_code 22 = .ok (.if_icmp .ge 38, 3) := by decide +kernel
theorem d_Mo_check_25 : decode prog_8_method_47_code 25 = .ok (.aload_n 0, 1) := by decide +kernel
theorem d_Mo_check_26 : decode prog_8_method_47_code 26 = .ok (.getfield 64, 3) := by decide +kernel
theorem d_Mo_check_29 : decode prog_8_method_47_code 29 = .ok (.sipush 688, 3) := by decide +kernel
theorem d_Mo_check_32 : decode prog_8_method_47_code 32 = .ok (.iload_n 1, 1) := by decide +kernel
theorem d_Mo_check_33 : decode prog_8_method_47_code 33 = .ok (.iadd, 1) := by decide +kernel
theorem d_Mo_check_34 : decode prog_8_method_47_code 34 = .ok (.iaload, 1) := by decide +kernel
theorem d_Mo_check_35 : decode prog_8_method_47_code 35 = .ok (.ifCond .ne 19, 3) := by decide +kernel
theorem d_Mo_check_38 : decode prog_8_method_47_code 38 = .ok (.aload_n 0, 1) := by decide +kernel
theorem d_Mo_check_39 : decode prog_8_method_47_code 39 = .ok (.getfield 64, 3) := by decide +kernel
theorem d_Mo_check_42 : decode prog_8_method_47_code 42 = .ok (.sipush 688, 3) := by decide +kernel
theorem d_Mo_check_45 : decode prog_8_method_47_code 45 = .ok (.iload_n 1, 1) := by decide +kernel
theorem d_Mo_check_46 : decode prog_8_method_47_code 46 = .ok (.iadd, 1) := by decide +kernel
theorem d_Mo_check_47 : decode prog_8_method_47_code 47 = .ok (.iconst 1, 1) := by decide +kernel
theorem d_Mo_check_48 : decode prog_8_method_47_code 48 = .ok (.iastore, 1) := by decide +kernel
theorem d_Mo_check_49 : decode prog_8_method_47_code 49 = .ok (.aload_n 0, 1) := by decide +kernel
theorem d_Mo_check_50 : decode prog_8_method_47_code 50 = .ok (.iload_n 1, 1) := by decide +kernel
theorem d_Mo_check_51 : decode prog_8_method_47_code 51 = .ok (.invokevirtual 167, 3) := by decide +kernel
theorem d_Mo_check_54 : decode prog_8_method_47_code 54 = .ok (.iinc 1 1, 3) := by decide +kernel
theorem d_Mo_check_57 : decode prog_8_method_47_code 57 = .ok (.goto (-40), 3) := by decide +kernel
theorem d_Mo_check_60 : decode prog_8_method_47_code 60 = .ok (.iconst 0, 1) := by decide +kernel
theorem d_Mo_check_61 : decode prog_8_method_47_code 61 = .ok (.istore_n 1, 1) := by decide +kernel
theorem d_Mo_check_62 : decode prog_8_method_47_code 62 = .ok (.iload_n 1, 1) := by decide +kernel
theorem d_Mo_check_63 : decode prog_8_method_47_code 63 = .ok (.bipush 16, 2) := by decide +kernel
theorem d_Mo_check_65 : decode prog_8_method_47_code 65 = .ok (.if_icmp .ge 30, 3) := by decide +kernel
theorem d_Mo_check_68 : decode prog_8_method_47_code 68 = .ok (.aload_n 0, 1) := by decide +kernel
theorem d_Mo_check_69 : decode prog_8_method_47_code 69 = .ok (.iload_n 1, 1) := by decide +kernel
theorem d_Mo_check_70 : decode prog_8_method_47_code 70 = .ok (.invokevirtual 93, 3) := by decide +kernel
theorem d_Mo_check_73 : decode prog_8_method_47_code 73 = .ok (.ifCond .eq 16, 3) := by decide +kernel
theorem d_Mo_check_76 : decode prog_8_method_47_code 76 = .ok (.aload_n 0, 1) := by decide +kernel
theorem d_Mo_check_77 : decode prog_8_method_47_code 77 = .ok (.iload_n 1, 1) := by decide +kernel
theorem d_Mo_check_78 : decode prog_8_method_47_code 78 = .ok (.invokevirtual 158, 3) := by decide +kernel
theorem d_Mo_check_81 : decode prog_8_method_47_code 81 = .ok (.aload_n 0, 1) := by decide +kernel
theorem d_Mo_check_82 : decode prog_8_method_47_code 82 = .ok (.bipush 100, 2) := by decide +kernel
theorem d_Mo_check_84 : decode prog_8_method_47_code 84 = .ok (.iload_n 1, 1) := by decide +kernel
theorem d_Mo_check_85 : decode prog_8_method_47_code 85 = .ok (.iadd, 1) := by decide +kernel
theorem d_Mo_check_86 : decode prog_8_method_47_code 86 = .ok (.invokevirtual 167, 3) := by decide +kernel
theorem d_Mo_check_89 : decode prog_8_method_47_code 89 = .ok (.iinc 1 1, 3) := by decide +kernel
theorem d_Mo_check_92 : decode prog_8_method_47_code 92 = .ok (.goto (-30), 3) := by decide +kernel
theorem d_Mo_check_95 : decode prog_8_method_47_code 95 = .ok (.aload_n 0, 1) := by decide +kernel
theorem d_Mo_check_96 : decode prog_8_method_47_code 96 = .ok (.getfield 80, 3) := by decide +kernel
theorem d_Mo_check_99 : decode prog_8_method_47_code 99 = .ok (.ireturn, 1) := by decide +kernel
theorem d_Mo_keep_0 : decode prog_8_method_22_code 0 = .ok (.iconst 0, 1) := by decide +kernel
theorem d_Mo_keep_1 : decode prog_8_method_22_code 1 = .ok (.istore_n 2, 1) := by decide +kernel
theorem d_Mo_keep_2 : decode prog_8_method_22_code 2 = .ok (.iload_n 2, 1) := by decide +kernel
theorem d_Mo_keep_3 : decode prog_8_method_22_code 3 = .ok (.sipush 762, 3) := by decide +kernel
theorem d_Mo_keep_6 : decode prog_8_method_22_code 6 = .ok (.if_icmp .ge 40, 3) := by decide +kernel
theorem d_Mo_keep_9 : decode prog_8_method_22_code 9 = .ok (.iload_n 1, 1) := by decide +kernel
theorem d_Mo_keep_10 : decode prog_8_method_22_code 10 = .ok (.ifCond .eq 18, 3) := by decide +kernel
theorem d_Mo_keep_13 : decode prog_8_method_22_code 13 = .ok (.aload_n 0, 1) := by decide +kernel
theorem d_Mo_keep_14 : decode prog_8_method_22_code 14 = .ok (.getfield 64, 3) := by decide +kernel
theorem d_Mo_keep_17 : decode prog_8_method_22_code 17 = .ok (.iload_n 2, 1) := by decide +kernel
theorem d_Mo_keep_18 : decode prog_8_method_22_code 18 = .ok (.aload_n 0, 1) := by decide +kernel
theorem d_Mo_keep_19 : decode prog_8_method_22_code 19 = .ok (.getfield 67, 3) := by decide +kernel
theorem d_Mo_keep_22 : decode prog_8_method_22_code 22 = .ok (.iload_n 2, 1) := by decide +kernel
theorem d_Mo_keep_23 : decode prog_8_method_22_code 23 = .ok (.iaload, 1) := by decide +kernel
theorem d_Mo_keep_24 : decode prog_8_method_22_code 24 = .ok (.iastore, 1) := by decide +kernel
theorem d_Mo_keep_25 : decode prog_8_method_22_code 25 = .ok (.goto 15, 3) := by decide +kernel
theorem d_Mo_keep_28 : decode prog_8_method_22_code 28 = .ok (.aload_n 0, 1) := by decide +kernel
theorem d_Mo_keep_29 : decode prog_8_method_22_code 29 = .ok (.getfield 67, 3) := by decide +kernel
theorem d_Mo_keep_32 : decode prog_8_method_22_code 32 = .ok (.iload_n 2, 1) := by decide +kernel
theorem d_Mo_keep_33 : decode prog_8_method_22_code 33 = .ok (.aload_n 0, 1) := by decide +kernel
theorem d_Mo_keep_34 : decode prog_8_method_22_code 34 = .ok (.getfield 64, 3) := by decide +kernel
theorem d_Mo_keep_37 : decode prog_8_method_22_code 37 = .ok (.iload_n 2, 1) := by decide +kernel
theorem d_Mo_keep_38 : decode prog_8_method_22_code 38 = .ok (.iaload, 1) := by decide +kernel
theorem d_Mo_keep_39 : decode prog_8_method_22_code 39 = .ok (.iastore, 1) := by decide +kernel
theorem d_Mo_keep_40 : decode prog_8_method_22_code 40 = .ok (.iinc 2 1, 3) := by decide +kernel
theorem d_Mo_keep_43 : decode prog_8_method_22_code 43 = .ok (.goto (-41), 3) := by decide +kernel
theorem d_Mo_keep_46 : decode prog_8_method_22_code 46 = .ok (.iconst 0, 1) := by decide +kernel
theorem d_Mo_keep_47 : decode prog_8_method_22_code 47 = .ok (.istore_n 2, 1) := by decide +kernel
theorem d_Mo_keep_48 : decode prog_8_method_22_code 48 = .ok (.iload_n 2, 1) := by decide +kernel
theorem d_Mo_keep_49 : decode prog_8_method_22_code 49 = .ok (.bipush 16, 2) := by decide +kernel
theorem d_Mo_keep_51 : decode prog_8_method_22_code 51 = .ok (.if_icmp .ge 40, 3) := by decide +kernel
theorem d_Mo_keep_54 : decode prog_8_method_22_code 54 = .ok (.iload_n 1, 1) := by decide +kernel
theorem d_Mo_keep_55 : decode prog_8_method_22_code 55 = .ok (.ifCond .eq 18, 3) := by decide +kernel
theorem d_Mo_keep_58 : decode prog_8_method_22_code 58 = .ok (.aload_n 0, 1) := by decide +kernel
theorem d_Mo_keep_59 : decode prog_8_method_22_code 59 = .ok (.getfield 70, 3) := by decide +kernel
theorem d_Mo_keep_62 : decode prog_8_method_22_code 62 = .ok (.iload_n 2, 1) := by decide +kernel
theorem d_Mo_keep_63 : decode prog_8_method_22_code 63 = .ok (.aload_n 0, 1) := by decide +kernel
theorem d_Mo_keep_64 : decode prog_8_method_22_code 64 = .ok (.getfield 74, 3) := by decide +kernel
theorem d_Mo_keep_67 : decode prog_8_method_22_code 67 = .ok (.iload_n 2, 1) := by decide +kernel
theorem d_Mo_keep_68 : decode prog_8_method_22_code 68 = .ok (.laload, 1) := by decide +kernel
theorem d_Mo_keep_69 : decode prog_8_method_22_code 69 = .ok (.lastore, 1) := by decide +kernel
theorem d_Mo_keep_70 : decode prog_8_method_22_code 70 = .ok (.goto 15, 3) := by decide +kernel
theorem d_Mo_keep_73 : decode prog_8_method_22_code 73 = .ok (.aload_n 0, 1) := by decide +kernel
theorem d_Mo_keep_74 : decode prog_8_method_22_code 74 = .ok (.getfield 74, 3) := by decide +kernel
theorem d_Mo_keep_77 : decode prog_8_method_22_code 77 = .ok (.iload_n 2, 1) := by decide +kernel
theorem d_Mo_keep_78 : decode prog_8_method_22_code 78 = .ok (.aload_n 0, 1) := by decide +kernel
theorem d_Mo_keep_79 : decode prog_8_method_22_code 79 = .ok (.getfield 70, 3) := by decide +kernel
theorem d_Mo_keep_82 : decode prog_8_method_22_code 82 = .ok (.iload_n 2, 1) := by decide +kernel
theorem d_Mo_keep_83 : decode prog_8_method_22_code 83 = .ok (.laload, 1) := by decide +kernel
theorem d_Mo_keep_84 : decode prog_8_method_22_code 84 = .ok (.lastore, 1) := by decide +kernel
theorem d_Mo_keep_85 : decode prog_8_method_22_code 85 = .ok (.iinc 2 1, 3) := by decide +kernel
theorem d_Mo_keep_88 : decode prog_8_method_22_code 88 = .ok (.goto (-40), 3) := by decide +kernel
theorem d_Mo_keep_91 : decode prog_8_method_22_code 91 = .ok (.return_, 1) := by decide +kernel
theorem d_Mo_goOn_0 : decode prog_8_method_23_code 0 = .ok (.iconst 0, 1) := by decide +kernel
theorem d_Mo_goOn_1 : decode prog_8_method_23_code 1 = .ok (.istore_n 2, 1) := by decide +kernel
theorem d_Mo_goOn_2 : decode prog_8_method_23_code 2 = .ok (.iconst 0, 1) := by decide +kernel
theorem d_Mo_goOn_3 : decode prog_8_method_23_code 3 = .ok (.istore_n 3, 1) := by decide +kernel
theorem d_Mo_goOn_4 : decode prog_8_method_23_code 4 = .ok (.iload_n 3, 1) := by decide +kernel
theorem d_Mo_goOn_5 : decode prog_8_method_23_code 5 = .ok (.bipush 16, 2) := by decide +kernel
theorem d_Mo_goOn_7 : decode prog_8_method_23_code 7 = .ok (.if_icmp .ge 35, 3) := by decide +kernel
theorem d_Mo_goOn_10 : decode prog_8_method_23_code 10 = .ok (.aload_n 0, 1) := by decide +kernel
theorem d_Mo_goOn_11 : decode prog_8_method_23_code 11 = .ok (.getfield 17, 3) := by decide +kernel
theorem d_Mo_goOn_14 : decode prog_8_method_23_code 14 = .ok (.iload_n 3, 1) := by decide +kernel
theorem d_Mo_goOn_15 : decode prog_8_method_23_code 15 = .ok (.baload, 1) := by decide +kernel
theorem d_Mo_goOn_16 : decode prog_8_method_23_code 16 = .ok (.ifCond .eq 20, 3) := by decide +kernel
theorem d_Mo_goOn_19 : decode prog_8_method_23_code 19 = .ok (.aload_n 0, 1) := by decide +kernel
theorem d_Mo_goOn_20 : decode prog_8_method_23_code 20 = .ok (.getfield 31, 3) := by decide +kernel
theorem d_Mo_goOn_23 : decode prog_8_method_23_code 23 = .ok (.iload_n 3, 1) := by decide +kernel
theorem d_Mo_goOn_24 : decode prog_8_method_23_code 24 = .ok (.iaload, 1) := by decide +kernel
theorem d_Mo_goOn_25 : decode prog_8_method_23_code 25 = .ok (.iload_n 2, 1) := by decide +kernel
theorem d_Mo_goOn_26 : decode prog_8_method_23_code 26 = .ok (.if_icmp .le 10, 3) := by decide +kernel
theorem d_Mo_goOn_29 : decode prog_8_method_23_code 29 = .ok (.aload_n 0, 1) := by decide +kernel
theorem d_Mo_goOn_30 : decode prog_8_method_23_code 30 = .ok (.getfield 31, 3) := by decide +kernel
theorem d_Mo_goOn_33 : decode prog_8_method_23_code 33 = .ok (.iload_n 3, 1) := by decide +kernel
theorem d_Mo_goOn_34 : decode prog_8_method_23_code 34 = .ok (.iaload, 1) := by decide +kernel
theorem d_Mo_goOn_35 : decode prog_8_method_23_code 35 = .ok (.istore_n 2, 1) := by decide +kernel
theorem d_Mo_goOn_36 : decode prog_8_method_23_code 36 = .ok (.iinc 3 1, 3) := by decide +kernel
theorem d_Mo_goOn_39 : decode prog_8_method_23_code 39 = .ok (.goto (-35), 3) := by decide +kernel
theorem d_Mo_goOn_42 : decode prog_8_method_23_code 42 = .ok (.iconst 0, 1) := by decide +kernel
theorem d_Mo_goOn_43 : decode prog_8_method_23_code 43 = .ok (.istore_n 3, 1) := by decide +kernel
theorem d_Mo_goOn_44 : decode prog_8_method_23_code 44 = .ok (.iload_n 3, 1) := by decide +kernel
theorem d_Mo_goOn_45 : decode prog_8_method_23_code 45 = .ok (.iconst 4, 1) := by decide +kernel
theorem d_Mo_goOn_46 : decode prog_8_method_23_code 46 = .ok (.bipush 24, 2) := by decide +kernel
theorem d_Mo_goOn_48 : decode prog_8_method_23_code 48 = .ok (.iload_n 2, 1) := by decide +kernel
theorem d_Mo_goOn_49 : decode prog_8_method_23_code 49 = .ok (.iadd, 1) := by decide +kernel
theorem d_Mo_goOn_50 : decode prog_8_method_23_code 50 = .ok (.imul, 1) := by decide +kernel
theorem d_Mo_goOn_51 : decode prog_8_method_23_code 51 = .ok (.if_icmp .ge 13, 3) := by decide +kernel
theorem d_Mo_goOn_54 : decode prog_8_method_23_code 54 = .ok (.aload_n 0, 1) := by decide +kernel
theorem d_Mo_goOn_55 : decode prog_8_method_23_code 55 = .ok (.invokevirtual 139, 3) := by decide +kernel
theorem d_Mo_goOn_58 : decode prog_8_method_23_code 58 = .ok (.iinc 3 1, 3) := by decide +kernel
theorem d_Mo_goOn_61 : decode prog_8_method_23_code 61 = .ok (.goto (-17), 3) := by decide +kernel
theorem d_Mo_goOn_64 : decode prog_8_method_23_code 64 = .ok (.iconst 0, 1) := by decide +kernel
theorem d_Mo_goOn_65 : decode prog_8_method_23_code 65 = .ok (.istore_n 3, 1) := by decide +kernel
theorem d_Mo_goOn_66 : decode prog_8_method_23_code 66 = .ok (.iload_n 3, 1) := by decide +kernel
theorem d_Mo_goOn_67 : decode prog_8_method_23_code 67 = .ok (.bipush 16, 2) := by decide +kernel
theorem d_Mo_goOn_69 : decode prog_8_method_23_code 69 = .ok (.if_icmp .ge 80, 3) := by decide +kernel
theorem d_Mo_goOn_72 : decode prog_8_method_23_code 72 = .ok (.aload_n 0, 1) := by decide +kernel
theorem d_Mo_goOn_73 : decode prog_8_method_23_code 73 = .ok (.iload_n 3, 1) := by decide +kernel
theorem d_Mo_goOn_74 : decode prog_8_method_23_code 74 = .ok (.invokevirtual 93, 3) := by decide +kernel
theorem d_Mo_goOn_77 : decode prog_8_method_23_code 77 = .ok (.ifCond .eq 66, 3) := by decide +kernel
theorem d_Mo_goOn_80 : decode prog_8_method_23_code 80 = .ok (.aload_n 0, 1) := by decide +kernel
theorem d_Mo_goOn_81 : decode prog_8_method_23_code 81 = .ok (.getfield 64, 3) := by decide +kernel
theorem d_Mo_goOn_84 : decode prog_8_method_23_code 84 = .ok (.sipush 512, 3) := by decide +kernel
theorem d_Mo_goOn_87 : decode prog_8_method_23_code 87 = .ok (.iload_n 3, 1) := by decide +kernel
theorem d_Mo_goOn_88 : decode prog_8_method_23_code 88 = .ok (.iadd, 1) := by decide +kernel
theorem d_Mo_goOn_89 : decode prog_8_method_23_code 89 = .ok (.iaload, 1) := by decide +kernel
theorem d_Mo_goOn_90 : decode prog_8_method_23_code 90 = .ok (.iconst 1, 1) := by decide +kernel
theorem d_Mo_goOn_91 : decode prog_8_method_23_code 91 = .ok (.if_icmp .eq 52, 3) := by decide +kernel
theorem d_Mo_goOn_94 : decode prog_8_method_23_code 94 = .ok (.aload_n 0, 1) := by decide +kernel
theorem d_Mo_goOn_95 : decode prog_8_method_23_code 95 = .ok (.iload_n 3, 1) := by decide +kernel
theorem d_Mo_goOn_96 : decode prog_8_method_23_code 96 = .ok (.invokevirtual 142, 3) := by decide +kernel
theorem d_Mo_goOn_99 : decode prog_8_method_23_code 99 = .ok (.bipush 7, 2) := by decide +kernel
theorem d_Mo_goOn_101 : decode prog_8_method_23_code 101 = .ok (.if_icmp .ge 42, 3) := by decide +kernel
theorem d_Mo_goOn_104 : decode prog_8_method_23_code 104 = .ok (.aload_n 0, 1) := by decide +kernel
theorem d_Mo_goOn_105 : decode prog_8_method_23_code 105 = .ok (.getfield 80, 3) := by decide +kernel
theorem d_Mo_goOn_108 : decode prog_8_method_23_code 108 = .ok (.bipush 100, 2) := by decide +kernel
theorem d_Mo_goOn_110 : decode prog_8_method_23_code 110 = .ok (.if_icmp .ge 33, 3) := by decide +kernel
theorem d_Mo_goOn_113 : decode prog_8_method_23_code 113 = .ok (.aload_n 0, 1) := by decide +kernel
theorem d_Mo_goOn_114 : decode prog_8_method_23_code 114 = .ok (.getfield 83, 3) := by decide +kernel
theorem d_Mo_goOn_117 : decode prog_8_method_23_code 117 = .ok (.aload_n 0, 1) := by decide +kernel
theorem d_Mo_goOn_118 : decode prog_8_method_23_code 118 = .ok (.getfield 80, 3) := by decide +kernel
theorem d_Mo_goOn_121 : decode prog_8_method_23_code 121 = .ok (.iload_n 1, 1) := by decide +kernel
theorem d_Mo_goOn_122 : decode prog_8_method_23_code 122 = .ok (.iastore, 1) := by decide +kernel
theorem d_Mo_goOn_123 : decode prog_8_method_23_code 123 = .ok (.aload_n 0, 1) := by decide +kernel
theorem d_Mo_goOn_124 : decode prog_8_method_23_code 124 = .ok (.getfield 86, 3) := by decide +kernel
theorem d_Mo_goOn_127 : decode prog_8_method_23_code 127 = .ok (.aload_n 0, 1) := by decide +kernel
theorem d_Mo_goOn_128 : decode prog_8_method_23_code 128 = .ok (.getfield 80, 3) := by decide +kernel
theorem d_Mo_goOn_131 : decode prog_8_method_23_code 131 = .ok (.iload_n 3, 1) := by decide +kernel
theorem d_Mo_goOn_132 : decode prog_8_method_23_code 132 = .ok (.iastore, 1) := by decide +kernel
theorem d_Mo_goOn_133 : decode prog_8_method_23_code 133 = .ok (.aload_n 0, 1) := by decide +kernel
theorem d_Mo_goOn_134 : decode prog_8_method_23_code 134 = .ok (.dup, 1) := by decide +kernel
theorem d_Mo_goOn_135 : decode prog_8_method_23_code 135 = .ok (.getfield 80, 3) := by decide +kernel
theorem d_Mo_goOn_138 : decode prog_8_method_23_code 138 = .ok (.iconst 1, 1) := by decide +kernel
theorem d_Mo_goOn_139 : decode prog_8_method_23_code 139 = .ok (.iadd, 1) := by decide +kernel
theorem d_Mo_goOn_140 : decode prog_8_method_23_code 140 = .ok (.putfield 80, 3) := by decide +kernel
theorem d_Mo_goOn_143 : decode prog_8_method_23_code 143 = .ok (.iinc 3 1, 3) := by decide +kernel
theorem d_Mo_goOn_146 : decode prog_8_method_23_code 146 = .ok (.goto (-80), 3) := by decide +kernel
theorem d_Mo_goOn_149 : decode prog_8_method_23_code 149 = .ok (.aload_n 0, 1) := by decide +kernel
theorem d_Mo_goOn_150 : decode prog_8_method_23_code 150 = .ok (.iconst 1, 1) := by decide +kernel
theorem d_Mo_goOn_151 : decode prog_8_method_23_code 151 = .ok (.invokevirtual 145, 3) := by decide +kernel
theorem d_Mo_goOn_154 : decode prog_8_method_23_code 154 = .ok (.return_, 1) := by decide +kernel
theorem d_Mo_finding_0 : decode prog_8_method_48_code 0 = .ok (.aload_n 0, 1) := by decide +kernel
theorem d_Mo_finding_1 : decode prog_8_method_48_code 1 = .ok (.iload_n 1, 1) := by decide +kernel
theorem d_Mo_finding_2 : decode prog_8_method_48_code 2 = .ok (.ifCond .lt 20, 3) := by decide +kernel
theorem d_Mo_finding_5 : decode prog_8_method_48_code 5 = .ok (.iload_n 1, 1) := by decide +kernel
theorem d_Mo_finding_6 : decode prog_8_method_48_code 6 = .ok (.aload_n 0, 1) := by decide +kernel
theorem d_Mo_finding_7 : decode prog_8_method_48_code 7 = .ok (.getfield 80, 3) := by decide +kernel
theorem d_Mo_finding_10 : decode prog_8_method_48_code 10 = .ok (.if_icmp .ge 12, 3) := by decide +kernel
theorem d_Mo_finding_13 : decode prog_8_method_48_code 13 = .ok (.iload_n 2, 1) := by decide +kernel
theorem d_Mo_finding_14 : decode prog_8_method_48_code 14 = .ok (.ifCond .lt 8, 3) := by decide +kernel
theorem d_Mo_finding_17 : decode prog_8_method_48_code 17 = .ok (.iload_n 2, 1) := by decide +kernel
theorem d_Mo_finding_18 : decode prog_8_method_48_code 18 = .ok (.iconst 1, 1) := by decide +kernel
theorem d_Mo_finding_19 : decode prog_8_method_48_code 19 = .ok (.if_icmp .le 7, 3) := by decide +kernel
theorem d_Mo_finding_22 : decode prog_8_method_48_code 22 = .ok (.iconst 1, 1) := by decide +kernel
theorem d_Mo_finding_23 : decode prog_8_method_48_code 23 = .ok (.goto 4, 3) := by decide +kernel
theorem d_Mo_finding_26 : decode prog_8_method_48_code 26 = .ok (.iconst 0, 1) := by decide +kernel
theorem d_Mo_finding_27 : decode prog_8_method_48_code 27 = .ok (.putfield 7, 3) := by decide +kernel
theorem d_Mo_finding_30 : decode prog_8_method_48_code 30 = .ok (.aload_n 0, 1) := by decide +kernel
theorem d_Mo_finding_31 : decode prog_8_method_48_code 31 = .ok (.getfield 7, 3) := by decide +kernel
theorem d_Mo_finding_34 : decode prog_8_method_48_code 34 = .ok (.ifCond .eq 7, 3) := by decide +kernel
theorem d_Mo_finding_37 : decode prog_8_method_48_code 37 = .ok (.iconst 0, 1) := by decide +kernel
theorem d_Mo_finding_38 : decode prog_8_method_48_code 38 = .ok (.goto 22, 3) := by decide +kernel
theorem d_Mo_finding_41 : decode prog_8_method_48_code 41 = .ok (.iload_n 2, 1) := by decide +kernel
theorem d_Mo_finding_42 : decode prog_8_method_48_code 42 = .ok (.ifCond .ne 12, 3) := by decide +kernel
theorem d_Mo_finding_45 : decode prog_8_method_48_code 45 = .ok (.aload_n 0, 1) := by decide +kernel
theorem d_Mo_finding_46 : decode prog_8_method_48_code 46 = .ok (.getfield 83, 3) := by decide +kernel
theorem d_Mo_finding_49 : decode prog_8_method_48_code 49 = .ok (.iload_n 1, 1) := by decide +kernel
theorem d_Mo_finding_50 : decode prog_8_method_48_code 50 = .ok (.iaload, 1) := by decide +kernel
theorem d_Mo_finding_51 : decode prog_8_method_48_code 51 = .ok (.goto 9, 3) := by decide +kernel
theorem d_Mo_finding_54 : decode prog_8_method_48_code 54 = .ok (.aload_n 0, 1) := by decide +kernel
theorem d_Mo_finding_55 : decode prog_8_method_48_code 55 = .ok (.getfield 86, 3) := by decide +kernel
theorem d_Mo_finding_58 : decode prog_8_method_48_code 58 = .ok (.iload_n 1, 1) := by decide +kernel
theorem d_Mo_finding_59 : decode prog_8_method_48_code 59 = .ok (.iaload, 1) := by decide +kernel
theorem d_Mo_finding_60 : decode prog_8_method_48_code 60 = .ok (.ireturn, 1) := by decide +kernel
