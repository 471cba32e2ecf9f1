theorem dX10_lathe_64 : decode cX10_lathe 64 = .ok (.bipush 8, 2) := by decide +kernel
theorem dX10_lathe_66 : decode cX10_lathe 66 = .ok (.iload_n 1, 1) := by decide +kernel
theorem dX10_lathe_67 : decode cX10_lathe 67 = .ok (.imul, 1) := by decide +kernel
theorem dX10_lathe_68 : decode cX10_lathe 68 = .ok (.iload_n 2, 1) := by decide +kernel
theorem dX10_lathe_69 : decode cX10_lathe 69 = .ok (.iadd, 1) := by decide +kernel
theorem dX10_lathe_70 : decode cX10_lathe 70 = .ok (.istore_n 3, 1) := by decide +kernel
theorem dX10_lathe_71 : decode cX10_lathe 71 = .ok (.aload_n 0, 1) := by decide +kernel
theorem dX10_lathe_72 : decode cX10_lathe 72 = .ok (.getfield 37, 3) := by decide +kernel
theorem dX10_lathe_75 : decode cX10_lathe 75 = .ok (.iload_n 3, 1) := by decide +kernel
theorem dX10_lathe_76 : decode cX10_lathe 76 = .ok (.iaload, 1) := by decide +kernel
theorem dX10_lathe_77 : decode cX10_lathe 77 = .ok (.ifCond .ne 33, 3) := by decide +kernel
theorem dX10_lathe_80 : decode cX10_lathe 80 = .ok (.aload_n 0, 1) := by decide +kernel
theorem dX10_lathe_81 : decode cX10_lathe 81 = .ok (.getfield 19, 3) := by decide +kernel
theorem dX10_lathe_84 : decode cX10_lathe 84 = .ok (.iconst 4, 1) := by decide +kernel
theorem dX10_lathe_85 : decode cX10_lathe 85 = .ok (.iload_n 1, 1) := by decide +kernel
theorem dX10_lathe_86 : decode cX10_lathe 86 = .ok (.imul, 1) := by decide +kernel
theorem dX10_lathe_87 : decode cX10_lathe 87 = .ok (.aload_n 0, 1) := by decide +kernel
theorem dX10_lathe_88 : decode cX10_lathe 88 = .ok (.getfield 43, 3) := by decide +kernel
theorem dX10_lathe_91 : decode cX10_lathe 91 = .ok (.iload_n 3, 1) := by decide +kernel
theorem dX10_lathe_92 : decode cX10_lathe 92 = .ok (.iaload, 1) := by decide +kernel
theorem dX10_lathe_93 : decode cX10_lathe 93 = .ok (.iadd, 1) := by decide +kernel
theorem dX10_lathe_94 : decode cX10_lathe 94 = .ok (.dup2, 1) := by decide +kernel
theorem dX10_lathe_95 : decode cX10_lathe 95 = .ok (.iaload, 1) := by decide +kernel
theorem dX10_lathe_96 : decode cX10_lathe 96 = .ok (.aload_n 0, 1) := by decide +kernel
theorem dX10_lathe_97 : decode cX10_lathe 97 = .ok (.getfield 46, 3) := by decide +kernel
theorem dX10_lathe_100 : decode cX10_lathe 100 = .ok (.iload_n 3, 1) := by decide +kernel
theorem dX10_lathe_101 : decode cX10_lathe 101 = .ok (.iaload, 1) := by decide +kernel
theorem dX10_lathe_102 : decode cX10_lathe 102 = .ok (.isub, 1) := by decide +kernel
theorem dX10_lathe_103 : decode cX10_lathe 103 = .ok (.iastore, 1) := by decide +kernel
theorem dX10_lathe_104 : decode cX10_lathe 104 = .ok (.aload_n 0, 1) := by decide +kernel
theorem dX10_lathe_105 : decode cX10_lathe 105 = .ok (.iload_n 1, 1) := by decide +kernel
theorem dX10_lathe_106 : decode cX10_lathe 106 = .ok (.iload_n 2, 1) := by decide +kernel
theorem dX10_lathe_107 : decode cX10_lathe 107 = .ok (.invokevirtual 193, 3) := by decide +kernel
theorem dX10_lathe_110 : decode cX10_lathe 110 = .ok (.iinc 2 (-1), 3) := by decide +kernel
theorem dX10_lathe_113 : decode cX10_lathe 113 = .ok (.goto (-53), 3) := by decide +kernel
theorem dX10_lathe_116 : decode cX10_lathe 116 = .ok (.aload_n 0, 1) := by decide +kernel
theorem dX10_lathe_117 : decode cX10_lathe 117 = .ok (.getfield 19, 3) := by decide +kernel
theorem dX10_lathe_120 : decode cX10_lathe 120 = .ok (.iconst 4, 1) := by decide +kernel
theorem dX10_lathe_121 : decode cX10_lathe 121 = .ok (.iload_n 1, 1) := by decide +kernel
theorem dX10_lathe_122 : decode cX10_lathe 122 = .ok (.imul, 1) := by decide +kernel
theorem dX10_lathe_123 : decode cX10_lathe 123 = .ok (.iaload, 1) := by decide +kernel
theorem dX10_lathe_124 : decode cX10_lathe 124 = .ok (.istore_n 2, 1) := by decide +kernel
theorem dX10_lathe_125 : decode cX10_lathe 125 = .ok (.iconst 4, 1) := by decide +kernel
theorem dX10_lathe_126 : decode cX10_lathe 126 = .ok (.iload_n 1, 1) := by decide +kernel
theorem dX10_lathe_127 : decode cX10_lathe 127 = .ok (.imul, 1) := by decide +kernel
theorem dX10_lathe_128 : decode cX10_lathe 128 = .ok (.istore_n 3, 1) := by decide +kernel
theorem dX10_lathe_129 : decode cX10_lathe 129 = .ok (.iload_n 3, 1) := by decide +kernel
theorem dX10_lathe_130 : decode cX10_lathe 130 = .ok (.iconst 4, 1) := by decide +kernel
theorem dX10_lathe_131 : decode cX10_lathe 131 = .ok (.iload_n 1, 1) := by decide +kernel
theorem dX10_lathe_132 : decode cX10_lathe 132 = .ok (.imul, 1) := by decide +kernel
theorem dX10_lathe_133 : decode cX10_lathe 133 = .ok (.iconst 4, 1) := by decide +kernel
theorem dX10_lathe_134 : decode cX10_lathe 134 = .ok (.iadd, 1) := by decide +kernel
theorem dX10_lathe_135 : decode cX10_lathe 135 = .ok (.if_icmp .ge 30, 3) := by decide +kernel
theorem dX10_lathe_138 : decode cX10_lathe 138 = .ok (.aload_n 0, 1) := by decide +kernel
theorem dX10_lathe_139 : decode cX10_lathe 139 = .ok (.getfield 19, 3) := by decide +kernel
theorem dX10_lathe_142 : decode cX10_lathe 142 = .ok (.iload_n 3, 1) := by decide +kernel
theorem dX10_lathe_143 : decode cX10_lathe 143 = .ok (.iaload, 1) := by decide +kernel
theorem dX10_lathe_144 : decode cX10_lathe 144 = .ok (.iload_n 2, 1) := by decide +kernel
theorem dX10_lathe_145 : decode cX10_lathe 145 = .ok (.if_icmp .ge 12, 3) := by decide +kernel
theorem dX10_lathe_148 : decode cX10_lathe 148 = .ok (.aload_n 0, 1) := by decide +kernel
theorem dX10_lathe_149 : decode cX10_lathe 149 = .ok (.getfield 19, 3) := by decide +kernel
theorem dX10_lathe_152 : decode cX10_lathe 152 = .ok (.iload_n 3, 1) := by decide +kernel
theorem dX10_lathe_153 : decode cX10_lathe 153 = .ok (.iaload, 1) := by decide +kernel
theorem dX10_lathe_154 : decode cX10_lathe 154 = .ok (.goto 4, 3) := by decide +kernel
theorem dX10_lathe_157 : decode cX10_lathe 157 = .ok (.iload_n 2, 1) := by decide +kernel
theorem dX10_lathe_158 : decode cX10_lathe 158 = .ok (.istore_n 2, 1) := by decide +kernel
theorem dX10_lathe_159 : decode cX10_lathe 159 = .ok (.iinc 3 1, 3) := by decide +kernel
theorem dX10_lathe_162 : decode cX10_lathe 162 = .ok (.goto (-33), 3) := by decide +kernel
theorem dX10_lathe_165 : decode cX10_lathe 165 = .ok (.iconst 4, 1) := by decide +kernel
theorem dX10_lathe_166 : decode cX10_lathe 166 = .ok (.iload_n 1, 1) := by decide +kernel
theorem dX10_lathe_167 : decode cX10_lathe 167 = .ok (.imul, 1) := by decide +kernel
theorem dX10_lathe_168 : decode cX10_lathe 168 = .ok (.istore_n 3, 1) := by decide +kernel
theorem dX10_lathe_169 : decode cX10_lathe 169 = .ok (.iload_n 3, 1) := by decide +kernel
theorem dX10_lathe_170 : decode cX10_lathe 170 = .ok (.iconst 4, 1) := by decide +kernel
theorem dX10_lathe_171 : decode cX10_lathe 171 = .ok (.iload_n 1, 1) := by decide +kernel
theorem dX10_lathe_172 : decode cX10_lathe 172 = .ok (.imul, 1) := by decide +kernel
theorem dX10_lathe_173 : decode cX10_lathe 173 = .ok (.iconst 4, 1) := by decide +kernel
theorem dX10_lathe_174 : decode cX10_lathe 174 = .ok (.iadd, 1) := by decide +kernel
theorem dX10_lathe_175 : decode cX10_lathe 175 = .ok (.if_icmp .ge 16, 3) := by decide +kernel
theorem dX10_lathe_178 : decode cX10_lathe 178 = .ok (.aload_n 0, 1) := by decide +kernel
theorem dX10_lathe_179 : decode cX10_lathe 179 = .ok (.getfield 19, 3) := by decide +kernel
theorem dX10_lathe_182 : decode cX10_lathe 182 = .ok (.iload_n 3, 1) := by decide +kernel
theorem dX10_lathe_183 : decode cX10_lathe 183 = .ok (.iload_n 2, 1) := by decide +kernel
theorem dX10_lathe_184 : decode cX10_lathe 184 = .ok (.iastore, 1) := by decide +kernel
theorem dX10_lathe_185 : decode cX10_lathe 185 = .ok (.iinc 3 1, 3) := by decide +kernel
theorem dX10_lathe_188 : decode cX10_lathe 188 = .ok (.goto (-19), 3) := by decide +kernel
theorem dX10_lathe_191 : decode cX10_lathe 191 = .ok (.iload_n 2, 1) := by decide +kernel
theorem dX10_lathe_192 : decode cX10_lathe 192 = .ok (.ireturn, 1) := by decide +kernel
theorem dX10_mend_0 : decode cX10_mend 0 = .ok (.aload_n 0, 1) := by decide +kernel
theorem dX10_mend_1 : decode cX10_mend 1 = .ok (.aload_n 0, 1) := by decide +kernel
theorem dX10_mend_2 : decode cX10_mend 2 = .ok (.iload_n 1, 1) := by decide +kernel
theorem dX10_mend_3 : decode cX10_mend 3 = .ok (.iload_n 2, 1) := by decide +kernel
theorem dX10_mend_4 : decode cX10_mend 4 = .ok (.invokevirtual 196, 3) := by decide +kernel
theorem dX10_mend_7 : decode cX10_mend 7 = .ok (.ifCond .ne 7, 3) := by decide +kernel
theorem dX10_mend_10 : decode cX10_mend 10 = .ok (.iconst 1, 1) := by decide +kernel
theorem dX10_mend_11 : decode cX10_mend 11 = .ok (.goto 22, 3) := by decide +kernel
theorem dX10_mend_14 : decode cX10_mend 14 = .ok (.aload_n 0, 1) := by decide +kernel
theorem dX10_mend_15 : decode cX10_mend 15 = .ok (.getfield 37, 3) := by decide +kernel
theorem dX10_mend_18 : decode cX10_mend 18 = .ok (.bipush 8, 2) := by decide +kernel
theorem dX10_mend_20 : decode cX10_mend 20 = .ok (.iload_n 1, 1) := by decide +kernel
theorem dX10_mend_21 : decode cX10_mend 21 = .ok (.imul, 1) := by decide +kernel
theorem dX10_mend_22 : decode cX10_mend 22 = .ok (.iload_n 2, 1) := by decide +kernel
theorem dX10_mend_23 : decode cX10_mend 23 = .ok (.iadd, 1) := by decide +kernel
theorem dX10_mend_24 : decode cX10_mend 24 = .ok (.iaload, 1) := by decide +kernel
theorem dX10_mend_25 : decode cX10_mend 25 = .ok (.ifCond .ne 7, 3) := by decide +kernel
theorem dX10_mend_28 : decode cX10_mend 28 = .ok (.iconst 2, 1) := by decide +kernel
theorem dX10_mend_29 : decode cX10_mend 29 = .ok (.goto 4, 3) := by decide +kernel
theorem dX10_mend_32 : decode cX10_mend 32 = .ok (.iconst 0, 1) := by decide +kernel
theorem dX10_mend_33 : decode cX10_mend 33 = .ok (.putfield 101, 3) := by decide +kernel
theorem dX10_mend_36 : decode cX10_mend 36 = .ok (.aload_n 0, 1) := by decide +kernel
theorem dX10_mend_37 : decode cX10_mend 37 = .ok (.getfield 101, 3) := by decide +kernel
theorem dX10_mend_40 : decode cX10_mend 40 = .ok (.ifCond .le 5, 3) := by decide +kernel
theorem dX10_mend_43 : decode cX10_mend 43 = .ok (.iconst 0, 1) := by decide +kernel
theorem dX10_mend_44 : decode cX10_mend 44 = .ok (.ireturn, 1) := by decide +kernel
theorem dX10_mend_45 : decode cX10_mend 45 = .ok (.aload_n 0, 1) := by decide +kernel
theorem dX10_mend_46 : decode cX10_mend 46 = .ok (.getfield 37, 3) := by decide +kernel
theorem dX10_mend_49 : decode cX10_mend 49 = .ok (.bipush 8, 2) := by decide +kernel
theorem dX10_mend_51 : decode cX10_mend 51 = .ok (.iload_n 1, 1) := by decide +kernel
theorem dX10_mend_52 : decode cX10_mend 52 = .ok (.imul, 1) := by decide +kernel
theorem dX10_mend_53 : decode cX10_mend 53 = .ok (.iload_n 2, 1) := by decide +kernel
theorem dX10_mend_54 : decode cX10_mend 54 = .ok (.iadd, 1) := by decide +kernel
theorem dX10_mend_55 : decode cX10_mend 55 = .ok (.iaload, 1) := by decide +kernel
theorem dX10_mend_56 : decode cX10_mend 56 = .ok (.istore_n 3, 1) := by decide +kernel
theorem dX10_mend_57 : decode cX10_mend 57 = .ok (.aload_n 0, 1) := by decide +kernel
theorem dX10_mend_58 : decode cX10_mend 58 = .ok (.iload_n 1, 1) := by decide +kernel
theorem dX10_mend_59 : decode cX10_mend 59 = .ok (.iload_n 2, 1) := by decide +kernel
theorem dX10_mend_60 : decode cX10_mend 60 = .ok (.invokevirtual 193, 3) := by decide +kernel
theorem dX10_mend_63 : decode cX10_mend 63 = .ok (.iload_n 3, 1) := by decide +kernel
theorem dX10_mend_64 : decode cX10_mend 64 = .ok (.ireturn, 1) := by decide +kernel
theorem dX10_today_0 : decode cX10_today 0 = .ok (.aload_n 0, 1) := by decide +kernel
theorem dX10_today_1 : decode cX10_today 1 = .ok (.iconst 0, 1) := by decide +kernel
theorem dX10_today_2 : decode cX10_today 2 = .ok (.putfield 101, 3) := by decide +kernel
theorem dX10_today_5 : decode cX10_today 5 = .ok (.aload_n 0, 1) := by decide +kernel
theorem dX10_today_6 : decode cX10_today 6 = .ok (.getfield 135, 3) := by decide +kernel
theorem dX10_today_9 : decode cX10_today 9 = .ok (.ireturn, 1) := by decide +kernel
theorem dX10_about_0 : decode cX10_about 0 = .ok (.aload_n 0, 1) := by decide +kernel
theorem dX10_about_1 : decode cX10_about 1 = .ok (.aload_n 0, 1) := by decide +kernel
theorem dX10_about_2 : decode cX10_about 2 = .ok (.iload_n 1, 1) := by decide +kernel
theorem dX10_about_3 : decode cX10_about 3 = .ok (.invokevirtual 115, 3) := by decide +kernel
theorem dX10_about_6 : decode cX10_about 6 = .ok (.ifCond .ne 7, 3) := by decide +kernel
theorem dX10_about_9 : decode cX10_about 9 = .ok (.iconst 1, 1) := by decide +kernel
theorem dX10_about_10 : decode cX10_about 10 = .ok (.goto 18, 3) := by decide +kernel
theorem dX10_about_13 : decode cX10_about 13 = .ok (.aload_n 0, 1) := by decide +kernel
theorem dX10_about_14 : decode cX10_about 14 = .ok (.iload_n 2, 1) := by decide +kernel
theorem dX10_about_15 : decode cX10_about 15 = .ok (.iconst 0, 1) := by decide +kernel
theorem dX10_about_16 : decode cX10_about 16 = .ok (.iconst 5, 1) := by decide +kernel
theorem dX10_about_17 : decode cX10_about 17 = .ok (.invokevirtual 105, 3) := by decide +kernel
theorem dX10_about_20 : decode cX10_about 20 = .ok (.ifCond .ne 7, 3) := by decide +kernel
theorem dX10_about_23 : decode cX10_about 23 = .ok (.iconst 2, 1) := by decide +kernel
theorem dX10_about_24 : decode cX10_about 24 = .ok (.goto 4, 3) := by decide +kernel
theorem dX10_about_27 : decode cX10_about 27 = .ok (.iconst 0, 1) := by decide +kernel
theorem dX10_about_28 : decode cX10_about 28 = .ok (.putfield 101, 3) := by decide +kernel
theorem dX10_about_31 : decode cX10_about 31 = .ok (.aload_n 0, 1) := by decide +kernel
theorem dX10_about_32 : decode cX10_about 32 = .ok (.getfield 101, 3) := by decide +kernel
theorem dX10_about_35 : decode cX10_about 35 = .ok (.ifCond .le 5, 3) := by decide +kernel
theorem dX10_about_38 : decode cX10_about 38 = .ok (.iconst 0, 1) := by decide +kernel
theorem dX10_about_39 : decode cX10_about 39 = .ok (.ireturn, 1) := by decide +kernel
theorem dX10_about_40 : decode cX10_about 40 = .ok (.iload_n 2, 1) := by decide +kernel
theorem dX10_about_41 : decode cX10_about 41 = .ok (.iconst 3, 1) := by decide +kernel
theorem dX10_about_42 : decode cX10_about 42 = .ok (.if_icmp .ge 37, 3) := by decide +kernel
theorem dX10_about_45 : decode cX10_about 45 = .ok (.iload_n 2, 1) := by decide +kernel
theorem dX10_about_46 : decode cX10_about 46 = .ok (.ifCond .ne 12, 3) := by decide +kernel
theorem dX10_about_49 : decode cX10_about 49 = .ok (.aload_n 0, 1) := by decide +kernel
theorem dX10_about_50 : decode cX10_about 50 = .ok (.getfield 7, 3) := by decide +kernel
theorem dX10_about_53 : decode cX10_about 53 = .ok (.iload_n 1, 1) := by decide +kernel
theorem dX10_about_54 : decode cX10_about 54 = .ok (.iaload, 1) := by decide +kernel
theorem dX10_about_55 : decode cX10_about 55 = .ok (.goto 23, 3) := by decide +kernel
theorem dX10_about_58 : decode cX10_about 58 = .ok (.iload_n 2, 1) := by decide +kernel
theorem dX10_about_59 : decode cX10_about 59 = .ok (.iconst 1, 1) := by decide +kernel
theorem dX10_about_60 : decode cX10_about 60 = .ok (.if_icmp .ne 12, 3) := by decide +kernel
theorem dX10_about_63 : decode cX10_about 63 = .ok (.aload_n 0, 1) := by decide +kernel
theorem dX10_about_64 : decode cX10_about 64 = .ok (.getfield 16, 3) := by decide +kernel
theorem dX10_about_67 : decode cX10_about 67 = .ok (.iload_n 1, 1) := by decide +kernel
theorem dX10_about_68 : decode cX10_about 68 = .ok (.iaload, 1) := by decide +kernel
theorem dX10_about_69 : decode cX10_about 69 = .ok (.goto 9, 3) := by decide +kernel
theorem dX10_about_72 : decode cX10_about 72 = .ok (.aload_n 0, 1) := by decide +kernel
theorem dX10_about_73 : decode cX10_about 73 = .ok (.getfield 34, 3) := by decide +kernel
theorem dX10_about_76 : decode cX10_about 76 = .ok (.iload_n 1, 1) := by decide +kernel
theorem dX10_about_77 : decode cX10_about 77 = .ok (.iaload, 1) := by decide +kernel
theorem dX10_about_78 : decode cX10_about 78 = .ok (.ireturn, 1) := by decide +kernel
theorem dX10_about_79 : decode cX10_about 79 = .ok (.iload_n 2, 1) := by decide +kernel
theorem dX10_about_80 : decode cX10_about 80 = .ok (.iconst 5, 1) := by decide +kernel
theorem dX10_about_81 : decode cX10_about 81 = .ok (.if_icmp .ge 44, 3) := by decide +kernel
theorem dX10_about_84 : decode cX10_about 84 = .ok (.iload_n 2, 1) := by decide +kernel
theorem dX10_about_85 : decode cX10_about 85 = .ok (.iconst 3, 1) := by decide +kernel
theorem dX10_about_86 : decode cX10_about 86 = .ok (.if_icmp .ne 25, 3) := by decide +kernel
theorem dX10_about_89 : decode cX10_about 89 = .ok (.aload_n 0, 1) := by decide +kernel
theorem dX10_about_90 : decode cX10_about 90 = .ok (.getfield 31, 3) := by decide +kernel
theorem dX10_about_93 : decode cX10_about 93 = .ok (.aload_n 0, 1) := by decide +kernel
theorem dX10_about_94 : decode cX10_about 94 = .ok (.getfield 7, 3) := by decide +kernel
theorem dX10_about_97 : decode cX10_about 97 = .ok (.iload_n 1, 1) := by decide +kernel
theorem dX10_about_98 : decode cX10_about 98 = .ok (.iaload, 1) := by decide +kernel
theorem dX10_about_99 : decode cX10_about 99 = .ok (.iaload, 1) := by decide +kernel
theorem dX10_about_100 : decode cX10_about 100 = .ok (.iconst 1, 1) := by decide +kernel
theorem dX10_about_101 : decode cX10_about 101 = .ok (.isub, 1) := by decide +kernel
theorem dX10_about_102 : decode cX10_about 102 = .ok (.aload_n 0, 1) := by decide +kernel
theorem dX10_about_103 : decode cX10_about 103 = .ok (.iload_n 1, 1) := by decide +kernel
theorem dX10_about_104 : decode cX10_about 104 = .ok (.invokevirtual 173, 3) := by decide +kernel
theorem dX10_about_107 : decode cX10_about 107 = .ok (.isub, 1) := by decide +kernel
theorem dX10_about_108 : decode cX10_about 108 = .ok (.goto 16, 3) := by decide +kernel
theorem dX10_about_111 : decode cX10_about 111 = .ok (.aload_n 0, 1) := by decide +kernel
theorem dX10_about_112 : decode cX10_about 112 = .ok (.iload_n 1, 1) := by decide +kernel
theorem dX10_about_113 : decode cX10_about 113 = .ok (.invokevirtual 164, 3) := by decide +kernel
theorem dX10_about_116 : decode cX10_about 116 = .ok (.ifCond .eq 7, 3) := by decide +kernel
theorem dX10_about_119 : decode cX10_about 119 = .ok (.iconst 1, 1) := by decide +kernel
theorem dX10_about_120 : decode cX10_about 120 = .ok (.goto 4, 3) := by decide +kernel
theorem dX10_about_123 : decode cX10_about 123 = .ok (.iconst 0, 1) := by decide +kernel
theorem dX10_about_124 : decode cX10_about 124 = .ok (.ireturn, 1) := by decide +kernel
theorem dX10_about_125 : decode cX10_about 125 = .ok (.iconst 0, 1) := by decide +kernel
theorem dX10_about_126 : decode cX10_about 126 = .ok (.istore_n 3, 1) := by decide +kernel
theorem dX10_about_127 : decode cX10_about 127 = .ok (.iconst 0, 1) := by decide +kernel
theorem dX10_about_128 : decode cX10_about 128 = .ok (.istore 4, 2) := by decide +kernel
theorem dX10_about_130 : decode cX10_about 130 = .ok (.iload 4, 2) := by decide +kernel
theorem dX10_about_132 : decode cX10_about 132 = .ok (.iconst 3, 1) := by decide +kernel
theorem dX10_about_133 : decode cX10_about 133 = .ok (.if_icmp .ge 73, 3) := by decide +kernel
theorem dX10_about_136 : decode cX10_about 136 = .ok (.aload_n 0, 1) := by decide +kernel
theorem dX10_about_137 : decode cX10_about 137 = .ok (.getfield 22, 3) := by decide +kernel
theorem dX10_about_140 : decode cX10_about 140 = .ok (.iconst 3, 1) := by decide +kernel
theorem dX10_about_141 : decode cX10_about 141 = .ok (.iload_n 1, 1) := by decide +kernel
theorem dX10_about_142 : decode cX10_about 142 = .ok (.imul, 1) := by decide +kernel
theorem dX10_about_143 : decode cX10_about 143 = .ok (.iload 4, 2) := by decide +kernel
theorem dX10_about_145 : decode cX10_about 145 = .ok (.iadd, 1) := by decide +kernel
theorem dX10_about_146 : decode cX10_about 146 = .ok (.iaload, 1) := by decide +kernel
theorem dX10_about_147 : decode cX10_about 147 = .ok (.aload_n 0, 1) := by decide +kernel
theorem dX10_about_148 : decode cX10_about 148 = .ok (.iload 4, 2) := by decide +kernel
theorem dX10_about_150 : decode cX10_about 150 = .ok (.invokevirtual 131, 3) := by decide +kernel
theorem dX10_about_153 : decode cX10_about 153 = .ok (.if_icmp .gt 24, 3) := by decide +kernel
theorem dX10_about_156 : decode cX10_about 156 = .ok (.aload_n 0, 1) := by decide +kernel
theorem dX10_about_157 : decode cX10_about 157 = .ok (.getfield 25, 3) := by decide +kernel
theorem dX10_about_160 : decode cX10_about 160 = .ok (.iconst 3, 1) := by decide +kernel
theorem dX10_about_161 : decode cX10_about 161 = .ok (.iload_n 1, 1) := by decide +kernel
theorem dX10_about_162 : decode cX10_about 162 = .ok (.imul, 1) := by decide +kernel
theorem dX10_about_163 : decode cX10_about 163 = .ok (.iload 4, 2) := by decide +kernel
theorem dX10_about_165 : decode cX10_about 165 = .ok (.iadd, 1) := by decide +kernel
theorem dX10_about_166 : decode cX10_about 166 = .ok (.iaload, 1) := by decide +kernel
theorem dX10_about_167 : decode cX10_about 167 = .ok (.aload_n 0, 1) := by decide +kernel
theorem dX10_about_168 : decode cX10_about 168 = .ok (.getfield 73, 3) := by decide +kernel
theorem dX10_about_171 : decode cX10_about 171 = .ok (.iload 4, 2) := by decide +kernel
theorem dX10_about_173 : decode cX10_about 173 = .ok (.iaload, 1) := by decide +kernel
theorem dX10_about_174 : decode cX10_about 174 = .ok (.if_icmp .le 7, 3) := by decide +kernel
theorem dX10_about_177 : decode cX10_about 177 = .ok (.iconst 1, 1) := by decide +kernel
theorem dX10_about_178 : decode cX10_about 178 = .ok (.goto 4, 3) := by decide +kernel
theorem dX10_about_181 : decode cX10_about 181 = .ok (.iconst 0, 1) := by decide +kernel
theorem dX10_about_182 : decode cX10_about 182 = .ok (.istore 5, 2) := by decide +kernel
theorem dX10_about_184 : decode cX10_about 184 = .ok (.iload_n 3, 1) := by decide +kernel
theorem dX10_about_185 : decode cX10_about 185 = .ok (.iload 5, 2) := by decide +kernel
theorem dX10_about_187 : decode cX10_about 187 = .ok (.ifCond .eq 10, 3) := by decide +kernel
theorem dX10_about_190 : decode cX10_about 190 = .ok (.iconst 1, 1) := by decide +kernel
theorem dX10_about_191 : decode cX10_about 191 = .ok (.iload 4, 2) := by decide +kernel
theorem dX10_about_193 : decode cX10_about 193 = .ok (.ishl, 1) := by decide +kernel
theorem dX10_about_194 : decode cX10_about 194 = .ok (.goto 4, 3) := by decide +kernel
theorem dX10_about_197 : decode cX10_about 197 = .ok (.iconst 0, 1) := by decide +kernel
theorem dX10_about_198 : decode cX10_about 198 = .ok (.iadd, 1) := by decide +kernel
theorem dX10_about_199 : decode cX10_about 199 = .ok (.istore_n 3, 1) := by decide +kernel
theorem dX10_about_200 : decode cX10_about 200 = .ok (.iinc 4 1, 3) := by decide +kernel
theorem dX10_about_203 : decode cX10_about 203 = .ok (.goto (-73), 3) := by decide +kernel
theorem dX10_about_206 : decode cX10_about 206 = .ok (.iload_n 3, 1) := by decide +kernel
theorem dX10_about_207 : decode cX10_about 207 = .ok (.ireturn, 1) := by decide +kernel
theorem dX10_clock_0 : decode cX10_clock 0 = .ok (.aload_n 0, 1) := by decide +kernel
theorem dX10_clock_1 : decode cX10_clock 1 = .ok (.aload_n 0, 1) := by decide +kernel
theorem dX10_clock_2 : decode cX10_clock 2 = .ok (.iload_n 1, 1) := by decide +kernel
theorem dX10_clock_3 : decode cX10_clock 3 = .ok (.invokevirtual 115, 3) := by decide +kernel
theorem dX10_clock_6 : decode cX10_clock 6 = .ok (.ifCond .eq 11, 3) := by decide +kernel
theorem dX10_clock_9 : decode cX10_clock 9 = .ok (.aload_n 0, 1) := by decide +kernel
theorem dX10_clock_10 : decode cX10_clock 10 = .ok (.iload_n 2, 1) := by decide +kernel
theorem dX10_clock_11 : decode cX10_clock 11 = .ok (.invokevirtual 127, 3) := by decide +kernel
theorem dX10_clock_14 : decode cX10_clock 14 = .ok (.ifCond .ne 7, 3) := by decide +kernel
theorem dX10_clock_17 : decode cX10_clock 17 = .ok (.iconst 1, 1) := by decide +kernel
theorem dX10_clock_18 : decode cX10_clock 18 = .ok (.goto 4, 3) := by decide +kernel
theorem dX10_clock_21 : decode cX10_clock 21 = .ok (.iconst 0, 1) := by decide +kernel
theorem dX10_clock_22 : decode cX10_clock 22 = .ok (.putfield 101, 3) := by decide +kernel
theorem dX10_clock_25 : decode cX10_clock 25 = .ok (.aload_n 0, 1) := by decide +kernel
theorem dX10_clock_26 : decode cX10_clock 26 = .ok (.getfield 101, 3) := by decide +kernel
theorem dX10_clock_29 : decode cX10_clock 29 = .ok (.ifCond .le 7, 3) := by decide +kernel
theorem dX10_clock_32 : decode cX10_clock 32 = .ok (.iconst 0, 1) := by decide +kernel
theorem dX10_clock_33 : decode cX10_clock 33 = .ok (.goto 30, 3) := by decide +kernel
theorem dX10_clock_36 : decode cX10_clock 36 = .ok (.iload_n 3, 1) := by decide +kernel
theorem dX10_clock_37 : decode cX10_clock 37 = .ok (.ifCond .eq 16, 3) := by decide +kernel
theorem dX10_clock_40 : decode cX10_clock 40 = .ok (.aload_n 0, 1) := by decide +kernel
theorem dX10_clock_41 : decode cX10_clock 41 = .ok (.getfield 25, 3) := by decide +kernel
theorem dX10_clock_44 : decode cX10_clock 44 = .ok (.iconst 3, 1) := by decide +kernel
theorem dX10_clock_45 : decode cX10_clock 45 = .ok (.iload_n 1, 1) := by decide +kernel
theorem dX10_clock_46 : decode cX10_clock 46 = .ok (.imul, 1) := by decide +kernel
theorem dX10_clock_47 : decode cX10_clock 47 = .ok (.iload_n 2, 1) := by decide +kernel
theorem dX10_clock_48 : decode cX10_clock 48 = .ok (.iadd, 1) := by decide +kernel
theorem dX10_clock_49 : decode cX10_clock 49 = .ok (.iaload, 1) := by decide +kernel
theorem dX10_clock_50 : decode cX10_clock 50 = .ok (.goto 13, 3) := by decide +kernel
theorem dX10_clock_53 : decode cX10_clock 53 = .ok (.aload_n 0, 1) := by decide +kernel
theorem dX10_clock_54 : decode cX10_clock 54 = .ok (.getfield 22, 3) := by decide +kernel
theorem dX10_clock_57 : decode cX10_clock 57 = .ok (.iconst 3, 1) := by decide +kernel
theorem dX10_clock_58 : decode cX10_clock 58 = .ok (.iload_n 1, 1) := by decide +kernel
theorem dX10_clock_59 : decode cX10_clock 59 = .ok (.imul, 1) := by decide +kernel
theorem dX10_clock_60 : decode cX10_clock 60 = .ok (.iload_n 2, 1) := by decide +kernel
theorem dX10_clock_61 : decode cX10_clock 61 = .ok (.iadd, 1) := by decide +kernel
theorem dX10_clock_62 : decode cX10_clock 62 = .ok (.iaload, 1) := by decide +kernel
theorem dX10_clock_63 : decode cX10_clock 63 = .ok (.ireturn, 1) := by decide +kernel
theorem dX10_axle_0 : decode cX10_axle 0 = .ok (.aload_n 0, 1) := by decide +kernel
theorem dX10_axle_1 : decode cX10_axle 1 = .ok (.aload_n 0, 1) := by decide +kernel
theorem dX10_axle_2 : decode cX10_axle 2 = .ok (.iload_n 1, 1) := by decide +kernel
theorem dX10_axle_3 : decode cX10_axle 3 = .ok (.invokevirtual 115, 3) := by decide +kernel
theorem dX10_axle_6 : decode cX10_axle 6 = .ok (.ifCond .eq 13, 3) := by decide +kernel
theorem dX10_axle_9 : decode cX10_axle 9 = .ok (.aload_n 0, 1) := by decide +kernel
theorem dX10_axle_10 : decode cX10_axle 10 = .ok (.iload_n 2, 1) := by decide +kernel
theorem dX10_axle_11 : decode cX10_axle 11 = .ok (.iconst 0, 1) := by decide +kernel
theorem dX10_axle_12 : decode cX10_axle 12 = .ok (.iconst 3, 1) := by decide +kernel
theorem dX10_axle_13 : decode cX10_axle 13 = .ok (.invokevirtual 105, 3) := by decide +kernel
theorem dX10_axle_16 : decode cX10_axle 16 = .ok (.ifCond .ne 7, 3) := by decide +kernel
theorem dX10_axle_19 : decode cX10_axle 19 = .ok (.iconst 1, 1) := by decide +kernel
theorem dX10_axle_20 : decode cX10_axle 20 = .ok (.goto 4, 3) := by decide +kernel
theorem dX10_axle_23 : decode cX10_axle 23 = .ok (.iconst 0, 1) := by decide +kernel
theorem dX10_axle_24 : decode cX10_axle 24 = .ok (.putfield 101, 3) := by decide +kernel
theorem dX10_axle_27 : decode cX10_axle 27 = .ok (.aload_n 0, 1) := by decide +kernel
theorem dX10_axle_28 : decode cX10_axle 28 = .ok (.getfield 101, 3) := by decide +kernel
theorem dX10_axle_31 : decode cX10_axle 31 = .ok (.ifCond .le 7, 3) := by decide +kernel
theorem dX10_axle_34 : decode cX10_axle 34 = .ok (.iconst 0, 1) := by decide +kernel
theorem dX10_axle_35 : decode cX10_axle 35 = .ok (.goto 13, 3) := by decide +kernel
theorem dX10_axle_38 : decode cX10_axle 38 = .ok (.aload_n 0, 1) := by decide +kernel
theorem dX10_axle_39 : decode cX10_axle 39 = .ok (.getfield 19, 3) := by decide +kernel
theorem dX10_axle_42 : decode cX10_axle 42 = .ok (.iconst 4, 1) := by decide +kernel
theorem dX10_axle_43 : decode cX10_axle 43 = .ok (.iload_n 1, 1) := by decide +kernel
theorem dX10_axle_44 : decode cX10_axle 44 = .ok (.imul, 1) := by decide +kernel
theorem dX10_axle_45 : decode cX10_axle 45 = .ok (.iload_n 2, 1) := by decide +kernel
theorem dX10_axle_46 : decode cX10_axle 46 = .ok (.iadd, 1) := by decide +kernel
theorem dX10_axle_47 : decode cX10_axle 47 = .ok (.iaload, 1) := by decide +kernel
theorem dX10_axle_48 : decode cX10_axle 48 = .ok (.ireturn, 1) := by decide +kernel
theorem dX10_faultAt_0 : decode cX10_faultAt 0 = .ok (.aload_n 0, 1) := by decide +kernel
theorem dX10_faultAt_1 : decode cX10_faultAt 1 = .ok (.aload_n 0, 1) := by decide +kernel
theorem dX10_faultAt_2 : decode cX10_faultAt 2 = .ok (.iload_n 1, 1) := by decide +kernel
theorem dX10_faultAt_3 : decode cX10_faultAt 3 = .ok (.iload_n 2, 1) := by decide +kernel
theorem dX10_faultAt_4 : decode cX10_faultAt 4 = .ok (.invokevirtual 196, 3) := by decide +kernel
theorem dX10_faultAt_7 : decode cX10_faultAt 7 = .ok (.ifCond .ne 7, 3) := by decide +kernel
theorem dX10_faultAt_10 : decode cX10_faultAt 10 = .ok (.iconst 1, 1) := by decide +kernel
theorem dX10_faultAt_11 : decode cX10_faultAt 11 = .ok (.goto 18, 3) := by decide +kernel
theorem dX10_faultAt_14 : decode cX10_faultAt 14 = .ok (.aload_n 0, 1) := by decide +kernel
theorem dX10_faultAt_15 : decode cX10_faultAt 15 = .ok (.iload_n 3, 1) := by decide +kernel
theorem dX10_faultAt_16 : decode cX10_faultAt 16 = .ok (.iconst 0, 1) := by decide +kernel
theorem dX10_faultAt_17 : decode cX10_faultAt 17 = .ok (.iconst 3, 1) := by decide +kernel
theorem dX10_faultAt_18 : decode cX10_faultAt 18 = .ok (.invokevirtual 105, 3) := by decide +kernel
theorem dX10_faultAt_21 : decode cX10_faultAt 21 = .ok (.ifCond .ne 7, 3) := by decide +kernel
theorem dX10_faultAt_24 : decode cX10_faultAt 24 = .ok (.iconst 2, 1) := by decide +kernel
theorem dX10_faultAt_25 : decode cX10_faultAt 25 = .ok (.goto 4, 3) := by decide +kernel
theorem dX10_faultAt_28 : decode cX10_faultAt 28 = .ok (.iconst 0, 1) := by decide +kernel
theorem dX10_faultAt_29 : decode cX10_faultAt 29 = .ok (.putfield 101, 3) := by decide +kernel
theorem dX10_faultAt_32 : decode cX10_faultAt 32 = .ok (.aload_n 0, 1) := by decide +kernel
theorem dX10_faultAt_33 : decode cX10_faultAt 33 = .ok (.getfield 101, 3) := by decide +kernel
theorem dX10_faultAt_36 : decode cX10_faultAt 36 = .ok (.ifCond .le 5, 3) := by decide +kernel
theorem dX10_faultAt_39 : decode cX10_faultAt 39 = .ok (.iconst 0, 1) := by decide +kernel
theorem dX10_faultAt_40 : decode cX10_faultAt 40 = .ok (.ireturn, 1) := by decide +kernel
theorem dX10_faultAt_41 : decode cX10_faultAt 41 = .ok (.bipush 8, 2) := by decide +kernel
theorem dX10_faultAt_43 : decode cX10_faultAt 43 = .ok (.iload_n 1, 1) := by decide +kernel
theorem dX10_faultAt_44 : decode cX10_faultAt 44 = .ok (.imul, 1) := by decide +kernel
theorem dX10_faultAt_45 : decode cX10_faultAt 45 = .ok (.iload_n 2, 1) := by decide +kernel
theorem dX10_faultAt_46 : decode cX10_faultAt 46 = .ok (.iadd, 1) := by decide +kernel
theorem dX10_faultAt_47 : decode cX10_faultAt 47 = .ok (.istore 4, 2) := by decide +kernel
theorem dX10_faultAt_49 : decode cX10_faultAt 49 = .ok (.iload_n 3, 1) := by decide +kernel
theorem dX10_faultAt_50 : decode cX10_faultAt 50 = .ok (.ifCond .ne 13, 3) := by decide +kernel
theorem dX10_faultAt_53 : decode cX10_faultAt 53 = .ok (.aload_n 0, 1) := by decide +kernel
theorem dX10_faultAt_54 : decode cX10_faultAt 54 = .ok (.getfield 37, 3) := by decide +kernel
theorem dX10_faultAt_57 : decode cX10_faultAt 57 = .ok (.iload 4, 2) := by decide +kernel
theorem dX10_faultAt_59 : decode cX10_faultAt 59 = .ok (.iaload, 1) := by decide +kernel
theorem dX10_faultAt_60 : decode cX10_faultAt 60 = .ok (.goto 40, 3) := by decide +kernel
theorem dX10_faultAt_63 : decode cX10_faultAt 63 = .ok (.iload_n 3, 1) := by decide +kernel
theorem dX10_faultAt_64 : decode cX10_faultAt 64 = .ok (.iconst 1, 1) := by decide +kernel
theorem dX10_faultAt_65 : decode cX10_faultAt 65 = .ok (.if_icmp .ne 13, 3) := by decide +kernel
theorem dX10_faultAt_68 : decode cX10_faultAt 68 = .ok (.aload_n 0, 1) := by decide +kernel
theorem dX10_faultAt_69 : decode cX10_faultAt 69 = .ok (.getfield 40, 3) := by decide +kernel
theorem dX10_faultAt_72 : decode cX10_faultAt 72 = .ok (.iload 4, 2) := by decide +kernel
theorem dX10_faultAt_74 : decode cX10_faultAt 74 = .ok (.iaload, 1) := by decide +kernel
theorem dX10_faultAt_75 : decode cX10_faultAt 75 = .ok (.goto 25, 3) := by decide +kernel
theorem dX10_faultAt_78 : decode cX10_faultAt 78 = .ok (.iload_n 3, 1) := by decide +kernel
theorem dX10_faultAt_79 : decode cX10_faultAt 79 = .ok (.iconst 2, 1) := by decide +kernel
theorem dX10_faultAt_80 : decode cX10_faultAt 80 = .ok (.if_icmp .ne 13, 3) := by decide +kernel
theorem dX10_faultAt_83 : decode cX10_faultAt 83 = .ok (.aload_n 0, 1) := by decide +kernel
theorem dX10_faultAt_84 : decode cX10_faultAt 84 = .ok (.getfield 43, 3) := by decide +kernel
theorem dX10_faultAt_87 : decode cX10_faultAt 87 = .ok (.iload 4, 2) := by decide +kernel
theorem dX10_faultAt_89 : decode cX10_faultAt 89 = .ok (.iaload, 1) := by decide +kernel
theorem dX10_faultAt_90 : decode cX10_faultAt 90 = .ok (.goto 10, 3) := by decide +kernel
theorem dX10_faultAt_93 : decode cX10_faultAt 93 = .ok (.aload_n 0, 1) := by decide +kernel
theorem dX10_faultAt_94 : decode cX10_faultAt 94 = .ok (.getfield 46, 3) := by decide +kernel
theorem dX10_faultAt_97 : decode cX10_faultAt 97 = .ok (.iload 4, 2) := by decide +kernel
theorem dX10_faultAt_99 : decode cX10_faultAt 99 = .ok (.iaload, 1) := by decide +kernel
theorem dX10_faultAt_100 : decode cX10_faultAt 100 = .ok (.ireturn, 1) := by decide +kernel
theorem dX10_stands_0 : decode cX10_stands 0 = .ok (.aload_n 0, 1) := by decide +kernel
theorem dX10_stands_1 : decode cX10_stands 1 = .ok (.aload_n 0, 1) := by decide +kernel
theorem dX10_stands_2 : decode cX10_stands 2 = .ok (.iload_n 1, 1) := by decide +kernel
theorem dX10_stands_3 : decode cX10_stands 3 = .ok (.invokevirtual 119, 3) := by decide +kernel
theorem dX10_stands_6 : decode cX10_stands 6 = .ok (.ifCond .eq 7, 3) := by decide +kernel
theorem dX10_stands_9 : decode cX10_stands 9 = .ok (.iload_n 2, 1) := by decide +kernel
theorem dX10_stands_10 : decode cX10_stands 10 = .ok (.ifCond .ge 7, 3) := by decide +kernel
theorem dX10_stands_13 : decode cX10_stands 13 = .ok (.iconst 1, 1) := by decide +kernel
theorem dX10_stands_14 : decode cX10_stands 14 = .ok (.goto 4, 3) := by decide +kernel
theorem dX10_stands_17 : decode cX10_stands 17 = .ok (.iconst 0, 1) := by decide +kernel
theorem dX10_stands_18 : decode cX10_stands 18 = .ok (.putfield 101, 3) := by decide +kernel
theorem dX10_stands_21 : decode cX10_stands 21 = .ok (.aload_n 0, 1) := by decide +kernel
theorem dX10_stands_22 : decode cX10_stands 22 = .ok (.getfield 101, 3) := by decide +kernel
theorem dX10_stands_25 : decode cX10_stands 25 = .ok (.ifCond .le 5, 3) := by decide +kernel
theorem dX10_stands_28 : decode cX10_stands 28 = .ok (.iconst 0, 1) := by decide +kernel
theorem dX10_stands_29 : decode cX10_stands 29 = .ok (.ireturn, 1) := by decide +kernel
theorem dX10_stands_30 : decode cX10_stands 30 = .ok (.iload_n 2, 1) := by decide +kernel
theorem dX10_stands_31 : decode cX10_stands 31 = .ok (.aload_n 0, 1) := by decide +kernel
theorem dX10_stands_32 : decode cX10_stands 32 = .ok (.getfield 31, 3) := by decide +kernel
theorem dX10_stands_35 : decode cX10_stands 35 = .ok (.iload_n 1, 1) := by decide +kernel
theorem dX10_stands_36 : decode cX10_stands 36 = .ok (.iaload, 1) := by decide +kernel
theorem dX10_stands_37 : decode cX10_stands 37 = .ok (.if_icmp .ge 26, 3) := by decide +kernel
theorem dX10_stands_40 : decode cX10_stands 40 = .ok (.aload_n 0, 1) := by decide +kernel
theorem dX10_stands_41 : decode cX10_stands 41 = .ok (.getfield 28, 3) := by decide +kernel
theorem dX10_stands_44 : decode cX10_stands 44 = .ok (.bipush 6, 2) := by decide +kernel
theorem dX10_stands_46 : decode cX10_stands 46 = .ok (.iload_n 1, 1) := by decide +kernel
theorem dX10_stands_47 : decode cX10_stands 47 = .ok (.imul, 1) := by decide +kernel
theorem dX10_stands_48 : decode cX10_stands 48 = .ok (.aload_n 0, 1) := by decide +kernel
theorem dX10_stands_49 : decode cX10_stands 49 = .ok (.getfield 31, 3) := by decide +kernel
theorem dX10_stands_52 : decode cX10_stands 52 = .ok (.iload_n 1, 1) := by decide +kernel
theorem dX10_stands_53 : decode cX10_stands 53 = .ok (.iaload, 1) := by decide +kernel
theorem dX10_stands_54 : decode cX10_stands 54 = .ok (.iadd, 1) := by decide +kernel
theorem dX10_stands_55 : decode cX10_stands 55 = .ok (.iconst 1, 1) := by decide +kernel
theorem dX10_stands_56 : decode cX10_stands 56 = .ok (.isub, 1) := by decide +kernel
theorem dX10_stands_57 : decode cX10_stands 57 = .ok (.iload_n 2, 1) := by decide +kernel
theorem dX10_stands_58 : decode cX10_stands 58 = .ok (.isub, 1) := by decide +kernel
theorem dX10_stands_59 : decode cX10_stands 59 = .ok (.iaload, 1) := by decide +kernel
theorem dX10_stands_60 : decode cX10_stands 60 = .ok (.goto 4, 3) := by decide +kernel
theorem dX10_stands_63 : decode cX10_stands 63 = .ok (.iconst (-1), 1) := by decide +kernel
theorem dX10_stands_64 : decode cX10_stands 64 = .ok (.ireturn, 1) := by decide +kernel
theorem dX10_shunts_0 : decode cX10_shunts 0 = .ok (.aload_n 0, 1) := by decide +kernel
theorem dX10_shunts_1 : decode cX10_shunts 1 = .ok (.iconst 0, 1) := by decide +kernel
theorem dX10_shunts_2 : decode cX10_shunts 2 = .ok (.putfield 101, 3) := by decide +kernel
theorem dX10_shunts_5 : decode cX10_shunts 5 = .ok (.aload_n 0, 1) := by decide +kernel
theorem dX10_shunts_6 : decode cX10_shunts 6 = .ok (.getfield 176, 3) := by decide +kernel
theorem dX10_shunts_9 : decode cX10_shunts 9 = .ok (.ireturn, 1) := by decide +kernel
theorem dX10_ran_0 : decode cX10_ran 0 = .ok (.aload_n 0, 1) := by decide +kernel
theorem dX10_ran_1 : decode cX10_ran 1 = .ok (.aload_n 0, 1) := by decide +kernel
theorem dX10_ran_2 : decode cX10_ran 2 = .ok (.iload_n 1, 1) := by decide +kernel
theorem dX10_ran_3 : decode cX10_ran 3 = .ok (.invokevirtual 138, 3) := by decide +kernel
theorem dX10_ran_6 : decode cX10_ran 6 = .ok (.ifCond .ne 7, 3) := by decide +kernel
theorem dX10_ran_9 : decode cX10_ran 9 = .ok (.iconst 1, 1) := by decide +kernel
theorem dX10_ran_10 : decode cX10_ran 10 = .ok (.goto 23, 3) := by decide +kernel
theorem dX10_ran_13 : decode cX10_ran 13 = .ok (.aload_n 0, 1) := by decide +kernel
theorem dX10_ran_14 : decode cX10_ran 14 = .ok (.iload_n 2, 1) := by decide +kernel
theorem dX10_ran_15 : decode cX10_ran 15 = .ok (.iconst 0, 1) := by decide +kernel
theorem dX10_ran_16 : decode cX10_ran 16 = .ok (.aload_n 0, 1) := by decide +kernel
theorem dX10_ran_17 : decode cX10_ran 17 = .ok (.getfield 135, 3) := by decide +kernel
theorem dX10_ran_20 : decode cX10_ran 20 = .ok (.iconst 1, 1) := by decide +kernel
theorem dX10_ran_21 : decode cX10_ran 21 = .ok (.isub, 1) := by decide +kernel
theorem dX10_ran_22 : decode cX10_ran 22 = .ok (.invokevirtual 105, 3) := by decide +kernel
theorem dX10_ran_25 : decode cX10_ran 25 = .ok (.ifCond .ne 7, 3) := by decide +kernel
theorem dX10_ran_28 : decode cX10_ran 28 = .ok (.iconst 2, 1) := by decide +kernel
theorem dX10_ran_29 : decode cX10_ran 29 = .ok (.goto 4, 3) := by decide +kernel
theorem dX10_ran_32 : decode cX10_ran 32 = .ok (.iconst 0, 1) := by decide +kernel
theorem dX10_ran_33 : decode cX10_ran 33 = .ok (.putfield 101, 3) := by decide +kernel
theorem dX10_ran_36 : decode cX10_ran 36 = .ok (.aload_n 0, 1) := by decide +kernel
theorem dX10_ran_37 : decode cX10_ran 37 = .ok (.getfield 101, 3) := by decide +kernel
theorem dX10_ran_40 : decode cX10_ran 40 = .ok (.ifCond .le 7, 3) := by decide +kernel
theorem dX10_ran_43 : decode cX10_ran 43 = .ok (.iconst 0, 1) := by decide +kernel
theorem dX10_ran_44 : decode cX10_ran 44 = .ok (.goto 15, 3) := by decide +kernel
theorem dX10_ran_47 : decode cX10_ran 47 = .ok (.aload_n 0, 1) := by decide +kernel
theorem dX10_ran_48 : decode cX10_ran 48 = .ok (.getfield 82, 3) := by decide +kernel
theorem dX10_ran_51 : decode cX10_ran 51 = .ok (.sipush 200, 3) := by decide +kernel
theorem dX10_ran_54 : decode cX10_ran 54 = .ok (.iload_n 1, 1) := by decide +kernel
theorem dX10_ran_55 : decode cX10_ran 55 = .ok (.imul, 1) := by decide +kernel
theorem dX10_ran_56 : decode cX10_ran 56 = .ok (.iload_n 2, 1) := by decide +kernel
theorem dX10_ran_57 : decode cX10_ran 57 = .ok (.iadd, 1) := by decide +kernel
theorem dX10_ran_58 : decode cX10_ran 58 = .ok (.iaload, 1) := by decide +kernel
theorem dX10_ran_59 : decode cX10_ran 59 = .ok (.ireturn, 1) := by decide +kernel
theorem dX10_kmAnew_0 : decode cX10_kmAnew 0 = .ok (.aload_n 0, 1) := by decide +kernel
theorem dX10_kmAnew_1 : decode cX10_kmAnew 1 = .ok (.aload_n 0, 1) := by decide +kernel
theorem dX10_kmAnew_2 : decode cX10_kmAnew 2 = .ok (.iload_n 1, 1) := by decide +kernel
theorem dX10_kmAnew_3 : decode cX10_kmAnew 3 = .ok (.invokevirtual 115, 3) := by decide +kernel
theorem dX10_kmAnew_6 : decode cX10_kmAnew 6 = .ok (.ifCond .ne 7, 3) := by decide +kernel
theorem dX10_kmAnew_9 : decode cX10_kmAnew 9 = .ok (.iconst 1, 1) := by decide +kernel
theorem dX10_kmAnew_10 : decode cX10_kmAnew 10 = .ok (.goto 4, 3) := by decide +kernel
theorem dX10_kmAnew_13 : decode cX10_kmAnew 13 = .ok (.iconst 0, 1) := by decide +kernel
theorem dX10_kmAnew_14 : decode cX10_kmAnew 14 = .ok (.putfield 101, 3) := by decide +kernel
theorem dX10_kmAnew_17 : decode cX10_kmAnew 17 = .ok (.aload_n 0, 1) := by decide +kernel
theorem dX10_kmAnew_18 : decode cX10_kmAnew 18 = .ok (.getfield 101, 3) := by decide +kernel
theorem dX10_kmAnew_21 : decode cX10_kmAnew 21 = .ok (.ifCond .le 5, 3) := by decide +kernel
theorem dX10_kmAnew_24 : decode cX10_kmAnew 24 = .ok (.iconst 0, 1) := by decide +kernel
theorem dX10_kmAnew_25 : decode cX10_kmAnew 25 = .ok (.ireturn, 1) := by decide +kernel
theorem dX10_kmAnew_26 : decode cX10_kmAnew 26 = .ok (.aload_n 0, 1) := by decide +kernel
theorem dX10_kmAnew_27 : decode cX10_kmAnew 27 = .ok (.getfield 13, 3) := by decide +kernel
theorem dX10_kmAnew_30 : decode cX10_kmAnew 30 = .ok (.iload_n 1, 1) := by decide +kernel
theorem dX10_kmAnew_31 : decode cX10_kmAnew 31 = .ok (.iaload, 1) := by decide +kernel
theorem dX10_kmAnew_32 : decode cX10_kmAnew 32 = .ok (.istore_n 2, 1) := by decide +kernel
theorem dX10_kmAnew_33 : decode cX10_kmAnew 33 = .ok (.iconst 0, 1) := by decide +kernel
theorem dX10_kmAnew_34 : decode cX10_kmAnew 34 = .ok (.istore_n 3, 1) := by decide +kernel
theorem dX10_kmAnew_35 : decode cX10_kmAnew 35 = .ok (.iload_n 3, 1) := by decide +kernel
theorem dX10_kmAnew_36 : decode cX10_kmAnew 36 = .ok (.sipush 1200, 3) := by decide +kernel
theorem dX10_kmAnew_39 : decode cX10_kmAnew 39 = .ok (.if_icmp .ge 36, 3) := by decide +kernel
theorem dX10_kmAnew_42 : decode cX10_kmAnew 42 = .ok (.iload_n 2, 1) := by decide +kernel
theorem dX10_kmAnew_43 : decode cX10_kmAnew 43 = .ok (.aload_n 0, 1) := by decide +kernel
theorem dX10_kmAnew_44 : decode cX10_kmAnew 44 = .ok (.getfield 82, 3) := by decide +kernel
theorem dX10_kmAnew_47 : decode cX10_kmAnew 47 = .ok (.iload_n 3, 1) := by decide +kernel
theorem dX10_kmAnew_48 : decode cX10_kmAnew 48 = .ok (.iaload, 1) := by decide +kernel
theorem dX10_kmAnew_49 : decode cX10_kmAnew 49 = .ok (.iload_n 1, 1) := by decide +kernel
theorem dX10_kmAnew_50 : decode cX10_kmAnew 50 = .ok (.if_icmp .ne 16, 3) := by decide +kernel
theorem dX10_kmAnew_53 : decode cX10_kmAnew 53 = .ok (.aload_n 0, 1) := by decide +kernel
theorem dX10_kmAnew_54 : decode cX10_kmAnew 54 = .ok (.getfield 55, 3) := by decide +kernel
theorem dX10_kmAnew_57 : decode cX10_kmAnew 57 = .ok (.iload_n 3, 1) := by decide +kernel
theorem dX10_kmAnew_58 : decode cX10_kmAnew 58 = .ok (.sipush 200, 3) := by decide +kernel
theorem dX10_kmAnew_61 : decode cX10_kmAnew 61 = .ok (.idiv, 1) := by decide +kernel
theorem dX10_kmAnew_62 : decode cX10_kmAnew 62 = .ok (.iaload, 1) := by decide +kernel
theorem dX10_kmAnew_63 : decode cX10_kmAnew 63 = .ok (.goto 4, 3) := by decide +kernel
theorem dX10_kmAnew_66 : decode cX10_kmAnew 66 = .ok (.iconst 0, 1) := by decide +kernel
theorem dX10_kmAnew_67 : decode cX10_kmAnew 67 = .ok (.iadd, 1) := by decide +kernel
theorem dX10_kmAnew_68 : decode cX10_kmAnew 68 = .ok (.istore_n 2, 1) := by decide +kernel
theorem dX10_kmAnew_69 : decode cX10_kmAnew 69 = .ok (.iinc 3 1, 3) := by decide +kernel
theorem dX10_kmAnew_72 : decode cX10_kmAnew 72 = .ok (.goto (-37), 3) := by decide +kernel
theorem dX10_kmAnew_75 : decode cX10_kmAnew 75 = .ok (.iload_n 2, 1) := by decide +kernel
theorem dX10_kmAnew_76 : decode cX10_kmAnew 76 = .ok (.ireturn, 1) := by decide +kernel
theorem dJ9_max_7cf53_0 : decode cJ9_max_7cf53 0 = .ok (.iload_n 0, 1) := by decide +kernel
theorem dJ9_max_7cf53_1 : decode cJ9_max_7cf53 1 = .ok (.iload_n 1, 1) := by decide +kernel
theorem dJ9_max_7cf53_2 : decode cJ9_max_7cf53 2 = .ok (.if_icmp .lt 7, 3) := by decide +kernel
theorem dJ9_max_7cf53_5 : decode cJ9_max_7cf53 5 = .ok (.iload_n 0, 1) := by decide +kernel
theorem dJ9_max_7cf53_6 : decode cJ9_max_7cf53 6 = .ok (.goto 4, 3) := by decide +kernel
theorem dJ9_max_7cf53_9 : decode cJ9_max_7cf53 9 = .ok (.iload_n 1, 1) := by decide +kernel
theorem dJ9_max_7cf53_10 : decode cJ9_max_7cf53 10 = .ok (.ireturn, 1) := by decide +kernel
theorem dJ9_min_7cf53_0 : decode cJ9_min_7cf53 0 = .ok (.iload_n 0, 1) := by decide +kernel
theorem dJ9_min_7cf53_1 : decode cJ9_min_7cf53 1 = .ok (.iload_n 1, 1) := by decide +kernel
theorem dJ9_min_7cf53_2 : decode cJ9_min_7cf53 2 = .ok (.if_icmp .gt 7, 3) := by decide +kernel
theorem dJ9_min_7cf53_5 : decode cJ9_min_7cf53 5 = .ok (.iload_n 0, 1) := by decide +kernel
theorem dJ9_min_7cf53_6 : decode cJ9_min_7cf53 6 = .ok (.goto 4, 3) := by decide +kernel
theorem dJ9_min_7cf53_9 : decode cJ9_min_7cf53 9 = .ok (.iload_n 1, 1) := by decide +kernel
theorem dJ9_min_7cf53_10 : decode cJ9_min_7cf53 10 = .ok (.ireturn, 1) := by decide +kernel
theorem dJxa1e45_init_da8c8_0 : decode cJxa1e45_init_da8c8 0 = .ok (.aload_n 0, 1) := by decide +kernel
theorem dJxa1e45_init_da8c8_1 : decode cJxa1e45_init_da8c8 1 = .ok (.invokespecial 1, 3) := by decide +kernel
theorem dJxa1e45_init_da8c8_4 : decode cJxa1e45_init_da8c8 4 = .ok (.return_, 1) := by decide +kernel
theorem dJxc12de_init_da8c8_0 : decode cJxc12de_init_da8c8 0 = .ok (.aload_n 0, 1) := by decide +kernel
theorem dJxc12de_init_da8c8_1 : decode cJxc12de_init_da8c8 1 = .ok (.invokespecial 1, 3) := by decide +kernel
theorem dJxc12de_init_da8c8_4 : decode cJxc12de_init_da8c8 4 = .ok (.aload_n 0, 1) := by decide +kernel
theorem dJxc12de_init_da8c8_5 : decode cJxc12de_init_da8c8 5 = .ok (.iconst 0, 1) := by decide +kernel
theorem dJxc12de_init_da8c8_6 : decode cJxc12de_init_da8c8 6 = .ok (.putfield 7, 3) := by decide +kernel
theorem dJxc12de_init_da8c8_9 : decode cJxc12de_init_da8c8 9 = .ok (.return_, 1) := by decide +kernel
theorem dJx4a65c_init_da8c8_0 : decode cJx4a65c_init_da8c8 0 = .ok (.aload_n 0, 1) := by decide +kernel
theorem dJx4a65c_init_da8c8_1 : decode cJx4a65c_init_da8c8 1 = .ok (.invokespecial 1, 3) := by decide +kernel
theorem dJx4a65c_init_da8c8_4 : decode cJx4a65c_init_da8c8 4 = .ok (.aload_n 0, 1) := by decide +kernel
theorem dJx4a65c_init_da8c8_5 : decode cJx4a65c_init_da8c8 5 = .ok (.getstatic 39, 3) := by decide +kernel
theorem dJx4a65c_init_da8c8_8 : decode cJx4a65c_init_da8c8 8 = .ok (.putfield 9, 3) := by decide +kernel
theorem dJx4a65c_init_da8c8_11 : decode cJx4a65c_init_da8c8 11 = .ok (.return_, 1) := by decide +kernel
theorem dJx4a65c_grow_92f84_0 : decode cJx4a65c_grow_92f84 0 = .ok (.aload_n 0, 1) := by decide +kernel
theorem dJx4a65c_grow_92f84_1 : decode cJx4a65c_grow_92f84 1 = .ok (.getfield 9, 3) := by decide +kernel
theorem dJx4a65c_grow_92f84_4 : decode cJx4a65c_grow_92f84 4 = .ok (.arraylength, 1) := by decide +kernel
theorem dJx4a65c_grow_92f84_5 : decode cJx4a65c_grow_92f84 5 = .ok (.istore_n 2, 1) := by decide +kernel
theorem dJx4a65c_grow_92f84_6 : decode cJx4a65c_grow_92f84 6 = .ok (.iload_n 2, 1) := by decide +kernel
theorem dJx4a65c_grow_92f84_7 : decode cJx4a65c_grow_92f84 7 = .ok (.ifCond .gt 13, 3) := by decide +kernel
theorem dJx4a65c_grow_92f84_10 : decode cJx4a65c_grow_92f84 10 = .ok (.aload_n 0, 1) := by decide +kernel
theorem dJx4a65c_grow_92f84_11 : decode cJx4a65c_grow_92f84 11 = .ok (.getfield 9, 3) := by decide +kernel
theorem dJx4a65c_grow_92f84_14 : decode cJx4a65c_grow_92f84 14 = .ok (.getstatic 39, 3) := by decide +kernel
theorem dJx4a65c_grow_92f84_17 : decode cJx4a65c_grow_92f84 17 = .ok (.if_acmp .eq 28, 3) := by decide +kernel
theorem dJx4a65c_grow_92f84_20 : decode cJx4a65c_grow_92f84 20 = .ok (.iload_n 2, 1) := by decide +kernel
theorem dJx4a65c_grow_92f84_21 : decode cJx4a65c_grow_92f84 21 = .ok (.iload_n 1, 1) := by decide +kernel
theorem dJx4a65c_grow_92f84_22 : decode cJx4a65c_grow_92f84 22 = .ok (.iload_n 2, 1) := by decide +kernel
theorem dJx4a65c_grow_92f84_23 : decode cJx4a65c_grow_92f84 23 = .ok (.isub, 1) := by decide +kernel
theorem dJx4a65c_grow_92f84_24 : decode cJx4a65c_grow_92f84 24 = .ok (.iload_n 2, 1) := by decide +kernel
theorem dJx4a65c_grow_92f84_25 : decode cJx4a65c_grow_92f84 25 = .ok (.iconst 1, 1) := by decide +kernel
theorem dJx4a65c_grow_92f84_26 : decode cJx4a65c_grow_92f84 26 = .ok (.ishr, 1) := by decide +kernel
theorem dJx4a65c_grow_92f84_27 : decode cJx4a65c_grow_92f84 27 = .ok (.invokestatic 73, 3) := by decide +kernel
theorem dJx4a65c_grow_92f84_30 : decode cJx4a65c_grow_92f84 30 = .ok (.istore_n 3, 1) := by decide +kernel
theorem dJx4a65c_grow_92f84_31 : decode cJx4a65c_grow_92f84 31 = .ok (.aload_n 0, 1) := by decide +kernel
theorem dJx4a65c_grow_92f84_32 : decode cJx4a65c_grow_92f84 32 = .ok (.aload_n 0, 1) := by decide +kernel
theorem dJx4a65c_grow_92f84_33 : decode cJx4a65c_grow_92f84 33 = .ok (.getfield 9, 3) := by decide +kernel
theorem dJx4a65c_grow_92f84_36 : decode cJx4a65c_grow_92f84 36 = .ok (.iload_n 3, 1) := by decide +kernel
theorem dJx4a65c_grow_92f84_37 : decode cJx4a65c_grow_92f84 37 = .ok (.invokestatic 66, 3) := by decide +kernel
theorem dJx4a65c_grow_92f84_40 : decode cJx4a65c_grow_92f84 40 = .ok (.dup_x1, 1) := by decide +kernel
theorem dJx4a65c_grow_92f84_41 : decode cJx4a65c_grow_92f84 41 = .ok (.putfield 9, 3) := by decide +kernel
theorem dJx4a65c_grow_92f84_44 : decode cJx4a65c_grow_92f84 44 = .ok (.areturn, 1) := by decide +kernel
theorem dJx4a65c_grow_92f84_45 : decode cJx4a65c_grow_92f84 45 = .ok (.aload_n 0, 1) := by decide +kernel
theorem dJx4a65c_grow_92f84_46 : decode cJx4a65c_grow_92f84 46 = .ok (.bipush 10, 2) := by decide +kernel
theorem dJx4a65c_grow_92f84_48 : decode cJx4a65c_grow_92f84 48 = .ok (.iload_n 1, 1) := by decide +kernel
theorem dJx4a65c_grow_92f84_49 : decode cJx4a65c_grow_92f84 49 = .ok (.invokestatic 79, 3) := by decide +kernel
theorem dJx4a65c_grow_92f84_52 : decode cJx4a65c_grow_92f84 52 = .ok (.anewarray 7, 3) := by decide +kernel
theorem dJx4a65c_grow_92f84_55 : decode cJx4a65c_grow_92f84 55 = .ok (.dup_x1, 1) := by decide +kernel
theorem dJx4a65c_grow_92f84_56 : decode cJx4a65c_grow_92f84 56 = .ok (.putfield 9, 3) := by decide +kernel
theorem dJx4a65c_grow_92f84_59 : decode cJx4a65c_grow_92f84 59 = .ok (.areturn, 1) := by decide +kernel
theorem dJx4a65c_grow_d5877_0 : decode cJx4a65c_grow_d5877 0 = .ok (.aload_n 0, 1) := by decide +kernel
theorem dJx4a65c_grow_d5877_1 : decode cJx4a65c_grow_d5877 1 = .ok (.aload_n 0, 1) := by decide +kernel
theorem dJx4a65c_grow_d5877_2 : decode cJx4a65c_grow_d5877 2 = .ok (.getfield 48, 3) := by decide +kernel
theorem dJx4a65c_grow_d5877_5 : decode cJx4a65c_grow_d5877 5 = .ok (.iconst 1, 1) := by decide +kernel
theorem dJx4a65c_grow_d5877_6 : decode cJx4a65c_grow_d5877 6 = .ok (.iadd, 1) := by decide +kernel
theorem dJx4a65c_grow_d5877_7 : decode cJx4a65c_grow_d5877 7 = .ok (.invokevirtual 69, 3) := by decide +kernel
theorem dJx4a65c_grow_d5877_10 : decode cJx4a65c_grow_d5877 10 = .ok (.areturn, 1) := by decide +kernel
theorem dJx4a65c_size_8abf5_0 : decode cJx4a65c_size_8abf5 0 = .ok (.aload_n 0, 1) := by decide +kernel
theorem dJx4a65c_size_8abf5_1 : decode cJx4a65c_size_8abf5 1 = .ok (.getfield 48, 3) := by decide +kernel
theorem dJx4a65c_size_8abf5_4 : decode cJx4a65c_size_8abf5 4 = .ok (.ireturn, 1) := by decide +kernel
theorem dJx4a65c_elementData_915e3_0 : decode cJx4a65c_elementData_915e3 0 = .ok (.aload_n 0, 1) := by decide +kernel
theorem dJx4a65c_elementData_915e3_1 : decode cJx4a65c_elementData_915e3 1 = .ok (.getfield 9, 3) := by decide +kernel
theorem dJx4a65c_elementData_915e3_4 : decode cJx4a65c_elementData_915e3 4 = .ok (.iload_n 1, 1) := by decide +kernel
theorem dJx4a65c_elementData_915e3_5 : decode cJx4a65c_elementData_915e3 5 = .ok (.aaload, 1) := by decide +kernel
theorem dJx4a65c_elementData_915e3_6 : decode cJx4a65c_elementData_915e3 6 = .ok (.areturn, 1) := by decide +kernel
theorem dJx4a65c_get_915e3_0 : decode cJx4a65c_get_915e3 0 = .ok (.iload_n 1, 1) := by decide +kernel
theorem dJx4a65c_get_915e3_1 : decode cJx4a65c_get_915e3 1 = .ok (.aload_n 0, 1) := by decide +kernel
theorem dJx4a65c_get_915e3_2 : decode cJx4a65c_get_915e3 2 = .ok (.getfield 48, 3) := by decide +kernel
theorem dJx4a65c_get_915e3_5 : decode cJx4a65c_get_915e3 5 = .ok (.invokestatic 118, 3) := by decide +kernel
theorem dJx4a65c_get_915e3_8 : decode cJx4a65c_get_915e3 8 = .ok (.pop, 1) := by decide +kernel
theorem dJx4a65c_get_915e3_9 : decode cJx4a65c_get_915e3 9 = .ok (.aload_n 0, 1) := by decide +kernel
theorem dJx4a65c_get_915e3_10 : decode cJx4a65c_get_915e3 10 = .ok (.iload_n 1, 1) := by decide +kernel
theorem dJx4a65c_get_915e3_11 : decode cJx4a65c_get_915e3 11 = .ok (.invokevirtual 123, 3) := by decide +kernel
theorem dJx4a65c_get_915e3_14 : decode cJx4a65c_get_915e3 14 = .ok (.areturn, 1) := by decide +kernel
theorem dJx4a65c_add_72be8_0 : decode cJx4a65c_add_72be8 0 = .ok (.iload_n 3, 1) := by decide +kernel
theorem dJx4a65c_add_72be8_1 : decode cJx4a65c_add_72be8 1 = .ok (.aload_n 2, 1) := by decide +kernel
theorem dJx4a65c_add_72be8_2 : decode cJx4a65c_add_72be8 2 = .ok (.arraylength, 1) := by decide +kernel
theorem dJx4a65c_add_72be8_3 : decode cJx4a65c_add_72be8 3 = .ok (.if_icmp .ne 8, 3) := by decide +kernel
theorem dJx4a65c_add_72be8_6 : decode cJx4a65c_add_72be8 6 = .ok (.aload_n 0, 1) := by decide +kernel
theorem dJx4a65c_add_72be8_7 : decode cJx4a65c_add_72be8 7 = .ok (.invokevirtual 129, 3) := by decide +kernel
theorem dJx4a65c_add_72be8_10 : decode cJx4a65c_add_72be8 10 = .ok (.astore_n 2, 1) := by decide +kernel
theorem dJx4a65c_add_72be8_11 : decode cJx4a65c_add_72be8 11 = .ok (.aload_n 2, 1) := by decide +kernel
theorem dJx4a65c_add_72be8_12 : decode cJx4a65c_add_72be8 12 = .ok (.iload_n 3, 1) := by decide +kernel
theorem dJx4a65c_add_72be8_13 : decode cJx4a65c_add_72be8 13 = .ok (.aload_n 1, 1) := by decide +kernel
theorem dJx4a65c_add_72be8_14 : decode cJx4a65c_add_72be8 14 = .ok (.aastore, 1) := by decide +kernel
theorem dJx4a65c_add_72be8_15 : decode cJx4a65c_add_72be8 15 = .ok (.aload_n 0, 1) := by decide +kernel
theorem dJx4a65c_add_72be8_16 : decode cJx4a65c_add_72be8 16 = .ok (.iload_n 3, 1) := by decide +kernel
theorem dJx4a65c_add_72be8_17 : decode cJx4a65c_add_72be8 17 = .ok (.iconst 1, 1) := by decide +kernel
theorem dJx4a65c_add_72be8_18 : decode cJx4a65c_add_72be8 18 = .ok (.iadd, 1) := by decide +kernel
theorem dJx4a65c_add_72be8_19 : decode cJx4a65c_add_72be8 19 = .ok (.putfield 48, 3) := by decide +kernel
theorem dJx4a65c_add_72be8_22 : decode cJx4a65c_add_72be8 22 = .ok (.return_, 1) := by decide +kernel
theorem dJx4a65c_add_9ea2d_0 : decode cJx4a65c_add_9ea2d 0 = .ok (.aload_n 0, 1) := by decide +kernel
theorem dJx4a65c_add_9ea2d_1 : decode cJx4a65c_add_9ea2d 1 = .ok (.dup, 1) := by decide +kernel
theorem dJx4a65c_add_9ea2d_2 : decode cJx4a65c_add_9ea2d 2 = .ok (.getfield 63, 3) := by decide +kernel
theorem dJx4a65c_add_9ea2d_5 : decode cJx4a65c_add_9ea2d 5 = .ok (.iconst 1, 1) := by decide +kernel
theorem dJx4a65c_add_9ea2d_6 : decode cJx4a65c_add_9ea2d 6 = .ok (.iadd, 1) := by decide +kernel
theorem dJx4a65c_add_9ea2d_7 : decode cJx4a65c_add_9ea2d 7 = .ok (.putfield 63, 3) := by decide +kernel
theorem dJx4a65c_add_9ea2d_10 : decode cJx4a65c_add_9ea2d 10 = .ok (.aload_n 0, 1) := by decide +kernel
theorem dJx4a65c_add_9ea2d_11 : decode cJx4a65c_add_9ea2d 11 = .ok (.aload_n 1, 1) := by decide +kernel
theorem dJx4a65c_add_9ea2d_12 : decode cJx4a65c_add_9ea2d 12 = .ok (.aload_n 0, 1) := by decide +kernel
theorem dJx4a65c_add_9ea2d_13 : decode cJx4a65c_add_9ea2d 13 = .ok (.getfield 9, 3) := by decide +kernel
theorem dJx4a65c_add_9ea2d_16 : decode cJx4a65c_add_9ea2d 16 = .ok (.aload_n 0, 1) := by decide +kernel
theorem dJx4a65c_add_9ea2d_17 : decode cJx4a65c_add_9ea2d 17 = .ok (.getfield 48, 3) := by decide +kernel
theorem dJx4a65c_add_9ea2d_20 : decode cJx4a65c_add_9ea2d 20 = .ok (.invokevirtual 131, 3) := by decide +kernel
theorem dJx4a65c_add_9ea2d_23 : decode cJx4a65c_add_9ea2d 23 = .ok (.iconst 1, 1) := by decide +kernel
theorem dJx4a65c_add_9ea2d_24 : decode cJx4a65c_add_9ea2d 24 = .ok (.ireturn, 1) := by decide +kernel
theorem dJx4a65c_remove_915e3_0 : decode cJx4a65c_remove_915e3 0 = .ok (.iload_n 1, 1) := by decide +kernel
theorem dJx4a65c_remove_915e3_1 : decode cJx4a65c_remove_915e3 1 = .ok (.aload_n 0, 1) := by decide +kernel
theorem dJx4a65c_remove_915e3_2 : decode cJx4a65c_remove_915e3 2 = .ok (.getfield 48, 3) := by decide +kernel
theorem dJx4a65c_remove_915e3_5 : decode cJx4a65c_remove_915e3 5 = .ok (.invokestatic 118, 3) := by decide +kernel
theorem dJx4a65c_remove_915e3_8 : decode cJx4a65c_remove_915e3 8 = .ok (.pop, 1) := by decide +kernel
theorem dJx4a65c_remove_915e3_9 : decode cJx4a65c_remove_915e3 9 = .ok (.aload_n 0, 1) := by decide +kernel
theorem dJx4a65c_remove_915e3_10 : decode cJx4a65c_remove_915e3 10 = .ok (.getfield 9, 3) := by decide +kernel
theorem dJx4a65c_remove_915e3_13 : decode cJx4a65c_remove_915e3 13 = .ok (.astore_n 2, 1) := by decide +kernel
theorem dJx4a65c_remove_915e3_14 : decode cJx4a65c_remove_915e3 14 = .ok (.aload_n 2, 1) := by decide +kernel
theorem dJx4a65c_remove_915e3_15 : decode cJx4a65c_remove_915e3 15 = .ok (.iload_n 1, 1) := by decide +kernel
theorem dJx4a65c_remove_915e3_16 : decode cJx4a65c_remove_915e3 16 = .ok (.aaload, 1) := by decide +kernel
theorem dJx4a65c_remove_915e3_17 : decode cJx4a65c_remove_915e3 17 = .ok (.astore_n 3, 1) := by decide +kernel
theorem dJx4a65c_remove_915e3_18 : decode cJx4a65c_remove_915e3 18 = .ok (.aload_n 0, 1) := by decide +kernel
theorem dJx4a65c_remove_915e3_19 : decode cJx4a65c_remove_915e3 19 = .ok (.aload_n 2, 1) := by decide +kernel
theorem dJx4a65c_remove_915e3_20 : decode cJx4a65c_remove_915e3 20 = .ok (.iload_n 1, 1) := by decide +kernel
theorem dJx4a65c_remove_915e3_21 : decode cJx4a65c_remove_915e3 21 = .ok (.invokevirtual 144, 3) := by decide +kernel
theorem dJx4a65c_remove_915e3_24 : decode cJx4a65c_remove_915e3 24 = .ok (.aload_n 3, 1) := by decide +kernel
theorem dJx4a65c_remove_915e3_25 : decode cJx4a65c_remove_915e3 25 = .ok (.areturn, 1) := by decide +kernel
theorem dJx4a65c_fastRemove_b59b0_0 : decode cJx4a65c_fastRemove_b59b0 0 = .ok (.aload_n 0, 1) := by decide +kernel
theorem dJx4a65c_fastRemove_b59b0_1 : decode cJx4a65c_fastRemove_b59b0 1 = .ok (.dup, 1) := by decide +kernel
theorem dJx4a65c_fastRemove_b59b0_2 : decode cJx4a65c_fastRemove_b59b0 2 = .ok (.getfield 63, 3) := by decide +kernel
theorem dJx4a65c_fastRemove_b59b0_5 : decode cJx4a65c_fastRemove_b59b0 5 = .ok (.iconst 1, 1) := by decide +kernel
theorem dJx4a65c_fastRemove_b59b0_6 : decode cJx4a65c_fastRemove_b59b0 6 = .ok (.iadd, 1) := by decide +kernel
theorem dJx4a65c_fastRemove_b59b0_7 : decode cJx4a65c_fastRemove_b59b0 7 = .ok (.putfield 63, 3) := by decide +kernel
theorem dJx4a65c_fastRemove_b59b0_10 : decode cJx4a65c_fastRemove_b59b0 10 = .ok (.aload_n 0, 1) := by decide +kernel
theorem dJx4a65c_fastRemove_b59b0_11 : decode cJx4a65c_fastRemove_b59b0 11 = .ok (.getfield 48, 3) := by decide +kernel
theorem dJx4a65c_fastRemove_b59b0_14 : decode cJx4a65c_fastRemove_b59b0 14 = .ok (.iconst 1, 1) := by decide +kernel
theorem dJx4a65c_fastRemove_b59b0_15 : decode cJx4a65c_fastRemove_b59b0 15 = .ok (.isub, 1) := by decide +kernel
theorem dJx4a65c_fastRemove_b59b0_16 : decode cJx4a65c_fastRemove_b59b0 16 = .ok (.dup, 1) := by decide +kernel
theorem dJx4a65c_fastRemove_b59b0_17 : decode cJx4a65c_fastRemove_b59b0 17 = .ok (.istore_n 3, 1) := by decide +kernel
theorem dJx4a65c_fastRemove_b59b0_18 : decode cJx4a65c_fastRemove_b59b0 18 = .ok (.iload_n 2, 1) := by decide +kernel
theorem dJx4a65c_fastRemove_b59b0_19 : decode cJx4a65c_fastRemove_b59b0 19 = .ok (.if_icmp .le 15, 3) := by decide +kernel
theorem dJx4a65c_fastRemove_b59b0_22 : decode cJx4a65c_fastRemove_b59b0 22 = .ok (.aload_n 1, 1) := by decide +kernel
theorem dJx4a65c_fastRemove_b59b0_23 : decode cJx4a65c_fastRemove_b59b0 23 = .ok (.iload_n 2, 1) := by decide +kernel
theorem dJx4a65c_fastRemove_b59b0_24 : decode cJx4a65c_fastRemove_b59b0 24 = .ok (.iconst 1, 1) := by decide +kernel
theorem dJx4a65c_fastRemove_b59b0_25 : decode cJx4a65c_fastRemove_b59b0 25 = .ok (.iadd, 1) := by decide +kernel
theorem dJx4a65c_fastRemove_b59b0_26 : decode cJx4a65c_fastRemove_b59b0 26 = .ok (.aload_n 1, 1) := by decide +kernel
theorem dJx4a65c_fastRemove_b59b0_27 : decode cJx4a65c_fastRemove_b59b0 27 = .ok (.iload_n 2, 1) := by decide +kernel
theorem dJx4a65c_fastRemove_b59b0_28 : decode cJx4a65c_fastRemove_b59b0 28 = .ok (.iload_n 3, 1) := by decide +kernel
theorem dJx4a65c_fastRemove_b59b0_29 : decode cJx4a65c_fastRemove_b59b0 29 = .ok (.iload_n 2, 1) := by decide +kernel
theorem dJx4a65c_fastRemove_b59b0_30 : decode cJx4a65c_fastRemove_b59b0 30 = .ok (.isub, 1) := by decide +kernel
theorem dJx4a65c_fastRemove_b59b0_31 : decode cJx4a65c_fastRemove_b59b0 31 = .ok (.invokestatic 112, 3) := by decide +kernel
theorem dJx4a65c_fastRemove_b59b0_34 : decode cJx4a65c_fastRemove_b59b0 34 = .ok (.aload_n 1, 1) := by decide +kernel
theorem dJx4a65c_fastRemove_b59b0_35 : decode cJx4a65c_fastRemove_b59b0 35 = .ok (.aload_n 0, 1) := by decide +kernel
theorem dJx4a65c_fastRemove_b59b0_36 : decode cJx4a65c_fastRemove_b59b0 36 = .ok (.iload_n 3, 1) := by decide +kernel
theorem dJx4a65c_fastRemove_b59b0_37 : decode cJx4a65c_fastRemove_b59b0 37 = .ok (.dup_x1, 1) := by decide +kernel
theorem dJx4a65c_fastRemove_b59b0_38 : decode cJx4a65c_fastRemove_b59b0 38 = .ok (.putfield 48, 3) := by decide +kernel
theorem dJx4a65c_fastRemove_b59b0_41 : decode cJx4a65c_fastRemove_b59b0 41 = .ok (.aconst_null, 1) := by decide +kernel
theorem dJx4a65c_fastRemove_b59b0_42 : decode cJx4a65c_fastRemove_b59b0 42 = .ok (.aastore, 1) := by decide +kernel
theorem dJx4a65c_fastRemove_b59b0_43 : decode cJx4a65c_fastRemove_b59b0 43 = .ok (.return_, 1) := by decide +kernel
theorem dJ7_fill_53178_0 : decode cJ7_fill_53178 0 = .ok (.iconst 0, 1) := by decide +kernel
theorem dJ7_fill_53178_1 : decode cJ7_fill_53178 1 = .ok (.istore_n 2, 1) := by decide +kernel
theorem dJ7_fill_53178_2 : decode cJ7_fill_53178 2 = .ok (.aload_n 0, 1) := by decide +kernel
theorem dJ7_fill_53178_3 : decode cJ7_fill_53178 3 = .ok (.arraylength, 1) := by decide +kernel
theorem dJ7_fill_53178_4 : decode cJ7_fill_53178 4 = .ok (.istore_n 3, 1) := by decide +kernel
theorem dJ7_fill_53178_5 : decode cJ7_fill_53178 5 = .ok (.iload_n 2, 1) := by decide +kernel
theorem dJ7_fill_53178_6 : decode cJ7_fill_53178 6 = .ok (.iload_n 3, 1) := by decide +kernel
theorem dJ7_fill_53178_7 : decode cJ7_fill_53178 7 = .ok (.if_icmp .ge 13, 3) := by decide +kernel
theorem dJ7_fill_53178_10 : decode cJ7_fill_53178 10 = .ok (.aload_n 0, 1) := by decide +kernel
theorem dJ7_fill_53178_11 : decode cJ7_fill_53178 11 = .ok (.iload_n 2, 1) := by decide +kernel
theorem dJ7_fill_53178_12 : decode cJ7_fill_53178 12 = .ok (.iload_n 1, 1) := by decide +kernel
theorem dJ7_fill_53178_13 : decode cJ7_fill_53178 13 = .ok (.iastore, 1) := by decide +kernel
theorem dJ7_fill_53178_14 : decode cJ7_fill_53178 14 = .ok (.iinc 2 1, 3) := by decide +kernel
theorem dJ7_fill_53178_17 : decode cJ7_fill_53178 17 = .ok (.goto (-12), 3) := by decide +kernel
theorem dJ7_fill_53178_20 : decode cJ7_fill_53178 20 = .ok (.return_, 1) := by decide +kernel
theorem dJ7_copyOf_1904c_0 : decode cJ7_copyOf_1904c 0 = .ok (.aload_n 0, 1) := by decide +kernel
theorem dJ7_copyOf_1904c_1 : decode cJ7_copyOf_1904c 1 = .ok (.iload_n 1, 1) := by decide +kernel
theorem dJ7_copyOf_1904c_2 : decode cJ7_copyOf_1904c 2 = .ok (.aload_n 0, 1) := by decide +kernel
theorem dJ7_copyOf_1904c_3 : decode cJ7_copyOf_1904c 3 = .ok (.invokevirtual 86, 3) := by decide +kernel
theorem dJ7_copyOf_1904c_6 : decode cJ7_copyOf_1904c 6 = .ok (.invokestatic 300, 3) := by decide +kernel
theorem dJ7_copyOf_1904c_9 : decode cJ7_copyOf_1904c 9 = .ok (.areturn, 1) := by decide +kernel
theorem dJ7_copyOf_6403c_0 : decode cJ7_copyOf_6403c 0 = .ok (.aload_n 2, 1) := by decide +kernel
theorem dJ7_copyOf_6403c_1 : decode cJ7_copyOf_6403c 1 = .ok (.ldc 110, 2) := by decide +kernel
theorem dJ7_copyOf_6403c_3 : decode cJ7_copyOf_6403c 3 = .ok (.if_acmp .ne 10, 3) := by decide +kernel
theorem dJ7_copyOf_6403c_6 : decode cJ7_copyOf_6403c 6 = .ok (.iload_n 1, 1) := by decide +kernel
theorem dJ7_copyOf_6403c_7 : decode cJ7_copyOf_6403c 7 = .ok (.anewarray 2, 3) := by decide +kernel
theorem dJ7_copyOf_6403c_10 : decode cJ7_copyOf_6403c 10 = .ok (.goto 14, 3) := by decide +kernel
theorem dJ7_copyOf_6403c_13 : decode cJ7_copyOf_6403c 13 = .ok (.aload_n 2, 1) := by decide +kernel
theorem dJ7_copyOf_6403c_14 : decode cJ7_copyOf_6403c 14 = .ok (.invokevirtual 90, 3) := by decide +kernel
theorem dJ7_copyOf_6403c_17 : decode cJ7_copyOf_6403c 17 = .ok (.iload_n 1, 1) := by decide +kernel
theorem dJ7_copyOf_6403c_18 : decode cJ7_copyOf_6403c 18 = .ok (.invokestatic 95, 3) := by decide +kernel
theorem dJ7_copyOf_6403c_21 : decode cJ7_copyOf_6403c 21 = .ok (.checkcast 110, 3) := by decide +kernel
theorem dJ7_copyOf_6403c_24 : decode cJ7_copyOf_6403c 24 = .ok (.astore_n 3, 1) := by decide +kernel
theorem dJ7_copyOf_6403c_25 : decode cJ7_copyOf_6403c 25 = .ok (.aload_n 0, 1) := by decide +kernel
theorem dJ7_copyOf_6403c_26 : decode cJ7_copyOf_6403c 26 = .ok (.iconst 0, 1) := by decide +kernel
theorem dJ7_copyOf_6403c_27 : decode cJ7_copyOf_6403c 27 = .ok (.aload_n 3, 1) := by decide +kernel
theorem dJ7_copyOf_6403c_28 : decode cJ7_copyOf_6403c 28 = .ok (.iconst 0, 1) := by decide +kernel
theorem dJ7_copyOf_6403c_29 : decode cJ7_copyOf_6403c 29 = .ok (.aload_n 0, 1) := by decide +kernel
theorem dJ7_copyOf_6403c_30 : decode cJ7_copyOf_6403c 30 = .ok (.arraylength, 1) := by decide +kernel
theorem dJ7_copyOf_6403c_31 : decode cJ7_copyOf_6403c 31 = .ok (.iload_n 1, 1) := by decide +kernel
theorem dJ7_copyOf_6403c_32 : decode cJ7_copyOf_6403c 32 = .ok (.invokestatic 304, 3) := by decide +kernel
theorem dJ7_copyOf_6403c_35 : decode cJ7_copyOf_6403c 35 = .ok (.invokestatic 150, 3) := by decide +kernel
theorem dJ7_copyOf_6403c_38 : decode cJ7_copyOf_6403c 38 = .ok (.aload_n 3, 1) := by decide +kernel
theorem dJ7_copyOf_6403c_39 : decode cJ7_copyOf_6403c 39 = .ok (.areturn, 1) := by decide +kernel
theorem dJ15_checkIndex_7cf53_0 : decode cJ15_checkIndex_7cf53 0 = .ok (.iload_n 0, 1) := by decide +kernel
theorem dJ15_checkIndex_7cf53_1 : decode cJ15_checkIndex_7cf53 1 = .ok (.iload_n 1, 1) := by decide +kernel
theorem dJ15_checkIndex_7cf53_2 : decode cJ15_checkIndex_7cf53 2 = .ok (.aconst_null, 1) := by decide +kernel
theorem dJ15_checkIndex_7cf53_3 : decode cJ15_checkIndex_7cf53 3 = .ok (.invokestatic 105, 3) := by decide +kernel
theorem dJ15_checkIndex_7cf53_6 : decode cJ15_checkIndex_7cf53 6 = .ok (.ireturn, 1) := by decide +kernel
theorem dJ8_newLength_cabcc_0 : decode cJ8_newLength_cabcc 0 = .ok (.iload_n 0, 1) := by decide +kernel
theorem dJ8_newLength_cabcc_1 : decode cJ8_newLength_cabcc 1 = .ok (.iload_n 1, 1) := by decide +kernel
theorem dJ8_newLength_cabcc_2 : decode cJ8_newLength_cabcc 2 = .ok (.iload_n 2, 1) := by decide +kernel
theorem dJ8_newLength_cabcc_3 : decode cJ8_newLength_cabcc 3 = .ok (.invokestatic 194, 3) := by decide +kernel
theorem dJ8_newLength_cabcc_6 : decode cJ8_newLength_cabcc 6 = .ok (.iadd, 1) := by decide +kernel
theorem dJ8_newLength_cabcc_7 : decode cJ8_newLength_cabcc 7 = .ok (.istore_n 3, 1) := by decide +kernel
theorem dJ8_newLength_cabcc_8 : decode cJ8_newLength_cabcc 8 = .ok (.iconst 0, 1) := by decide +kernel
theorem dJ8_newLength_cabcc_9 : decode cJ8_newLength_cabcc 9 = .ok (.iload_n 3, 1) := by decide +kernel
theorem dJ8_newLength_cabcc_10 : decode cJ8_newLength_cabcc 10 = .ok (.if_icmp .ge 11, 3) := by decide +kernel
theorem dJ8_newLength_cabcc_13 : decode cJ8_newLength_cabcc 13 = .ok (.iload_n 3, 1) := by decide +kernel
theorem dJ8_newLength_cabcc_14 : decode cJ8_newLength_cabcc 14 = .ok (.ldc 200, 2) := by decide +kernel
theorem dJ8_newLength_cabcc_16 : decode cJ8_newLength_cabcc 16 = .ok (.if_icmp .gt 5, 3) := by decide +kernel
theorem dJ8_newLength_cabcc_19 : decode cJ8_newLength_cabcc 19 = .ok (.iload_n 3, 1) := by decide +kernel
theorem dJ8_newLength_cabcc_20 : decode cJ8_newLength_cabcc 20 = .ok (.ireturn, 1) := by decide +kernel
theorem dJ8_newLength_cabcc_21 : decode cJ8_newLength_cabcc 21 = .ok (.iload_n 0, 1) := by decide +kernel
theorem dJ8_newLength_cabcc_22 : decode cJ8_newLength_cabcc 22 = .ok (.iload_n 1, 1) := by decide +kernel
theorem dJ8_newLength_cabcc_23 : decode cJ8_newLength_cabcc 23 = .ok (.invokestatic 201, 3) := by decide +kernel
theorem dJ8_newLength_cabcc_26 : decode cJ8_newLength_cabcc 26 = .ok (.ireturn, 1) := by decide +kernel
theorem dJ8_hugeLength_7cf53_0 : decode cJ8_hugeLength_7cf53 0 = .ok (.iload_n 0, 1) := by decide +kernel
theorem dJ8_hugeLength_7cf53_1 : decode cJ8_hugeLength_7cf53 1 = .ok (.iload_n 1, 1) := by decide +kernel
theorem dJ8_hugeLength_7cf53_2 : decode cJ8_hugeLength_7cf53 2 = .ok (.iadd, 1) := by decide +kernel
theorem dJ8_hugeLength_7cf53_3 : decode cJ8_hugeLength_7cf53 3 = .ok (.istore_n 2, 1) := by decide +kernel
theorem dJ8_hugeLength_7cf53_4 : decode cJ8_hugeLength_7cf53 4 = .ok (.iload_n 2, 1) := by decide +kernel
theorem dJ8_hugeLength_7cf53_5 : decode cJ8_hugeLength_7cf53 5 = .ok (.ifCond .ge 44, 3) := by decide +kernel
theorem dJ8_hugeLength_7cf53_8 : decode cJ8_hugeLength_7cf53 8 = .ok (.new 204, 3) := by decide +kernel
theorem dJ8_hugeLength_7cf53_11 : decode cJ8_hugeLength_7cf53 11 = .ok (.dup, 1) := by decide +kernel
theorem dJ8_hugeLength_7cf53_12 : decode cJ8_hugeLength_7cf53 12 = .ok (.new 89, 3) := by decide +kernel
theorem dJ8_hugeLength_7cf53_15 : decode cJ8_hugeLength_7cf53 15 = .ok (.dup, 1) := by decide +kernel
theorem dJ8_hugeLength_7cf53_16 : decode cJ8_hugeLength_7cf53 16 = .ok (.invokespecial 91, 3) := by decide +kernel
theorem dJ8_hugeLength_7cf53_19 : decode cJ8_hugeLength_7cf53 19 = .ok (.ldc 206, 2) := by decide +kernel
theorem dJ8_hugeLength_7cf53_21 : decode cJ8_hugeLength_7cf53 21 = .ok (.invokevirtual 94, 3) := by decide +kernel
theorem dJ8_hugeLength_7cf53_24 : decode cJ8_hugeLength_7cf53 24 = .ok (.iload_n 0, 1) := by decide +kernel
theorem dJ8_hugeLength_7cf53_25 : decode cJ8_hugeLength_7cf53 25 = .ok (.invokevirtual 98, 3) := by decide +kernel
theorem dJ8_hugeLength_7cf53_28 : decode cJ8_hugeLength_7cf53 28 = .ok (.ldc 208, 2) := by decide +kernel
theorem dJ8_hugeLength_7cf53_30 : decode cJ8_hugeLength_7cf53 30 = .ok (.invokevirtual 94, 3) := by decide +kernel
theorem dJ8_hugeLength_7cf53_33 : decode cJ8_hugeLength_7cf53 33 = .ok (.iload_n 1, 1) := by decide +kernel
theorem dJ8_hugeLength_7cf53_34 : decode cJ8_hugeLength_7cf53 34 = .ok (.invokevirtual 98, 3) := by decide +kernel
theorem dJ8_hugeLength_7cf53_37 : decode cJ8_hugeLength_7cf53 37 = .ok (.ldc 210, 2) := by decide +kernel
theorem dJ8_hugeLength_7cf53_39 : decode cJ8_hugeLength_7cf53 39 = .ok (.invokevirtual 94, 3) := by decide +kernel
theorem dJ8_hugeLength_7cf53_42 : decode cJ8_hugeLength_7cf53 42 = .ok (.invokevirtual 101, 3) := by decide +kernel
theorem dJ8_hugeLength_7cf53_45 : decode cJ8_hugeLength_7cf53 45 = .ok (.invokespecial 212, 3) := by decide +kernel
theorem dJ8_hugeLength_7cf53_48 : decode cJ8_hugeLength_7cf53 48 = .ok (.athrow, 1) := by decide +kernel
theorem dJ8_hugeLength_7cf53_49 : decode cJ8_hugeLength_7cf53 49 = .ok (.iload_n 2, 1) := by decide +kernel
theorem dJ8_hugeLength_7cf53_50 : decode cJ8_hugeLength_7cf53 50 = .ok (.ldc 200, 2) := by decide +kernel
theorem dJ8_hugeLength_7cf53_52 : decode cJ8_hugeLength_7cf53 52 = .ok (.if_icmp .gt 6, 3) := by decide +kernel
theorem dJ8_hugeLength_7cf53_55 : decode cJ8_hugeLength_7cf53 55 = .ok (.ldc 200, 2) := by decide +kernel
theorem dJ8_hugeLength_7cf53_57 : decode cJ8_hugeLength_7cf53 57 = .ok (.ireturn, 1) := by decide +kernel
theorem dJ8_hugeLength_7cf53_58 : decode cJ8_hugeLength_7cf53 58 = .ok (.iload_n 2, 1) := by decide +kernel
theorem dJ8_hugeLength_7cf53_59 : decode cJ8_hugeLength_7cf53 59 = .ok (.ireturn, 1) := by decide +kernel
theorem dJ3_checkIndex_8e157_0 : decode cJ3_checkIndex_8e157 0 = .ok (.iload_n 0, 1) := by decide +kernel
theorem dJ3_checkIndex_8e157_1 : decode cJ3_checkIndex_8e157 1 = .ok (.ifCond .lt 8, 3) := by decide +kernel
theorem dJ3_checkIndex_8e157_4 : decode cJ3_checkIndex_8e157 4 = .ok (.iload_n 0, 1) := by decide +kernel
theorem dJ3_checkIndex_8e157_5 : decode cJ3_checkIndex_8e157 5 = .ok (.iload_n 1, 1) := by decide +kernel
theorem dJ3_checkIndex_8e157_6 : decode cJ3_checkIndex_8e157 6 = .ok (.if_icmp .lt 10, 3) := by decide +kernel
theorem dJ3_checkIndex_8e157_9 : decode cJ3_checkIndex_8e157 9 = .ok (.aload_n 2, 1) := by decide +kernel
theorem dJ3_checkIndex_8e157_10 : decode cJ3_checkIndex_8e157 10 = .ok (.iload_n 0, 1) := by decide +kernel
theorem dJ3_checkIndex_8e157_11 : decode cJ3_checkIndex_8e157 11 = .ok (.iload_n 1, 1) := by decide +kernel
theorem dJ3_checkIndex_8e157_12 : decode cJ3_checkIndex_8e157 12 = .ok (.invokestatic 95, 3) := by decide +kernel
theorem dJ3_checkIndex_8e157_15 : decode cJ3_checkIndex_8e157 15 = .ok (.athrow, 1) := by decide +kernel
theorem dJ3_checkIndex_8e157_16 : decode cJ3_checkIndex_8e157 16 = .ok (.iload_n 0, 1) := by decide +kernel
theorem dJ3_checkIndex_8e157_17 : decode cJ3_checkIndex_8e157 17 = .ok (.ireturn, 1) := by decide +kernel
theorem dL_unit_0 : decode cL_unit 0 = .ok (.aload_n 3, 1) := by decide +kernel
theorem dL_unit_1 : decode cL_unit 1 = .ok (.iconst 0, 1) := by decide +kernel
theorem dL_unit_2 : decode cL_unit 2 = .ok (.aload_n 0, 1) := by decide +kernel
theorem dL_unit_3 : decode cL_unit 3 = .ok (.iload_n 1, 1) := by decide +kernel
theorem dL_unit_4 : decode cL_unit 4 = .ok (.iload_n 2, 1) := by decide +kernel
theorem dL_unit_5 : decode cL_unit 5 = .ok (.invokevirtual 7, 3) := by decide +kernel
theorem dL_unit_8 : decode cL_unit 8 = .ok (.i2l, 1) := by decide +kernel
theorem dL_unit_9 : decode cL_unit 9 = .ok (.lastore, 1) := by decide +kernel
theorem dL_unit_10 : decode cL_unit 10 = .ok (.goto 15, 3) := by decide +kernel
theorem dL_unit_13 : decode cL_unit 13 = .ok (.astore 4, 2) := by decide +kernel
theorem dL_unit_15 : decode cL_unit 15 = .ok (.iconst 1, 1) := by decide +kernel
theorem dL_unit_16 : decode cL_unit 16 = .ok (.ireturn, 1) := by decide +kernel
theorem dL_unit_17 : decode cL_unit 17 = .ok (.astore 4, 2) := by decide +kernel
theorem dL_unit_19 : decode cL_unit 19 = .ok (.iconst 2, 1) := by decide +kernel
theorem dL_unit_20 : decode cL_unit 20 = .ok (.ireturn, 1) := by decide +kernel
theorem dL_unit_21 : decode cL_unit 21 = .ok (.astore 4, 2) := by decide +kernel
theorem dL_unit_23 : decode cL_unit 23 = .ok (.iconst 3, 1) := by decide +kernel
theorem dL_unit_24 : decode cL_unit 24 = .ok (.ireturn, 1) := by decide +kernel
theorem dL_unit_25 : decode cL_unit 25 = .ok (.iconst 0, 1) := by decide +kernel
theorem dL_unit_26 : decode cL_unit 26 = .ok (.ireturn, 1) := by decide +kernel
theorem dL_diagram_0 : decode cL_diagram 0 = .ok (.aload 6, 2) := by decide +kernel
theorem dL_diagram_2 : decode cL_diagram 2 = .ok (.iconst 0, 1) := by decide +kernel
theorem dL_diagram_3 : decode cL_diagram 3 = .ok (.aload_n 0, 1) := by decide +kernel
theorem dL_diagram_4 : decode cL_diagram 4 = .ok (.iload_n 1, 1) := by decide +kernel
theorem dL_diagram_5 : decode cL_diagram 5 = .ok (.iload_n 2, 1) := by decide +kernel
theorem dL_diagram_6 : decode cL_diagram 6 = .ok (.iload_n 3, 1) := by decide +kernel
theorem dL_diagram_7 : decode cL_diagram 7 = .ok (.iload 4, 2) := by decide +kernel
theorem dL_diagram_9 : decode cL_diagram 9 = .ok (.iload 5, 2) := by decide +kernel
theorem dL_diagram_11 : decode cL_diagram 11 = .ok (.invokevirtual 19, 3) := by decide +kernel
theorem dL_diagram_14 : decode cL_diagram 14 = .ok (.i2l, 1) := by decide +kernel
theorem dL_diagram_15 : decode cL_diagram 15 = .ok (.lastore, 1) := by decide +kernel
theorem dL_diagram_16 : decode cL_diagram 16 = .ok (.goto 15, 3) := by decide +kernel
theorem dL_diagram_19 : decode cL_diagram 19 = .ok (.astore 7, 2) := by decide +kernel
theorem dL_diagram_21 : decode cL_diagram 21 = .ok (.iconst 1, 1) := by decide +kernel
theorem dL_diagram_22 : decode cL_diagram 22 = .ok (.ireturn, 1) := by decide +kernel
theorem dL_diagram_23 : decode cL_diagram 23 = .ok (.astore 7, 2) := by decide +kernel
theorem dL_diagram_25 : decode cL_diagram 25 = .ok (.iconst 2, 1) := by decide +kernel
theorem dL_diagram_26 : decode cL_diagram 26 = .ok (.ireturn, 1) := by decide +kernel
theorem dL_diagram_27 : decode cL_diagram 27 = .ok (.astore 7, 2) := by decide +kernel
theorem dL_diagram_29 : decode cL_diagram 29 = .ok (.iconst 3, 1) := by decide +kernel
theorem dL_diagram_30 : decode cL_diagram 30 = .ok (.ireturn, 1) := by decide +kernel
theorem dL_diagram_31 : decode cL_diagram 31 = .ok (.iconst 0, 1) := by decide +kernel
theorem dL_diagram_32 : decode cL_diagram 32 = .ok (.ireturn, 1) := by decide +kernel
theorem dL_exam_0 : decode cL_exam 0 = .ok (.aload 5, 2) := by decide +kernel
theorem dL_exam_2 : decode cL_exam 2 = .ok (.iconst 0, 1) := by decide +kernel
theorem dL_exam_3 : decode cL_exam 3 = .ok (.aload_n 0, 1) := by decide +kernel
theorem dL_exam_4 : decode cL_exam 4 = .ok (.iload_n 1, 1) := by decide +kernel
theorem dL_exam_5 : decode cL_exam 5 = .ok (.iload_n 2, 1) := by decide +kernel
theorem dL_exam_6 : decode cL_exam 6 = .ok (.iload_n 3, 1) := by decide +kernel
theorem dL_exam_7 : decode cL_exam 7 = .ok (.iload 4, 2) := by decide +kernel
theorem dL_exam_9 : decode cL_exam 9 = .ok (.invokevirtual 23, 3) := by decide +kernel
theorem dL_exam_12 : decode cL_exam 12 = .ok (.i2l, 1) := by decide +kernel
theorem dL_exam_13 : decode cL_exam 13 = .ok (.lastore, 1) := by decide +kernel
theorem dL_exam_14 : decode cL_exam 14 = .ok (.goto 11, 3) := by decide +kernel
theorem dL_exam_17 : decode cL_exam 17 = .ok (.astore 6, 2) := by decide +kernel
theorem dL_exam_19 : decode cL_exam 19 = .ok (.iconst 1, 1) := by decide +kernel
theorem dL_exam_20 : decode cL_exam 20 = .ok (.ireturn, 1) := by decide +kernel
theorem dL_exam_21 : decode cL_exam 21 = .ok (.astore 6, 2) := by decide +kernel
theorem dL_exam_23 : decode cL_exam 23 = .ok (.iconst 2, 1) := by decide +kernel
theorem dL_exam_24 : decode cL_exam 24 = .ok (.ireturn, 1) := by decide +kernel
theorem dL_exam_25 : decode cL_exam 25 = .ok (.iconst 0, 1) := by decide +kernel
theorem dL_exam_26 : decode cL_exam 26 = .ok (.ireturn, 1) := by decide +kernel
theorem dL_list_0 : decode cL_list 0 = .ok (.aload 4, 2) := by decide +kernel
theorem dL_list_2 : decode cL_list 2 = .ok (.iconst 0, 1) := by decide +kernel
theorem dL_list_3 : decode cL_list 3 = .ok (.aload_n 0, 1) := by decide +kernel
theorem dL_list_4 : decode cL_list 4 = .ok (.iload_n 1, 1) := by decide +kernel
theorem dL_list_5 : decode cL_list 5 = .ok (.iload_n 2, 1) := by decide +kernel
theorem dL_list_6 : decode cL_list 6 = .ok (.iload_n 3, 1) := by decide +kernel
theorem dL_list_7 : decode cL_list 7 = .ok (.invokevirtual 27, 3) := by decide +kernel
theorem dL_list_10 : decode cL_list 10 = .ok (.i2l, 1) := by decide +kernel
theorem dL_list_11 : decode cL_list 11 = .ok (.lastore, 1) := by decide +kernel
theorem dL_list_12 : decode cL_list 12 = .ok (.goto 11, 3) := by decide +kernel
theorem dL_list_15 : decode cL_list 15 = .ok (.astore 5, 2) := by decide +kernel
theorem dL_list_17 : decode cL_list 17 = .ok (.iconst 1, 1) := by decide +kernel
theorem dL_list_18 : decode cL_list 18 = .ok (.ireturn, 1) := by decide +kernel
theorem dL_list_19 : decode cL_list 19 = .ok (.astore 5, 2) := by decide +kernel
theorem dL_list_21 : decode cL_list 21 = .ok (.iconst 2, 1) := by decide +kernel
theorem dL_list_22 : decode cL_list 22 = .ok (.ireturn, 1) := by decide +kernel
theorem dL_list_23 : decode cL_list 23 = .ok (.iconst 0, 1) := by decide +kernel
theorem dL_list_24 : decode cL_list 24 = .ok (.ireturn, 1) := by decide +kernel
theorem dL_fault_0 : decode cL_fault 0 = .ok (.aload 5, 2) := by decide +kernel
theorem dL_fault_2 : decode cL_fault 2 = .ok (.iconst 0, 1) := by decide +kernel
theorem dL_fault_3 : decode cL_fault 3 = .ok (.aload_n 0, 1) := by decide +kernel
theorem dL_fault_4 : decode cL_fault 4 = .ok (.iload_n 1, 1) := by decide +kernel
theorem dL_fault_5 : decode cL_fault 5 = .ok (.iload_n 2, 1) := by decide +kernel
theorem dL_fault_6 : decode cL_fault 6 = .ok (.iload_n 3, 1) := by decide +kernel
theorem dL_fault_7 : decode cL_fault 7 = .ok (.iload 4, 2) := by decide +kernel
theorem dL_fault_9 : decode cL_fault 9 = .ok (.invokevirtual 31, 3) := by decide +kernel
theorem dL_fault_12 : decode cL_fault 12 = .ok (.i2l, 1) := by decide +kernel
theorem dL_fault_13 : decode cL_fault 13 = .ok (.lastore, 1) := by decide +kernel
theorem dL_fault_14 : decode cL_fault 14 = .ok (.goto 15, 3) := by decide +kernel
theorem dL_fault_17 : decode cL_fault 17 = .ok (.astore 6, 2) := by decide +kernel
theorem dL_fault_19 : decode cL_fault 19 = .ok (.iconst 1, 1) := by decide +kernel
theorem dL_fault_20 : decode cL_fault 20 = .ok (.ireturn, 1) := by decide +kernel
theorem dL_fault_21 : decode cL_fault 21 = .ok (.astore 6, 2) := by decide +kernel
theorem dL_fault_23 : decode cL_fault 23 = .ok (.iconst 2, 1) := by decide +kernel
theorem dL_fault_24 : decode cL_fault 24 = .ok (.ireturn, 1) := by decide +kernel
theorem dL_fault_25 : decode cL_fault 25 = .ok (.astore 6, 2) := by decide +kernel
theorem dL_fault_27 : decode cL_fault 27 = .ok (.iconst 3, 1) := by decide +kernel
theorem dL_fault_28 : decode cL_fault 28 = .ok (.ireturn, 1) := by decide +kernel
theorem dL_fault_29 : decode cL_fault 29 = .ok (.iconst 0, 1) := by decide +kernel
theorem dL_fault_30 : decode cL_fault 30 = .ok (.ireturn, 1) := by decide +kernel
theorem dL_pin_0 : decode cL_pin 0 = .ok (.aload_n 3, 1) := by decide +kernel
theorem dL_pin_1 : decode cL_pin 1 = .ok (.iconst 0, 1) := by decide +kernel
theorem dL_pin_2 : decode cL_pin 2 = .ok (.aload_n 0, 1) := by decide +kernel
theorem dL_pin_3 : decode cL_pin 3 = .ok (.iload_n 1, 1) := by decide +kernel
theorem dL_pin_4 : decode cL_pin 4 = .ok (.iload_n 2, 1) := by decide +kernel
theorem dL_pin_5 : decode cL_pin 5 = .ok (.invokevirtual 34, 3) := by decide +kernel
theorem dL_pin_8 : decode cL_pin 8 = .ok (.i2l, 1) := by decide +kernel
theorem dL_pin_9 : decode cL_pin 9 = .ok (.lastore, 1) := by decide +kernel
theorem dL_pin_10 : decode cL_pin 10 = .ok (.goto 7, 3) := by decide +kernel
theorem dL_pin_13 : decode cL_pin 13 = .ok (.astore 4, 2) := by decide +kernel
theorem dL_pin_15 : decode cL_pin 15 = .ok (.iconst 1, 1) := by decide +kernel
theorem dL_pin_16 : decode cL_pin 16 = .ok (.ireturn, 1) := by decide +kernel
theorem dL_pin_17 : decode cL_pin 17 = .ok (.iconst 0, 1) := by decide +kernel
theorem dL_pin_18 : decode cL_pin 18 = .ok (.ireturn, 1) := by decide +kernel
theorem dL_whyNot_0 : decode cL_whyNot 0 = .ok (.aload_n 3, 1) := by decide +kernel
theorem dL_whyNot_1 : decode cL_whyNot 1 = .ok (.iconst 0, 1) := by decide +kernel
theorem dL_whyNot_2 : decode cL_whyNot 2 = .ok (.aload_n 0, 1) := by decide +kernel
theorem dL_whyNot_3 : decode cL_whyNot 3 = .ok (.iload_n 1, 1) := by decide +kernel
theorem dL_whyNot_4 : decode cL_whyNot 4 = .ok (.iload_n 2, 1) := by decide +kernel
theorem dL_whyNot_5 : decode cL_whyNot 5 = .ok (.invokevirtual 37, 3) := by decide +kernel
theorem dL_whyNot_8 : decode cL_whyNot 8 = .ok (.i2l, 1) := by decide +kernel
theorem dL_whyNot_9 : decode cL_whyNot 9 = .ok (.lastore, 1) := by decide +kernel
theorem dL_whyNot_10 : decode cL_whyNot 10 = .ok (.goto 7, 3) := by decide +kernel
theorem dL_whyNot_13 : decode cL_whyNot 13 = .ok (.astore 4, 2) := by decide +kernel
theorem dL_whyNot_15 : decode cL_whyNot 15 = .ok (.iconst 1, 1) := by decide +kernel
theorem dL_whyNot_16 : decode cL_whyNot 16 = .ok (.ireturn, 1) := by decide +kernel
theorem dL_whyNot_17 : decode cL_whyNot 17 = .ok (.iconst 0, 1) := by decide +kernel
theorem dL_whyNot_18 : decode cL_whyNot 18 = .ok (.ireturn, 1) := by decide +kernel
theorem dL_allocation_0 : decode cL_allocation 0 = .ok (.aload_n 2, 1) := by decide +kernel
theorem dL_allocation_1 : decode cL_allocation 1 = .ok (.iconst 0, 1) := by decide +kernel
theorem dL_allocation_2 : decode cL_allocation 2 = .ok (.aload_n 0, 1) := by decide +kernel
theorem dL_allocation_3 : decode cL_allocation 3 = .ok (.iload_n 1, 1) := by decide +kernel
theorem dL_allocation_4 : decode cL_allocation 4 = .ok (.invokevirtual 40, 3) := by decide +kernel
theorem dL_allocation_7 : decode cL_allocation 7 = .ok (.i2l, 1) := by decide +kernel
theorem dL_allocation_8 : decode cL_allocation 8 = .ok (.lastore, 1) := by decide +kernel
theorem dL_allocation_9 : decode cL_allocation 9 = .ok (.goto 6, 3) := by decide +kernel
theorem dL_allocation_12 : decode cL_allocation 12 = .ok (.astore_n 3, 1) := by decide +kernel
theorem dL_allocation_13 : decode cL_allocation 13 = .ok (.iconst 1, 1) := by decide +kernel
theorem dL_allocation_14 : decode cL_allocation 14 = .ok (.ireturn, 1) := by decide +kernel
theorem dL_allocation_15 : decode cL_allocation 15 = .ok (.iconst 0, 1) := by decide +kernel
theorem dL_allocation_16 : decode cL_allocation 16 = .ok (.ireturn, 1) := by decide +kernel
theorem dL_allocationAnew_0 : decode cL_allocationAnew 0 = .ok (.aload_n 2, 1) := by decide +kernel
theorem dL_allocationAnew_1 : decode cL_allocationAnew 1 = .ok (.iconst 0, 1) := by decide +kernel
theorem dL_allocationAnew_2 : decode cL_allocationAnew 2 = .ok (.aload_n 0, 1) := by decide +kernel
theorem dL_allocationAnew_3 : decode cL_allocationAnew 3 = .ok (.iload_n 1, 1) := by decide +kernel
theorem dL_allocationAnew_4 : decode cL_allocationAnew 4 = .ok (.invokevirtual 44, 3) := by decide +kernel
theorem dL_allocationAnew_7 : decode cL_allocationAnew 7 = .ok (.i2l, 1) := by decide +kernel
theorem dL_allocationAnew_8 : decode cL_allocationAnew 8 = .ok (.lastore, 1) := by decide +kernel
theorem dL_allocationAnew_9 : decode cL_allocationAnew 9 = .ok (.goto 9, 3) := by decide +kernel
theorem dL_allocationAnew_12 : decode cL_allocationAnew 12 = .ok (.astore_n 3, 1) := by decide +kernel
theorem dL_allocationAnew_13 : decode cL_allocationAnew 13 = .ok (.iconst 1, 1) := by decide +kernel
theorem dL_allocationAnew_14 : decode cL_allocationAnew 14 = .ok (.ireturn, 1) := by decide +kernel
theorem dL_allocationAnew_15 : decode cL_allocationAnew 15 = .ok (.astore_n 3, 1) := by decide +kernel
theorem dL_allocationAnew_16 : decode cL_allocationAnew 16 = .ok (.iconst 2, 1) := by decide +kernel
theorem dL_allocationAnew_17 : decode cL_allocationAnew 17 = .ok (.ireturn, 1) := by decide +kernel
theorem dL_allocationAnew_18 : decode cL_allocationAnew 18 = .ok (.iconst 0, 1) := by decide +kernel
theorem dL_allocationAnew_19 : decode cL_allocationAnew 19 = .ok (.ireturn, 1) := by decide +kernel
theorem dL_day_0 : decode cL_day 0 = .ok (.aload_n 1, 1) := by decide +kernel
theorem dL_day_1 : decode cL_day 1 = .ok (.iconst 0, 1) := by decide +kernel
theorem dL_day_2 : decode cL_day 2 = .ok (.aload_n 0, 1) := by decide +kernel
theorem dL_day_3 : decode cL_day 3 = .ok (.invokevirtual 47, 3) := by decide +kernel
theorem dL_day_6 : decode cL_day 6 = .ok (.i2l, 1) := by decide +kernel
theorem dL_day_7 : decode cL_day 7 = .ok (.lastore, 1) := by decide +kernel
theorem dL_day_8 : decode cL_day 8 = .ok (.goto 6, 3) := by decide +kernel
theorem dL_day_11 : decode cL_day 11 = .ok (.astore_n 2, 1) := by decide +kernel
theorem dL_day_12 : decode cL_day 12 = .ok (.iconst 1, 1) := by decide +kernel
theorem dL_day_13 : decode cL_day 13 = .ok (.ireturn, 1) := by decide +kernel
theorem dL_day_14 : decode cL_day 14 = .ok (.iconst 0, 1) := by decide +kernel
theorem dL_day_15 : decode cL_day 15 = .ok (.ireturn, 1) := by decide +kernel
theorem dL_examine_0 : decode cL_examine 0 = .ok (.aload_n 3, 1) := by decide +kernel
theorem dL_examine_1 : decode cL_examine 1 = .ok (.iconst 0, 1) := by decide +kernel
theorem dL_examine_2 : decode cL_examine 2 = .ok (.aload_n 0, 1) := by decide +kernel
theorem dL_examine_3 : decode cL_examine 3 = .ok (.iload_n 1, 1) := by decide +kernel
theorem dL_examine_4 : decode cL_examine 4 = .ok (.iload_n 2, 1) := by decide +kernel
theorem dL_examine_5 : decode cL_examine 5 = .ok (.invokevirtual 51, 3) := by decide +kernel
theorem dL_examine_8 : decode cL_examine 8 = .ok (.i2l, 1) := by decide +kernel
theorem dL_examine_9 : decode cL_examine 9 = .ok (.lastore, 1) := by decide +kernel
theorem dL_examine_10 : decode cL_examine 10 = .ok (.goto 11, 3) := by decide +kernel
theorem dL_examine_13 : decode cL_examine 13 = .ok (.astore 4, 2) := by decide +kernel
theorem dL_examine_15 : decode cL_examine 15 = .ok (.iconst 1, 1) := by decide +kernel
theorem dL_examine_16 : decode cL_examine 16 = .ok (.ireturn, 1) := by decide +kernel
theorem dL_examine_17 : decode cL_examine 17 = .ok (.astore 4, 2) := by decide +kernel
theorem dL_examine_19 : decode cL_examine 19 = .ok (.iconst 2, 1) := by decide +kernel
theorem dL_examine_20 : decode cL_examine 20 = .ok (.ireturn, 1) := by decide +kernel
theorem dL_examine_21 : decode cL_examine 21 = .ok (.iconst 0, 1) := by decide +kernel
theorem dL_examine_22 : decode cL_examine 22 = .ok (.ireturn, 1) := by decide +kernel
theorem dL_lathe_0 : decode cL_lathe 0 = .ok (.aload_n 2, 1) := by decide +kernel
theorem dL_lathe_1 : decode cL_lathe 1 = .ok (.iconst 0, 1) := by decide +kernel
theorem dL_lathe_2 : decode cL_lathe 2 = .ok (.aload_n 0, 1) := by decide +kernel
theorem dL_lathe_3 : decode cL_lathe 3 = .ok (.iload_n 1, 1) := by decide +kernel
theorem dL_lathe_4 : decode cL_lathe 4 = .ok (.invokevirtual 54, 3) := by decide +kernel
theorem dL_lathe_7 : decode cL_lathe 7 = .ok (.i2l, 1) := by decide +kernel
theorem dL_lathe_8 : decode cL_lathe 8 = .ok (.lastore, 1) := by decide +kernel
theorem dL_lathe_9 : decode cL_lathe 9 = .ok (.goto 9, 3) := by decide +kernel
theorem dL_lathe_12 : decode cL_lathe 12 = .ok (.astore_n 3, 1) := by decide +kernel
theorem dL_lathe_13 : decode cL_lathe 13 = .ok (.iconst 1, 1) := by decide +kernel
theorem dL_lathe_14 : decode cL_lathe 14 = .ok (.ireturn, 1) := by decide +kernel
theorem dL_lathe_15 : decode cL_lathe 15 = .ok (.astore_n 3, 1) := by decide +kernel
theorem dL_lathe_16 : decode cL_lathe 16 = .ok (.iconst 2, 1) := by decide +kernel
theorem dL_lathe_17 : decode cL_lathe 17 = .ok (.ireturn, 1) := by decide +kernel
theorem dL_lathe_18 : decode cL_lathe 18 = .ok (.iconst 0, 1) := by decide +kernel
theorem dL_lathe_19 : decode cL_lathe 19 = .ok (.ireturn, 1) := by decide +kernel
theorem dL_mend_0 : decode cL_mend 0 = .ok (.aload_n 3, 1) := by decide +kernel
theorem dL_mend_1 : decode cL_mend 1 = .ok (.iconst 0, 1) := by decide +kernel
theorem dL_mend_2 : decode cL_mend 2 = .ok (.aload_n 0, 1) := by decide +kernel
theorem dL_mend_3 : decode cL_mend 3 = .ok (.iload_n 1, 1) := by decide +kernel
theorem dL_mend_4 : decode cL_mend 4 = .ok (.iload_n 2, 1) := by decide +kernel
theorem dL_mend_5 : decode cL_mend 5 = .ok (.invokevirtual 57, 3) := by decide +kernel
theorem dL_mend_8 : decode cL_mend 8 = .ok (.i2l, 1) := by decide +kernel
theorem dL_mend_9 : decode cL_mend 9 = .ok (.lastore, 1) := by decide +kernel
theorem dL_mend_10 : decode cL_mend 10 = .ok (.goto 11, 3) := by decide +kernel
theorem dL_mend_13 : decode cL_mend 13 = .ok (.astore 4, 2) := by decide +kernel
theorem dL_mend_15 : decode cL_mend 15 = .ok (.iconst 1, 1) := by decide +kernel
theorem dL_mend_16 : decode cL_mend 16 = .ok (.ireturn, 1) := by decide +kernel
theorem dL_mend_17 : decode cL_mend 17 = .ok (.astore 4, 2) := by decide +kernel
theorem dL_mend_19 : decode cL_mend 19 = .ok (.iconst 2, 1) := by decide +kernel
theorem dL_mend_20 : decode cL_mend 20 = .ok (.ireturn, 1) := by decide +kernel
theorem dL_mend_21 : decode cL_mend 21 = .ok (.iconst 0, 1) := by decide +kernel
theorem dL_mend_22 : decode cL_mend 22 = .ok (.ireturn, 1) := by decide +kernel
theorem dL_about_0 : decode cL_about 0 = .ok (.aload_n 3, 1) := by decide +kernel
theorem dL_about_1 : decode cL_about 1 = .ok (.iconst 0, 1) := by decide +kernel
theorem dL_about_2 : decode cL_about 2 = .ok (.aload_n 0, 1) := by decide +kernel
theorem dL_about_3 : decode cL_about 3 = .ok (.iload_n 1, 1) := by decide +kernel
theorem dL_about_4 : decode cL_about 4 = .ok (.iload_n 2, 1) := by decide +kernel
theorem dL_about_5 : decode cL_about 5 = .ok (.invokevirtual 60, 3) := by decide +kernel
theorem dL_about_8 : decode cL_about 8 = .ok (.i2l, 1) := by decide +kernel
theorem dL_about_9 : decode cL_about 9 = .ok (.lastore, 1) := by decide +kernel
theorem dL_about_10 : decode cL_about 10 = .ok (.goto 11, 3) := by decide +kernel
theorem dL_about_13 : decode cL_about 13 = .ok (.astore 4, 2) := by decide +kernel
theorem dL_about_15 : decode cL_about 15 = .ok (.iconst 1, 1) := by decide +kernel
theorem dL_about_16 : decode cL_about 16 = .ok (.ireturn, 1) := by decide +kernel
theorem dL_about_17 : decode cL_about 17 = .ok (.astore 4, 2) := by decide +kernel
theorem dL_about_19 : decode cL_about 19 = .ok (.iconst 2, 1) := by decide +kernel
theorem dL_about_20 : decode cL_about 20 = .ok (.ireturn, 1) := by decide +kernel
theorem dL_about_21 : decode cL_about 21 = .ok (.iconst 0, 1) := by decide +kernel
theorem dL_about_22 : decode cL_about 22 = .ok (.ireturn, 1) := by decide +kernel
theorem dL_clock_0 : decode cL_clock 0 = .ok (.aload 4, 2) := by decide +kernel
theorem dL_clock_2 : decode cL_clock 2 = .ok (.iconst 0, 1) := by decide +kernel
theorem dL_clock_3 : decode cL_clock 3 = .ok (.aload_n 0, 1) := by decide +kernel
theorem dL_clock_4 : decode cL_clock 4 = .ok (.iload_n 1, 1) := by decide +kernel
theorem dL_clock_5 : decode cL_clock 5 = .ok (.iload_n 2, 1) := by decide +kernel
theorem dL_clock_6 : decode cL_clock 6 = .ok (.iload_n 3, 1) := by decide +kernel
theorem dL_clock_7 : decode cL_clock 7 = .ok (.invokevirtual 63, 3) := by decide +kernel
theorem dL_clock_10 : decode cL_clock 10 = .ok (.i2l, 1) := by decide +kernel
theorem dL_clock_11 : decode cL_clock 11 = .ok (.lastore, 1) := by decide +kernel
theorem dL_clock_12 : decode cL_clock 12 = .ok (.goto 7, 3) := by decide +kernel
theorem dL_clock_15 : decode cL_clock 15 = .ok (.astore 5, 2) := by decide +kernel
theorem dL_clock_17 : decode cL_clock 17 = .ok (.iconst 1, 1) := by decide +kernel
theorem dL_clock_18 : decode cL_clock 18 = .ok (.ireturn, 1) := by decide +kernel
theorem dL_clock_19 : decode cL_clock 19 = .ok (.iconst 0, 1) := by decide +kernel
theorem dL_clock_20 : decode cL_clock 20 = .ok (.ireturn, 1) := by decide +kernel
theorem dL_axle_0 : decode cL_axle 0 = .ok (.aload_n 3, 1) := by decide +kernel
theorem dL_axle_1 : decode cL_axle 1 = .ok (.iconst 0, 1) := by decide +kernel
theorem dL_axle_2 : decode cL_axle 2 = .ok (.aload_n 0, 1) := by decide +kernel
theorem dL_axle_3 : decode cL_axle 3 = .ok (.iload_n 1, 1) := by decide +kernel
theorem dL_axle_4 : decode cL_axle 4 = .ok (.iload_n 2, 1) := by decide +kernel
theorem dL_axle_5 : decode cL_axle 5 = .ok (.invokevirtual 67, 3) := by decide +kernel
theorem dL_axle_8 : decode cL_axle 8 = .ok (.i2l, 1) := by decide +kernel
theorem dL_axle_9 : decode cL_axle 9 = .ok (.lastore, 1) := by decide +kernel
theorem dL_axle_10 : decode cL_axle 10 = .ok (.goto 7, 3) := by decide +kernel
theorem dL_axle_13 : decode cL_axle 13 = .ok (.astore 4, 2) := by decide +kernel
theorem dL_axle_15 : decode cL_axle 15 = .ok (.iconst 1, 1) := by decide +kernel
theorem dL_axle_16 : decode cL_axle 16 = .ok (.ireturn, 1) := by decide +kernel
theorem dL_axle_17 : decode cL_axle 17 = .ok (.iconst 0, 1) := by decide +kernel
theorem dL_axle_18 : decode cL_axle 18 = .ok (.ireturn, 1) := by decide +kernel
theorem dL_faultAt_0 : decode cL_faultAt 0 = .ok (.aload 4, 2) := by decide +kernel
theorem dL_faultAt_2 : decode cL_faultAt 2 = .ok (.iconst 0, 1) := by decide +kernel
theorem dL_faultAt_3 : decode cL_faultAt 3 = .ok (.aload_n 0, 1) := by decide +kernel
theorem dL_faultAt_4 : decode cL_faultAt 4 = .ok (.iload_n 1, 1) := by decide +kernel
theorem dL_faultAt_5 : decode cL_faultAt 5 = .ok (.iload_n 2, 1) := by decide +kernel
theorem dL_faultAt_6 : decode cL_faultAt 6 = .ok (.iload_n 3, 1) := by decide +kernel
theorem dL_faultAt_7 : decode cL_faultAt 7 = .ok (.invokevirtual 70, 3) := by decide +kernel
theorem dL_faultAt_10 : decode cL_faultAt 10 = .ok (.i2l, 1) := by decide +kernel
theorem dL_faultAt_11 : decode cL_faultAt 11 = .ok (.lastore, 1) := by decide +kernel
theorem dL_faultAt_12 : decode cL_faultAt 12 = .ok (.goto 11, 3) := by decide +kernel
theorem dL_faultAt_15 : decode cL_faultAt 15 = .ok (.astore 5, 2) := by decide +kernel
theorem dL_faultAt_17 : decode cL_faultAt 17 = .ok (.iconst 1, 1) := by decide +kernel
theorem dL_faultAt_18 : decode cL_faultAt 18 = .ok (.ireturn, 1) := by decide +kernel
theorem dL_faultAt_19 : decode cL_faultAt 19 = .ok (.astore 5, 2) := by decide +kernel
theorem dL_faultAt_21 : decode cL_faultAt 21 = .ok (.iconst 2, 1) := by decide +kernel
theorem dL_faultAt_22 : decode cL_faultAt 22 = .ok (.ireturn, 1) := by decide +kernel
theorem dL_faultAt_23 : decode cL_faultAt 23 = .ok (.iconst 0, 1) := by decide +kernel
theorem dL_faultAt_24 : decode cL_faultAt 24 = .ok (.ireturn, 1) := by decide +kernel
theorem dL_stands_0 : decode cL_stands 0 = .ok (.aload_n 3, 1) := by decide +kernel
theorem dL_stands_1 : decode cL_stands 1 = .ok (.iconst 0, 1) := by decide +kernel
theorem dL_stands_2 : decode cL_stands 2 = .ok (.aload_n 0, 1) := by decide +kernel
theorem dL_stands_3 : decode cL_stands 3 = .ok (.iload_n 1, 1) := by decide +kernel
theorem dL_stands_4 : decode cL_stands 4 = .ok (.iload_n 2, 1) := by decide +kernel
theorem dL_stands_5 : decode cL_stands 5 = .ok (.invokevirtual 73, 3) := by decide +kernel
theorem dL_stands_8 : decode cL_stands 8 = .ok (.i2l, 1) := by decide +kernel
theorem dL_stands_9 : decode cL_stands 9 = .ok (.lastore, 1) := by decide +kernel
theorem dL_stands_10 : decode cL_stands 10 = .ok (.goto 7, 3) := by decide +kernel
theorem dL_stands_13 : decode cL_stands 13 = .ok (.astore 4, 2) := by decide +kernel
theorem dL_stands_15 : decode cL_stands 15 = .ok (.iconst 1, 1) := by decide +kernel
theorem dL_stands_16 : decode cL_stands 16 = .ok (.ireturn, 1) := by decide +kernel
theorem dL_stands_17 : decode cL_stands 17 = .ok (.iconst 0, 1) := by decide +kernel
theorem dL_stands_18 : decode cL_stands 18 = .ok (.ireturn, 1) := by decide +kernel
theorem dL_ran_0 : decode cL_ran 0 = .ok (.aload_n 3, 1) := by decide +kernel
theorem dL_ran_1 : decode cL_ran 1 = .ok (.iconst 0, 1) := by decide +kernel
theorem dL_ran_2 : decode cL_ran 2 = .ok (.aload_n 0, 1) := by decide +kernel
theorem dL_ran_3 : decode cL_ran 3 = .ok (.iload_n 1, 1) := by decide +kernel
theorem dL_ran_4 : decode cL_ran 4 = .ok (.iload_n 2, 1) := by decide +kernel
theorem dL_ran_5 : decode cL_ran 5 = .ok (.invokevirtual 76, 3) := by decide +kernel
theorem dL_ran_8 : decode cL_ran 8 = .ok (.i2l, 1) := by decide +kernel
theorem dL_ran_9 : decode cL_ran 9 = .ok (.lastore, 1) := by decide +kernel
theorem dL_ran_10 : decode cL_ran 10 = .ok (.goto 11, 3) := by decide +kernel
theorem dL_ran_13 : decode cL_ran 13 = .ok (.astore 4, 2) := by decide +kernel
theorem dL_ran_15 : decode cL_ran 15 = .ok (.iconst 1, 1) := by decide +kernel
theorem dL_ran_16 : decode cL_ran 16 = .ok (.ireturn, 1) := by decide +kernel
theorem dL_ran_17 : decode cL_ran 17 = .ok (.astore 4, 2) := by decide +kernel
theorem dL_ran_19 : decode cL_ran 19 = .ok (.iconst 2, 1) := by decide +kernel
theorem dL_ran_20 : decode cL_ran 20 = .ok (.ireturn, 1) := by decide +kernel
theorem dL_ran_21 : decode cL_ran 21 = .ok (.iconst 0, 1) := by decide +kernel
theorem dL_ran_22 : decode cL_ran 22 = .ok (.ireturn, 1) := by decide +kernel
theorem dL_kmAnew_0 : decode cL_kmAnew 0 = .ok (.aload_n 2, 1) := by decide +kernel
theorem dL_kmAnew_1 : decode cL_kmAnew 1 = .ok (.iconst 0, 1) := by decide +kernel
theorem dL_kmAnew_2 : decode cL_kmAnew 2 = .ok (.aload_n 0, 1) := by decide +kernel
theorem dL_kmAnew_3 : decode cL_kmAnew 3 = .ok (.iload_n 1, 1) := by decide +kernel
theorem dL_kmAnew_4 : decode cL_kmAnew 4 = .ok (.invokevirtual 79, 3) := by decide +kernel
theorem dL_kmAnew_7 : decode cL_kmAnew 7 = .ok (.i2l, 1) := by decide +kernel
theorem dL_kmAnew_8 : decode cL_kmAnew 8 = .ok (.lastore, 1) := by decide +kernel
theorem dL_kmAnew_9 : decode cL_kmAnew 9 = .ok (.goto 6, 3) := by decide +kernel
theorem dL_kmAnew_12 : decode cL_kmAnew 12 = .ok (.astore_n 3, 1) := by decide +kernel
theorem dL_kmAnew_13 : decode cL_kmAnew 13 = .ok (.iconst 1, 1) := by decide +kernel
theorem dL_kmAnew_14 : decode cL_kmAnew 14 = .ok (.ireturn, 1) := by decide +kernel
theorem dL_kmAnew_15 : decode cL_kmAnew 15 = .ok (.iconst 0, 1) := by decide +kernel
theorem dL_kmAnew_16 : decode cL_kmAnew 16 = .ok (.ireturn, 1) := by decide +kernel
theorem dL_law_0 : decode cL_law 0 = .ok (.new 8, 3) := by decide +kernel
theorem dL_law_3 : decode cL_law 3 = .ok (.dup, 1) := by decide +kernel
theorem dL_law_4 : decode cL_law 4 = .ok (.invokespecial 82, 3) := by decide +kernel
theorem dL_law_7 : decode cL_law 7 = .ok (.astore_n 1, 1) := by decide +kernel
theorem dL_law_8 : decode cL_law 8 = .ok (.new 83, 3) := by decide +kernel
theorem dL_law_11 : decode cL_law 11 = .ok (.dup, 1) := by decide +kernel
theorem dL_law_12 : decode cL_law 12 = .ok (.invokespecial 85, 3) := by decide +kernel
theorem dL_law_15 : decode cL_law 15 = .ok (.astore_n 2, 1) := by decide +kernel
theorem dL_law_16 : decode cL_law 16 = .ok (.iconst 1, 1) := by decide +kernel
theorem dL_law_17 : decode cL_law 17 = .ok (.newarray .long, 2) := by decide +kernel
theorem dL_law_19 : decode cL_law 19 = .ok (.astore_n 3, 1) := by decide +kernel
theorem dL_law_20 : decode cL_law 20 = .ok (.iconst 0, 1) := by decide +kernel
theorem dL_law_21 : decode cL_law 21 = .ok (.istore 4, 2) := by decide +kernel
theorem dL_law_23 : decode cL_law 23 = .ok (.iload 4, 2) := by decide +kernel
theorem dL_law_25 : decode cL_law 25 = .ok (.aload_n 0, 1) := by decide +kernel
theorem dL_law_26 : decode cL_law 26 = .ok (.arraylength, 1) := by decide +kernel
theorem dL_law_27 : decode cL_law 27 = .ok (.bipush 6, 2) := by decide +kernel
theorem dL_law_29 : decode cL_law 29 = .ok (.isub, 1) := by decide +kernel
theorem dL_law_30 : decode cL_law 30 = .ok (.if_icmp .gt 1587, 3) := by decide +kernel
theorem dL_law_33 : decode cL_law 33 = .ok (.aload_n 0, 1) := by decide +kernel
theorem dL_law_34 : decode cL_law 34 = .ok (.iload 4, 2) := by decide +kernel
theorem dL_law_36 : decode cL_law 36 = .ok (.iaload, 1) := by decide +kernel
theorem dL_law_37 : decode cL_law 37 = .ok (.bipush 31, 2) := by decide +kernel
theorem dL_law_39 : decode cL_law 39 = .ok (.iand, 1) := by decide +kernel
theorem dL_law_40 : decode cL_law 40 = .ok (.tableswitch 1571 0 22 #[108, 176, 280, 372, 452, 544, 612, 680, 736, 792, 805, 849, 917, 973, 1041, 1054, 1122, 1218, 1286, 1366, 1434, 1447, 1515], 108) := by decide +kernel
theorem dL_law_148 : decode cL_law 148 = .ok (.aload_n 1, 1) := by decide +kernel
theorem dL_law_149 : decode cL_law 149 = .ok (.aload_n 0, 1) := by decide +kernel
theorem dL_law_150 : decode cL_law 150 = .ok (.iload 4, 2) := by decide +kernel
theorem dL_law_152 : decode cL_law 152 = .ok (.iconst 1, 1) := by decide +kernel
theorem dL_law_153 : decode cL_law 153 = .ok (.iadd, 1) := by decide +kernel
theorem dL_law_154 : decode cL_law 154 = .ok (.iaload, 1) := by decide +kernel
theorem dL_law_155 : decode cL_law 155 = .ok (.aload_n 0, 1) := by decide +kernel
theorem dL_law_156 : decode cL_law 156 = .ok (.iload 4, 2) := by decide +kernel
theorem dL_law_158 : decode cL_law 158 = .ok (.iconst 2, 1) := by decide +kernel
theorem dL_law_159 : decode cL_law 159 = .ok (.iadd, 1) := by decide +kernel
theorem dL_law_160 : decode cL_law 160 = .ok (.iaload, 1) := by decide +kernel
theorem dL_law_161 : decode cL_law 161 = .ok (.aload_n 3, 1) := by decide +kernel
theorem dL_law_162 : decode cL_law 162 = .ok (.invokestatic 86, 3) := by decide +kernel
theorem dL_law_165 : decode cL_law 165 = .ok (.istore 5, 2) := by decide +kernel
theorem dL_law_167 : decode cL_law 167 = .ok (.aload_n 2, 1) := by decide +kernel
theorem dL_law_168 : decode cL_law 168 = .ok (.aload_n 0, 1) := by decide +kernel
theorem dL_law_169 : decode cL_law 169 = .ok (.iload 4, 2) := by decide +kernel
theorem dL_law_171 : decode cL_law 171 = .ok (.iconst 1, 1) := by decide +kernel
theorem dL_law_172 : decode cL_law 172 = .ok (.iadd, 1) := by decide +kernel
theorem dL_law_173 : decode cL_law 173 = .ok (.iaload, 1) := by decide +kernel
theorem dL_law_174 : decode cL_law 174 = .ok (.aload_n 0, 1) := by decide +kernel
theorem dL_law_175 : decode cL_law 175 = .ok (.iload 4, 2) := by decide +kernel
theorem dL_law_177 : decode cL_law 177 = .ok (.iconst 2, 1) := by decide +kernel
theorem dL_law_178 : decode cL_law 178 = .ok (.iadd, 1) := by decide +kernel
theorem dL_law_179 : decode cL_law 179 = .ok (.iaload, 1) := by decide +kernel
theorem dL_law_180 : decode cL_law 180 = .ok (.invokevirtual 91, 3) := by decide +kernel
theorem dL_law_183 : decode cL_law 183 = .ok (.istore 6, 2) := by decide +kernel
theorem dL_law_185 : decode cL_law 185 = .ok (.aload_n 2, 1) := by decide +kernel
theorem dL_law_186 : decode cL_law 186 = .ok (.invokevirtual 92, 3) := by decide +kernel
theorem dL_law_189 : decode cL_law 189 = .ok (.iload 5, 2) := by decide +kernel
theorem dL_law_191 : decode cL_law 191 = .ok (.if_icmp .eq 5, 3) := by decide +kernel
theorem dL_law_194 : decode cL_law 194 = .ok (.iconst 0, 1) := by decide +kernel
theorem dL_law_195 : decode cL_law 195 = .ok (.ireturn, 1) := by decide +kernel
theorem dL_law_196 : decode cL_law 196 = .ok (.iload 5, 2) := by decide +kernel
theorem dL_law_198 : decode cL_law 198 = .ok (.ifCond .ne 15, 3) := by decide +kernel
theorem dL_law_201 : decode cL_law 201 = .ok (.aload_n 3, 1) := by decide +kernel
theorem dL_law_202 : decode cL_law 202 = .ok (.iconst 0, 1) := by decide +kernel
theorem dL_law_203 : decode cL_law 203 = .ok (.laload, 1) := by decide +kernel
theorem dL_law_204 : decode cL_law 204 = .ok (.iload 6, 2) := by decide +kernel
theorem dL_law_206 : decode cL_law 206 = .ok (.i2l, 1) := by decide +kernel
theorem dL_law_207 : decode cL_law 207 = .ok (.lcmp, 1) := by decide +kernel
theorem dL_law_208 : decode cL_law 208 = .ok (.ifCond .eq 5, 3) := by decide +kernel
theorem dL_law_211 : decode cL_law 211 = .ok (.iconst 0, 1) := by decide +kernel
theorem dL_law_212 : decode cL_law 212 = .ok (.ireturn, 1) := by decide +kernel
theorem dL_law_213 : decode cL_law 213 = .ok (.goto 1398, 3) := by decide +kernel
theorem dL_law_216 : decode cL_law 216 = .ok (.aload_n 1, 1) := by decide +kernel
theorem dL_law_217 : decode cL_law 217 = .ok (.aload_n 0, 1) := by decide +kernel
theorem dL_law_218 : decode cL_law 218 = .ok (.iload 4, 2) := by decide +kernel
theorem dL_law_220 : decode cL_law 220 = .ok (.iconst 1, 1) := by decide +kernel
theorem dL_law_221 : decode cL_law 221 = .ok (.iadd, 1) := by decide +kernel
theorem dL_law_222 : decode cL_law 222 = .ok (.iaload, 1) := by decide +kernel
theorem dL_law_223 : decode cL_law 223 = .ok (.aload_n 0, 1) := by decide +kernel
theorem dL_law_224 : decode cL_law 224 = .ok (.iload 4, 2) := by decide +kernel
theorem dL_law_226 : decode cL_law 226 = .ok (.iconst 2, 1) := by decide +kernel
theorem dL_law_227 : decode cL_law 227 = .ok (.iadd, 1) := by decide +kernel
theorem dL_law_228 : decode cL_law 228 = .ok (.iaload, 1) := by decide +kernel
theorem dL_law_229 : decode cL_law 229 = .ok (.aload_n 0, 1) := by decide +kernel
theorem dL_law_230 : decode cL_law 230 = .ok (.iload 4, 2) := by decide +kernel
theorem dL_law_232 : decode cL_law 232 = .ok (.iconst 3, 1) := by decide +kernel
theorem dL_law_233 : decode cL_law 233 = .ok (.iadd, 1) := by decide +kernel
theorem dL_law_234 : decode cL_law 234 = .ok (.iaload, 1) := by decide +kernel
theorem dL_law_235 : decode cL_law 235 = .ok (.aload_n 0, 1) := by decide +kernel
theorem dL_law_236 : decode cL_law 236 = .ok (.iload 4, 2) := by decide +kernel
theorem dL_law_238 : decode cL_law 238 = .ok (.iconst 4, 1) := by decide +kernel
theorem dL_law_239 : decode cL_law 239 = .ok (.iadd, 1) := by decide +kernel
theorem dL_law_240 : decode cL_law 240 = .ok (.iaload, 1) := by decide +kernel
theorem dL_law_241 : decode cL_law 241 = .ok (.aload_n 0, 1) := by decide +kernel
theorem dL_law_242 : decode cL_law 242 = .ok (.iload 4, 2) := by decide +kernel
theorem dL_law_244 : decode cL_law 244 = .ok (.iconst 5, 1) := by decide +kernel
theorem dL_law_245 : decode cL_law 245 = .ok (.iadd, 1) := by decide +kernel
theorem dL_law_246 : decode cL_law 246 = .ok (.iaload, 1) := by decide +kernel
theorem dL_law_247 : decode cL_law 247 = .ok (.aload_n 3, 1) := by decide +kernel
theorem dL_law_248 : decode cL_law 248 = .ok (.invokestatic 95, 3) := by decide +kernel
theorem dL_law_251 : decode cL_law 251 = .ok (.istore 5, 2) := by decide +kernel
theorem dL_law_253 : decode cL_law 253 = .ok (.aload_n 2, 1) := by decide +kernel
theorem dL_law_254 : decode cL_law 254 = .ok (.aload_n 0, 1) := by decide +kernel
theorem dL_law_255 : decode cL_law 255 = .ok (.iload 4, 2) := by decide +kernel
theorem dL_law_257 : decode cL_law 257 = .ok (.iconst 1, 1) := by decide +kernel
theorem dL_law_258 : decode cL_law 258 = .ok (.iadd, 1) := by decide +kernel
theorem dL_law_259 : decode cL_law 259 = .ok (.iaload, 1) := by decide +kernel
theorem dL_law_260 : decode cL_law 260 = .ok (.aload_n 0, 1) := by decide +kernel
theorem dL_law_261 : decode cL_law 261 = .ok (.iload 4, 2) := by decide +kernel
theorem dL_law_263 : decode cL_law 263 = .ok (.iconst 2, 1) := by decide +kernel
theorem dL_law_264 : decode cL_law 264 = .ok (.iadd, 1) := by decide +kernel
theorem dL_law_265 : decode cL_law 265 = .ok (.iaload, 1) := by decide +kernel
theorem dL_law_266 : decode cL_law 266 = .ok (.aload_n 0, 1) := by decide +kernel
theorem dL_law_267 : decode cL_law 267 = .ok (.iload 4, 2) := by decide +kernel
theorem dL_law_269 : decode cL_law 269 = .ok (.iconst 3, 1) := by decide +kernel
theorem dL_law_270 : decode cL_law 270 = .ok (.iadd, 1) := by decide +kernel
theorem dL_law_271 : decode cL_law 271 = .ok (.iaload, 1) := by decide +kernel
theorem dL_law_272 : decode cL_law 272 = .ok (.aload_n 0, 1) := by decide +kernel
theorem dL_law_273 : decode cL_law 273 = .ok (.iload 4, 2) := by decide +kernel
theorem dL_law_275 : decode cL_law 275 = .ok (.iconst 4, 1) := by decide +kernel
theorem dL_law_276 : decode cL_law 276 = .ok (.iadd, 1) := by decide +kernel
theorem dL_law_277 : decode cL_law 277 = .ok (.iaload, 1) := by decide +kernel
theorem dL_law_278 : decode cL_law 278 = .ok (.aload_n 0, 1) := by decide +kernel
theorem dL_law_279 : decode cL_law 279 = .ok (.iload 4, 2) := by decide +kernel
theorem dL_law_281 : decode cL_law 281 = .ok (.iconst 5, 1) := by decide +kernel
theorem dL_law_282 : decode cL_law 282 = .ok (.iadd, 1) := by decide +kernel
theorem dL_law_283 : decode cL_law 283 = .ok (.iaload, 1) := by decide +kernel
theorem dL_law_284 : decode cL_law 284 = .ok (.invokevirtual 98, 3) := by decide +kernel
theorem dL_law_287 : decode cL_law 287 = .ok (.istore 6, 2) := by decide +kernel
theorem dL_law_289 : decode cL_law 289 = .ok (.aload_n 2, 1) := by decide +kernel
theorem dL_law_290 : decode cL_law 290 = .ok (.invokevirtual 92, 3) := by decide +kernel
theorem dL_law_293 : decode cL_law 293 = .ok (.iload 5, 2) := by decide +kernel
theorem dL_law_295 : decode cL_law 295 = .ok (.if_icmp .eq 5, 3) := by decide +kernel
theorem dL_law_298 : decode cL_law 298 = .ok (.iconst 0, 1) := by decide +kernel
theorem dL_law_299 : decode cL_law 299 = .ok (.ireturn, 1) := by decide +kernel
theorem dL_law_300 : decode cL_law 300 = .ok (.iload 5, 2) := by decide +kernel
theorem dL_law_302 : decode cL_law 302 = .ok (.ifCond .ne 15, 3) := by decide +kernel
theorem dL_law_305 : decode cL_law 305 = .ok (.aload_n 3, 1) := by decide +kernel
theorem dL_law_306 : decode cL_law 306 = .ok (.iconst 0, 1) := by decide +kernel
theorem dL_law_307 : decode cL_law 307 = .ok (.laload, 1) := by decide +kernel
theorem dL_law_308 : decode cL_law 308 = .ok (.iload 6, 2) := by decide +kernel
theorem dL_law_310 : decode cL_law 310 = .ok (.i2l, 1) := by decide +kernel
theorem dL_law_311 : decode cL_law 311 = .ok (.lcmp, 1) := by decide +kernel
theorem dL_law_312 : decode cL_law 312 = .ok (.ifCond .eq 5, 3) := by decide +kernel
theorem dL_law_315 : decode cL_law 315 = .ok (.iconst 0, 1) := by decide +kernel
theorem dL_law_316 : decode cL_law 316 = .ok (.ireturn, 1) := by decide +kernel
theorem dL_law_317 : decode cL_law 317 = .ok (.goto 1294, 3) := by decide +kernel
theorem dL_law_320 : decode cL_law 320 = .ok (.aload_n 1, 1) := by decide +kernel
theorem dL_law_321 : decode cL_law 321 = .ok (.aload_n 0, 1) := by decide +kernel
theorem dL_law_322 : decode cL_law 322 = .ok (.iload 4, 2) := by decide +kernel
theorem dL_law_324 : decode cL_law 324 = .ok (.iconst 1, 1) := by decide +kernel
theorem dL_law_325 : decode cL_law 325 = .ok (.iadd, 1) := by decide +kernel
theorem dL_law_326 : decode cL_law 326 = .ok (.iaload, 1) := by decide +kernel
theorem dL_law_327 : decode cL_law 327 = .ok (.aload_n 0, 1) := by decide +kernel
theorem dL_law_328 : decode cL_law 328 = .ok (.iload 4, 2) := by decide +kernel
theorem dL_law_330 : decode cL_law 330 = .ok (.iconst 2, 1) := by decide +kernel
theorem dL_law_331 : decode cL_law 331 = .ok (.iadd, 1) := by decide +kernel
theorem dL_law_332 : decode cL_law 332 = .ok (.iaload, 1) := by decide +kernel
theorem dL_law_333 : decode cL_law 333 = .ok (.aload_n 0, 1) := by decide +kernel
theorem dL_law_334 : decode cL_law 334 = .ok (.iload 4, 2) := by decide +kernel
theorem dL_law_336 : decode cL_law 336 = .ok (.iconst 3, 1) := by decide +kernel
theorem dL_law_337 : decode cL_law 337 = .ok (.iadd, 1) := by decide +kernel
theorem dL_law_338 : decode cL_law 338 = .ok (.iaload, 1) := by decide +kernel
theorem dL_law_339 : decode cL_law 339 = .ok (.aload_n 0, 1) := by decide +kernel
theorem dL_law_340 : decode cL_law 340 = .ok (.iload 4, 2) := by decide +kernel
theorem dL_law_342 : decode cL_law 342 = .ok (.iconst 4, 1) := by decide +kernel
theorem dL_law_343 : decode cL_law 343 = .ok (.iadd, 1) := by decide +kernel
theorem dL_law_344 : decode cL_law 344 = .ok (.iaload, 1) := by decide +kernel
theorem dL_law_345 : decode cL_law 345 = .ok (.aload_n 3, 1) := by decide +kernel
theorem dL_law_346 : decode cL_law 346 = .ok (.invokestatic 99, 3) := by decide +kernel
theorem dL_law_349 : decode cL_law 349 = .ok (.istore 5, 2) := by decide +kernel
theorem dL_law_351 : decode cL_law 351 = .ok (.aload_n 2, 1) := by decide +kernel
theorem dL_law_352 : decode cL_law 352 = .ok (.aload_n 0, 1) := by decide +kernel
theorem dL_law_353 : decode cL_law 353 = .ok (.iload 4, 2) := by decide +kernel
theorem dL_law_355 : decode cL_law 355 = .ok (.iconst 1, 1) := by decide +kernel
theorem dL_law_356 : decode cL_law 356 = .ok (.iadd, 1) := by decide +kernel
theorem dL_law_357 : decode cL_law 357 = .ok (.iaload, 1) := by decide +kernel
theorem dL_law_358 : decode cL_law 358 = .ok (.aload_n 0, 1) := by decide +kernel
theorem dL_law_359 : decode cL_law 359 = .ok (.iload 4, 2) := by decide +kernel
theorem dL_law_361 : decode cL_law 361 = .ok (.iconst 2, 1) := by decide +kernel
theorem dL_law_362 : decode cL_law 362 = .ok (.iadd, 1) := by decide +kernel
theorem dL_law_363 : decode cL_law 363 = .ok (.iaload, 1) := by decide +kernel
theorem dL_law_364 : decode cL_law 364 = .ok (.aload_n 0, 1) := by decide +kernel
theorem dL_law_365 : decode cL_law 365 = .ok (.iload 4, 2) := by decide +kernel
theorem dL_law_367 : decode cL_law 367 = .ok (.iconst 3, 1) := by decide +kernel
theorem dL_law_368 : decode cL_law 368 = .ok (.iadd, 1) := by decide +kernel
theorem dL_law_369 : decode cL_law 369 = .ok (.iaload, 1) := by decide +kernel
theorem dL_law_370 : decode cL_law 370 = .ok (.aload_n 0, 1) := by decide +kernel
theorem dL_law_371 : decode cL_law 371 = .ok (.iload 4, 2) := by decide +kernel
theorem dL_law_373 : decode cL_law 373 = .ok (.iconst 4, 1) := by decide +kernel
theorem dL_law_374 : decode cL_law 374 = .ok (.iadd, 1) := by decide +kernel
theorem dL_law_375 : decode cL_law 375 = .ok (.iaload, 1) := by decide +kernel
theorem dL_law_376 : decode cL_law 376 = .ok (.invokevirtual 102, 3) := by decide +kernel
theorem dL_law_379 : decode cL_law 379 = .ok (.istore 6, 2) := by decide +kernel
theorem dL_law_381 : decode cL_law 381 = .ok (.aload_n 2, 1) := by decide +kernel
theorem dL_law_382 : decode cL_law 382 = .ok (.invokevirtual 92, 3) := by decide +kernel
theorem dL_law_385 : decode cL_law 385 = .ok (.iload 5, 2) := by decide +kernel
theorem dL_law_387 : decode cL_law 387 = .ok (.if_icmp .eq 5, 3) := by decide +kernel
theorem dL_law_390 : decode cL_law 390 = .ok (.iconst 0, 1) := by decide +kernel
theorem dL_law_391 : decode cL_law 391 = .ok (.ireturn, 1) := by decide +kernel
theorem dL_law_392 : decode cL_law 392 = .ok (.iload 5, 2) := by decide +kernel
theorem dL_law_394 : decode cL_law 394 = .ok (.ifCond .ne 15, 3) := by decide +kernel
theorem dL_law_397 : decode cL_law 397 = .ok (.aload_n 3, 1) := by decide +kernel
theorem dL_law_398 : decode cL_law 398 = .ok (.iconst 0, 1) := by decide +kernel
theorem dL_law_399 : decode cL_law 399 = .ok (.laload, 1) := by decide +kernel
theorem dL_law_400 : decode cL_law 400 = .ok (.iload 6, 2) := by decide +kernel
theorem dL_law_402 : decode cL_law 402 = .ok (.i2l, 1) := by decide +kernel
theorem dL_law_403 : decode cL_law 403 = .ok (.lcmp, 1) := by decide +kernel
theorem dL_law_404 : decode cL_law 404 = .ok (.ifCond .eq 5, 3) := by decide +kernel
theorem dL_law_407 : decode cL_law 407 = .ok (.iconst 0, 1) := by decide +kernel
theorem dL_law_408 : decode cL_law 408 = .ok (.ireturn, 1) := by decide +kernel
theorem dL_law_409 : decode cL_law 409 = .ok (.goto 1202, 3) := by decide +kernel
theorem dL_law_412 : decode cL_law 412 = .ok (.aload_n 1, 1) := by decide +kernel
theorem dL_law_413 : decode cL_law 413 = .ok (.aload_n 0, 1) := by decide +kernel
theorem dL_law_414 : decode cL_law 414 = .ok (.iload 4, 2) := by decide +kernel
theorem dL_law_416 : decode cL_law 416 = .ok (.iconst 1, 1) := by decide +kernel
theorem dL_law_417 : decode cL_law 417 = .ok (.iadd, 1) := by decide +kernel
theorem dL_law_418 : decode cL_law 418 = .ok (.iaload, 1) := by decide +kernel
theorem dL_law_419 : decode cL_law 419 = .ok (.aload_n 0, 1) := by decide +kernel
theorem dL_law_420 : decode cL_law 420 = .ok (.iload 4, 2) := by decide +kernel
theorem dL_law_422 : decode cL_law 422 = .ok (.iconst 2, 1) := by decide +kernel
theorem dL_law_423 : decode cL_law 423 = .ok (.iadd, 1) := by decide +kernel
theorem dL_law_424 : decode cL_law 424 = .ok (.iaload, 1) := by decide +kernel
theorem dL_law_425 : decode cL_law 425 = .ok (.aload_n 0, 1) := by decide +kernel
theorem dL_law_426 : decode cL_law 426 = .ok (.iload 4, 2) := by decide +kernel
theorem dL_law_428 : decode cL_law 428 = .ok (.iconst 3, 1) := by decide +kernel
theorem dL_law_429 : decode cL_law 429 = .ok (.iadd, 1) := by decide +kernel
theorem dL_law_430 : decode cL_law 430 = .ok (.iaload, 1) := by decide +kernel
theorem dL_law_431 : decode cL_law 431 = .ok (.aload_n 3, 1) := by decide +kernel
theorem dL_law_432 : decode cL_law 432 = .ok (.invokestatic 103, 3) := by decide +kernel
theorem dL_law_435 : decode cL_law 435 = .ok (.istore 5, 2) := by decide +kernel
theorem dL_law_437 : decode cL_law 437 = .ok (.aload_n 2, 1) := by decide +kernel
theorem dL_law_438 : decode cL_law 438 = .ok (.aload_n 0, 1) := by decide +kernel
theorem dL_law_439 : decode cL_law 439 = .ok (.iload 4, 2) := by decide +kernel
theorem dL_law_441 : decode cL_law 441 = .ok (.iconst 1, 1) := by decide +kernel
theorem dL_law_442 : decode cL_law 442 = .ok (.iadd, 1) := by decide +kernel
theorem dL_law_443 : decode cL_law 443 = .ok (.iaload, 1) := by decide +kernel
theorem dL_law_444 : decode cL_law 444 = .ok (.aload_n 0, 1) := by decide +kernel
theorem dL_law_445 : decode cL_law 445 = .ok (.iload 4, 2) := by decide +kernel
theorem dL_law_447 : decode cL_law 447 = .ok (.iconst 2, 1) := by decide +kernel
theorem dL_law_448 : decode cL_law 448 = .ok (.iadd, 1) := by decide +kernel
theorem dL_law_449 : decode cL_law 449 = .ok (.iaload, 1) := by decide +kernel
theorem dL_law_450 : decode cL_law 450 = .ok (.aload_n 0, 1) := by decide +kernel
theorem dL_law_451 : decode cL_law 451 = .ok (.iload 4, 2) := by decide +kernel
theorem dL_law_453 : decode cL_law 453 = .ok (.iconst 3, 1) := by decide +kernel
theorem dL_law_454 : decode cL_law 454 = .ok (.iadd, 1) := by decide +kernel
theorem dL_law_455 : decode cL_law 455 = .ok (.iaload, 1) := by decide +kernel
theorem dL_law_456 : decode cL_law 456 = .ok (.invokevirtual 106, 3) := by decide +kernel
theorem dL_law_459 : decode cL_law 459 = .ok (.istore 6, 2) := by decide +kernel
theorem dL_law_461 : decode cL_law 461 = .ok (.aload_n 2, 1) := by decide +kernel
theorem dL_law_462 : decode cL_law 462 = .ok (.invokevirtual 92, 3) := by decide +kernel
theorem dL_law_465 : decode cL_law 465 = .ok (.iload 5, 2) := by decide +kernel
theorem dL_law_467 : decode cL_law 467 = .ok (.if_icmp .eq 5, 3) := by decide +kernel
theorem dL_law_470 : decode cL_law 470 = .ok (.iconst 0, 1) := by decide +kernel
theorem dL_law_471 : decode cL_law 471 = .ok (.ireturn, 1) := by decide +kernel
theorem dL_law_472 : decode cL_law 472 = .ok (.iload 5, 2) := by decide +kernel
theorem dL_law_474 : decode cL_law 474 = .ok (.ifCond .ne 15, 3) := by decide +kernel
theorem dL_law_477 : decode cL_law 477 = .ok (.aload_n 3, 1) := by decide +kernel
theorem dL_law_478 : decode cL_law 478 = .ok (.iconst 0, 1) := by decide +kernel
theorem dL_law_479 : decode cL_law 479 = .ok (.laload, 1) := by decide +kernel
theorem dL_law_480 : decode cL_law 480 = .ok (.iload 6, 2) := by decide +kernel
theorem dL_law_482 : decode cL_law 482 = .ok (.i2l, 1) := by decide +kernel
theorem dL_law_483 : decode cL_law 483 = .ok (.lcmp, 1) := by decide +kernel
theorem dL_law_484 : decode cL_law 484 = .ok (.ifCond .eq 5, 3) := by decide +kernel
theorem dL_law_487 : decode cL_law 487 = .ok (.iconst 0, 1) := by decide +kernel
theorem dL_law_488 : decode cL_law 488 = .ok (.ireturn, 1) := by decide +kernel
theorem dL_law_489 : decode cL_law 489 = .ok (.goto 1122, 3) := by decide +kernel
theorem dL_law_492 : decode cL_law 492 = .ok (.aload_n 1, 1) := by decide +kernel
theorem dL_law_493 : decode cL_law 493 = .ok (.aload_n 0, 1) := by decide +kernel
theorem dL_law_494 : decode cL_law 494 = .ok (.iload 4, 2) := by decide +kernel
theorem dL_law_496 : decode cL_law 496 = .ok (.iconst 1, 1) := by decide +kernel
theorem dL_law_497 : decode cL_law 497 = .ok (.iadd, 1) := by decide +kernel
theorem dL_law_498 : decode cL_law 498 = .ok (.iaload, 1) := by decide +kernel
theorem dL_law_499 : decode cL_law 499 = .ok (.aload_n 0, 1) := by decide +kernel
theorem dL_law_500 : decode cL_law 500 = .ok (.iload 4, 2) := by decide +kernel
theorem dL_law_502 : decode cL_law 502 = .ok (.iconst 2, 1) := by decide +kernel
theorem dL_law_503 : decode cL_law 503 = .ok (.iadd, 1) := by decide +kernel
theorem dL_law_504 : decode cL_law 504 = .ok (.iaload, 1) := by decide +kernel
theorem dL_law_505 : decode cL_law 505 = .ok (.aload_n 0, 1) := by decide +kernel
theorem dL_law_506 : decode cL_law 506 = .ok (.iload 4, 2) := by decide +kernel
theorem dL_law_508 : decode cL_law 508 = .ok (.iconst 3, 1) := by decide +kernel
theorem dL_law_509 : decode cL_law 509 = .ok (.iadd, 1) := by decide +kernel
theorem dL_law_510 : decode cL_law 510 = .ok (.iaload, 1) := by decide +kernel
theorem dL_law_511 : decode cL_law 511 = .ok (.aload_n 0, 1) := by decide +kernel
theorem dL_law_512 : decode cL_law 512 = .ok (.iload 4, 2) := by decide +kernel
theorem dL_law_514 : decode cL_law 514 = .ok (.iconst 4, 1) := by decide +kernel
theorem dL_law_515 : decode cL_law 515 = .ok (.iadd, 1) := by decide +kernel
theorem dL_law_516 : decode cL_law 516 = .ok (.iaload, 1) := by decide +kernel
theorem dL_law_517 : decode cL_law 517 = .ok (.aload_n 3, 1) := by decide +kernel
theorem dL_law_518 : decode cL_law 518 = .ok (.invokestatic 107, 3) := by decide +kernel
theorem dL_law_521 : decode cL_law 521 = .ok (.istore 5, 2) := by decide +kernel
theorem dL_law_523 : decode cL_law 523 = .ok (.aload_n 2, 1) := by decide +kernel
theorem dL_law_524 : decode cL_law 524 = .ok (.aload_n 0, 1) := by decide +kernel
theorem dL_law_525 : decode cL_law 525 = .ok (.iload 4, 2) := by decide +kernel
theorem dL_law_527 : decode cL_law 527 = .ok (.iconst 1, 1) := by decide +kernel
theorem dL_law_528 : decode cL_law 528 = .ok (.iadd, 1) := by decide +kernel
theorem dL_law_529 : decode cL_law 529 = .ok (.iaload, 1) := by decide +kernel
theorem dL_law_530 : decode cL_law 530 = .ok (.aload_n 0, 1) := by decide +kernel
theorem dL_law_531 : decode cL_law 531 = .ok (.iload 4, 2) := by decide +kernel
theorem dL_law_533 : decode cL_law 533 = .ok (.iconst 2, 1) := by decide +kernel
theorem dL_law_534 : decode cL_law 534 = .ok (.iadd, 1) := by decide +kernel
theorem dL_law_535 : decode cL_law 535 = .ok (.iaload, 1) := by decide +kernel
theorem dL_law_536 : decode cL_law 536 = .ok (.aload_n 0, 1) := by decide +kernel
theorem dL_law_537 : decode cL_law 537 = .ok (.iload 4, 2) := by decide +kernel
theorem dL_law_539 : decode cL_law 539 = .ok (.iconst 3, 1) := by decide +kernel
theorem dL_law_540 : decode cL_law 540 = .ok (.iadd, 1) := by decide +kernel
theorem dL_law_541 : decode cL_law 541 = .ok (.iaload, 1) := by decide +kernel
theorem dL_law_542 : decode cL_law 542 = .ok (.aload_n 0, 1) := by decide +kernel
theorem dL_law_543 : decode cL_law 543 = .ok (.iload 4, 2) := by decide +kernel
theorem dL_law_545 : decode cL_law 545 = .ok (.iconst 4, 1) := by decide +kernel
theorem dL_law_546 : decode cL_law 546 = .ok (.iadd, 1) := by decide +kernel
theorem dL_law_547 : decode cL_law 547 = .ok (.iaload, 1) := by decide +kernel
theorem dL_law_548 : decode cL_law 548 = .ok (.invokevirtual 109, 3) := by decide +kernel
theorem dL_law_551 : decode cL_law 551 = .ok (.istore 6, 2) := by decide +kernel
theorem dL_law_553 : decode cL_law 553 = .ok (.aload_n 2, 1) := by decide +kernel
theorem dL_law_554 : decode cL_law 554 = .ok (.invokevirtual 92, 3) := by decide +kernel
theorem dL_law_557 : decode cL_law 557 = .ok (.iload 5, 2) := by decide +kernel
theorem dL_law_559 : decode cL_law 559 = .ok (.if_icmp .eq 5, 3) := by decide +kernel
theorem dL_law_562 : decode cL_law 562 = .ok (.iconst 0, 1) := by decide +kernel
theorem dL_law_563 : decode cL_law 563 = .ok (.ireturn, 1) := by decide +kernel
theorem dL_law_564 : decode cL_law 564 = .ok (.iload 5, 2) := by decide +kernel
theorem dL_law_566 : decode cL_law 566 = .ok (.ifCond .ne 15, 3) := by decide +kernel
theorem dL_law_569 : decode cL_law 569 = .ok (.aload_n 3, 1) := by decide +kernel
theorem dL_law_570 : decode cL_law 570 = .ok (.iconst 0, 1) := by decide +kernel
theorem dL_law_571 : decode cL_law 571 = .ok (.laload, 1) := by decide +kernel
theorem dL_law_572 : decode cL_law 572 = .ok (.iload 6, 2) := by decide +kernel
theorem dL_law_574 : decode cL_law 574 = .ok (.i2l, 1) := by decide +kernel
theorem dL_law_575 : decode cL_law 575 = .ok (.lcmp, 1) := by decide +kernel
theorem dL_law_576 : decode cL_law 576 = .ok (.ifCond .eq 5, 3) := by decide +kernel
theorem dL_law_579 : decode cL_law 579 = .ok (.iconst 0, 1) := by decide +kernel
theorem dL_law_580 : decode cL_law 580 = .ok (.ireturn, 1) := by decide +kernel
theorem dL_law_581 : decode cL_law 581 = .ok (.goto 1030, 3) := by decide +kernel
theorem dL_law_584 : decode cL_law 584 = .ok (.aload_n 1, 1) := by decide +kernel
theorem dL_law_585 : decode cL_law 585 = .ok (.aload_n 0, 1) := by decide +kernel
theorem dL_law_586 : decode cL_law 586 = .ok (.iload 4, 2) := by decide +kernel
theorem dL_law_588 : decode cL_law 588 = .ok (.iconst 1, 1) := by decide +kernel
theorem dL_law_589 : decode cL_law 589 = .ok (.iadd, 1) := by decide +kernel
theorem dL_law_590 : decode cL_law 590 = .ok (.iaload, 1) := by decide +kernel
theorem dL_law_591 : decode cL_law 591 = .ok (.aload_n 0, 1) := by decide +kernel
theorem dL_law_592 : decode cL_law 592 = .ok (.iload 4, 2) := by decide +kernel
theorem dL_law_594 : decode cL_law 594 = .ok (.iconst 2, 1) := by decide +kernel
theorem dL_law_595 : decode cL_law 595 = .ok (.iadd, 1) := by decide +kernel
theorem dL_law_596 : decode cL_law 596 = .ok (.iaload, 1) := by decide +kernel
theorem dL_law_597 : decode cL_law 597 = .ok (.aload_n 3, 1) := by decide +kernel
theorem dL_law_598 : decode cL_law 598 = .ok (.invokestatic 110, 3) := by decide +kernel
theorem dL_law_601 : decode cL_law 601 = .ok (.istore 5, 2) := by decide +kernel
theorem dL_law_603 : decode cL_law 603 = .ok (.aload_n 2, 1) := by decide +kernel
theorem dL_law_604 : decode cL_law 604 = .ok (.aload_n 0, 1) := by decide +kernel
theorem dL_law_605 : decode cL_law 605 = .ok (.iload 4, 2) := by decide +kernel
theorem dL_law_607 : decode cL_law 607 = .ok (.iconst 1, 1) := by decide +kernel
theorem dL_law_608 : decode cL_law 608 = .ok (.iadd, 1) := by decide +kernel
theorem dL_law_609 : decode cL_law 609 = .ok (.iaload, 1) := by decide +kernel
theorem dL_law_610 : decode cL_law 610 = .ok (.aload_n 0, 1) := by decide +kernel
theorem dL_law_611 : decode cL_law 611 = .ok (.iload 4, 2) := by decide +kernel
theorem dL_law_613 : decode cL_law 613 = .ok (.iconst 2, 1) := by decide +kernel
theorem dL_law_614 : decode cL_law 614 = .ok (.iadd, 1) := by decide +kernel
theorem dL_law_615 : decode cL_law 615 = .ok (.iaload, 1) := by decide +kernel
theorem dL_law_616 : decode cL_law 616 = .ok (.invokevirtual 112, 3) := by decide +kernel
theorem dL_law_619 : decode cL_law 619 = .ok (.istore 6, 2) := by decide +kernel
theorem dL_law_621 : decode cL_law 621 = .ok (.aload_n 2, 1) := by decide +kernel
theorem dL_law_622 : decode cL_law 622 = .ok (.invokevirtual 92, 3) := by decide +kernel
theorem dL_law_625 : decode cL_law 625 = .ok (.iload 5, 2) := by decide +kernel
theorem dL_law_627 : decode cL_law 627 = .ok (.if_icmp .eq 5, 3) := by decide +kernel
theorem dL_law_630 : decode cL_law 630 = .ok (.iconst 0, 1) := by decide +kernel
theorem dL_law_631 : decode cL_law 631 = .ok (.ireturn, 1) := by decide +kernel
theorem dL_law_632 : decode cL_law 632 = .ok (.iload 5, 2) := by decide +kernel
theorem dL_law_634 : decode cL_law 634 = .ok (.ifCond .ne 15, 3) := by decide +kernel
theorem dL_law_637 : decode cL_law 637 = .ok (.aload_n 3, 1) := by decide +kernel
theorem dL_law_638 : decode cL_law 638 = .ok (.iconst 0, 1) := by decide +kernel
theorem dL_law_639 : decode cL_law 639 = .ok (.laload, 1) := by decide +kernel
theorem dL_law_640 : decode cL_law 640 = .ok (.iload 6, 2) := by decide +kernel
theorem dL_law_642 : decode cL_law 642 = .ok (.i2l, 1) := by decide +kernel
theorem dL_law_643 : decode cL_law 643 = .ok (.lcmp, 1) := by decide +kernel
theorem dL_law_644 : decode cL_law 644 = .ok (.ifCond .eq 5, 3) := by decide +kernel
theorem dL_law_647 : decode cL_law 647 = .ok (.iconst 0, 1) := by decide +kernel
theorem dL_law_648 : decode cL_law 648 = .ok (.ireturn, 1) := by decide +kernel
theorem dL_law_649 : decode cL_law 649 = .ok (.goto 962, 3) := by decide +kernel
theorem dL_law_652 : decode cL_law 652 = .ok (.aload_n 1, 1) := by decide +kernel
theorem dL_law_653 : decode cL_law 653 = .ok (.aload_n 0, 1) := by decide +kernel
theorem dL_law_654 : decode cL_law 654 = .ok (.iload 4, 2) := by decide +kernel
theorem dL_law_656 : decode cL_law 656 = .ok (.iconst 1, 1) := by decide +kernel
theorem dL_law_657 : decode cL_law 657 = .ok (.iadd, 1) := by decide +kernel
theorem dL_law_658 : decode cL_law 658 = .ok (.iaload, 1) := by decide +kernel
theorem dL_law_659 : decode cL_law 659 = .ok (.aload_n 0, 1) := by decide +kernel
theorem dL_law_660 : decode cL_law 660 = .ok (.iload 4, 2) := by decide +kernel
theorem dL_law_662 : decode cL_law 662 = .ok (.iconst 2, 1) := by decide +kernel
theorem dL_law_663 : decode cL_law 663 = .ok (.iadd, 1) := by decide +kernel
theorem dL_law_664 : decode cL_law 664 = .ok (.iaload, 1) := by decide +kernel
theorem dL_law_665 : decode cL_law 665 = .ok (.aload_n 3, 1) := by decide +kernel
theorem dL_law_666 : decode cL_law 666 = .ok (.invokestatic 113, 3) := by decide +kernel
theorem dL_law_669 : decode cL_law 669 = .ok (.istore 5, 2) := by decide +kernel
theorem dL_law_671 : decode cL_law 671 = .ok (.aload_n 2, 1) := by decide +kernel
theorem dL_law_672 : decode cL_law 672 = .ok (.aload_n 0, 1) := by decide +kernel
theorem dL_law_673 : decode cL_law 673 = .ok (.iload 4, 2) := by decide +kernel
theorem dL_law_675 : decode cL_law 675 = .ok (.iconst 1, 1) := by decide +kernel
theorem dL_law_676 : decode cL_law 676 = .ok (.iadd, 1) := by decide +kernel
theorem dL_law_677 : decode cL_law 677 = .ok (.iaload, 1) := by decide +kernel
theorem dL_law_678 : decode cL_law 678 = .ok (.aload_n 0, 1) := by decide +kernel
theorem dL_law_679 : decode cL_law 679 = .ok (.iload 4, 2) := by decide +kernel
theorem dL_law_681 : decode cL_law 681 = .ok (.iconst 2, 1) := by decide +kernel
theorem dL_law_682 : decode cL_law 682 = .ok (.iadd, 1) := by decide +kernel
theorem dL_law_683 : decode cL_law 683 = .ok (.iaload, 1) := by decide +kernel
theorem dL_law_684 : decode cL_law 684 = .ok (.invokevirtual 115, 3) := by decide +kernel
theorem dL_law_687 : decode cL_law 687 = .ok (.istore 6, 2) := by decide +kernel
theorem dL_law_689 : decode cL_law 689 = .ok (.aload_n 2, 1) := by decide +kernel
theorem dL_law_690 : decode cL_law 690 = .ok (.invokevirtual 92, 3) := by decide +kernel
theorem dL_law_693 : decode cL_law 693 = .ok (.iload 5, 2) := by decide +kernel
theorem dL_law_695 : decode cL_law 695 = .ok (.if_icmp .eq 5, 3) := by decide +kernel
theorem dL_law_698 : decode cL_law 698 = .ok (.iconst 0, 1) := by decide +kernel
theorem dL_law_699 : decode cL_law 699 = .ok (.ireturn, 1) := by decide +kernel
theorem dL_law_700 : decode cL_law 700 = .ok (.iload 5, 2) := by decide +kernel
theorem dL_law_702 : decode cL_law 702 = .ok (.ifCond .ne 15, 3) := by decide +kernel
theorem dL_law_705 : decode cL_law 705 = .ok (.aload_n 3, 1) := by decide +kernel
theorem dL_law_706 : decode cL_law 706 = .ok (.iconst 0, 1) := by decide +kernel
theorem dL_law_707 : decode cL_law 707 = .ok (.laload, 1) := by decide +kernel
theorem dL_law_708 : decode cL_law 708 = .ok (.iload 6, 2) := by decide +kernel
theorem dL_law_710 : decode cL_law 710 = .ok (.i2l, 1) := by decide +kernel
theorem dL_law_711 : decode cL_law 711 = .ok (.lcmp, 1) := by decide +kernel
theorem dL_law_712 : decode cL_law 712 = .ok (.ifCond .eq 5, 3) := by decide +kernel
theorem dL_law_715 : decode cL_law 715 = .ok (.iconst 0, 1) := by decide +kernel
theorem dL_law_716 : decode cL_law 716 = .ok (.ireturn, 1) := by decide +kernel
theorem dL_law_717 : decode cL_law 717 = .ok (.goto 894, 3) := by decide +kernel
theorem dL_law_720 : decode cL_law 720 = .ok (.aload_n 1, 1) := by decide +kernel
theorem dL_law_721 : decode cL_law 721 = .ok (.aload_n 0, 1) := by decide +kernel
theorem dL_law_722 : decode cL_law 722 = .ok (.iload 4, 2) := by decide +kernel
theorem dL_law_724 : decode cL_law 724 = .ok (.iconst 1, 1) := by decide +kernel
theorem dL_law_725 : decode cL_law 725 = .ok (.iadd, 1) := by decide +kernel
theorem dL_law_726 : decode cL_law 726 = .ok (.iaload, 1) := by decide +kernel
theorem dL_law_727 : decode cL_law 727 = .ok (.aload_n 3, 1) := by decide +kernel
theorem dL_law_728 : decode cL_law 728 = .ok (.invokestatic 116, 3) := by decide +kernel
theorem dL_law_731 : decode cL_law 731 = .ok (.istore 5, 2) := by decide +kernel
theorem dL_law_733 : decode cL_law 733 = .ok (.aload_n 2, 1) := by decide +kernel
theorem dL_law_734 : decode cL_law 734 = .ok (.aload_n 0, 1) := by decide +kernel
theorem dL_law_735 : decode cL_law 735 = .ok (.iload 4, 2) := by decide +kernel
theorem dL_law_737 : decode cL_law 737 = .ok (.iconst 1, 1) := by decide +kernel
theorem dL_law_738 : decode cL_law 738 = .ok (.iadd, 1) := by decide +kernel
theorem dL_law_739 : decode cL_law 739 = .ok (.iaload, 1) := by decide +kernel
theorem dL_law_740 : decode cL_law 740 = .ok (.invokevirtual 119, 3) := by decide +kernel
theorem dL_law_743 : decode cL_law 743 = .ok (.istore 6, 2) := by decide +kernel
theorem dL_law_745 : decode cL_law 745 = .ok (.aload_n 2, 1) := by decide +kernel
theorem dL_law_746 : decode cL_law 746 = .ok (.invokevirtual 92, 3) := by decide +kernel
theorem dL_law_749 : decode cL_law 749 = .ok (.iload 5, 2) := by decide +kernel
theorem dL_law_751 : decode cL_law 751 = .ok (.if_icmp .eq 5, 3) := by decide +kernel
theorem dL_law_754 : decode cL_law 754 = .ok (.iconst 0, 1) := by decide +kernel
theorem dL_law_755 : decode cL_law 755 = .ok (.ireturn, 1) := by decide +kernel
theorem dL_law_756 : decode cL_law 756 = .ok (.iload 5, 2) := by decide +kernel
theorem dL_law_758 : decode cL_law 758 = .ok (.ifCond .ne 15, 3) := by decide +kernel
theorem dL_law_761 : decode cL_law 761 = .ok (.aload_n 3, 1) := by decide +kernel
theorem dL_law_762 : decode cL_law 762 = .ok (.iconst 0, 1) := by decide +kernel
theorem dL_law_763 : decode cL_law 763 = .ok (.laload, 1) := by decide +kernel
theorem dL_law_764 : decode cL_law 764 = .ok (.iload 6, 2) := by decide +kernel
theorem dL_law_766 : decode cL_law 766 = .ok (.i2l, 1) := by decide +kernel
theorem dL_law_767 : decode cL_law 767 = .ok (.lcmp, 1) := by decide +kernel
theorem dL_law_768 : decode cL_law 768 = .ok (.ifCond .eq 5, 3) := by decide +kernel
theorem dL_law_771 : decode cL_law 771 = .ok (.iconst 0, 1) := by decide +kernel
theorem dL_law_772 : decode cL_law 772 = .ok (.ireturn, 1) := by decide +kernel
theorem dL_law_773 : decode cL_law 773 = .ok (.goto 838, 3) := by decide +kernel
theorem dL_law_776 : decode cL_law 776 = .ok (.aload_n 1, 1) := by decide +kernel
theorem dL_law_777 : decode cL_law 777 = .ok (.aload_n 0, 1) := by decide +kernel
theorem dL_law_778 : decode cL_law 778 = .ok (.iload 4, 2) := by decide +kernel
theorem dL_law_780 : decode cL_law 780 = .ok (.iconst 1, 1) := by decide +kernel
theorem dL_law_781 : decode cL_law 781 = .ok (.iadd, 1) := by decide +kernel
theorem dL_law_782 : decode cL_law 782 = .ok (.iaload, 1) := by decide +kernel
theorem dL_law_783 : decode cL_law 783 = .ok (.aload_n 3, 1) := by decide +kernel
theorem dL_law_784 : decode cL_law 784 = .ok (.invokestatic 120, 3) := by decide +kernel
theorem dL_law_787 : decode cL_law 787 = .ok (.istore 5, 2) := by decide +kernel
theorem dL_law_789 : decode cL_law 789 = .ok (.aload_n 2, 1) := by decide +kernel
theorem dL_law_790 : decode cL_law 790 = .ok (.aload_n 0, 1) := by decide +kernel
theorem dL_law_791 : decode cL_law 791 = .ok (.iload 4, 2) := by decide +kernel
theorem dL_law_793 : decode cL_law 793 = .ok (.iconst 1, 1) := by decide +kernel
theorem dL_law_794 : decode cL_law 794 = .ok (.iadd, 1) := by decide +kernel
theorem dL_law_795 : decode cL_law 795 = .ok (.iaload, 1) := by decide +kernel
theorem dL_law_796 : decode cL_law 796 = .ok (.invokevirtual 122, 3) := by decide +kernel
theorem dL_law_799 : decode cL_law 799 = .ok (.istore 6, 2) := by decide +kernel
theorem dL_law_801 : decode cL_law 801 = .ok (.aload_n 2, 1) := by decide +kernel
theorem dL_law_802 : decode cL_law 802 = .ok (.invokevirtual 92, 3) := by decide +kernel
theorem dL_law_805 : decode cL_law 805 = .ok (.iload 5, 2) := by decide +kernel
theorem dL_law_807 : decode cL_law 807 = .ok (.if_icmp .eq 5, 3) := by decide +kernel
theorem dL_law_810 : decode cL_law 810 = .ok (.iconst 0, 1) := by decide +kernel
theorem dL_law_811 : decode cL_law 811 = .ok (.ireturn, 1) := by decide +kernel
theorem dL_law_812 : decode cL_law 812 = .ok (.iload 5, 2) := by decide +kernel
theorem dL_law_814 : decode cL_law 814 = .ok (.ifCond .ne 15, 3) := by decide +kernel
theorem dL_law_817 : decode cL_law 817 = .ok (.aload_n 3, 1) := by decide +kernel
theorem dL_law_818 : decode cL_law 818 = .ok (.iconst 0, 1) := by decide +kernel
theorem dL_law_819 : decode cL_law 819 = .ok (.laload, 1) := by decide +kernel
theorem dL_law_820 : decode cL_law 820 = .ok (.iload 6, 2) := by decide +kernel
theorem dL_law_822 : decode cL_law 822 = .ok (.i2l, 1) := by decide +kernel
theorem dL_law_823 : decode cL_law 823 = .ok (.lcmp, 1) := by decide +kernel
theorem dL_law_824 : decode cL_law 824 = .ok (.ifCond .eq 5, 3) := by decide +kernel
theorem dL_law_827 : decode cL_law 827 = .ok (.iconst 0, 1) := by decide +kernel
theorem dL_law_828 : decode cL_law 828 = .ok (.ireturn, 1) := by decide +kernel
theorem dL_law_829 : decode cL_law 829 = .ok (.goto 782, 3) := by decide +kernel
theorem dL_law_832 : decode cL_law 832 = .ok (.aload_n 1, 1) := by decide +kernel
theorem dL_law_833 : decode cL_law 833 = .ok (.invokevirtual 123, 3) := by decide +kernel
theorem dL_law_836 : decode cL_law 836 = .ok (.aload_n 2, 1) := by decide +kernel
theorem dL_law_837 : decode cL_law 837 = .ok (.invokevirtual 126, 3) := by decide +kernel
theorem dL_law_840 : decode cL_law 840 = .ok (.if_icmp .eq 771, 3) := by decide +kernel
theorem dL_law_843 : decode cL_law 843 = .ok (.iconst 0, 1) := by decide +kernel
theorem dL_law_844 : decode cL_law 844 = .ok (.ireturn, 1) := by decide +kernel
theorem dL_law_845 : decode cL_law 845 = .ok (.aload_n 1, 1) := by decide +kernel
theorem dL_law_846 : decode cL_law 846 = .ok (.aload_n 3, 1) := by decide +kernel
theorem dL_law_847 : decode cL_law 847 = .ok (.invokestatic 127, 3) := by decide +kernel
theorem dL_law_850 : decode cL_law 850 = .ok (.istore 5, 2) := by decide +kernel
theorem dL_law_852 : decode cL_law 852 = .ok (.aload_n 2, 1) := by decide +kernel
theorem dL_law_853 : decode cL_law 853 = .ok (.invokevirtual 130, 3) := by decide +kernel
theorem dL_law_856 : decode cL_law 856 = .ok (.istore 6, 2) := by decide +kernel
theorem dL_law_858 : decode cL_law 858 = .ok (.aload_n 2, 1) := by decide +kernel
theorem dL_law_859 : decode cL_law 859 = .ok (.invokevirtual 92, 3) := by decide +kernel
theorem dL_law_862 : decode cL_law 862 = .ok (.iload 5, 2) := by decide +kernel
theorem dL_law_864 : decode cL_law 864 = .ok (.if_icmp .eq 5, 3) := by decide +kernel
theorem dL_law_867 : decode cL_law 867 = .ok (.iconst 0, 1) := by decide +kernel
theorem dL_law_868 : decode cL_law 868 = .ok (.ireturn, 1) := by decide +kernel
theorem dL_law_869 : decode cL_law 869 = .ok (.iload 5, 2) := by decide +kernel
theorem dL_law_871 : decode cL_law 871 = .ok (.ifCond .ne 15, 3) := by decide +kernel
theorem dL_law_874 : decode cL_law 874 = .ok (.aload_n 3, 1) := by decide +kernel
theorem dL_law_875 : decode cL_law 875 = .ok (.iconst 0, 1) := by decide +kernel
theorem dL_law_876 : decode cL_law 876 = .ok (.laload, 1) := by decide +kernel
theorem dL_law_877 : decode cL_law 877 = .ok (.iload 6, 2) := by decide +kernel
theorem dL_law_879 : decode cL_law 879 = .ok (.i2l, 1) := by decide +kernel
theorem dL_law_880 : decode cL_law 880 = .ok (.lcmp, 1) := by decide +kernel
theorem dL_law_881 : decode cL_law 881 = .ok (.ifCond .eq 5, 3) := by decide +kernel
theorem dL_law_884 : decode cL_law 884 = .ok (.iconst 0, 1) := by decide +kernel
theorem dL_law_885 : decode cL_law 885 = .ok (.ireturn, 1) := by decide +kernel
theorem dL_law_886 : decode cL_law 886 = .ok (.goto 725, 3) := by decide +kernel
theorem dL_law_889 : decode cL_law 889 = .ok (.aload_n 1, 1) := by decide +kernel
theorem dL_law_890 : decode cL_law 890 = .ok (.aload_n 0, 1) := by decide +kernel
theorem dL_law_891 : decode cL_law 891 = .ok (.iload 4, 2) := by decide +kernel
theorem dL_law_893 : decode cL_law 893 = .ok (.iconst 1, 1) := by decide +kernel
theorem dL_law_894 : decode cL_law 894 = .ok (.iadd, 1) := by decide +kernel
theorem dL_law_895 : decode cL_law 895 = .ok (.iaload, 1) := by decide +kernel
theorem dL_law_896 : decode cL_law 896 = .ok (.aload_n 0, 1) := by decide +kernel
theorem dL_law_897 : decode cL_law 897 = .ok (.iload 4, 2) := by decide +kernel
theorem dL_law_899 : decode cL_law 899 = .ok (.iconst 2, 1) := by decide +kernel
theorem dL_law_900 : decode cL_law 900 = .ok (.iadd, 1) := by decide +kernel
theorem dL_law_901 : decode cL_law 901 = .ok (.iaload, 1) := by decide +kernel
theorem dL_law_902 : decode cL_law 902 = .ok (.aload_n 3, 1) := by decide +kernel
theorem dL_law_903 : decode cL_law 903 = .ok (.invokestatic 131, 3) := by decide +kernel
theorem dL_law_906 : decode cL_law 906 = .ok (.istore 5, 2) := by decide +kernel
theorem dL_law_908 : decode cL_law 908 = .ok (.aload_n 2, 1) := by decide +kernel
theorem dL_law_909 : decode cL_law 909 = .ok (.aload_n 0, 1) := by decide +kernel
theorem dL_law_910 : decode cL_law 910 = .ok (.iload 4, 2) := by decide +kernel
theorem dL_law_912 : decode cL_law 912 = .ok (.iconst 1, 1) := by decide +kernel
theorem dL_law_913 : decode cL_law 913 = .ok (.iadd, 1) := by decide +kernel
theorem dL_law_914 : decode cL_law 914 = .ok (.iaload, 1) := by decide +kernel
theorem dL_law_915 : decode cL_law 915 = .ok (.aload_n 0, 1) := by decide +kernel
theorem dL_law_916 : decode cL_law 916 = .ok (.iload 4, 2) := by decide +kernel
theorem dL_law_918 : decode cL_law 918 = .ok (.iconst 2, 1) := by decide +kernel
theorem dL_law_919 : decode cL_law 919 = .ok (.iadd, 1) := by decide +kernel
theorem dL_law_920 : decode cL_law 920 = .ok (.iaload, 1) := by decide +kernel
theorem dL_law_921 : decode cL_law 921 = .ok (.invokevirtual 133, 3) := by decide +kernel
theorem dL_law_924 : decode cL_law 924 = .ok (.istore 6, 2) := by decide +kernel
theorem dL_law_926 : decode cL_law 926 = .ok (.aload_n 2, 1) := by decide +kernel
theorem dL_law_927 : decode cL_law 927 = .ok (.invokevirtual 92, 3) := by decide +kernel
theorem dL_law_930 : decode cL_law 930 = .ok (.iload 5, 2) := by decide +kernel
theorem dL_law_932 : decode cL_law 932 = .ok (.if_icmp .eq 5, 3) := by decide +kernel
theorem dL_law_935 : decode cL_law 935 = .ok (.iconst 0, 1) := by decide +kernel
theorem dL_law_936 : decode cL_law 936 = .ok (.ireturn, 1) := by decide +kernel
theorem dL_law_937 : decode cL_law 937 = .ok (.iload 5, 2) := by decide +kernel
theorem dL_law_939 : decode cL_law 939 = .ok (.ifCond .ne 15, 3) := by decide +kernel
theorem dL_law_942 : decode cL_law 942 = .ok (.aload_n 3, 1) := by decide +kernel
theorem dL_law_943 : decode cL_law 943 = .ok (.iconst 0, 1) := by decide +kernel
theorem dL_law_944 : decode cL_law 944 = .ok (.laload, 1) := by decide +kernel
theorem dL_law_945 : decode cL_law 945 = .ok (.iload 6, 2) := by decide +kernel
theorem dL_law_947 : decode cL_law 947 = .ok (.i2l, 1) := by decide +kernel
theorem dL_law_948 : decode cL_law 948 = .ok (.lcmp, 1) := by decide +kernel
theorem dL_law_949 : decode cL_law 949 = .ok (.ifCond .eq 5, 3) := by decide +kernel
theorem dL_law_952 : decode cL_law 952 = .ok (.iconst 0, 1) := by decide +kernel
theorem dL_law_953 : decode cL_law 953 = .ok (.ireturn, 1) := by decide +kernel
theorem dL_law_954 : decode cL_law 954 = .ok (.goto 657, 3) := by decide +kernel
theorem dL_law_957 : decode cL_law 957 = .ok (.aload_n 1, 1) := by decide +kernel
theorem dL_law_958 : decode cL_law 958 = .ok (.aload_n 0, 1) := by decide +kernel
theorem dL_law_959 : decode cL_law 959 = .ok (.iload 4, 2) := by decide +kernel
theorem dL_law_961 : decode cL_law 961 = .ok (.iconst 1, 1) := by decide +kernel
theorem dL_law_962 : decode cL_law 962 = .ok (.iadd, 1) := by decide +kernel
theorem dL_law_963 : decode cL_law 963 = .ok (.iaload, 1) := by decide +kernel
theorem dL_law_964 : decode cL_law 964 = .ok (.aload_n 3, 1) := by decide +kernel
theorem dL_law_965 : decode cL_law 965 = .ok (.invokestatic 134, 3) := by decide +kernel
theorem dL_law_968 : decode cL_law 968 = .ok (.istore 5, 2) := by decide +kernel
theorem dL_law_970 : decode cL_law 970 = .ok (.aload_n 2, 1) := by decide +kernel
theorem dL_law_971 : decode cL_law 971 = .ok (.aload_n 0, 1) := by decide +kernel
theorem dL_law_972 : decode cL_law 972 = .ok (.iload 4, 2) := by decide +kernel
theorem dL_law_974 : decode cL_law 974 = .ok (.iconst 1, 1) := by decide +kernel
theorem dL_law_975 : decode cL_law 975 = .ok (.iadd, 1) := by decide +kernel
theorem dL_law_976 : decode cL_law 976 = .ok (.iaload, 1) := by decide +kernel
theorem dL_law_977 : decode cL_law 977 = .ok (.invokevirtual 136, 3) := by decide +kernel
theorem dL_law_980 : decode cL_law 980 = .ok (.istore 6, 2) := by decide +kernel
theorem dL_law_982 : decode cL_law 982 = .ok (.aload_n 2, 1) := by decide +kernel
theorem dL_law_983 : decode cL_law 983 = .ok (.invokevirtual 92, 3) := by decide +kernel
theorem dL_law_986 : decode cL_law 986 = .ok (.iload 5, 2) := by decide +kernel
theorem dL_law_988 : decode cL_law 988 = .ok (.if_icmp .eq 5, 3) := by decide +kernel
theorem dL_law_991 : decode cL_law 991 = .ok (.iconst 0, 1) := by decide +kernel
theorem dL_law_992 : decode cL_law 992 = .ok (.ireturn, 1) := by decide +kernel
theorem dL_law_993 : decode cL_law 993 = .ok (.iload 5, 2) := by decide +kernel
theorem dL_law_995 : decode cL_law 995 = .ok (.ifCond .ne 15, 3) := by decide +kernel
theorem dL_law_998 : decode cL_law 998 = .ok (.aload_n 3, 1) := by decide +kernel
theorem dL_law_999 : decode cL_law 999 = .ok (.iconst 0, 1) := by decide +kernel
theorem dL_law_1000 : decode cL_law 1000 = .ok (.laload, 1) := by decide +kernel
theorem dL_law_1001 : decode cL_law 1001 = .ok (.iload 6, 2) := by decide +kernel
theorem dL_law_1003 : decode cL_law 1003 = .ok (.i2l, 1) := by decide +kernel
theorem dL_law_1004 : decode cL_law 1004 = .ok (.lcmp, 1) := by decide +kernel
theorem dL_law_1005 : decode cL_law 1005 = .ok (.ifCond .eq 5, 3) := by decide +kernel
theorem dL_law_1008 : decode cL_law 1008 = .ok (.iconst 0, 1) := by decide +kernel
theorem dL_law_1009 : decode cL_law 1009 = .ok (.ireturn, 1) := by decide +kernel
theorem dL_law_1010 : decode cL_law 1010 = .ok (.goto 601, 3) := by decide +kernel
theorem dL_law_1013 : decode cL_law 1013 = .ok (.aload_n 1, 1) := by decide +kernel
theorem dL_law_1014 : decode cL_law 1014 = .ok (.aload_n 0, 1) := by decide +kernel
theorem dL_law_1015 : decode cL_law 1015 = .ok (.iload 4, 2) := by decide +kernel
theorem dL_law_1017 : decode cL_law 1017 = .ok (.iconst 1, 1) := by decide +kernel
theorem dL_law_1018 : decode cL_law 1018 = .ok (.iadd, 1) := by decide +kernel
theorem dL_law_1019 : decode cL_law 1019 = .ok (.iaload, 1) := by decide +kernel
theorem dL_law_1020 : decode cL_law 1020 = .ok (.aload_n 0, 1) := by decide +kernel
theorem dL_law_1021 : decode cL_law 1021 = .ok (.iload 4, 2) := by decide +kernel
theorem dL_law_1023 : decode cL_law 1023 = .ok (.iconst 2, 1) := by decide +kernel
theorem dL_law_1024 : decode cL_law 1024 = .ok (.iadd, 1) := by decide +kernel
theorem dL_law_1025 : decode cL_law 1025 = .ok (.iaload, 1) := by decide +kernel
theorem dL_law_1026 : decode cL_law 1026 = .ok (.aload_n 3, 1) := by decide +kernel
theorem dL_law_1027 : decode cL_law 1027 = .ok (.invokestatic 137, 3) := by decide +kernel
theorem dL_law_1030 : decode cL_law 1030 = .ok (.istore 5, 2) := by decide +kernel
theorem dL_law_1032 : decode cL_law 1032 = .ok (.aload_n 2, 1) := by decide +kernel
theorem dL_law_1033 : decode cL_law 1033 = .ok (.aload_n 0, 1) := by decide +kernel
theorem dL_law_1034 : decode cL_law 1034 = .ok (.iload 4, 2) := by decide +kernel
theorem dL_law_1036 : decode cL_law 1036 = .ok (.iconst 1, 1) := by decide +kernel
theorem dL_law_1037 : decode cL_law 1037 = .ok (.iadd, 1) := by decide +kernel
theorem dL_law_1038 : decode cL_law 1038 = .ok (.iaload, 1) := by decide +kernel
theorem dL_law_1039 : decode cL_law 1039 = .ok (.aload_n 0, 1) := by decide +kernel
theorem dL_law_1040 : decode cL_law 1040 = .ok (.iload 4, 2) := by decide +kernel
theorem dL_law_1042 : decode cL_law 1042 = .ok (.iconst 2, 1) := by decide +kernel
theorem dL_law_1043 : decode cL_law 1043 = .ok (.iadd, 1) := by decide +kernel
theorem dL_law_1044 : decode cL_law 1044 = .ok (.iaload, 1) := by decide +kernel
theorem dL_law_1045 : decode cL_law 1045 = .ok (.invokevirtual 139, 3) := by decide +kernel
theorem dL_law_1048 : decode cL_law 1048 = .ok (.istore 6, 2) := by decide +kernel
theorem dL_law_1050 : decode cL_law 1050 = .ok (.aload_n 2, 1) := by decide +kernel
theorem dL_law_1051 : decode cL_law 1051 = .ok (.invokevirtual 92, 3) := by decide +kernel
theorem dL_law_1054 : decode cL_law 1054 = .ok (.iload 5, 2) := by decide +kernel
theorem dL_law_1056 : decode cL_law 1056 = .ok (.if_icmp .eq 5, 3) := by decide +kernel
theorem dL_law_1059 : decode cL_law 1059 = .ok (.iconst 0, 1) := by decide +kernel
theorem dL_law_1060 : decode cL_law 1060 = .ok (.ireturn, 1) := by decide +kernel
theorem dL_law_1061 : decode cL_law 1061 = .ok (.iload 5, 2) := by decide +kernel
theorem dL_law_1063 : decode cL_law 1063 = .ok (.ifCond .ne 15, 3) := by decide +kernel
theorem dL_law_1066 : decode cL_law 1066 = .ok (.aload_n 3, 1) := by decide +kernel
theorem dL_law_1067 : decode cL_law 1067 = .ok (.iconst 0, 1) := by decide +kernel
theorem dL_law_1068 : decode cL_law 1068 = .ok (.laload, 1) := by decide +kernel
theorem dL_law_1069 : decode cL_law 1069 = .ok (.iload 6, 2) := by decide +kernel
theorem dL_law_1071 : decode cL_law 1071 = .ok (.i2l, 1) := by decide +kernel
theorem dL_law_1072 : decode cL_law 1072 = .ok (.lcmp, 1) := by decide +kernel
theorem dL_law_1073 : decode cL_law 1073 = .ok (.ifCond .eq 5, 3) := by decide +kernel
theorem dL_law_1076 : decode cL_law 1076 = .ok (.iconst 0, 1) := by decide +kernel
theorem dL_law_1077 : decode cL_law 1077 = .ok (.ireturn, 1) := by decide +kernel
theorem dL_law_1078 : decode cL_law 1078 = .ok (.goto 533, 3) := by decide +kernel
theorem dL_law_1081 : decode cL_law 1081 = .ok (.aload_n 1, 1) := by decide +kernel
theorem dL_law_1082 : decode cL_law 1082 = .ok (.invokevirtual 140, 3) := by decide +kernel
theorem dL_law_1085 : decode cL_law 1085 = .ok (.aload_n 2, 1) := by decide +kernel
theorem dL_law_1086 : decode cL_law 1086 = .ok (.invokevirtual 143, 3) := by decide +kernel
theorem dL_law_1089 : decode cL_law 1089 = .ok (.if_icmp .eq 522, 3) := by decide +kernel
theorem dL_law_1092 : decode cL_law 1092 = .ok (.iconst 0, 1) := by decide +kernel
theorem dL_law_1093 : decode cL_law 1093 = .ok (.ireturn, 1) := by decide +kernel
theorem dL_law_1094 : decode cL_law 1094 = .ok (.aload_n 1, 1) := by decide +kernel
theorem dL_law_1095 : decode cL_law 1095 = .ok (.aload_n 0, 1) := by decide +kernel
theorem dL_law_1096 : decode cL_law 1096 = .ok (.iload 4, 2) := by decide +kernel
theorem dL_law_1098 : decode cL_law 1098 = .ok (.iconst 1, 1) := by decide +kernel
theorem dL_law_1099 : decode cL_law 1099 = .ok (.iadd, 1) := by decide +kernel
theorem dL_law_1100 : decode cL_law 1100 = .ok (.iaload, 1) := by decide +kernel
theorem dL_law_1101 : decode cL_law 1101 = .ok (.aload_n 0, 1) := by decide +kernel
theorem dL_law_1102 : decode cL_law 1102 = .ok (.iload 4, 2) := by decide +kernel
theorem dL_law_1104 : decode cL_law 1104 = .ok (.iconst 2, 1) := by decide +kernel
theorem dL_law_1105 : decode cL_law 1105 = .ok (.iadd, 1) := by decide +kernel
theorem dL_law_1106 : decode cL_law 1106 = .ok (.iaload, 1) := by decide +kernel
theorem dL_law_1107 : decode cL_law 1107 = .ok (.aload_n 3, 1) := by decide +kernel
theorem dL_law_1108 : decode cL_law 1108 = .ok (.invokestatic 144, 3) := by decide +kernel
theorem dL_law_1111 : decode cL_law 1111 = .ok (.istore 5, 2) := by decide +kernel
theorem dL_law_1113 : decode cL_law 1113 = .ok (.aload_n 2, 1) := by decide +kernel
theorem dL_law_1114 : decode cL_law 1114 = .ok (.aload_n 0, 1) := by decide +kernel
theorem dL_law_1115 : decode cL_law 1115 = .ok (.iload 4, 2) := by decide +kernel
theorem dL_law_1117 : decode cL_law 1117 = .ok (.iconst 1, 1) := by decide +kernel
theorem dL_law_1118 : decode cL_law 1118 = .ok (.iadd, 1) := by decide +kernel
theorem dL_law_1119 : decode cL_law 1119 = .ok (.iaload, 1) := by decide +kernel
theorem dL_law_1120 : decode cL_law 1120 = .ok (.aload_n 0, 1) := by decide +kernel
theorem dL_law_1121 : decode cL_law 1121 = .ok (.iload 4, 2) := by decide +kernel
theorem dL_law_1123 : decode cL_law 1123 = .ok (.iconst 2, 1) := by decide +kernel
theorem dL_law_1124 : decode cL_law 1124 = .ok (.iadd, 1) := by decide +kernel
theorem dL_law_1125 : decode cL_law 1125 = .ok (.iaload, 1) := by decide +kernel
theorem dL_law_1126 : decode cL_law 1126 = .ok (.invokevirtual 146, 3) := by decide +kernel
theorem dL_law_1129 : decode cL_law 1129 = .ok (.istore 6, 2) := by decide +kernel
theorem dL_law_1131 : decode cL_law 1131 = .ok (.aload_n 2, 1) := by decide +kernel
theorem dL_law_1132 : decode cL_law 1132 = .ok (.invokevirtual 92, 3) := by decide +kernel
theorem dL_law_1135 : decode cL_law 1135 = .ok (.iload 5, 2) := by decide +kernel
theorem dL_law_1137 : decode cL_law 1137 = .ok (.if_icmp .eq 5, 3) := by decide +kernel
theorem dL_law_1140 : decode cL_law 1140 = .ok (.iconst 0, 1) := by decide +kernel
theorem dL_law_1141 : decode cL_law 1141 = .ok (.ireturn, 1) := by decide +kernel
theorem dL_law_1142 : decode cL_law 1142 = .ok (.iload 5, 2) := by decide +kernel
theorem dL_law_1144 : decode cL_law 1144 = .ok (.ifCond .ne 15, 3) := by decide +kernel
theorem dL_law_1147 : decode cL_law 1147 = .ok (.aload_n 3, 1) := by decide +kernel
theorem dL_law_1148 : decode cL_law 1148 = .ok (.iconst 0, 1) := by decide +kernel
theorem dL_law_1149 : decode cL_law 1149 = .ok (.laload, 1) := by decide +kernel
theorem dL_law_1150 : decode cL_law 1150 = .ok (.iload 6, 2) := by decide +kernel
theorem dL_law_1152 : decode cL_law 1152 = .ok (.i2l, 1) := by decide +kernel
theorem dL_law_1153 : decode cL_law 1153 = .ok (.lcmp, 1) := by decide +kernel
theorem dL_law_1154 : decode cL_law 1154 = .ok (.ifCond .eq 5, 3) := by decide +kernel
theorem dL_law_1157 : decode cL_law 1157 = .ok (.iconst 0, 1) := by decide +kernel
theorem dL_law_1158 : decode cL_law 1158 = .ok (.ireturn, 1) := by decide +kernel
theorem dL_law_1159 : decode cL_law 1159 = .ok (.goto 452, 3) := by decide +kernel
theorem dL_law_1162 : decode cL_law 1162 = .ok (.aload_n 1, 1) := by decide +kernel
theorem dL_law_1163 : decode cL_law 1163 = .ok (.aload_n 0, 1) := by decide +kernel
theorem dL_law_1164 : decode cL_law 1164 = .ok (.iload 4, 2) := by decide +kernel
theorem dL_law_1166 : decode cL_law 1166 = .ok (.iconst 1, 1) := by decide +kernel
theorem dL_law_1167 : decode cL_law 1167 = .ok (.iadd, 1) := by decide +kernel
theorem dL_law_1168 : decode cL_law 1168 = .ok (.iaload, 1) := by decide +kernel
theorem dL_law_1169 : decode cL_law 1169 = .ok (.aload_n 0, 1) := by decide +kernel
theorem dL_law_1170 : decode cL_law 1170 = .ok (.iload 4, 2) := by decide +kernel
theorem dL_law_1172 : decode cL_law 1172 = .ok (.iconst 2, 1) := by decide +kernel
theorem dL_law_1173 : decode cL_law 1173 = .ok (.iadd, 1) := by decide +kernel
theorem dL_law_1174 : decode cL_law 1174 = .ok (.iaload, 1) := by decide +kernel
theorem dL_law_1175 : decode cL_law 1175 = .ok (.aload_n 0, 1) := by decide +kernel
theorem dL_law_1176 : decode cL_law 1176 = .ok (.iload 4, 2) := by decide +kernel
theorem dL_law_1178 : decode cL_law 1178 = .ok (.iconst 3, 1) := by decide +kernel
theorem dL_law_1179 : decode cL_law 1179 = .ok (.iadd, 1) := by decide +kernel
theorem dL_law_1180 : decode cL_law 1180 = .ok (.iaload, 1) := by decide +kernel
theorem dL_law_1181 : decode cL_law 1181 = .ok (.ifCond .eq 7, 3) := by decide +kernel
theorem dL_law_1184 : decode cL_law 1184 = .ok (.iconst 1, 1) := by decide +kernel
theorem dL_law_1185 : decode cL_law 1185 = .ok (.goto 4, 3) := by decide +kernel
theorem dL_law_1188 : decode cL_law 1188 = .ok (.iconst 0, 1) := by decide +kernel
theorem dL_law_1189 : decode cL_law 1189 = .ok (.aload_n 3, 1) := by decide +kernel
theorem dL_law_1190 : decode cL_law 1190 = .ok (.invokestatic 147, 3) := by decide +kernel
theorem dL_law_1193 : decode cL_law 1193 = .ok (.istore 5, 2) := by decide +kernel
theorem dL_law_1195 : decode cL_law 1195 = .ok (.aload_n 2, 1) := by decide +kernel
theorem dL_law_1196 : decode cL_law 1196 = .ok (.aload_n 0, 1) := by decide +kernel
theorem dL_law_1197 : decode cL_law 1197 = .ok (.iload 4, 2) := by decide +kernel
theorem dL_law_1199 : decode cL_law 1199 = .ok (.iconst 1, 1) := by decide +kernel
theorem dL_law_1200 : decode cL_law 1200 = .ok (.iadd, 1) := by decide +kernel
theorem dL_law_1201 : decode cL_law 1201 = .ok (.iaload, 1) := by decide +kernel
theorem dL_law_1202 : decode cL_law 1202 = .ok (.aload_n 0, 1) := by decide +kernel
theorem dL_law_1203 : decode cL_law 1203 = .ok (.iload 4, 2) := by decide +kernel
theorem dL_law_1205 : decode cL_law 1205 = .ok (.iconst 2, 1) := by decide +kernel
theorem dL_law_1206 : decode cL_law 1206 = .ok (.iadd, 1) := by decide +kernel
theorem dL_law_1207 : decode cL_law 1207 = .ok (.iaload, 1) := by decide +kernel
theorem dL_law_1208 : decode cL_law 1208 = .ok (.aload_n 0, 1) := by decide +kernel
theorem dL_law_1209 : decode cL_law 1209 = .ok (.iload 4, 2) := by decide +kernel
theorem dL_law_1211 : decode cL_law 1211 = .ok (.iconst 3, 1) := by decide +kernel
theorem dL_law_1212 : decode cL_law 1212 = .ok (.iadd, 1) := by decide +kernel
theorem dL_law_1213 : decode cL_law 1213 = .ok (.iaload, 1) := by decide +kernel
theorem dL_law_1214 : decode cL_law 1214 = .ok (.ifCond .eq 7, 3) := by decide +kernel
theorem dL_law_1217 : decode cL_law 1217 = .ok (.iconst 1, 1) := by decide +kernel
theorem dL_law_1218 : decode cL_law 1218 = .ok (.goto 4, 3) := by decide +kernel
theorem dL_law_1221 : decode cL_law 1221 = .ok (.iconst 0, 1) := by decide +kernel
theorem dL_law_1222 : decode cL_law 1222 = .ok (.invokevirtual 150, 3) := by decide +kernel
theorem dL_law_1225 : decode cL_law 1225 = .ok (.istore 6, 2) := by decide +kernel
theorem dL_law_1227 : decode cL_law 1227 = .ok (.aload_n 2, 1) := by decide +kernel
theorem dL_law_1228 : decode cL_law 1228 = .ok (.invokevirtual 92, 3) := by decide +kernel
theorem dL_law_1231 : decode cL_law 1231 = .ok (.iload 5, 2) := by decide +kernel
theorem dL_law_1233 : decode cL_law 1233 = .ok (.if_icmp .eq 5, 3) := by decide +kernel
theorem dL_law_1236 : decode cL_law 1236 = .ok (.iconst 0, 1) := by decide +kernel
theorem dL_law_1237 : decode cL_law 1237 = .ok (.ireturn, 1) := by decide +kernel
theorem dL_law_1238 : decode cL_law 1238 = .ok (.iload 5, 2) := by decide +kernel
theorem dL_law_1240 : decode cL_law 1240 = .ok (.ifCond .ne 15, 3) := by decide +kernel
theorem dL_law_1243 : decode cL_law 1243 = .ok (.aload_n 3, 1) := by decide +kernel
theorem dL_law_1244 : decode cL_law 1244 = .ok (.iconst 0, 1) := by decide +kernel
theorem dL_law_1245 : decode cL_law 1245 = .ok (.laload, 1) := by decide +kernel
theorem dL_law_1246 : decode cL_law 1246 = .ok (.iload 6, 2) := by decide +kernel
theorem dL_law_1248 : decode cL_law 1248 = .ok (.i2l, 1) := by decide +kernel
theorem dL_law_1249 : decode cL_law 1249 = .ok (.lcmp, 1) := by decide +kernel
theorem dL_law_1250 : decode cL_law 1250 = .ok (.ifCond .eq 5, 3) := by decide +kernel
theorem dL_law_1253 : decode cL_law 1253 = .ok (.iconst 0, 1) := by decide +kernel
theorem dL_law_1254 : decode cL_law 1254 = .ok (.ireturn, 1) := by decide +kernel
theorem dL_law_1255 : decode cL_law 1255 = .ok (.goto 356, 3) := by decide +kernel
theorem dL_law_1258 : decode cL_law 1258 = .ok (.aload_n 1, 1) := by decide +kernel
theorem dL_law_1259 : decode cL_law 1259 = .ok (.aload_n 0, 1) := by decide +kernel
theorem dL_law_1260 : decode cL_law 1260 = .ok (.iload 4, 2) := by decide +kernel
theorem dL_law_1262 : decode cL_law 1262 = .ok (.iconst 1, 1) := by decide +kernel
theorem dL_law_1263 : decode cL_law 1263 = .ok (.iadd, 1) := by decide +kernel
theorem dL_law_1264 : decode cL_law 1264 = .ok (.iaload, 1) := by decide +kernel
theorem dL_law_1265 : decode cL_law 1265 = .ok (.aload_n 0, 1) := by decide +kernel
theorem dL_law_1266 : decode cL_law 1266 = .ok (.iload 4, 2) := by decide +kernel
theorem dL_law_1268 : decode cL_law 1268 = .ok (.iconst 2, 1) := by decide +kernel
theorem dL_law_1269 : decode cL_law 1269 = .ok (.iadd, 1) := by decide +kernel
theorem dL_law_1270 : decode cL_law 1270 = .ok (.iaload, 1) := by decide +kernel
theorem dL_law_1271 : decode cL_law 1271 = .ok (.aload_n 3, 1) := by decide +kernel
theorem dL_law_1272 : decode cL_law 1272 = .ok (.invokestatic 151, 3) := by decide +kernel
theorem dL_law_1275 : decode cL_law 1275 = .ok (.istore 5, 2) := by decide +kernel
theorem dL_law_1277 : decode cL_law 1277 = .ok (.aload_n 2, 1) := by decide +kernel
theorem dL_law_1278 : decode cL_law 1278 = .ok (.aload_n 0, 1) := by decide +kernel
theorem dL_law_1279 : decode cL_law 1279 = .ok (.iload 4, 2) := by decide +kernel
theorem dL_law_1281 : decode cL_law 1281 = .ok (.iconst 1, 1) := by decide +kernel
theorem dL_law_1282 : decode cL_law 1282 = .ok (.iadd, 1) := by decide +kernel
theorem dL_law_1283 : decode cL_law 1283 = .ok (.iaload, 1) := by decide +kernel
theorem dL_law_1284 : decode cL_law 1284 = .ok (.aload_n 0, 1) := by decide +kernel
theorem dL_law_1285 : decode cL_law 1285 = .ok (.iload 4, 2) := by decide +kernel
theorem dL_law_1287 : decode cL_law 1287 = .ok (.iconst 2, 1) := by decide +kernel
theorem dL_law_1288 : decode cL_law 1288 = .ok (.iadd, 1) := by decide +kernel
theorem dL_law_1289 : decode cL_law 1289 = .ok (.iaload, 1) := by decide +kernel
theorem dL_law_1290 : decode cL_law 1290 = .ok (.invokevirtual 153, 3) := by decide +kernel
theorem dL_law_1293 : decode cL_law 1293 = .ok (.istore 6, 2) := by decide +kernel
theorem dL_law_1295 : decode cL_law 1295 = .ok (.aload_n 2, 1) := by decide +kernel
theorem dL_law_1296 : decode cL_law 1296 = .ok (.invokevirtual 92, 3) := by decide +kernel
theorem dL_law_1299 : decode cL_law 1299 = .ok (.iload 5, 2) := by decide +kernel
theorem dL_law_1301 : decode cL_law 1301 = .ok (.if_icmp .eq 5, 3) := by decide +kernel
theorem dL_law_1304 : decode cL_law 1304 = .ok (.iconst 0, 1) := by decide +kernel
theorem dL_law_1305 : decode cL_law 1305 = .ok (.ireturn, 1) := by decide +kernel
theorem dL_law_1306 : decode cL_law 1306 = .ok (.iload 5, 2) := by decide +kernel
theorem dL_law_1308 : decode cL_law 1308 = .ok (.ifCond .ne 15, 3) := by decide +kernel
theorem dL_law_1311 : decode cL_law 1311 = .ok (.aload_n 3, 1) := by decide +kernel
theorem dL_law_1312 : decode cL_law 1312 = .ok (.iconst 0, 1) := by decide +kernel
theorem dL_law_1313 : decode cL_law 1313 = .ok (.laload, 1) := by decide +kernel
theorem dL_law_1314 : decode cL_law 1314 = .ok (.iload 6, 2) := by decide +kernel
theorem dL_law_1316 : decode cL_law 1316 = .ok (.i2l, 1) := by decide +kernel
theorem dL_law_1317 : decode cL_law 1317 = .ok (.lcmp, 1) := by decide +kernel
theorem dL_law_1318 : decode cL_law 1318 = .ok (.ifCond .eq 5, 3) := by decide +kernel
theorem dL_law_1321 : decode cL_law 1321 = .ok (.iconst 0, 1) := by decide +kernel
theorem dL_law_1322 : decode cL_law 1322 = .ok (.ireturn, 1) := by decide +kernel
theorem dL_law_1323 : decode cL_law 1323 = .ok (.goto 288, 3) := by decide +kernel
theorem dL_law_1326 : decode cL_law 1326 = .ok (.aload_n 1, 1) := by decide +kernel
theorem dL_law_1327 : decode cL_law 1327 = .ok (.aload_n 0, 1) := by decide +kernel
theorem dL_law_1328 : decode cL_law 1328 = .ok (.iload 4, 2) := by decide +kernel
theorem dL_law_1330 : decode cL_law 1330 = .ok (.iconst 1, 1) := by decide +kernel
theorem dL_law_1331 : decode cL_law 1331 = .ok (.iadd, 1) := by decide +kernel
theorem dL_law_1332 : decode cL_law 1332 = .ok (.iaload, 1) := by decide +kernel
theorem dL_law_1333 : decode cL_law 1333 = .ok (.aload_n 0, 1) := by decide +kernel
theorem dL_law_1334 : decode cL_law 1334 = .ok (.iload 4, 2) := by decide +kernel
theorem dL_law_1336 : decode cL_law 1336 = .ok (.iconst 2, 1) := by decide +kernel
theorem dL_law_1337 : decode cL_law 1337 = .ok (.iadd, 1) := by decide +kernel
theorem dL_law_1338 : decode cL_law 1338 = .ok (.iaload, 1) := by decide +kernel
theorem dL_law_1339 : decode cL_law 1339 = .ok (.aload_n 0, 1) := by decide +kernel
theorem dL_law_1340 : decode cL_law 1340 = .ok (.iload 4, 2) := by decide +kernel
theorem dL_law_1342 : decode cL_law 1342 = .ok (.iconst 3, 1) := by decide +kernel
theorem dL_law_1343 : decode cL_law 1343 = .ok (.iadd, 1) := by decide +kernel
theorem dL_law_1344 : decode cL_law 1344 = .ok (.iaload, 1) := by decide +kernel
theorem dL_law_1345 : decode cL_law 1345 = .ok (.aload_n 3, 1) := by decide +kernel
theorem dL_law_1346 : decode cL_law 1346 = .ok (.invokestatic 154, 3) := by decide +kernel
theorem dL_law_1349 : decode cL_law 1349 = .ok (.istore 5, 2) := by decide +kernel
theorem dL_law_1351 : decode cL_law 1351 = .ok (.aload_n 2, 1) := by decide +kernel
theorem dL_law_1352 : decode cL_law 1352 = .ok (.aload_n 0, 1) := by decide +kernel
theorem dL_law_1353 : decode cL_law 1353 = .ok (.iload 4, 2) := by decide +kernel
theorem dL_law_1355 : decode cL_law 1355 = .ok (.iconst 1, 1) := by decide +kernel
theorem dL_law_1356 : decode cL_law 1356 = .ok (.iadd, 1) := by decide +kernel
theorem dL_law_1357 : decode cL_law 1357 = .ok (.iaload, 1) := by decide +kernel
theorem dL_law_1358 : decode cL_law 1358 = .ok (.aload_n 0, 1) := by decide +kernel
theorem dL_law_1359 : decode cL_law 1359 = .ok (.iload 4, 2) := by decide +kernel
theorem dL_law_1361 : decode cL_law 1361 = .ok (.iconst 2, 1) := by decide +kernel
theorem dL_law_1362 : decode cL_law 1362 = .ok (.iadd, 1) := by decide +kernel
theorem dL_law_1363 : decode cL_law 1363 = .ok (.iaload, 1) := by decide +kernel
theorem dL_law_1364 : decode cL_law 1364 = .ok (.aload_n 0, 1) := by decide +kernel
theorem dL_law_1365 : decode cL_law 1365 = .ok (.iload 4, 2) := by decide +kernel
theorem dL_law_1367 : decode cL_law 1367 = .ok (.iconst 3, 1) := by decide +kernel
theorem dL_law_1368 : decode cL_law 1368 = .ok (.iadd, 1) := by decide +kernel
theorem dL_law_1369 : decode cL_law 1369 = .ok (.iaload, 1) := by decide +kernel
theorem dL_law_1370 : decode cL_law 1370 = .ok (.invokevirtual 156, 3) := by decide +kernel
theorem dL_law_1373 : decode cL_law 1373 = .ok (.istore 6, 2) := by decide +kernel
theorem dL_law_1375 : decode cL_law 1375 = .ok (.aload_n 2, 1) := by decide +kernel
theorem dL_law_1376 : decode cL_law 1376 = .ok (.invokevirtual 92, 3) := by decide +kernel
theorem dL_law_1379 : decode cL_law 1379 = .ok (.iload 5, 2) := by decide +kernel
theorem dL_law_1381 : decode cL_law 1381 = .ok (.if_icmp .eq 5, 3) := by decide +kernel
theorem dL_law_1384 : decode cL_law 1384 = .ok (.iconst 0, 1) := by decide +kernel
theorem dL_law_1385 : decode cL_law 1385 = .ok (.ireturn, 1) := by decide +kernel
theorem dL_law_1386 : decode cL_law 1386 = .ok (.iload 5, 2) := by decide +kernel
theorem dL_law_1388 : decode cL_law 1388 = .ok (.ifCond .ne 15, 3) := by decide +kernel
theorem dL_law_1391 : decode cL_law 1391 = .ok (.aload_n 3, 1) := by decide +kernel
theorem dL_law_1392 : decode cL_law 1392 = .ok (.iconst 0, 1) := by decide +kernel
theorem dL_law_1393 : decode cL_law 1393 = .ok (.laload, 1) := by decide +kernel
theorem dL_law_1394 : decode cL_law 1394 = .ok (.iload 6, 2) := by decide +kernel
theorem dL_law_1396 : decode cL_law 1396 = .ok (.i2l, 1) := by decide +kernel
theorem dL_law_1397 : decode cL_law 1397 = .ok (.lcmp, 1) := by decide +kernel
theorem dL_law_1398 : decode cL_law 1398 = .ok (.ifCond .eq 5, 3) := by decide +kernel
theorem dL_law_1401 : decode cL_law 1401 = .ok (.iconst 0, 1) := by decide +kernel
theorem dL_law_1402 : decode cL_law 1402 = .ok (.ireturn, 1) := by decide +kernel
theorem dL_law_1403 : decode cL_law 1403 = .ok (.goto 208, 3) := by decide +kernel
theorem dL_law_1406 : decode cL_law 1406 = .ok (.aload_n 1, 1) := by decide +kernel
theorem dL_law_1407 : decode cL_law 1407 = .ok (.aload_n 0, 1) := by decide +kernel
theorem dL_law_1408 : decode cL_law 1408 = .ok (.iload 4, 2) := by decide +kernel
theorem dL_law_1410 : decode cL_law 1410 = .ok (.iconst 1, 1) := by decide +kernel
theorem dL_law_1411 : decode cL_law 1411 = .ok (.iadd, 1) := by decide +kernel
theorem dL_law_1412 : decode cL_law 1412 = .ok (.iaload, 1) := by decide +kernel
theorem dL_law_1413 : decode cL_law 1413 = .ok (.aload_n 0, 1) := by decide +kernel
theorem dL_law_1414 : decode cL_law 1414 = .ok (.iload 4, 2) := by decide +kernel
theorem dL_law_1416 : decode cL_law 1416 = .ok (.iconst 2, 1) := by decide +kernel
theorem dL_law_1417 : decode cL_law 1417 = .ok (.iadd, 1) := by decide +kernel
theorem dL_law_1418 : decode cL_law 1418 = .ok (.iaload, 1) := by decide +kernel
theorem dL_law_1419 : decode cL_law 1419 = .ok (.aload_n 3, 1) := by decide +kernel
theorem dL_law_1420 : decode cL_law 1420 = .ok (.invokestatic 157, 3) := by decide +kernel
theorem dL_law_1423 : decode cL_law 1423 = .ok (.istore 5, 2) := by decide +kernel
theorem dL_law_1425 : decode cL_law 1425 = .ok (.aload_n 2, 1) := by decide +kernel
theorem dL_law_1426 : decode cL_law 1426 = .ok (.aload_n 0, 1) := by decide +kernel
theorem dL_law_1427 : decode cL_law 1427 = .ok (.iload 4, 2) := by decide +kernel
theorem dL_law_1429 : decode cL_law 1429 = .ok (.iconst 1, 1) := by decide +kernel
theorem dL_law_1430 : decode cL_law 1430 = .ok (.iadd, 1) := by decide +kernel
theorem dL_law_1431 : decode cL_law 1431 = .ok (.iaload, 1) := by decide +kernel
theorem dL_law_1432 : decode cL_law 1432 = .ok (.aload_n 0, 1) := by decide +kernel
theorem dL_law_1433 : decode cL_law 1433 = .ok (.iload 4, 2) := by decide +kernel
theorem dL_law_1435 : decode cL_law 1435 = .ok (.iconst 2, 1) := by decide +kernel
theorem dL_law_1436 : decode cL_law 1436 = .ok (.iadd, 1) := by decide +kernel
theorem dL_law_1437 : decode cL_law 1437 = .ok (.iaload, 1) := by decide +kernel
theorem dL_law_1438 : decode cL_law 1438 = .ok (.invokevirtual 159, 3) := by decide +kernel
theorem dL_law_1441 : decode cL_law 1441 = .ok (.istore 6, 2) := by decide +kernel
theorem dL_law_1443 : decode cL_law 1443 = .ok (.aload_n 2, 1) := by decide +kernel
theorem dL_law_1444 : decode cL_law 1444 = .ok (.invokevirtual 92, 3) := by decide +kernel
theorem dL_law_1447 : decode cL_law 1447 = .ok (.iload 5, 2) := by decide +kernel
theorem dL_law_1449 : decode cL_law 1449 = .ok (.if_icmp .eq 5, 3) := by decide +kernel
theorem dL_law_1452 : decode cL_law 1452 = .ok (.iconst 0, 1) := by decide +kernel
theorem dL_law_1453 : decode cL_law 1453 = .ok (.ireturn, 1) := by decide +kernel
theorem dL_law_1454 : decode cL_law 1454 = .ok (.iload 5, 2) := by decide +kernel
theorem dL_law_1456 : decode cL_law 1456 = .ok (.ifCond .ne 15, 3) := by decide +kernel
theorem dL_law_1459 : decode cL_law 1459 = .ok (.aload_n 3, 1) := by decide +kernel
theorem dL_law_1460 : decode cL_law 1460 = .ok (.iconst 0, 1) := by decide +kernel
theorem dL_law_1461 : decode cL_law 1461 = .ok (.laload, 1) := by decide +kernel
theorem dL_law_1462 : decode cL_law 1462 = .ok (.iload 6, 2) := by decide +kernel
theorem dL_law_1464 : decode cL_law 1464 = .ok (.i2l, 1) := by decide +kernel
theorem dL_law_1465 : decode cL_law 1465 = .ok (.lcmp, 1) := by decide +kernel
theorem dL_law_1466 : decode cL_law 1466 = .ok (.ifCond .eq 5, 3) := by decide +kernel
theorem dL_law_1469 : decode cL_law 1469 = .ok (.iconst 0, 1) := by decide +kernel
theorem dL_law_1470 : decode cL_law 1470 = .ok (.ireturn, 1) := by decide +kernel
theorem dL_law_1471 : decode cL_law 1471 = .ok (.goto 140, 3) := by decide +kernel
theorem dL_law_1474 : decode cL_law 1474 = .ok (.aload_n 1, 1) := by decide +kernel
theorem dL_law_1475 : decode cL_law 1475 = .ok (.invokevirtual 160, 3) := by decide +kernel
theorem dL_law_1478 : decode cL_law 1478 = .ok (.aload_n 2, 1) := by decide +kernel
theorem dL_law_1479 : decode cL_law 1479 = .ok (.invokevirtual 163, 3) := by decide +kernel
theorem dL_law_1482 : decode cL_law 1482 = .ok (.if_icmp .eq 129, 3) := by decide +kernel
theorem dL_law_1485 : decode cL_law 1485 = .ok (.iconst 0, 1) := by decide +kernel
theorem dL_law_1486 : decode cL_law 1486 = .ok (.ireturn, 1) := by decide +kernel
theorem dL_law_1487 : decode cL_law 1487 = .ok (.aload_n 1, 1) := by decide +kernel
theorem dL_law_1488 : decode cL_law 1488 = .ok (.aload_n 0, 1) := by decide +kernel
theorem dL_law_1489 : decode cL_law 1489 = .ok (.iload 4, 2) := by decide +kernel
theorem dL_law_1491 : decode cL_law 1491 = .ok (.iconst 1, 1) := by decide +kernel
theorem dL_law_1492 : decode cL_law 1492 = .ok (.iadd, 1) := by decide +kernel
theorem dL_law_1493 : decode cL_law 1493 = .ok (.iaload, 1) := by decide +kernel
theorem dL_law_1494 : decode cL_law 1494 = .ok (.aload_n 0, 1) := by decide +kernel
theorem dL_law_1495 : decode cL_law 1495 = .ok (.iload 4, 2) := by decide +kernel
theorem dL_law_1497 : decode cL_law 1497 = .ok (.iconst 2, 1) := by decide +kernel
theorem dL_law_1498 : decode cL_law 1498 = .ok (.iadd, 1) := by decide +kernel
theorem dL_law_1499 : decode cL_law 1499 = .ok (.iaload, 1) := by decide +kernel
theorem dL_law_1500 : decode cL_law 1500 = .ok (.aload_n 3, 1) := by decide +kernel
theorem dL_law_1501 : decode cL_law 1501 = .ok (.invokestatic 164, 3) := by decide +kernel
theorem dL_law_1504 : decode cL_law 1504 = .ok (.istore 5, 2) := by decide +kernel
theorem dL_law_1506 : decode cL_law 1506 = .ok (.aload_n 2, 1) := by decide +kernel
theorem dL_law_1507 : decode cL_law 1507 = .ok (.aload_n 0, 1) := by decide +kernel
theorem dL_law_1508 : decode cL_law 1508 = .ok (.iload 4, 2) := by decide +kernel
theorem dL_law_1510 : decode cL_law 1510 = .ok (.iconst 1, 1) := by decide +kernel
theorem dL_law_1511 : decode cL_law 1511 = .ok (.iadd, 1) := by decide +kernel
theorem dL_law_1512 : decode cL_law 1512 = .ok (.iaload, 1) := by decide +kernel
theorem dL_law_1513 : decode cL_law 1513 = .ok (.aload_n 0, 1) := by decide +kernel
theorem dL_law_1514 : decode cL_law 1514 = .ok (.iload 4, 2) := by decide +kernel
theorem dL_law_1516 : decode cL_law 1516 = .ok (.iconst 2, 1) := by decide +kernel
theorem dL_law_1517 : decode cL_law 1517 = .ok (.iadd, 1) := by decide +kernel
theorem dL_law_1518 : decode cL_law 1518 = .ok (.iaload, 1) := by decide +kernel
theorem dL_law_1519 : decode cL_law 1519 = .ok (.invokevirtual 166, 3) := by decide +kernel
theorem dL_law_1522 : decode cL_law 1522 = .ok (.istore 6, 2) := by decide +kernel
theorem dL_law_1524 : decode cL_law 1524 = .ok (.aload_n 2, 1) := by decide +kernel
theorem dL_law_1525 : decode cL_law 1525 = .ok (.invokevirtual 92, 3) := by decide +kernel
theorem dL_law_1528 : decode cL_law 1528 = .ok (.iload 5, 2) := by decide +kernel
theorem dL_law_1530 : decode cL_law 1530 = .ok (.if_icmp .eq 5, 3) := by decide +kernel
theorem dL_law_1533 : decode cL_law 1533 = .ok (.iconst 0, 1) := by decide +kernel
theorem dL_law_1534 : decode cL_law 1534 = .ok (.ireturn, 1) := by decide +kernel
theorem dL_law_1535 : decode cL_law 1535 = .ok (.iload 5, 2) := by decide +kernel
theorem dL_law_1537 : decode cL_law 1537 = .ok (.ifCond .ne 15, 3) := by decide +kernel
theorem dL_law_1540 : decode cL_law 1540 = .ok (.aload_n 3, 1) := by decide +kernel
theorem dL_law_1541 : decode cL_law 1541 = .ok (.iconst 0, 1) := by decide +kernel
theorem dL_law_1542 : decode cL_law 1542 = .ok (.laload, 1) := by decide +kernel
theorem dL_law_1543 : decode cL_law 1543 = .ok (.iload 6, 2) := by decide +kernel
theorem dL_law_1545 : decode cL_law 1545 = .ok (.i2l, 1) := by decide +kernel
theorem dL_law_1546 : decode cL_law 1546 = .ok (.lcmp, 1) := by decide +kernel
theorem dL_law_1547 : decode cL_law 1547 = .ok (.ifCond .eq 5, 3) := by decide +kernel
theorem dL_law_1550 : decode cL_law 1550 = .ok (.iconst 0, 1) := by decide +kernel
theorem dL_law_1551 : decode cL_law 1551 = .ok (.ireturn, 1) := by decide +kernel
theorem dL_law_1552 : decode cL_law 1552 = .ok (.goto 59, 3) := by decide +kernel
theorem dL_law_1555 : decode cL_law 1555 = .ok (.aload_n 1, 1) := by decide +kernel
theorem dL_law_1556 : decode cL_law 1556 = .ok (.aload_n 0, 1) := by decide +kernel
theorem dL_law_1557 : decode cL_law 1557 = .ok (.iload 4, 2) := by decide +kernel
theorem dL_law_1559 : decode cL_law 1559 = .ok (.iconst 1, 1) := by decide +kernel
theorem dL_law_1560 : decode cL_law 1560 = .ok (.iadd, 1) := by decide +kernel
theorem dL_law_1561 : decode cL_law 1561 = .ok (.iaload, 1) := by decide +kernel
theorem dL_law_1562 : decode cL_law 1562 = .ok (.aload_n 3, 1) := by decide +kernel
theorem dL_law_1563 : decode cL_law 1563 = .ok (.invokestatic 167, 3) := by decide +kernel
theorem dL_law_1566 : decode cL_law 1566 = .ok (.istore 5, 2) := by decide +kernel
theorem dL_law_1568 : decode cL_law 1568 = .ok (.aload_n 2, 1) := by decide +kernel
theorem dL_law_1569 : decode cL_law 1569 = .ok (.aload_n 0, 1) := by decide +kernel
theorem dL_law_1570 : decode cL_law 1570 = .ok (.iload 4, 2) := by decide +kernel
theorem dL_law_1572 : decode cL_law 1572 = .ok (.iconst 1, 1) := by decide +kernel
theorem dL_law_1573 : decode cL_law 1573 = .ok (.iadd, 1) := by decide +kernel
theorem dL_law_1574 : decode cL_law 1574 = .ok (.iaload, 1) := by decide +kernel
theorem dL_law_1575 : decode cL_law 1575 = .ok (.invokevirtual 169, 3) := by decide +kernel
theorem dL_law_1578 : decode cL_law 1578 = .ok (.istore 6, 2) := by decide +kernel
theorem dL_law_1580 : decode cL_law 1580 = .ok (.aload_n 2, 1) := by decide +kernel
theorem dL_law_1581 : decode cL_law 1581 = .ok (.invokevirtual 92, 3) := by decide +kernel
theorem dL_law_1584 : decode cL_law 1584 = .ok (.iload 5, 2) := by decide +kernel
theorem dL_law_1586 : decode cL_law 1586 = .ok (.if_icmp .eq 5, 3) := by decide +kernel
theorem dL_law_1589 : decode cL_law 1589 = .ok (.iconst 0, 1) := by decide +kernel
theorem dL_law_1590 : decode cL_law 1590 = .ok (.ireturn, 1) := by decide +kernel
theorem dL_law_1591 : decode cL_law 1591 = .ok (.iload 5, 2) := by decide +kernel
theorem dL_law_1593 : decode cL_law 1593 = .ok (.ifCond .ne 15, 3) := by decide +kernel
theorem dL_law_1596 : decode cL_law 1596 = .ok (.aload_n 3, 1) := by decide +kernel
theorem dL_law_1597 : decode cL_law 1597 = .ok (.iconst 0, 1) := by decide +kernel
theorem dL_law_1598 : decode cL_law 1598 = .ok (.laload, 1) := by decide +kernel
theorem dL_law_1599 : decode cL_law 1599 = .ok (.iload 6, 2) := by decide +kernel
theorem dL_law_1601 : decode cL_law 1601 = .ok (.i2l, 1) := by decide +kernel
theorem dL_law_1602 : decode cL_law 1602 = .ok (.lcmp, 1) := by decide +kernel
theorem dL_law_1603 : decode cL_law 1603 = .ok (.ifCond .eq 5, 3) := by decide +kernel
theorem dL_law_1606 : decode cL_law 1606 = .ok (.iconst 0, 1) := by decide +kernel
theorem dL_law_1607 : decode cL_law 1607 = .ok (.ireturn, 1) := by decide +kernel
theorem dL_law_1608 : decode cL_law 1608 = .ok (.goto 3, 3) := by decide +kernel
theorem dL_law_1611 : decode cL_law 1611 = .ok (.iinc 4 6, 3) := by decide +kernel
theorem dL_law_1614 : decode cL_law 1614 = .ok (.goto (-1591), 3) := by decide +kernel
theorem dL_law_1617 : decode cL_law 1617 = .ok (.iconst 1, 1) := by decide +kernel
theorem dL_law_1618 : decode cL_law 1618 = .ok (.ireturn, 1) := by decide +kernel
