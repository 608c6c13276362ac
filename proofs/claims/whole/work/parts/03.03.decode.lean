theorem dX5_readRule_144 : decode cX5_readRule 144 = .ok (.aload_n 0, 1) := by decide +kernel
theorem dX5_readRule_145 : decode cX5_readRule 145 = .ok (.invokevirtual 113, 3) := by decide +kernel
theorem dX5_readRule_148 : decode cX5_readRule 148 = .ok (.ifCond .ne (-38), 3) := by decide +kernel
theorem dX5_readRule_151 : decode cX5_readRule 151 = .ok (.aload_n 0, 1) := by decide +kernel
theorem dX5_readRule_152 : decode cX5_readRule 152 = .ok (.getfield 23, 3) := by decide +kernel
theorem dX5_readRule_155 : decode cX5_readRule 155 = .ok (.bipush 38, 2) := by decide +kernel
theorem dX5_readRule_157 : decode cX5_readRule 157 = .ok (.dup2, 1) := by decide +kernel
theorem dX5_readRule_158 : decode cX5_readRule 158 = .ok (.iaload, 1) := by decide +kernel
theorem dX5_readRule_159 : decode cX5_readRule 159 = .ok (.iconst 1, 1) := by decide +kernel
theorem dX5_readRule_160 : decode cX5_readRule 160 = .ok (.iadd, 1) := by decide +kernel
theorem dX5_readRule_161 : decode cX5_readRule 161 = .ok (.iastore, 1) := by decide +kernel
theorem dX5_readRule_162 : decode cX5_readRule 162 = .ok (.return_, 1) := by decide +kernel
theorem dX5_readMore_0 : decode cX5_readMore 0 = .ok (.iload_n 1, 1) := by decide +kernel
theorem dX5_readMore_1 : decode cX5_readMore 1 = .ok (.iconst 1, 1) := by decide +kernel
theorem dX5_readMore_2 : decode cX5_readMore 2 = .ok (.if_icmp .ne 10, 3) := by decide +kernel
theorem dX5_readMore_5 : decode cX5_readMore 5 = .ok (.aload_n 0, 1) := by decide +kernel
theorem dX5_readMore_6 : decode cX5_readMore 6 = .ok (.invokevirtual 121, 3) := by decide +kernel
theorem dX5_readMore_9 : decode cX5_readMore 9 = .ok (.goto 179, 3) := by decide +kernel
theorem dX5_readMore_12 : decode cX5_readMore 12 = .ok (.iload_n 1, 1) := by decide +kernel
theorem dX5_readMore_13 : decode cX5_readMore 13 = .ok (.iconst 2, 1) := by decide +kernel
theorem dX5_readMore_14 : decode cX5_readMore 14 = .ok (.if_icmp .eq 8, 3) := by decide +kernel
theorem dX5_readMore_17 : decode cX5_readMore 17 = .ok (.iload_n 1, 1) := by decide +kernel
theorem dX5_readMore_18 : decode cX5_readMore 18 = .ok (.iconst 3, 1) := by decide +kernel
theorem dX5_readMore_19 : decode cX5_readMore 19 = .ok (.if_icmp .ne 52, 3) := by decide +kernel
theorem dX5_readMore_22 : decode cX5_readMore 22 = .ok (.aload_n 0, 1) := by decide +kernel
theorem dX5_readMore_23 : decode cX5_readMore 23 = .ok (.aload_n 0, 1) := by decide +kernel
theorem dX5_readMore_24 : decode cX5_readMore 24 = .ok (.getfield 124, 3) := by decide +kernel
theorem dX5_readMore_27 : decode cX5_readMore 27 = .ok (.invokevirtual 110, 3) := by decide +kernel
theorem dX5_readMore_30 : decode cX5_readMore 30 = .ok (.istore_n 2, 1) := by decide +kernel
theorem dX5_readMore_31 : decode cX5_readMore 31 = .ok (.aload_n 0, 1) := by decide +kernel
theorem dX5_readMore_32 : decode cX5_readMore 32 = .ok (.dup, 1) := by decide +kernel
theorem dX5_readMore_33 : decode cX5_readMore 33 = .ok (.getfield 124, 3) := by decide +kernel
theorem dX5_readMore_36 : decode cX5_readMore 36 = .ok (.iconst 1, 1) := by decide +kernel
theorem dX5_readMore_37 : decode cX5_readMore 37 = .ok (.iload_n 2, 1) := by decide +kernel
theorem dX5_readMore_38 : decode cX5_readMore 38 = .ok (.ishl, 1) := by decide +kernel
theorem dX5_readMore_39 : decode cX5_readMore 39 = .ok (.ior, 1) := by decide +kernel
theorem dX5_readMore_40 : decode cX5_readMore 40 = .ok (.putfield 124, 3) := by decide +kernel
theorem dX5_readMore_43 : decode cX5_readMore 43 = .ok (.aload_n 0, 1) := by decide +kernel
theorem dX5_readMore_44 : decode cX5_readMore 44 = .ok (.getfield 23, 3) := by decide +kernel
theorem dX5_readMore_47 : decode cX5_readMore 47 = .ok (.iload_n 2, 1) := by decide +kernel
theorem dX5_readMore_48 : decode cX5_readMore 48 = .ok (.aload_n 0, 1) := by decide +kernel
theorem dX5_readMore_49 : decode cX5_readMore 49 = .ok (.iconst 0, 1) := by decide +kernel
theorem dX5_readMore_50 : decode cX5_readMore 50 = .ok (.bipush 9, 2) := by decide +kernel
theorem dX5_readMore_52 : decode cX5_readMore 52 = .ok (.iconst 0, 1) := by decide +kernel
theorem dX5_readMore_53 : decode cX5_readMore 53 = .ok (.invokevirtual 97, 3) := by decide +kernel
theorem dX5_readMore_56 : decode cX5_readMore 56 = .ok (.iload_n 1, 1) := by decide +kernel
theorem dX5_readMore_57 : decode cX5_readMore 57 = .ok (.iconst 3, 1) := by decide +kernel
theorem dX5_readMore_58 : decode cX5_readMore 58 = .ok (.if_icmp .ne 7, 3) := by decide +kernel
theorem dX5_readMore_61 : decode cX5_readMore 61 = .ok (.iconst (-1), 1) := by decide +kernel
theorem dX5_readMore_62 : decode cX5_readMore 62 = .ok (.goto 4, 3) := by decide +kernel
theorem dX5_readMore_65 : decode cX5_readMore 65 = .ok (.iconst 1, 1) := by decide +kernel
theorem dX5_readMore_66 : decode cX5_readMore 66 = .ok (.imul, 1) := by decide +kernel
theorem dX5_readMore_67 : decode cX5_readMore 67 = .ok (.iastore, 1) := by decide +kernel
theorem dX5_readMore_68 : decode cX5_readMore 68 = .ok (.goto 120, 3) := by decide +kernel
theorem dX5_readMore_71 : decode cX5_readMore 71 = .ok (.iload_n 1, 1) := by decide +kernel
theorem dX5_readMore_72 : decode cX5_readMore 72 = .ok (.iconst 4, 1) := by decide +kernel
theorem dX5_readMore_73 : decode cX5_readMore 73 = .ok (.if_icmp .ne 29, 3) := by decide +kernel
theorem dX5_readMore_76 : decode cX5_readMore 76 = .ok (.aload_n 0, 1) := by decide +kernel
theorem dX5_readMore_77 : decode cX5_readMore 77 = .ok (.getfield 23, 3) := by decide +kernel
theorem dX5_readMore_80 : decode cX5_readMore 80 = .ok (.bipush 39, 2) := by decide +kernel
theorem dX5_readMore_82 : decode cX5_readMore 82 = .ok (.dup2, 1) := by decide +kernel
theorem dX5_readMore_83 : decode cX5_readMore 83 = .ok (.iaload, 1) := by decide +kernel
theorem dX5_readMore_84 : decode cX5_readMore 84 = .ok (.iconst 1, 1) := by decide +kernel
theorem dX5_readMore_85 : decode cX5_readMore 85 = .ok (.aload_n 0, 1) := by decide +kernel
theorem dX5_readMore_86 : decode cX5_readMore 86 = .ok (.aload_n 0, 1) := by decide +kernel
theorem dX5_readMore_87 : decode cX5_readMore 87 = .ok (.getfield 23, 3) := by decide +kernel
theorem dX5_readMore_90 : decode cX5_readMore 90 = .ok (.bipush 39, 2) := by decide +kernel
theorem dX5_readMore_92 : decode cX5_readMore 92 = .ok (.iaload, 1) := by decide +kernel
theorem dX5_readMore_93 : decode cX5_readMore 93 = .ok (.invokevirtual 107, 3) := by decide +kernel
theorem dX5_readMore_96 : decode cX5_readMore 96 = .ok (.ishl, 1) := by decide +kernel
theorem dX5_readMore_97 : decode cX5_readMore 97 = .ok (.ior, 1) := by decide +kernel
theorem dX5_readMore_98 : decode cX5_readMore 98 = .ok (.iastore, 1) := by decide +kernel
theorem dX5_readMore_99 : decode cX5_readMore 99 = .ok (.goto 89, 3) := by decide +kernel
theorem dX5_readMore_102 : decode cX5_readMore 102 = .ok (.iload_n 1, 1) := by decide +kernel
theorem dX5_readMore_103 : decode cX5_readMore 103 = .ok (.iconst 5, 1) := by decide +kernel
theorem dX5_readMore_104 : decode cX5_readMore 104 = .ok (.if_icmp .ne 29, 3) := by decide +kernel
theorem dX5_readMore_107 : decode cX5_readMore 107 = .ok (.aload_n 0, 1) := by decide +kernel
theorem dX5_readMore_108 : decode cX5_readMore 108 = .ok (.getfield 23, 3) := by decide +kernel
theorem dX5_readMore_111 : decode cX5_readMore 111 = .ok (.bipush 40, 2) := by decide +kernel
theorem dX5_readMore_113 : decode cX5_readMore 113 = .ok (.dup2, 1) := by decide +kernel
theorem dX5_readMore_114 : decode cX5_readMore 114 = .ok (.iaload, 1) := by decide +kernel
theorem dX5_readMore_115 : decode cX5_readMore 115 = .ok (.iconst 1, 1) := by decide +kernel
theorem dX5_readMore_116 : decode cX5_readMore 116 = .ok (.aload_n 0, 1) := by decide +kernel
theorem dX5_readMore_117 : decode cX5_readMore 117 = .ok (.aload_n 0, 1) := by decide +kernel
theorem dX5_readMore_118 : decode cX5_readMore 118 = .ok (.getfield 23, 3) := by decide +kernel
theorem dX5_readMore_121 : decode cX5_readMore 121 = .ok (.bipush 40, 2) := by decide +kernel
theorem dX5_readMore_123 : decode cX5_readMore 123 = .ok (.iaload, 1) := by decide +kernel
theorem dX5_readMore_124 : decode cX5_readMore 124 = .ok (.invokevirtual 110, 3) := by decide +kernel
theorem dX5_readMore_127 : decode cX5_readMore 127 = .ok (.ishl, 1) := by decide +kernel
theorem dX5_readMore_128 : decode cX5_readMore 128 = .ok (.ior, 1) := by decide +kernel
theorem dX5_readMore_129 : decode cX5_readMore 129 = .ok (.iastore, 1) := by decide +kernel
theorem dX5_readMore_130 : decode cX5_readMore 130 = .ok (.goto 58, 3) := by decide +kernel
theorem dX5_readMore_133 : decode cX5_readMore 133 = .ok (.iload_n 1, 1) := by decide +kernel
theorem dX5_readMore_134 : decode cX5_readMore 134 = .ok (.bipush 6, 2) := by decide +kernel
theorem dX5_readMore_136 : decode cX5_readMore 136 = .ok (.if_icmp .ne 29, 3) := by decide +kernel
theorem dX5_readMore_139 : decode cX5_readMore 139 = .ok (.aload_n 0, 1) := by decide +kernel
theorem dX5_readMore_140 : decode cX5_readMore 140 = .ok (.getfield 23, 3) := by decide +kernel
theorem dX5_readMore_143 : decode cX5_readMore 143 = .ok (.bipush 41, 2) := by decide +kernel
theorem dX5_readMore_145 : decode cX5_readMore 145 = .ok (.dup2, 1) := by decide +kernel
theorem dX5_readMore_146 : decode cX5_readMore 146 = .ok (.iaload, 1) := by decide +kernel
theorem dX5_readMore_147 : decode cX5_readMore 147 = .ok (.iconst 1, 1) := by decide +kernel
theorem dX5_readMore_148 : decode cX5_readMore 148 = .ok (.aload_n 0, 1) := by decide +kernel
theorem dX5_readMore_149 : decode cX5_readMore 149 = .ok (.aload_n 0, 1) := by decide +kernel
theorem dX5_readMore_150 : decode cX5_readMore 150 = .ok (.getfield 23, 3) := by decide +kernel
theorem dX5_readMore_153 : decode cX5_readMore 153 = .ok (.bipush 41, 2) := by decide +kernel
theorem dX5_readMore_155 : decode cX5_readMore 155 = .ok (.iaload, 1) := by decide +kernel
theorem dX5_readMore_156 : decode cX5_readMore 156 = .ok (.invokevirtual 110, 3) := by decide +kernel
theorem dX5_readMore_159 : decode cX5_readMore 159 = .ok (.ishl, 1) := by decide +kernel
theorem dX5_readMore_160 : decode cX5_readMore 160 = .ok (.ior, 1) := by decide +kernel
theorem dX5_readMore_161 : decode cX5_readMore 161 = .ok (.iastore, 1) := by decide +kernel
theorem dX5_readMore_162 : decode cX5_readMore 162 = .ok (.goto 26, 3) := by decide +kernel
theorem dX5_readMore_165 : decode cX5_readMore 165 = .ok (.aload_n 0, 1) := by decide +kernel
theorem dX5_readMore_166 : decode cX5_readMore 166 = .ok (.aload_n 0, 1) := by decide +kernel
theorem dX5_readMore_167 : decode cX5_readMore 167 = .ok (.iconst 1, 1) := by decide +kernel
theorem dX5_readMore_168 : decode cX5_readMore 168 = .ok (.bipush 6, 2) := by decide +kernel
theorem dX5_readMore_170 : decode cX5_readMore 170 = .ok (.iconst 0, 1) := by decide +kernel
theorem dX5_readMore_171 : decode cX5_readMore 171 = .ok (.invokevirtual 97, 3) := by decide +kernel
theorem dX5_readMore_174 : decode cX5_readMore 174 = .ok (.putfield 127, 3) := by decide +kernel
theorem dX5_readMore_177 : decode cX5_readMore 177 = .ok (.aload_n 0, 1) := by decide +kernel
theorem dX5_readMore_178 : decode cX5_readMore 178 = .ok (.aload_n 0, 1) := by decide +kernel
theorem dX5_readMore_179 : decode cX5_readMore 179 = .ok (.iconst 1, 1) := by decide +kernel
theorem dX5_readMore_180 : decode cX5_readMore 180 = .ok (.iconst 4, 1) := by decide +kernel
theorem dX5_readMore_181 : decode cX5_readMore 181 = .ok (.iconst 0, 1) := by decide +kernel
theorem dX5_readMore_182 : decode cX5_readMore 182 = .ok (.invokevirtual 97, 3) := by decide +kernel
theorem dX5_readMore_185 : decode cX5_readMore 185 = .ok (.putfield 130, 3) := by decide +kernel
theorem dX5_readMore_188 : decode cX5_readMore 188 = .ok (.return_, 1) := by decide +kernel
theorem dX5_readLine_0 : decode cX5_readLine 0 = .ok (.aload_n 0, 1) := by decide +kernel
theorem dX5_readLine_1 : decode cX5_readLine 1 = .ok (.invokevirtual 117, 3) := by decide +kernel
theorem dX5_readLine_4 : decode cX5_readLine 4 = .ok (.istore_n 1, 1) := by decide +kernel
theorem dX5_readLine_5 : decode cX5_readLine 5 = .ok (.iload_n 1, 1) := by decide +kernel
theorem dX5_readLine_6 : decode cX5_readLine 6 = .ok (.i2l, 1) := by decide +kernel
theorem dX5_readLine_7 : decode cX5_readLine 7 = .ok (.lconst 0, 1) := by decide +kernel
theorem dX5_readLine_8 : decode cX5_readLine 8 = .ok (.ldc2_w 133, 3) := by decide +kernel
theorem dX5_readLine_11 : decode cX5_readLine 11 = .ok (.invokestatic 53, 3) := by decide +kernel
theorem dX5_readLine_14 : decode cX5_readLine 14 = .ok (.ifCond .ne 9, 3) := by decide +kernel
theorem dX5_readLine_17 : decode cX5_readLine 17 = .ok (.aload_n 0, 1) := by decide +kernel
theorem dX5_readLine_18 : decode cX5_readLine 18 = .ok (.iconst 2, 1) := by decide +kernel
theorem dX5_readLine_19 : decode cX5_readLine 19 = .ok (.invokevirtual 90, 3) := by decide +kernel
theorem dX5_readLine_22 : decode cX5_readLine 22 = .ok (.return_, 1) := by decide +kernel
theorem dX5_readLine_23 : decode cX5_readLine 23 = .ok (.iload_n 1, 1) := by decide +kernel
theorem dX5_readLine_24 : decode cX5_readLine 24 = .ok (.iconst 1, 1) := by decide +kernel
theorem dX5_readLine_25 : decode cX5_readLine 25 = .ok (.if_icmp .ne 20, 3) := by decide +kernel
theorem dX5_readLine_28 : decode cX5_readLine 28 = .ok (.aload_n 0, 1) := by decide +kernel
theorem dX5_readLine_29 : decode cX5_readLine 29 = .ok (.getfield 23, 3) := by decide +kernel
theorem dX5_readLine_32 : decode cX5_readLine 32 = .ok (.bipush 38, 2) := by decide +kernel
theorem dX5_readLine_34 : decode cX5_readLine 34 = .ok (.iaload, 1) := by decide +kernel
theorem dX5_readLine_35 : decode cX5_readLine 35 = .ok (.bipush 8, 2) := by decide +kernel
theorem dX5_readLine_37 : decode cX5_readLine 37 = .ok (.if_icmp .ne 8, 3) := by decide +kernel
theorem dX5_readLine_40 : decode cX5_readLine 40 = .ok (.aload_n 0, 1) := by decide +kernel
theorem dX5_readLine_41 : decode cX5_readLine 41 = .ok (.iconst 5, 1) := by decide +kernel
theorem dX5_readLine_42 : decode cX5_readLine 42 = .ok (.invokevirtual 90, 3) := by decide +kernel
theorem dX5_readLine_45 : decode cX5_readLine 45 = .ok (.iload_n 1, 1) := by decide +kernel
theorem dX5_readLine_46 : decode cX5_readLine 46 = .ok (.ifCond .ne 15, 3) := by decide +kernel
theorem dX5_readLine_49 : decode cX5_readLine 49 = .ok (.aload_n 0, 1) := by decide +kernel
theorem dX5_readLine_50 : decode cX5_readLine 50 = .ok (.getfield 135, 3) := by decide +kernel
theorem dX5_readLine_53 : decode cX5_readLine 53 = .ok (.ifCond .le 8, 3) := by decide +kernel
theorem dX5_readLine_56 : decode cX5_readLine 56 = .ok (.aload_n 0, 1) := by decide +kernel
theorem dX5_readLine_57 : decode cX5_readLine 57 = .ok (.iconst 4, 1) := by decide +kernel
theorem dX5_readLine_58 : decode cX5_readLine 58 = .ok (.invokevirtual 90, 3) := by decide +kernel
theorem dX5_readLine_61 : decode cX5_readLine 61 = .ok (.aload_n 0, 1) := by decide +kernel
theorem dX5_readLine_62 : decode cX5_readLine 62 = .ok (.dup, 1) := by decide +kernel
theorem dX5_readLine_63 : decode cX5_readLine 63 = .ok (.getfield 135, 3) := by decide +kernel
theorem dX5_readLine_66 : decode cX5_readLine 66 = .ok (.iload_n 1, 1) := by decide +kernel
theorem dX5_readLine_67 : decode cX5_readLine 67 = .ok (.ifCond .ne 7, 3) := by decide +kernel
theorem dX5_readLine_70 : decode cX5_readLine 70 = .ok (.iconst 1, 1) := by decide +kernel
theorem dX5_readLine_71 : decode cX5_readLine 71 = .ok (.goto 4, 3) := by decide +kernel
theorem dX5_readLine_74 : decode cX5_readLine 74 = .ok (.iconst 0, 1) := by decide +kernel
theorem dX5_readLine_75 : decode cX5_readLine 75 = .ok (.iadd, 1) := by decide +kernel
theorem dX5_readLine_76 : decode cX5_readLine 76 = .ok (.putfield 135, 3) := by decide +kernel
theorem dX5_readLine_79 : decode cX5_readLine 79 = .ok (.aload_n 0, 1) := by decide +kernel
theorem dX5_readLine_80 : decode cX5_readLine 80 = .ok (.invokevirtual 94, 3) := by decide +kernel
theorem dX5_readLine_83 : decode cX5_readLine 83 = .ok (.aload_n 0, 1) := by decide +kernel
theorem dX5_readLine_84 : decode cX5_readLine 84 = .ok (.getfield 60, 3) := by decide +kernel
theorem dX5_readLine_87 : decode cX5_readLine 87 = .ok (.ifCond .le 4, 3) := by decide +kernel
theorem dX5_readLine_90 : decode cX5_readLine 90 = .ok (.return_, 1) := by decide +kernel
theorem dX5_readLine_91 : decode cX5_readLine 91 = .ok (.aload_n 0, 1) := by decide +kernel
theorem dX5_readLine_92 : decode cX5_readLine 92 = .ok (.iload_n 1, 1) := by decide +kernel
theorem dX5_readLine_93 : decode cX5_readLine 93 = .ok (.invokevirtual 138, 3) := by decide +kernel
theorem dX5_readLine_96 : decode cX5_readLine 96 = .ok (.aload_n 0, 1) := by decide +kernel
theorem dX5_readLine_97 : decode cX5_readLine 97 = .ok (.getfield 60, 3) := by decide +kernel
theorem dX5_readLine_100 : decode cX5_readLine 100 = .ok (.ifCond .ne 16, 3) := by decide +kernel
theorem dX5_readLine_103 : decode cX5_readLine 103 = .ok (.aload_n 0, 1) := by decide +kernel
theorem dX5_readLine_104 : decode cX5_readLine 104 = .ok (.getfield 69, 3) := by decide +kernel
theorem dX5_readLine_107 : decode cX5_readLine 107 = .ok (.iconst 3, 1) := by decide +kernel
theorem dX5_readLine_108 : decode cX5_readLine 108 = .ok (.if_icmp .eq 8, 3) := by decide +kernel
theorem dX5_readLine_111 : decode cX5_readLine 111 = .ok (.aload_n 0, 1) := by decide +kernel
theorem dX5_readLine_112 : decode cX5_readLine 112 = .ok (.iconst 2, 1) := by decide +kernel
theorem dX5_readLine_113 : decode cX5_readLine 113 = .ok (.invokevirtual 90, 3) := by decide +kernel
theorem dX5_readLine_116 : decode cX5_readLine 116 = .ok (.aload_n 0, 1) := by decide +kernel
theorem dX5_readLine_117 : decode cX5_readLine 117 = .ok (.invokevirtual 94, 3) := by decide +kernel
theorem dX5_readLine_120 : decode cX5_readLine 120 = .ok (.return_, 1) := by decide +kernel
theorem dX5_text_0 : decode cX5_text 0 = .ok (.aload_n 0, 1) := by decide +kernel
theorem dX5_text_1 : decode cX5_text 1 = .ok (.iconst 0, 1) := by decide +kernel
theorem dX5_text_2 : decode cX5_text 2 = .ok (.putfield 60, 3) := by decide +kernel
theorem dX5_text_5 : decode cX5_text 5 = .ok (.aload_n 0, 1) := by decide +kernel
theorem dX5_text_6 : decode cX5_text 6 = .ok (.iconst 0, 1) := by decide +kernel
theorem dX5_text_7 : decode cX5_text 7 = .ok (.putfield 72, 3) := by decide +kernel
theorem dX5_text_10 : decode cX5_text 10 = .ok (.aload_n 0, 1) := by decide +kernel
theorem dX5_text_11 : decode cX5_text 11 = .ok (.iconst 3, 1) := by decide +kernel
theorem dX5_text_12 : decode cX5_text 12 = .ok (.putfield 127, 3) := by decide +kernel
theorem dX5_text_15 : decode cX5_text 15 = .ok (.aload_n 0, 1) := by decide +kernel
theorem dX5_text_16 : decode cX5_text 16 = .ok (.iconst 2, 1) := by decide +kernel
theorem dX5_text_17 : decode cX5_text 17 = .ok (.putfield 130, 3) := by decide +kernel
theorem dX5_text_20 : decode cX5_text 20 = .ok (.aload_n 0, 1) := by decide +kernel
theorem dX5_text_21 : decode cX5_text 21 = .ok (.iconst 0, 1) := by decide +kernel
theorem dX5_text_22 : decode cX5_text 22 = .ok (.putfield 135, 3) := by decide +kernel
theorem dX5_text_25 : decode cX5_text 25 = .ok (.aload_n 0, 1) := by decide +kernel
theorem dX5_text_26 : decode cX5_text 26 = .ok (.iconst 0, 1) := by decide +kernel
theorem dX5_text_27 : decode cX5_text 27 = .ok (.putfield 124, 3) := by decide +kernel
theorem dX5_text_30 : decode cX5_text 30 = .ok (.aload_n 0, 1) := by decide +kernel
theorem dX5_text_31 : decode cX5_text 31 = .ok (.iconst (-1), 1) := by decide +kernel
theorem dX5_text_32 : decode cX5_text 32 = .ok (.putfield 101, 3) := by decide +kernel
theorem dX5_text_35 : decode cX5_text 35 = .ok (.aload_n 0, 1) := by decide +kernel
theorem dX5_text_36 : decode cX5_text 36 = .ok (.iconst (-1), 1) := by decide +kernel
theorem dX5_text_37 : decode cX5_text 37 = .ok (.putfield 104, 3) := by decide +kernel
theorem dX5_text_40 : decode cX5_text 40 = .ok (.iconst 0, 1) := by decide +kernel
theorem dX5_text_41 : decode cX5_text 41 = .ok (.istore_n 1, 1) := by decide +kernel
theorem dX5_text_42 : decode cX5_text 42 = .ok (.iconst 0, 1) := by decide +kernel
theorem dX5_text_43 : decode cX5_text 43 = .ok (.istore_n 2, 1) := by decide +kernel
theorem dX5_text_44 : decode cX5_text 44 = .ok (.iload_n 2, 1) := by decide +kernel
theorem dX5_text_45 : decode cX5_text 45 = .ok (.bipush 43, 2) := by decide +kernel
theorem dX5_text_47 : decode cX5_text 47 = .ok (.if_icmp .ge 16, 3) := by decide +kernel
theorem dX5_text_50 : decode cX5_text 50 = .ok (.aload_n 0, 1) := by decide +kernel
theorem dX5_text_51 : decode cX5_text 51 = .ok (.getfield 23, 3) := by decide +kernel
theorem dX5_text_54 : decode cX5_text 54 = .ok (.iload_n 2, 1) := by decide +kernel
theorem dX5_text_55 : decode cX5_text 55 = .ok (.iconst 0, 1) := by decide +kernel
theorem dX5_text_56 : decode cX5_text 56 = .ok (.iastore, 1) := by decide +kernel
theorem dX5_text_57 : decode cX5_text 57 = .ok (.iinc 2 1, 3) := by decide +kernel
theorem dX5_text_60 : decode cX5_text 60 = .ok (.goto (-16), 3) := by decide +kernel
theorem dX5_text_63 : decode cX5_text 63 = .ok (.aload_n 0, 1) := by decide +kernel
theorem dX5_text_64 : decode cX5_text 64 = .ok (.invokevirtual 94, 3) := by decide +kernel
theorem dX5_text_67 : decode cX5_text 67 = .ok (.aload_n 0, 1) := by decide +kernel
theorem dX5_text_68 : decode cX5_text 68 = .ok (.getfield 60, 3) := by decide +kernel
theorem dX5_text_71 : decode cX5_text 71 = .ok (.ifCond .ne 20, 3) := by decide +kernel
theorem dX5_text_74 : decode cX5_text 74 = .ok (.aload_n 0, 1) := by decide +kernel
theorem dX5_text_75 : decode cX5_text 75 = .ok (.getfield 69, 3) := by decide +kernel
theorem dX5_text_78 : decode cX5_text 78 = .ok (.ifCond .eq 13, 3) := by decide +kernel
theorem dX5_text_81 : decode cX5_text 81 = .ok (.aload_n 0, 1) := by decide +kernel
theorem dX5_text_82 : decode cX5_text 82 = .ok (.invokevirtual 141, 3) := by decide +kernel
theorem dX5_text_85 : decode cX5_text 85 = .ok (.iinc 1 1, 3) := by decide +kernel
theorem dX5_text_88 : decode cX5_text 88 = .ok (.goto (-21), 3) := by decide +kernel
theorem dX5_text_91 : decode cX5_text 91 = .ok (.aload_n 0, 1) := by decide +kernel
theorem dX5_text_92 : decode cX5_text 92 = .ok (.getfield 60, 3) := by decide +kernel
theorem dX5_text_95 : decode cX5_text 95 = .ok (.ifCond .ne 20, 3) := by decide +kernel
theorem dX5_text_98 : decode cX5_text 98 = .ok (.aload_n 0, 1) := by decide +kernel
theorem dX5_text_99 : decode cX5_text 99 = .ok (.getfield 101, 3) := by decide +kernel
theorem dX5_text_102 : decode cX5_text 102 = .ok (.aload_n 0, 1) := by decide +kernel
theorem dX5_text_103 : decode cX5_text 103 = .ok (.getfield 127, 3) := by decide +kernel
theorem dX5_text_106 : decode cX5_text 106 = .ok (.if_icmp .lt 9, 3) := by decide +kernel
theorem dX5_text_109 : decode cX5_text 109 = .ok (.aload_n 0, 1) := by decide +kernel
theorem dX5_text_110 : decode cX5_text 110 = .ok (.bipush 6, 2) := by decide +kernel
theorem dX5_text_112 : decode cX5_text 112 = .ok (.invokevirtual 90, 3) := by decide +kernel
theorem dX5_text_115 : decode cX5_text 115 = .ok (.aload_n 0, 1) := by decide +kernel
theorem dX5_text_116 : decode cX5_text 116 = .ok (.getfield 60, 3) := by decide +kernel
theorem dX5_text_119 : decode cX5_text 119 = .ok (.ifCond .ne 20, 3) := by decide +kernel
theorem dX5_text_122 : decode cX5_text 122 = .ok (.aload_n 0, 1) := by decide +kernel
theorem dX5_text_123 : decode cX5_text 123 = .ok (.getfield 104, 3) := by decide +kernel
theorem dX5_text_126 : decode cX5_text 126 = .ok (.aload_n 0, 1) := by decide +kernel
theorem dX5_text_127 : decode cX5_text 127 = .ok (.getfield 130, 3) := by decide +kernel
theorem dX5_text_130 : decode cX5_text 130 = .ok (.if_icmp .lt 9, 3) := by decide +kernel
theorem dX5_text_133 : decode cX5_text 133 = .ok (.aload_n 0, 1) := by decide +kernel
theorem dX5_text_134 : decode cX5_text 134 = .ok (.bipush 7, 2) := by decide +kernel
theorem dX5_text_136 : decode cX5_text 136 = .ok (.invokevirtual 90, 3) := by decide +kernel
theorem dX5_text_139 : decode cX5_text 139 = .ok (.aload_n 0, 1) := by decide +kernel
theorem dX5_text_140 : decode cX5_text 140 = .ok (.iconst 0, 1) := by decide +kernel
theorem dX5_text_141 : decode cX5_text 141 = .ok (.putfield 57, 3) := by decide +kernel
theorem dX5_text_144 : decode cX5_text 144 = .ok (.aload_n 0, 1) := by decide +kernel
theorem dX5_text_145 : decode cX5_text 145 = .ok (.aload_n 0, 1) := by decide +kernel
theorem dX5_text_146 : decode cX5_text 146 = .ok (.getfield 60, 3) := by decide +kernel
theorem dX5_text_149 : decode cX5_text 149 = .ok (.putfield 144, 3) := by decide +kernel
theorem dX5_text_152 : decode cX5_text 152 = .ok (.aload_n 0, 1) := by decide +kernel
theorem dX5_text_153 : decode cX5_text 153 = .ok (.getfield 60, 3) := by decide +kernel
theorem dX5_text_156 : decode cX5_text 156 = .ok (.ifCond .le 11, 3) := by decide +kernel
theorem dX5_text_159 : decode cX5_text 159 = .ok (.bipush (-10), 2) := by decide +kernel
theorem dX5_text_161 : decode cX5_text 161 = .ok (.aload_n 0, 1) := by decide +kernel
theorem dX5_text_162 : decode cX5_text 162 = .ok (.getfield 66, 3) := by decide +kernel
theorem dX5_text_165 : decode cX5_text 165 = .ok (.isub, 1) := by decide +kernel
theorem dX5_text_166 : decode cX5_text 166 = .ok (.ireturn, 1) := by decide +kernel
theorem dX5_text_167 : decode cX5_text 167 = .ok (.iconst 0, 1) := by decide +kernel
theorem dX5_text_168 : decode cX5_text 168 = .ok (.istore_n 2, 1) := by decide +kernel
theorem dX5_text_169 : decode cX5_text 169 = .ok (.iload_n 2, 1) := by decide +kernel
theorem dX5_text_170 : decode cX5_text 170 = .ok (.bipush 43, 2) := by decide +kernel
theorem dX5_text_172 : decode cX5_text 172 = .ok (.if_icmp .ge 21, 3) := by decide +kernel
theorem dX5_text_175 : decode cX5_text 175 = .ok (.aload_n 0, 1) := by decide +kernel
theorem dX5_text_176 : decode cX5_text 176 = .ok (.getfield 7, 3) := by decide +kernel
theorem dX5_text_179 : decode cX5_text 179 = .ok (.iload_n 2, 1) := by decide +kernel
theorem dX5_text_180 : decode cX5_text 180 = .ok (.aload_n 0, 1) := by decide +kernel
theorem dX5_text_181 : decode cX5_text 181 = .ok (.getfield 23, 3) := by decide +kernel
theorem dX5_text_184 : decode cX5_text 184 = .ok (.iload_n 2, 1) := by decide +kernel
theorem dX5_text_185 : decode cX5_text 185 = .ok (.iaload, 1) := by decide +kernel
theorem dX5_text_186 : decode cX5_text 186 = .ok (.iastore, 1) := by decide +kernel
theorem dX5_text_187 : decode cX5_text 187 = .ok (.iinc 2 1, 3) := by decide +kernel
theorem dX5_text_190 : decode cX5_text 190 = .ok (.goto (-21), 3) := by decide +kernel
theorem dX5_text_193 : decode cX5_text 193 = .ok (.aload_n 0, 1) := by decide +kernel
theorem dX5_text_194 : decode cX5_text 194 = .ok (.aload_n 0, 1) := by decide +kernel
theorem dX5_text_195 : decode cX5_text 195 = .ok (.getfield 127, 3) := by decide +kernel
theorem dX5_text_198 : decode cX5_text 198 = .ok (.putfield 13, 3) := by decide +kernel
theorem dX5_text_201 : decode cX5_text 201 = .ok (.aload_n 0, 1) := by decide +kernel
theorem dX5_text_202 : decode cX5_text 202 = .ok (.aload_n 0, 1) := by decide +kernel
theorem dX5_text_203 : decode cX5_text 203 = .ok (.getfield 130, 3) := by decide +kernel
theorem dX5_text_206 : decode cX5_text 206 = .ok (.putfield 17, 3) := by decide +kernel
theorem dX5_text_209 : decode cX5_text 209 = .ok (.aload_n 0, 1) := by decide +kernel
theorem dX5_text_210 : decode cX5_text 210 = .ok (.iconst 0, 1) := by decide +kernel
theorem dX5_text_211 : decode cX5_text 211 = .ok (.putfield 147, 3) := by decide +kernel
theorem dX5_text_214 : decode cX5_text 214 = .ok (.aload_n 0, 1) := by decide +kernel
theorem dX5_text_215 : decode cX5_text 215 = .ok (.getfield 38, 3) := by decide +kernel
theorem dX5_text_218 : decode cX5_text 218 = .ok (.iconst 0, 1) := by decide +kernel
theorem dX5_text_219 : decode cX5_text 219 = .ok (.iconst 0, 1) := by decide +kernel
theorem dX5_text_220 : decode cX5_text 220 = .ok (.bastore, 1) := by decide +kernel
theorem dX5_text_221 : decode cX5_text 221 = .ok (.aload_n 0, 1) := by decide +kernel
theorem dX5_text_222 : decode cX5_text 222 = .ok (.getfield 38, 3) := by decide +kernel
theorem dX5_text_225 : decode cX5_text 225 = .ok (.iconst 1, 1) := by decide +kernel
theorem dX5_text_226 : decode cX5_text 226 = .ok (.iconst 0, 1) := by decide +kernel
theorem dX5_text_227 : decode cX5_text 227 = .ok (.bastore, 1) := by decide +kernel
theorem dX5_text_228 : decode cX5_text 228 = .ok (.iload_n 1, 1) := by decide +kernel
theorem dX5_text_229 : decode cX5_text 229 = .ok (.ireturn, 1) := by decide +kernel
theorem dX5_fault_0 : decode cX5_fault 0 = .ok (.aload_n 0, 1) := by decide +kernel
theorem dX5_fault_1 : decode cX5_fault 1 = .ok (.getfield 144, 3) := by decide +kernel
theorem dX5_fault_4 : decode cX5_fault 4 = .ok (.ireturn, 1) := by decide +kernel
theorem dX5_isNote_0 : decode cX5_isNote 0 = .ok (.iload_n 1, 1) := by decide +kernel
theorem dX5_isNote_1 : decode cX5_isNote 1 = .ok (.i2l, 1) := by decide +kernel
theorem dX5_isNote_2 : decode cX5_isNote 2 = .ok (.lconst 0, 1) := by decide +kernel
theorem dX5_isNote_3 : decode cX5_isNote 3 = .ok (.aload_n 0, 1) := by decide +kernel
theorem dX5_isNote_4 : decode cX5_isNote 4 = .ok (.getfield 13, 3) := by decide +kernel
theorem dX5_isNote_7 : decode cX5_isNote 7 = .ok (.iconst 1, 1) := by decide +kernel
theorem dX5_isNote_8 : decode cX5_isNote 8 = .ok (.isub, 1) := by decide +kernel
theorem dX5_isNote_9 : decode cX5_isNote 9 = .ok (.i2l, 1) := by decide +kernel
theorem dX5_isNote_10 : decode cX5_isNote 10 = .ok (.invokestatic 53, 3) := by decide +kernel
theorem dX5_isNote_13 : decode cX5_isNote 13 = .ok (.ireturn, 1) := by decide +kernel
theorem dX5_isOne_0 : decode cX5_isOne 0 = .ok (.iload_n 1, 1) := by decide +kernel
theorem dX5_isOne_1 : decode cX5_isOne 1 = .ok (.i2l, 1) := by decide +kernel
theorem dX5_isOne_2 : decode cX5_isOne 2 = .ok (.lconst 0, 1) := by decide +kernel
theorem dX5_isOne_3 : decode cX5_isOne 3 = .ok (.aload_n 0, 1) := by decide +kernel
theorem dX5_isOne_4 : decode cX5_isOne 4 = .ok (.getfield 17, 3) := by decide +kernel
theorem dX5_isOne_7 : decode cX5_isOne 7 = .ok (.iconst 1, 1) := by decide +kernel
theorem dX5_isOne_8 : decode cX5_isOne 8 = .ok (.isub, 1) := by decide +kernel
theorem dX5_isOne_9 : decode cX5_isOne 9 = .ok (.i2l, 1) := by decide +kernel
theorem dX5_isOne_10 : decode cX5_isOne 10 = .ok (.invokestatic 53, 3) := by decide +kernel
theorem dX5_isOne_13 : decode cX5_isOne 13 = .ok (.ireturn, 1) := by decide +kernel
theorem dX5_isRule_0 : decode cX5_isRule 0 = .ok (.iload_n 1, 1) := by decide +kernel
theorem dX5_isRule_1 : decode cX5_isRule 1 = .ok (.i2l, 1) := by decide +kernel
theorem dX5_isRule_2 : decode cX5_isRule 2 = .ok (.lconst 0, 1) := by decide +kernel
theorem dX5_isRule_3 : decode cX5_isRule 3 = .ok (.aload_n 0, 1) := by decide +kernel
theorem dX5_isRule_4 : decode cX5_isRule 4 = .ok (.getfield 7, 3) := by decide +kernel
theorem dX5_isRule_7 : decode cX5_isRule 7 = .ok (.bipush 38, 2) := by decide +kernel
theorem dX5_isRule_9 : decode cX5_isRule 9 = .ok (.iaload, 1) := by decide +kernel
theorem dX5_isRule_10 : decode cX5_isRule 10 = .ok (.iconst 1, 1) := by decide +kernel
theorem dX5_isRule_11 : decode cX5_isRule 11 = .ok (.isub, 1) := by decide +kernel
theorem dX5_isRule_12 : decode cX5_isRule 12 = .ok (.i2l, 1) := by decide +kernel
theorem dX5_isRule_13 : decode cX5_isRule 13 = .ok (.invokestatic 53, 3) := by decide +kernel
theorem dX5_isRule_16 : decode cX5_isRule 16 = .ok (.ireturn, 1) := by decide +kernel
theorem dX5_sets_0 : decode cX5_sets 0 = .ok (.iconst 1, 1) := by decide +kernel
theorem dX5_sets_1 : decode cX5_sets 1 = .ok (.aload_n 0, 1) := by decide +kernel
theorem dX5_sets_2 : decode cX5_sets 2 = .ok (.getfield 13, 3) := by decide +kernel
theorem dX5_sets_5 : decode cX5_sets 5 = .ok (.ishl, 1) := by decide +kernel
theorem dX5_sets_6 : decode cX5_sets 6 = .ok (.ireturn, 1) := by decide +kernel
theorem dX5_isSet_0 : decode cX5_isSet 0 = .ok (.iload_n 1, 1) := by decide +kernel
theorem dX5_isSet_1 : decode cX5_isSet 1 = .ok (.i2l, 1) := by decide +kernel
theorem dX5_isSet_2 : decode cX5_isSet 2 = .ok (.lconst 0, 1) := by decide +kernel
theorem dX5_isSet_3 : decode cX5_isSet 3 = .ok (.aload_n 0, 1) := by decide +kernel
theorem dX5_isSet_4 : decode cX5_isSet 4 = .ok (.invokevirtual 150, 3) := by decide +kernel
theorem dX5_isSet_7 : decode cX5_isSet 7 = .ok (.iconst 1, 1) := by decide +kernel
theorem dX5_isSet_8 : decode cX5_isSet 8 = .ok (.isub, 1) := by decide +kernel
theorem dX5_isSet_9 : decode cX5_isSet 9 = .ok (.i2l, 1) := by decide +kernel
theorem dX5_isSet_10 : decode cX5_isSet 10 = .ok (.invokestatic 53, 3) := by decide +kernel
theorem dX5_isSet_13 : decode cX5_isSet 13 = .ok (.ireturn, 1) := by decide +kernel
theorem dX5_rule_0 : decode cX5_rule 0 = .ok (.iload_n 1, 1) := by decide +kernel
theorem dX5_rule_1 : decode cX5_rule 1 = .ok (.lookupswitch 37 #[(0, 27), (1, 32)], 27) := by decide +kernel
theorem dX5_rule_28 : decode cX5_rule 28 = .ok (.aload_n 0, 1) := by decide +kernel
theorem dX5_rule_29 : decode cX5_rule 29 = .ok (.getfield 13, 3) := by decide +kernel
theorem dX5_rule_32 : decode cX5_rule 32 = .ok (.ireturn, 1) := by decide +kernel
theorem dX5_rule_33 : decode cX5_rule 33 = .ok (.aload_n 0, 1) := by decide +kernel
theorem dX5_rule_34 : decode cX5_rule 34 = .ok (.getfield 17, 3) := by decide +kernel
theorem dX5_rule_37 : decode cX5_rule 37 = .ok (.ireturn, 1) := by decide +kernel
theorem dX5_rule_38 : decode cX5_rule 38 = .ok (.iload_n 1, 1) := by decide +kernel
theorem dX5_rule_39 : decode cX5_rule 39 = .ok (.i2l, 1) := by decide +kernel
theorem dX5_rule_40 : decode cX5_rule 40 = .ok (.ldc2_w 153, 3) := by decide +kernel
theorem dX5_rule_43 : decode cX5_rule 43 = .ok (.ldc2_w 133, 3) := by decide +kernel
theorem dX5_rule_46 : decode cX5_rule 46 = .ok (.invokestatic 53, 3) := by decide +kernel
theorem dX5_rule_49 : decode cX5_rule 49 = .ok (.ifCond .eq 17, 3) := by decide +kernel
theorem dX5_rule_52 : decode cX5_rule 52 = .ok (.aload_n 0, 1) := by decide +kernel
theorem dX5_rule_53 : decode cX5_rule 53 = .ok (.getfield 7, 3) := by decide +kernel
theorem dX5_rule_56 : decode cX5_rule 56 = .ok (.bipush 38, 2) := by decide +kernel
theorem dX5_rule_58 : decode cX5_rule 58 = .ok (.iload_n 1, 1) := by decide +kernel
theorem dX5_rule_59 : decode cX5_rule 59 = .ok (.iadd, 1) := by decide +kernel
theorem dX5_rule_60 : decode cX5_rule 60 = .ok (.iconst 2, 1) := by decide +kernel
theorem dX5_rule_61 : decode cX5_rule 61 = .ok (.isub, 1) := by decide +kernel
theorem dX5_rule_62 : decode cX5_rule 62 = .ok (.iaload, 1) := by decide +kernel
theorem dX5_rule_63 : decode cX5_rule 63 = .ok (.goto 4, 3) := by decide +kernel
theorem dX5_rule_66 : decode cX5_rule 66 = .ok (.iconst (-1), 1) := by decide +kernel
theorem dX5_rule_67 : decode cX5_rule 67 = .ok (.ireturn, 1) := by decide +kernel
theorem dX5_holds_0 : decode cX5_holds 0 = .ok (.bipush 6, 2) := by decide +kernel
theorem dX5_holds_2 : decode cX5_holds 2 = .ok (.iconst 4, 1) := by decide +kernel
theorem dX5_holds_3 : decode cX5_holds 3 = .ok (.iload_n 1, 1) := by decide +kernel
theorem dX5_holds_4 : decode cX5_holds 4 = .ok (.imul, 1) := by decide +kernel
theorem dX5_holds_5 : decode cX5_holds 5 = .ok (.iadd, 1) := by decide +kernel
theorem dX5_holds_6 : decode cX5_holds 6 = .ok (.istore_n 3, 1) := by decide +kernel
theorem dX5_holds_7 : decode cX5_holds 7 = .ok (.aload_n 0, 1) := by decide +kernel
theorem dX5_holds_8 : decode cX5_holds 8 = .ok (.getfield 20, 3) := by decide +kernel
theorem dX5_holds_11 : decode cX5_holds 11 = .ok (.iload_n 1, 1) := by decide +kernel
theorem dX5_holds_12 : decode cX5_holds 12 = .ok (.ishr, 1) := by decide +kernel
theorem dX5_holds_13 : decode cX5_holds 13 = .ok (.iconst 1, 1) := by decide +kernel
theorem dX5_holds_14 : decode cX5_holds 14 = .ok (.iand, 1) := by decide +kernel
theorem dX5_holds_15 : decode cX5_holds 15 = .ok (.iconst 1, 1) := by decide +kernel
theorem dX5_holds_16 : decode cX5_holds 16 = .ok (.if_icmp .ne 26, 3) := by decide +kernel
theorem dX5_holds_19 : decode cX5_holds 19 = .ok (.aload_n 0, 1) := by decide +kernel
theorem dX5_holds_20 : decode cX5_holds 20 = .ok (.getfield 7, 3) := by decide +kernel
theorem dX5_holds_23 : decode cX5_holds 23 = .ok (.bipush 39, 2) := by decide +kernel
theorem dX5_holds_25 : decode cX5_holds 25 = .ok (.iaload, 1) := by decide +kernel
theorem dX5_holds_26 : decode cX5_holds 26 = .ok (.aload_n 0, 1) := by decide +kernel
theorem dX5_holds_27 : decode cX5_holds 27 = .ok (.getfield 7, 3) := by decide +kernel
theorem dX5_holds_30 : decode cX5_holds 30 = .ok (.iload_n 3, 1) := by decide +kernel
theorem dX5_holds_31 : decode cX5_holds 31 = .ok (.iaload, 1) := by decide +kernel
theorem dX5_holds_32 : decode cX5_holds 32 = .ok (.ishr, 1) := by decide +kernel
theorem dX5_holds_33 : decode cX5_holds 33 = .ok (.iconst 1, 1) := by decide +kernel
theorem dX5_holds_34 : decode cX5_holds 34 = .ok (.iand, 1) := by decide +kernel
theorem dX5_holds_35 : decode cX5_holds 35 = .ok (.ifCond .ne 7, 3) := by decide +kernel
theorem dX5_holds_38 : decode cX5_holds 38 = .ok (.iconst 1, 1) := by decide +kernel
theorem dX5_holds_39 : decode cX5_holds 39 = .ok (.goto 4, 3) := by decide +kernel
theorem dX5_holds_42 : decode cX5_holds 42 = .ok (.iconst 0, 1) := by decide +kernel
theorem dX5_holds_43 : decode cX5_holds 43 = .ok (.istore 4, 2) := by decide +kernel
theorem dX5_holds_45 : decode cX5_holds 45 = .ok (.iload 4, 2) := by decide +kernel
theorem dX5_holds_47 : decode cX5_holds 47 = .ok (.ifCond .eq 35, 3) := by decide +kernel
theorem dX5_holds_50 : decode cX5_holds 50 = .ok (.aload_n 0, 1) := by decide +kernel
theorem dX5_holds_51 : decode cX5_holds 51 = .ok (.getfield 7, 3) := by decide +kernel
theorem dX5_holds_54 : decode cX5_holds 54 = .ok (.iload_n 3, 1) := by decide +kernel
theorem dX5_holds_55 : decode cX5_holds 55 = .ok (.iconst 2, 1) := by decide +kernel
theorem dX5_holds_56 : decode cX5_holds 56 = .ok (.iadd, 1) := by decide +kernel
theorem dX5_holds_57 : decode cX5_holds 57 = .ok (.iaload, 1) := by decide +kernel
theorem dX5_holds_58 : decode cX5_holds 58 = .ok (.iload_n 2, 1) := by decide +kernel
theorem dX5_holds_59 : decode cX5_holds 59 = .ok (.iconst (-1), 1) := by decide +kernel
theorem dX5_holds_60 : decode cX5_holds 60 = .ok (.ixor, 1) := by decide +kernel
theorem dX5_holds_61 : decode cX5_holds 61 = .ok (.iand, 1) := by decide +kernel
theorem dX5_holds_62 : decode cX5_holds 62 = .ok (.ifCond .ne 20, 3) := by decide +kernel
theorem dX5_holds_65 : decode cX5_holds 65 = .ok (.aload_n 0, 1) := by decide +kernel
theorem dX5_holds_66 : decode cX5_holds 66 = .ok (.getfield 7, 3) := by decide +kernel
theorem dX5_holds_69 : decode cX5_holds 69 = .ok (.iload_n 3, 1) := by decide +kernel
theorem dX5_holds_70 : decode cX5_holds 70 = .ok (.iconst 3, 1) := by decide +kernel
theorem dX5_holds_71 : decode cX5_holds 71 = .ok (.iadd, 1) := by decide +kernel
theorem dX5_holds_72 : decode cX5_holds 72 = .ok (.iaload, 1) := by decide +kernel
theorem dX5_holds_73 : decode cX5_holds 73 = .ok (.iload_n 2, 1) := by decide +kernel
theorem dX5_holds_74 : decode cX5_holds 74 = .ok (.iand, 1) := by decide +kernel
theorem dX5_holds_75 : decode cX5_holds 75 = .ok (.ifCond .ne 7, 3) := by decide +kernel
theorem dX5_holds_78 : decode cX5_holds 78 = .ok (.iconst 1, 1) := by decide +kernel
theorem dX5_holds_79 : decode cX5_holds 79 = .ok (.goto 4, 3) := by decide +kernel
theorem dX5_holds_82 : decode cX5_holds 82 = .ok (.iconst 0, 1) := by decide +kernel
theorem dX5_holds_83 : decode cX5_holds 83 = .ok (.ireturn, 1) := by decide +kernel
theorem dX5_noteOf_0 : decode cX5_noteOf 0 = .ok (.aload_n 0, 1) := by decide +kernel
theorem dX5_noteOf_1 : decode cX5_noteOf 1 = .ok (.getfield 7, 3) := by decide +kernel
theorem dX5_noteOf_4 : decode cX5_noteOf 4 = .ok (.bipush 6, 2) := by decide +kernel
theorem dX5_noteOf_6 : decode cX5_noteOf 6 = .ok (.iconst 4, 1) := by decide +kernel
theorem dX5_noteOf_7 : decode cX5_noteOf 7 = .ok (.iload_n 1, 1) := by decide +kernel
theorem dX5_noteOf_8 : decode cX5_noteOf 8 = .ok (.imul, 1) := by decide +kernel
theorem dX5_noteOf_9 : decode cX5_noteOf 9 = .ok (.iadd, 1) := by decide +kernel
theorem dX5_noteOf_10 : decode cX5_noteOf 10 = .ok (.iconst 1, 1) := by decide +kernel
theorem dX5_noteOf_11 : decode cX5_noteOf 11 = .ok (.iadd, 1) := by decide +kernel
theorem dX5_noteOf_12 : decode cX5_noteOf 12 = .ok (.iaload, 1) := by decide +kernel
theorem dX5_noteOf_13 : decode cX5_noteOf 13 = .ok (.ireturn, 1) := by decide +kernel
theorem dX5_broughtBy_0 : decode cX5_broughtBy 0 = .ok (.iconst 0, 1) := by decide +kernel
theorem dX5_broughtBy_1 : decode cX5_broughtBy 1 = .ok (.istore_n 2, 1) := by decide +kernel
theorem dX5_broughtBy_2 : decode cX5_broughtBy 2 = .ok (.iconst 0, 1) := by decide +kernel
theorem dX5_broughtBy_3 : decode cX5_broughtBy 3 = .ok (.istore_n 3, 1) := by decide +kernel
theorem dX5_broughtBy_4 : decode cX5_broughtBy 4 = .ok (.iload_n 3, 1) := by decide +kernel
theorem dX5_broughtBy_5 : decode cX5_broughtBy 5 = .ok (.aload_n 0, 1) := by decide +kernel
theorem dX5_broughtBy_6 : decode cX5_broughtBy 6 = .ok (.getfield 7, 3) := by decide +kernel
theorem dX5_broughtBy_9 : decode cX5_broughtBy 9 = .ok (.bipush 38, 2) := by decide +kernel
theorem dX5_broughtBy_11 : decode cX5_broughtBy 11 = .ok (.iaload, 1) := by decide +kernel
theorem dX5_broughtBy_12 : decode cX5_broughtBy 12 = .ok (.if_icmp .ge 32, 3) := by decide +kernel
theorem dX5_broughtBy_15 : decode cX5_broughtBy 15 = .ok (.iload_n 2, 1) := by decide +kernel
theorem dX5_broughtBy_16 : decode cX5_broughtBy 16 = .ok (.aload_n 0, 1) := by decide +kernel
theorem dX5_broughtBy_17 : decode cX5_broughtBy 17 = .ok (.iload_n 3, 1) := by decide +kernel
theorem dX5_broughtBy_18 : decode cX5_broughtBy 18 = .ok (.iload_n 1, 1) := by decide +kernel
theorem dX5_broughtBy_19 : decode cX5_broughtBy 19 = .ok (.invokevirtual 155, 3) := by decide +kernel
theorem dX5_broughtBy_22 : decode cX5_broughtBy 22 = .ok (.ifCond .eq 13, 3) := by decide +kernel
theorem dX5_broughtBy_25 : decode cX5_broughtBy 25 = .ok (.iconst 1, 1) := by decide +kernel
theorem dX5_broughtBy_26 : decode cX5_broughtBy 26 = .ok (.aload_n 0, 1) := by decide +kernel
theorem dX5_broughtBy_27 : decode cX5_broughtBy 27 = .ok (.iload_n 3, 1) := by decide +kernel
theorem dX5_broughtBy_28 : decode cX5_broughtBy 28 = .ok (.invokevirtual 159, 3) := by decide +kernel
theorem dX5_broughtBy_31 : decode cX5_broughtBy 31 = .ok (.ishl, 1) := by decide +kernel
theorem dX5_broughtBy_32 : decode cX5_broughtBy 32 = .ok (.goto 4, 3) := by decide +kernel
theorem dX5_broughtBy_35 : decode cX5_broughtBy 35 = .ok (.iconst 0, 1) := by decide +kernel
theorem dX5_broughtBy_36 : decode cX5_broughtBy 36 = .ok (.ior, 1) := by decide +kernel
theorem dX5_broughtBy_37 : decode cX5_broughtBy 37 = .ok (.istore_n 2, 1) := by decide +kernel
theorem dX5_broughtBy_38 : decode cX5_broughtBy 38 = .ok (.iinc 3 1, 3) := by decide +kernel
theorem dX5_broughtBy_41 : decode cX5_broughtBy 41 = .ok (.goto (-37), 3) := by decide +kernel
theorem dX5_broughtBy_44 : decode cX5_broughtBy 44 = .ok (.iload_n 2, 1) := by decide +kernel
theorem dX5_broughtBy_45 : decode cX5_broughtBy 45 = .ok (.aload_n 0, 1) := by decide +kernel
theorem dX5_broughtBy_46 : decode cX5_broughtBy 46 = .ok (.getfield 7, 3) := by decide +kernel
theorem dX5_broughtBy_49 : decode cX5_broughtBy 49 = .ok (.bipush 40, 2) := by decide +kernel
theorem dX5_broughtBy_51 : decode cX5_broughtBy 51 = .ok (.iaload, 1) := by decide +kernel
theorem dX5_broughtBy_52 : decode cX5_broughtBy 52 = .ok (.iconst (-1), 1) := by decide +kernel
theorem dX5_broughtBy_53 : decode cX5_broughtBy 53 = .ok (.ixor, 1) := by decide +kernel
theorem dX5_broughtBy_54 : decode cX5_broughtBy 54 = .ok (.iand, 1) := by decide +kernel
theorem dX5_broughtBy_55 : decode cX5_broughtBy 55 = .ok (.ireturn, 1) := by decide +kernel
theorem dX5_agrees_0 : decode cX5_agrees 0 = .ok (.aload_n 0, 1) := by decide +kernel
theorem dX5_agrees_1 : decode cX5_agrees 1 = .ok (.iload_n 1, 1) := by decide +kernel
theorem dX5_agrees_2 : decode cX5_agrees 2 = .ok (.invokevirtual 162, 3) := by decide +kernel
theorem dX5_agrees_5 : decode cX5_agrees 5 = .ok (.iload_n 1, 1) := by decide +kernel
theorem dX5_agrees_6 : decode cX5_agrees 6 = .ok (.if_icmp .ne 7, 3) := by decide +kernel
theorem dX5_agrees_9 : decode cX5_agrees 9 = .ok (.iconst 1, 1) := by decide +kernel
theorem dX5_agrees_10 : decode cX5_agrees 10 = .ok (.goto 4, 3) := by decide +kernel
theorem dX5_agrees_13 : decode cX5_agrees 13 = .ok (.iconst 0, 1) := by decide +kernel
theorem dX5_agrees_14 : decode cX5_agrees 14 = .ok (.ireturn, 1) := by decide +kernel
theorem dX5_law_0 : decode cX5_law 0 = .ok (.aload_n 0, 1) := by decide +kernel
theorem dX5_law_1 : decode cX5_law 1 = .ok (.iload_n 1, 1) := by decide +kernel
theorem dX5_law_2 : decode cX5_law 2 = .ok (.invokevirtual 165, 3) := by decide +kernel
theorem dX5_law_5 : decode cX5_law 5 = .ok (.ifCond .eq 15, 3) := by decide +kernel
theorem dX5_law_8 : decode cX5_law 8 = .ok (.iload_n 2, 1) := by decide +kernel
theorem dX5_law_9 : decode cX5_law 9 = .ok (.i2l, 1) := by decide +kernel
theorem dX5_law_10 : decode cX5_law 10 = .ok (.lconst 0, 1) := by decide +kernel
theorem dX5_law_11 : decode cX5_law 11 = .ok (.ldc2_w 169, 3) := by decide +kernel
theorem dX5_law_14 : decode cX5_law 14 = .ok (.invokestatic 53, 3) := by decide +kernel
theorem dX5_law_17 : decode cX5_law 17 = .ok (.ifCond .ne 5, 3) := by decide +kernel
theorem dX5_law_20 : decode cX5_law 20 = .ok (.iconst (-1), 1) := by decide +kernel
theorem dX5_law_21 : decode cX5_law 21 = .ok (.ireturn, 1) := by decide +kernel
theorem dX5_law_22 : decode cX5_law 22 = .ok (.iload_n 2, 1) := by decide +kernel
theorem dX5_law_23 : decode cX5_law 23 = .ok (.iconst 4, 1) := by decide +kernel
theorem dX5_law_24 : decode cX5_law 24 = .ok (.if_icmp .ne 26, 3) := by decide +kernel
theorem dX5_law_27 : decode cX5_law 27 = .ok (.aload_n 0, 1) := by decide +kernel
theorem dX5_law_28 : decode cX5_law 28 = .ok (.iload_n 1, 1) := by decide +kernel
theorem dX5_law_29 : decode cX5_law 29 = .ok (.aload_n 0, 1) := by decide +kernel
theorem dX5_law_30 : decode cX5_law 30 = .ok (.getfield 7, 3) := by decide +kernel
theorem dX5_law_33 : decode cX5_law 33 = .ok (.bipush 41, 2) := by decide +kernel
theorem dX5_law_35 : decode cX5_law 35 = .ok (.iaload, 1) := by decide +kernel
theorem dX5_law_36 : decode cX5_law 36 = .ok (.invokevirtual 155, 3) := by decide +kernel
theorem dX5_law_39 : decode cX5_law 39 = .ok (.ifCond .eq 7, 3) := by decide +kernel
theorem dX5_law_42 : decode cX5_law 42 = .ok (.iconst 1, 1) := by decide +kernel
theorem dX5_law_43 : decode cX5_law 43 = .ok (.goto 20, 3) := by decide +kernel
theorem dX5_law_46 : decode cX5_law 46 = .ok (.iconst 0, 1) := by decide +kernel
theorem dX5_law_47 : decode cX5_law 47 = .ok (.goto 16, 3) := by decide +kernel
theorem dX5_law_50 : decode cX5_law 50 = .ok (.aload_n 0, 1) := by decide +kernel
theorem dX5_law_51 : decode cX5_law 51 = .ok (.getfield 7, 3) := by decide +kernel
theorem dX5_law_54 : decode cX5_law 54 = .ok (.bipush 6, 2) := by decide +kernel
theorem dX5_law_56 : decode cX5_law 56 = .ok (.iconst 4, 1) := by decide +kernel
theorem dX5_law_57 : decode cX5_law 57 = .ok (.iload_n 1, 1) := by decide +kernel
theorem dX5_law_58 : decode cX5_law 58 = .ok (.imul, 1) := by decide +kernel
theorem dX5_law_59 : decode cX5_law 59 = .ok (.iadd, 1) := by decide +kernel
theorem dX5_law_60 : decode cX5_law 60 = .ok (.iload_n 2, 1) := by decide +kernel
theorem dX5_law_61 : decode cX5_law 61 = .ok (.iadd, 1) := by decide +kernel
theorem dX5_law_62 : decode cX5_law 62 = .ok (.iaload, 1) := by decide +kernel
theorem dX5_law_63 : decode cX5_law 63 = .ok (.ireturn, 1) := by decide +kernel
theorem dX5_worth_0 : decode cX5_worth 0 = .ok (.aload_n 0, 1) := by decide +kernel
theorem dX5_worth_1 : decode cX5_worth 1 = .ok (.iload_n 1, 1) := by decide +kernel
theorem dX5_worth_2 : decode cX5_worth 2 = .ok (.invokevirtual 171, 3) := by decide +kernel
theorem dX5_worth_5 : decode cX5_worth 5 = .ok (.ifCond .eq 15, 3) := by decide +kernel
theorem dX5_worth_8 : decode cX5_worth 8 = .ok (.bipush 100, 2) := by decide +kernel
theorem dX5_worth_10 : decode cX5_worth 10 = .ok (.aload_n 0, 1) := by decide +kernel
theorem dX5_worth_11 : decode cX5_worth 11 = .ok (.getfield 7, 3) := by decide +kernel
theorem dX5_worth_14 : decode cX5_worth 14 = .ok (.iload_n 1, 1) := by decide +kernel
theorem dX5_worth_15 : decode cX5_worth 15 = .ok (.iaload, 1) := by decide +kernel
theorem dX5_worth_16 : decode cX5_worth 16 = .ok (.iadd, 1) := by decide +kernel
theorem dX5_worth_17 : decode cX5_worth 17 = .ok (.goto 4, 3) := by decide +kernel
theorem dX5_worth_20 : decode cX5_worth 20 = .ok (.iconst (-1), 1) := by decide +kernel
theorem dX5_worth_21 : decode cX5_worth 21 = .ok (.ireturn, 1) := by decide +kernel
theorem dX5_marks_0 : decode cX5_marks 0 = .ok (.aload_n 0, 1) := by decide +kernel
theorem dX5_marks_1 : decode cX5_marks 1 = .ok (.getfield 7, 3) := by decide +kernel
theorem dX5_marks_4 : decode cX5_marks 4 = .ok (.iload_n 1, 1) := by decide +kernel
theorem dX5_marks_5 : decode cX5_marks 5 = .ok (.iaload, 1) := by decide +kernel
theorem dX5_marks_6 : decode cX5_marks 6 = .ok (.iload_n 2, 1) := by decide +kernel
theorem dX5_marks_7 : decode cX5_marks 7 = .ok (.ishr, 1) := by decide +kernel
theorem dX5_marks_8 : decode cX5_marks 8 = .ok (.iconst 1, 1) := by decide +kernel
theorem dX5_marks_9 : decode cX5_marks 9 = .ok (.iand, 1) := by decide +kernel
theorem dX5_marks_10 : decode cX5_marks 10 = .ok (.istore 4, 2) := by decide +kernel
theorem dX5_marks_12 : decode cX5_marks 12 = .ok (.aload_n 0, 1) := by decide +kernel
theorem dX5_marks_13 : decode cX5_marks 13 = .ok (.getfield 7, 3) := by decide +kernel
theorem dX5_marks_16 : decode cX5_marks 16 = .ok (.iload_n 1, 1) := by decide +kernel
theorem dX5_marks_17 : decode cX5_marks 17 = .ok (.aload_n 0, 1) := by decide +kernel
theorem dX5_marks_18 : decode cX5_marks 18 = .ok (.getfield 7, 3) := by decide +kernel
theorem dX5_marks_21 : decode cX5_marks 21 = .ok (.iload_n 1, 1) := by decide +kernel
theorem dX5_marks_22 : decode cX5_marks 22 = .ok (.iaload, 1) := by decide +kernel
theorem dX5_marks_23 : decode cX5_marks 23 = .ok (.iconst 1, 1) := by decide +kernel
theorem dX5_marks_24 : decode cX5_marks 24 = .ok (.iload_n 2, 1) := by decide +kernel
theorem dX5_marks_25 : decode cX5_marks 25 = .ok (.ishl, 1) := by decide +kernel
theorem dX5_marks_26 : decode cX5_marks 26 = .ok (.iconst (-1), 1) := by decide +kernel
theorem dX5_marks_27 : decode cX5_marks 27 = .ok (.ixor, 1) := by decide +kernel
theorem dX5_marks_28 : decode cX5_marks 28 = .ok (.iand, 1) := by decide +kernel
theorem dX5_marks_29 : decode cX5_marks 29 = .ok (.iload_n 3, 1) := by decide +kernel
theorem dX5_marks_30 : decode cX5_marks 30 = .ok (.ifCond .eq 9, 3) := by decide +kernel
theorem dX5_marks_33 : decode cX5_marks 33 = .ok (.iconst 1, 1) := by decide +kernel
theorem dX5_marks_34 : decode cX5_marks 34 = .ok (.iload_n 2, 1) := by decide +kernel
theorem dX5_marks_35 : decode cX5_marks 35 = .ok (.ishl, 1) := by decide +kernel
theorem dX5_marks_36 : decode cX5_marks 36 = .ok (.goto 4, 3) := by decide +kernel
theorem dX5_marks_39 : decode cX5_marks 39 = .ok (.iconst 0, 1) := by decide +kernel
theorem dX5_marks_40 : decode cX5_marks 40 = .ok (.ior, 1) := by decide +kernel
theorem dX5_marks_41 : decode cX5_marks 41 = .ok (.iastore, 1) := by decide +kernel
theorem dX5_marks_42 : decode cX5_marks 42 = .ok (.iload 4, 2) := by decide +kernel
theorem dX5_marks_44 : decode cX5_marks 44 = .ok (.ireturn, 1) := by decide +kernel
theorem dX5_writes_0 : decode cX5_writes 0 = .ok (.aload_n 0, 1) := by decide +kernel
theorem dX5_writes_1 : decode cX5_writes 1 = .ok (.iload_n 1, 1) := by decide +kernel
theorem dX5_writes_2 : decode cX5_writes 2 = .ok (.invokevirtual 171, 3) := by decide +kernel
theorem dX5_writes_5 : decode cX5_writes 5 = .ok (.ifCond .ne 5, 3) := by decide +kernel
theorem dX5_writes_8 : decode cX5_writes 8 = .ok (.iconst (-1), 1) := by decide +kernel
theorem dX5_writes_9 : decode cX5_writes 9 = .ok (.ireturn, 1) := by decide +kernel
theorem dX5_writes_10 : decode cX5_writes 10 = .ok (.iload_n 2, 1) := by decide +kernel
theorem dX5_writes_11 : decode cX5_writes 11 = .ok (.ifCond .eq 23, 3) := by decide +kernel
theorem dX5_writes_14 : decode cX5_writes 14 = .ok (.aload_n 0, 1) := by decide +kernel
theorem dX5_writes_15 : decode cX5_writes 15 = .ok (.getfield 7, 3) := by decide +kernel
theorem dX5_writes_18 : decode cX5_writes 18 = .ok (.bipush 40, 2) := by decide +kernel
theorem dX5_writes_20 : decode cX5_writes 20 = .ok (.iaload, 1) := by decide +kernel
theorem dX5_writes_21 : decode cX5_writes 21 = .ok (.iload_n 1, 1) := by decide +kernel
theorem dX5_writes_22 : decode cX5_writes 22 = .ok (.ishr, 1) := by decide +kernel
theorem dX5_writes_23 : decode cX5_writes 23 = .ok (.iconst 1, 1) := by decide +kernel
theorem dX5_writes_24 : decode cX5_writes 24 = .ok (.iand, 1) := by decide +kernel
theorem dX5_writes_25 : decode cX5_writes 25 = .ok (.iconst 1, 1) := by decide +kernel
theorem dX5_writes_26 : decode cX5_writes 26 = .ok (.if_icmp .ne 8, 3) := by decide +kernel
theorem dX5_writes_29 : decode cX5_writes 29 = .ok (.bipush (-2), 2) := by decide +kernel
theorem dX5_writes_31 : decode cX5_writes 31 = .ok (.goto 11, 3) := by decide +kernel
theorem dX5_writes_34 : decode cX5_writes 34 = .ok (.aload_n 0, 1) := by decide +kernel
theorem dX5_writes_35 : decode cX5_writes 35 = .ok (.bipush 41, 2) := by decide +kernel
theorem dX5_writes_37 : decode cX5_writes 37 = .ok (.iload_n 1, 1) := by decide +kernel
theorem dX5_writes_38 : decode cX5_writes 38 = .ok (.iload_n 2, 1) := by decide +kernel
theorem dX5_writes_39 : decode cX5_writes 39 = .ok (.invokevirtual 174, 3) := by decide +kernel
theorem dX5_writes_42 : decode cX5_writes 42 = .ok (.ireturn, 1) := by decide +kernel
theorem dX5_write_0 : decode cX5_write 0 = .ok (.aload_n 0, 1) := by decide +kernel
theorem dX5_write_1 : decode cX5_write 1 = .ok (.iload_n 1, 1) := by decide +kernel
theorem dX5_write_2 : decode cX5_write 2 = .ok (.iload_n 2, 1) := by decide +kernel
theorem dX5_write_3 : decode cX5_write 3 = .ok (.invokevirtual 178, 3) := by decide +kernel
theorem dX5_write_6 : decode cX5_write 6 = .ok (.ireturn, 1) := by decide +kernel
theorem dX5_home_0 : decode cX5_home 0 = .ok (.aload_n 0, 1) := by decide +kernel
theorem dX5_home_1 : decode cX5_home 1 = .ok (.iload_n 1, 1) := by decide +kernel
theorem dX5_home_2 : decode cX5_home 2 = .ok (.invokevirtual 182, 3) := by decide +kernel
theorem dX5_home_5 : decode cX5_home 5 = .ok (.ifCond .eq 14, 3) := by decide +kernel
theorem dX5_home_8 : decode cX5_home 8 = .ok (.aload_n 0, 1) := by decide +kernel
theorem dX5_home_9 : decode cX5_home 9 = .ok (.bipush 39, 2) := by decide +kernel
theorem dX5_home_11 : decode cX5_home 11 = .ok (.iload_n 1, 1) := by decide +kernel
theorem dX5_home_12 : decode cX5_home 12 = .ok (.iload_n 2, 1) := by decide +kernel
theorem dX5_home_13 : decode cX5_home 13 = .ok (.invokevirtual 174, 3) := by decide +kernel
theorem dX5_home_16 : decode cX5_home 16 = .ok (.goto 4, 3) := by decide +kernel
theorem dX5_home_19 : decode cX5_home 19 = .ok (.iconst (-1), 1) := by decide +kernel
theorem dX5_home_20 : decode cX5_home 20 = .ok (.ireturn, 1) := by decide +kernel
theorem dX5_stop_0 : decode cX5_stop 0 = .ok (.aload_n 0, 1) := by decide +kernel
theorem dX5_stop_1 : decode cX5_stop 1 = .ok (.iload_n 1, 1) := by decide +kernel
theorem dX5_stop_2 : decode cX5_stop 2 = .ok (.invokevirtual 171, 3) := by decide +kernel
theorem dX5_stop_5 : decode cX5_stop 5 = .ok (.ifCond .eq 14, 3) := by decide +kernel
theorem dX5_stop_8 : decode cX5_stop 8 = .ok (.aload_n 0, 1) := by decide +kernel
theorem dX5_stop_9 : decode cX5_stop 9 = .ok (.bipush 40, 2) := by decide +kernel
theorem dX5_stop_11 : decode cX5_stop 11 = .ok (.iload_n 1, 1) := by decide +kernel
theorem dX5_stop_12 : decode cX5_stop 12 = .ok (.iload_n 2, 1) := by decide +kernel
theorem dX5_stop_13 : decode cX5_stop 13 = .ok (.invokevirtual 174, 3) := by decide +kernel
theorem dX5_stop_16 : decode cX5_stop 16 = .ok (.goto 4, 3) := by decide +kernel
theorem dX5_stop_19 : decode cX5_stop 19 = .ok (.iconst (-1), 1) := by decide +kernel
theorem dX5_stop_20 : decode cX5_stop 20 = .ok (.ireturn, 1) := by decide +kernel
theorem dX5_among_0 : decode cX5_among 0 = .ok (.aload_n 0, 1) := by decide +kernel
theorem dX5_among_1 : decode cX5_among 1 = .ok (.iload_n 1, 1) := by decide +kernel
theorem dX5_among_2 : decode cX5_among 2 = .ok (.invokevirtual 165, 3) := by decide +kernel
theorem dX5_among_5 : decode cX5_among 5 = .ok (.ifCond .eq 11, 3) := by decide +kernel
theorem dX5_among_8 : decode cX5_among 8 = .ok (.aload_n 0, 1) := by decide +kernel
theorem dX5_among_9 : decode cX5_among 9 = .ok (.iload_n 2, 1) := by decide +kernel
theorem dX5_among_10 : decode cX5_among 10 = .ok (.invokevirtual 171, 3) := by decide +kernel
theorem dX5_among_13 : decode cX5_among 13 = .ok (.ifCond .ne 5, 3) := by decide +kernel
theorem dX5_among_16 : decode cX5_among 16 = .ok (.iconst (-1), 1) := by decide +kernel
theorem dX5_among_17 : decode cX5_among 17 = .ok (.ireturn, 1) := by decide +kernel
theorem dX5_among_18 : decode cX5_among 18 = .ok (.bipush 6, 2) := by decide +kernel
theorem dX5_among_20 : decode cX5_among 20 = .ok (.iconst 4, 1) := by decide +kernel
theorem dX5_among_21 : decode cX5_among 21 = .ok (.iload_n 1, 1) := by decide +kernel
theorem dX5_among_22 : decode cX5_among 22 = .ok (.imul, 1) := by decide +kernel
theorem dX5_among_23 : decode cX5_among 23 = .ok (.iadd, 1) := by decide +kernel
theorem dX5_among_24 : decode cX5_among 24 = .ok (.istore 6, 2) := by decide +kernel
theorem dX5_among_26 : decode cX5_among 26 = .ok (.iload_n 3, 1) := by decide +kernel
theorem dX5_among_27 : decode cX5_among 27 = .ok (.ifCond .eq 26, 3) := by decide +kernel
theorem dX5_among_30 : decode cX5_among 30 = .ok (.aload_n 0, 1) := by decide +kernel
theorem dX5_among_31 : decode cX5_among 31 = .ok (.getfield 7, 3) := by decide +kernel
theorem dX5_among_34 : decode cX5_among 34 = .ok (.iload 6, 2) := by decide +kernel
theorem dX5_among_36 : decode cX5_among 36 = .ok (.iload 5, 2) := by decide +kernel
theorem dX5_among_38 : decode cX5_among 38 = .ok (.iadd, 1) := by decide +kernel
theorem dX5_among_39 : decode cX5_among 39 = .ok (.iaload, 1) := by decide +kernel
theorem dX5_among_40 : decode cX5_among 40 = .ok (.iload_n 2, 1) := by decide +kernel
theorem dX5_among_41 : decode cX5_among 41 = .ok (.ishr, 1) := by decide +kernel
theorem dX5_among_42 : decode cX5_among 42 = .ok (.iconst 1, 1) := by decide +kernel
theorem dX5_among_43 : decode cX5_among 43 = .ok (.iand, 1) := by decide +kernel
theorem dX5_among_44 : decode cX5_among 44 = .ok (.iconst 1, 1) := by decide +kernel
theorem dX5_among_45 : decode cX5_among 45 = .ok (.if_icmp .ne 8, 3) := by decide +kernel
theorem dX5_among_48 : decode cX5_among 48 = .ok (.bipush (-2), 2) := by decide +kernel
theorem dX5_among_50 : decode cX5_among 50 = .ok (.goto 14, 3) := by decide +kernel
theorem dX5_among_53 : decode cX5_among 53 = .ok (.aload_n 0, 1) := by decide +kernel
theorem dX5_among_54 : decode cX5_among 54 = .ok (.iload 6, 2) := by decide +kernel
theorem dX5_among_56 : decode cX5_among 56 = .ok (.iload 4, 2) := by decide +kernel
theorem dX5_among_58 : decode cX5_among 58 = .ok (.iadd, 1) := by decide +kernel
theorem dX5_among_59 : decode cX5_among 59 = .ok (.iload_n 2, 1) := by decide +kernel
theorem dX5_among_60 : decode cX5_among 60 = .ok (.iload_n 3, 1) := by decide +kernel
theorem dX5_among_61 : decode cX5_among 61 = .ok (.invokevirtual 174, 3) := by decide +kernel
theorem dX5_among_64 : decode cX5_among 64 = .ok (.ireturn, 1) := by decide +kernel
theorem dX5_need_0 : decode cX5_need 0 = .ok (.aload_n 0, 1) := by decide +kernel
theorem dX5_need_1 : decode cX5_need 1 = .ok (.iload_n 1, 1) := by decide +kernel
theorem dX5_need_2 : decode cX5_need 2 = .ok (.iload_n 2, 1) := by decide +kernel
theorem dX5_need_3 : decode cX5_need 3 = .ok (.iload_n 3, 1) := by decide +kernel
theorem dX5_need_4 : decode cX5_need 4 = .ok (.iconst 2, 1) := by decide +kernel
theorem dX5_need_5 : decode cX5_need 5 = .ok (.iconst 3, 1) := by decide +kernel
theorem dX5_need_6 : decode cX5_need 6 = .ok (.invokevirtual 185, 3) := by decide +kernel
theorem dX5_need_9 : decode cX5_need 9 = .ok (.ireturn, 1) := by decide +kernel
theorem dX5_bar_0 : decode cX5_bar 0 = .ok (.aload_n 0, 1) := by decide +kernel
theorem dX5_bar_1 : decode cX5_bar 1 = .ok (.iload_n 1, 1) := by decide +kernel
theorem dX5_bar_2 : decode cX5_bar 2 = .ok (.iload_n 2, 1) := by decide +kernel
theorem dX5_bar_3 : decode cX5_bar 3 = .ok (.iload_n 3, 1) := by decide +kernel
theorem dX5_bar_4 : decode cX5_bar 4 = .ok (.iconst 3, 1) := by decide +kernel
theorem dX5_bar_5 : decode cX5_bar 5 = .ok (.iconst 2, 1) := by decide +kernel
theorem dX5_bar_6 : decode cX5_bar 6 = .ok (.invokevirtual 185, 3) := by decide +kernel
theorem dX5_bar_9 : decode cX5_bar 9 = .ok (.ireturn, 1) := by decide +kernel
theorem dX5_pay_0 : decode cX5_pay 0 = .ok (.aload_n 0, 1) := by decide +kernel
theorem dX5_pay_1 : decode cX5_pay 1 = .ok (.iload_n 1, 1) := by decide +kernel
theorem dX5_pay_2 : decode cX5_pay 2 = .ok (.invokevirtual 171, 3) := by decide +kernel
theorem dX5_pay_5 : decode cX5_pay 5 = .ok (.ifCond .eq 17, 3) := by decide +kernel
theorem dX5_pay_8 : decode cX5_pay 8 = .ok (.iload_n 2, 1) := by decide +kernel
theorem dX5_pay_9 : decode cX5_pay 9 = .ok (.i2l, 1) := by decide +kernel
theorem dX5_pay_10 : decode cX5_pay 10 = .ok (.ldc2_w 189, 3) := by decide +kernel
theorem dX5_pay_13 : decode cX5_pay 13 = .ok (.ldc2_w 191, 3) := by decide +kernel
theorem dX5_pay_16 : decode cX5_pay 16 = .ok (.invokestatic 53, 3) := by decide +kernel
theorem dX5_pay_19 : decode cX5_pay 19 = .ok (.ifCond .ne 5, 3) := by decide +kernel
theorem dX5_pay_22 : decode cX5_pay 22 = .ok (.iconst (-1), 1) := by decide +kernel
theorem dX5_pay_23 : decode cX5_pay 23 = .ok (.ireturn, 1) := by decide +kernel
theorem dX5_pay_24 : decode cX5_pay 24 = .ok (.aload_n 0, 1) := by decide +kernel
theorem dX5_pay_25 : decode cX5_pay 25 = .ok (.getfield 7, 3) := by decide +kernel
theorem dX5_pay_28 : decode cX5_pay 28 = .ok (.iload_n 1, 1) := by decide +kernel
theorem dX5_pay_29 : decode cX5_pay 29 = .ok (.iaload, 1) := by decide +kernel
theorem dX5_pay_30 : decode cX5_pay 30 = .ok (.istore_n 3, 1) := by decide +kernel
theorem dX5_pay_31 : decode cX5_pay 31 = .ok (.aload_n 0, 1) := by decide +kernel
theorem dX5_pay_32 : decode cX5_pay 32 = .ok (.getfield 7, 3) := by decide +kernel
theorem dX5_pay_35 : decode cX5_pay 35 = .ok (.iload_n 1, 1) := by decide +kernel
theorem dX5_pay_36 : decode cX5_pay 36 = .ok (.iload_n 2, 1) := by decide +kernel
theorem dX5_pay_37 : decode cX5_pay 37 = .ok (.iastore, 1) := by decide +kernel
theorem dX5_pay_38 : decode cX5_pay 38 = .ok (.bipush 100, 2) := by decide +kernel
theorem dX5_pay_40 : decode cX5_pay 40 = .ok (.iload_n 3, 1) := by decide +kernel
theorem dX5_pay_41 : decode cX5_pay 41 = .ok (.iadd, 1) := by decide +kernel
theorem dX5_pay_42 : decode cX5_pay 42 = .ok (.ireturn, 1) := by decide +kernel
theorem dX5_cut_0 : decode cX5_cut 0 = .ok (.iload_n 1, 1) := by decide +kernel
theorem dX5_cut_1 : decode cX5_cut 1 = .ok (.i2l, 1) := by decide +kernel
theorem dX5_cut_2 : decode cX5_cut 2 = .ok (.lconst 0, 1) := by decide +kernel
theorem dX5_cut_3 : decode cX5_cut 3 = .ok (.aload_n 0, 1) := by decide +kernel
theorem dX5_cut_4 : decode cX5_cut 4 = .ok (.getfield 7, 3) := by decide +kernel
theorem dX5_cut_7 : decode cX5_cut 7 = .ok (.bipush 38, 2) := by decide +kernel
theorem dX5_cut_9 : decode cX5_cut 9 = .ok (.iaload, 1) := by decide +kernel
theorem dX5_cut_10 : decode cX5_cut 10 = .ok (.i2l, 1) := by decide +kernel
theorem dX5_cut_11 : decode cX5_cut 11 = .ok (.invokestatic 53, 3) := by decide +kernel
theorem dX5_cut_14 : decode cX5_cut 14 = .ok (.ifCond .ne 5, 3) := by decide +kernel
theorem dX5_cut_17 : decode cX5_cut 17 = .ok (.iconst (-1), 1) := by decide +kernel
theorem dX5_cut_18 : decode cX5_cut 18 = .ok (.ireturn, 1) := by decide +kernel
theorem dX5_cut_19 : decode cX5_cut 19 = .ok (.aload_n 0, 1) := by decide +kernel
theorem dX5_cut_20 : decode cX5_cut 20 = .ok (.getfield 7, 3) := by decide +kernel
theorem dX5_cut_23 : decode cX5_cut 23 = .ok (.bipush 38, 2) := by decide +kernel
theorem dX5_cut_25 : decode cX5_cut 25 = .ok (.iaload, 1) := by decide +kernel
theorem dX5_cut_26 : decode cX5_cut 26 = .ok (.istore_n 2, 1) := by decide +kernel
theorem dX5_cut_27 : decode cX5_cut 27 = .ok (.aload_n 0, 1) := by decide +kernel
theorem dX5_cut_28 : decode cX5_cut 28 = .ok (.getfield 7, 3) := by decide +kernel
theorem dX5_cut_31 : decode cX5_cut 31 = .ok (.bipush 38, 2) := by decide +kernel
theorem dX5_cut_33 : decode cX5_cut 33 = .ok (.iload_n 1, 1) := by decide +kernel
theorem dX5_cut_34 : decode cX5_cut 34 = .ok (.iastore, 1) := by decide +kernel
theorem dX5_cut_35 : decode cX5_cut 35 = .ok (.iload_n 2, 1) := by decide +kernel
theorem dX5_cut_36 : decode cX5_cut 36 = .ok (.ireturn, 1) := by decide +kernel
theorem dX5_brings_0 : decode cX5_brings 0 = .ok (.aload_n 0, 1) := by decide +kernel
theorem dX5_brings_1 : decode cX5_brings 1 = .ok (.iload_n 1, 1) := by decide +kernel
theorem dX5_brings_2 : decode cX5_brings 2 = .ok (.invokevirtual 193, 3) := by decide +kernel
theorem dX5_brings_5 : decode cX5_brings 5 = .ok (.ifCond .eq 11, 3) := by decide +kernel
theorem dX5_brings_8 : decode cX5_brings 8 = .ok (.aload_n 0, 1) := by decide +kernel
theorem dX5_brings_9 : decode cX5_brings 9 = .ok (.iload_n 1, 1) := by decide +kernel
theorem dX5_brings_10 : decode cX5_brings 10 = .ok (.invokevirtual 162, 3) := by decide +kernel
theorem dX5_brings_13 : decode cX5_brings 13 = .ok (.goto 4, 3) := by decide +kernel
theorem dX5_brings_16 : decode cX5_brings 16 = .ok (.iconst (-1), 1) := by decide +kernel
theorem dX5_brings_17 : decode cX5_brings 17 = .ok (.ireturn, 1) := by decide +kernel
theorem dX5_daysOn_0 : decode cX5_daysOn 0 = .ok (.iload_n 1, 1) := by decide +kernel
theorem dX5_daysOn_1 : decode cX5_daysOn 1 = .ok (.istore_n 3, 1) := by decide +kernel
theorem dX5_daysOn_2 : decode cX5_daysOn 2 = .ok (.iconst 0, 1) := by decide +kernel
theorem dX5_daysOn_3 : decode cX5_daysOn 3 = .ok (.istore 4, 2) := by decide +kernel
theorem dX5_daysOn_5 : decode cX5_daysOn 5 = .ok (.iload 4, 2) := by decide +kernel
theorem dX5_daysOn_7 : decode cX5_daysOn 7 = .ok (.iload_n 2, 1) := by decide +kernel
theorem dX5_daysOn_8 : decode cX5_daysOn 8 = .ok (.if_icmp .ge 15, 3) := by decide +kernel
theorem dX5_daysOn_11 : decode cX5_daysOn 11 = .ok (.aload_n 0, 1) := by decide +kernel
theorem dX5_daysOn_12 : decode cX5_daysOn 12 = .ok (.iload_n 3, 1) := by decide +kernel
theorem dX5_daysOn_13 : decode cX5_daysOn 13 = .ok (.invokevirtual 162, 3) := by decide +kernel
theorem dX5_daysOn_16 : decode cX5_daysOn 16 = .ok (.istore_n 3, 1) := by decide +kernel
theorem dX5_daysOn_17 : decode cX5_daysOn 17 = .ok (.iinc 4 1, 3) := by decide +kernel
theorem dX5_daysOn_20 : decode cX5_daysOn 20 = .ok (.goto (-15), 3) := by decide +kernel
theorem dX5_daysOn_23 : decode cX5_daysOn 23 = .ok (.iload_n 3, 1) := by decide +kernel
theorem dX5_daysOn_24 : decode cX5_daysOn 24 = .ok (.ireturn, 1) := by decide +kernel
theorem dX5_day_0 : decode cX5_day 0 = .ok (.iload_n 1, 1) := by decide +kernel
theorem dX5_day_1 : decode cX5_day 1 = .ok (.i2l, 1) := by decide +kernel
theorem dX5_day_2 : decode cX5_day 2 = .ok (.lconst 0, 1) := by decide +kernel
theorem dX5_day_3 : decode cX5_day 3 = .ok (.ldc2_w 196, 3) := by decide +kernel
theorem dX5_day_6 : decode cX5_day 6 = .ok (.invokestatic 53, 3) := by decide +kernel
theorem dX5_day_9 : decode cX5_day 9 = .ok (.ifCond .ne 5, 3) := by decide +kernel
theorem dX5_day_12 : decode cX5_day 12 = .ok (.iconst (-1), 1) := by decide +kernel
theorem dX5_day_13 : decode cX5_day 13 = .ok (.ireturn, 1) := by decide +kernel
theorem dX5_day_14 : decode cX5_day 14 = .ok (.aload_n 0, 1) := by decide +kernel
theorem dX5_day_15 : decode cX5_day 15 = .ok (.getfield 7, 3) := by decide +kernel
theorem dX5_day_18 : decode cX5_day 18 = .ok (.bipush 42, 2) := by decide +kernel
theorem dX5_day_20 : decode cX5_day 20 = .ok (.iaload, 1) := by decide +kernel
theorem dX5_day_21 : decode cX5_day 21 = .ok (.iload_n 1, 1) := by decide +kernel
theorem dX5_day_22 : decode cX5_day 22 = .ok (.iadd, 1) := by decide +kernel
theorem dX5_day_23 : decode cX5_day 23 = .ok (.sipush 999, 3) := by decide +kernel
theorem dX5_day_26 : decode cX5_day 26 = .ok (.if_icmp .le 6, 3) := by decide +kernel
theorem dX5_day_29 : decode cX5_day 29 = .ok (.bipush (-3), 2) := by decide +kernel
theorem dX5_day_31 : decode cX5_day 31 = .ok (.ireturn, 1) := by decide +kernel
theorem dX5_day_32 : decode cX5_day 32 = .ok (.aload_n 0, 1) := by decide +kernel
theorem dX5_day_33 : decode cX5_day 33 = .ok (.getfield 7, 3) := by decide +kernel
theorem dX5_day_36 : decode cX5_day 36 = .ok (.bipush 41, 2) := by decide +kernel
theorem dX5_day_38 : decode cX5_day 38 = .ok (.aload_n 0, 1) := by decide +kernel
theorem dX5_day_39 : decode cX5_day 39 = .ok (.aload_n 0, 1) := by decide +kernel
theorem dX5_day_40 : decode cX5_day 40 = .ok (.getfield 7, 3) := by decide +kernel
theorem dX5_day_43 : decode cX5_day 43 = .ok (.bipush 41, 2) := by decide +kernel
theorem dX5_day_45 : decode cX5_day 45 = .ok (.iaload, 1) := by decide +kernel
theorem dX5_day_46 : decode cX5_day 46 = .ok (.iload_n 1, 1) := by decide +kernel
theorem dX5_day_47 : decode cX5_day 47 = .ok (.invokevirtual 198, 3) := by decide +kernel
theorem dX5_day_50 : decode cX5_day 50 = .ok (.iastore, 1) := by decide +kernel
theorem dX5_day_51 : decode cX5_day 51 = .ok (.aload_n 0, 1) := by decide +kernel
theorem dX5_day_52 : decode cX5_day 52 = .ok (.getfield 7, 3) := by decide +kernel
theorem dX5_day_55 : decode cX5_day 55 = .ok (.bipush 42, 2) := by decide +kernel
theorem dX5_day_57 : decode cX5_day 57 = .ok (.dup2, 1) := by decide +kernel
theorem dX5_day_58 : decode cX5_day 58 = .ok (.iaload, 1) := by decide +kernel
theorem dX5_day_59 : decode cX5_day 59 = .ok (.iload_n 1, 1) := by decide +kernel
theorem dX5_day_60 : decode cX5_day 60 = .ok (.iadd, 1) := by decide +kernel
theorem dX5_day_61 : decode cX5_day 61 = .ok (.iastore, 1) := by decide +kernel
theorem dX5_day_62 : decode cX5_day 62 = .ok (.aload_n 0, 1) := by decide +kernel
theorem dX5_day_63 : decode cX5_day 63 = .ok (.getfield 7, 3) := by decide +kernel
theorem dX5_day_66 : decode cX5_day 66 = .ok (.bipush 41, 2) := by decide +kernel
theorem dX5_day_68 : decode cX5_day 68 = .ok (.iaload, 1) := by decide +kernel
theorem dX5_day_69 : decode cX5_day 69 = .ok (.ireturn, 1) := by decide +kernel
theorem dX5_comesAgain_0 : decode cX5_comesAgain 0 = .ok (.iload_n 1, 1) := by decide +kernel
theorem dX5_comesAgain_1 : decode cX5_comesAgain 1 = .ok (.istore_n 2, 1) := by decide +kernel
theorem dX5_comesAgain_2 : decode cX5_comesAgain 2 = .ok (.iconst 1, 1) := by decide +kernel
theorem dX5_comesAgain_3 : decode cX5_comesAgain 3 = .ok (.istore_n 3, 1) := by decide +kernel
theorem dX5_comesAgain_4 : decode cX5_comesAgain 4 = .ok (.iload_n 3, 1) := by decide +kernel
theorem dX5_comesAgain_5 : decode cX5_comesAgain 5 = .ok (.aload_n 0, 1) := by decide +kernel
theorem dX5_comesAgain_6 : decode cX5_comesAgain 6 = .ok (.invokevirtual 150, 3) := by decide +kernel
theorem dX5_comesAgain_9 : decode cX5_comesAgain 9 = .ok (.if_icmp .gt 22, 3) := by decide +kernel
theorem dX5_comesAgain_12 : decode cX5_comesAgain 12 = .ok (.aload_n 0, 1) := by decide +kernel
theorem dX5_comesAgain_13 : decode cX5_comesAgain 13 = .ok (.iload_n 2, 1) := by decide +kernel
theorem dX5_comesAgain_14 : decode cX5_comesAgain 14 = .ok (.invokevirtual 162, 3) := by decide +kernel
theorem dX5_comesAgain_17 : decode cX5_comesAgain 17 = .ok (.istore_n 2, 1) := by decide +kernel
theorem dX5_comesAgain_18 : decode cX5_comesAgain 18 = .ok (.iload_n 2, 1) := by decide +kernel
theorem dX5_comesAgain_19 : decode cX5_comesAgain 19 = .ok (.iload_n 1, 1) := by decide +kernel
theorem dX5_comesAgain_20 : decode cX5_comesAgain 20 = .ok (.if_icmp .ne 5, 3) := by decide +kernel
theorem dX5_comesAgain_23 : decode cX5_comesAgain 23 = .ok (.iload_n 3, 1) := by decide +kernel
theorem dX5_comesAgain_24 : decode cX5_comesAgain 24 = .ok (.ireturn, 1) := by decide +kernel
theorem dX5_comesAgain_25 : decode cX5_comesAgain 25 = .ok (.iinc 3 1, 3) := by decide +kernel
theorem dX5_comesAgain_28 : decode cX5_comesAgain 28 = .ok (.goto (-24), 3) := by decide +kernel
theorem dX5_comesAgain_31 : decode cX5_comesAgain 31 = .ok (.bipush (-4), 2) := by decide +kernel
theorem dX5_comesAgain_33 : decode cX5_comesAgain 33 = .ok (.ireturn, 1) := by decide +kernel
theorem dX5_round_0 : decode cX5_round 0 = .ok (.aload_n 0, 1) := by decide +kernel
theorem dX5_round_1 : decode cX5_round 1 = .ok (.iload_n 1, 1) := by decide +kernel
theorem dX5_round_2 : decode cX5_round 2 = .ok (.invokevirtual 193, 3) := by decide +kernel
theorem dX5_round_5 : decode cX5_round 5 = .ok (.ifCond .eq 13, 3) := by decide +kernel
theorem dX5_round_8 : decode cX5_round 8 = .ok (.iload_n 2, 1) := by decide +kernel
theorem dX5_round_9 : decode cX5_round 9 = .ok (.i2l, 1) := by decide +kernel
theorem dX5_round_10 : decode cX5_round 10 = .ok (.lconst 0, 1) := by decide +kernel
theorem dX5_round_11 : decode cX5_round 11 = .ok (.lconst 1, 1) := by decide +kernel
theorem dX5_round_12 : decode cX5_round 12 = .ok (.invokestatic 53, 3) := by decide +kernel
theorem dX5_round_15 : decode cX5_round 15 = .ok (.ifCond .ne 5, 3) := by decide +kernel
theorem dX5_round_18 : decode cX5_round 18 = .ok (.iconst (-1), 1) := by decide +kernel
theorem dX5_round_19 : decode cX5_round 19 = .ok (.ireturn, 1) := by decide +kernel
theorem dX5_round_20 : decode cX5_round 20 = .ok (.iconst 0, 1) := by decide +kernel
theorem dX5_round_21 : decode cX5_round 21 = .ok (.istore_n 3, 1) := by decide +kernel
theorem dX5_round_22 : decode cX5_round 22 = .ok (.iload_n 1, 1) := by decide +kernel
theorem dX5_round_23 : decode cX5_round 23 = .ok (.istore 4, 2) := by decide +kernel
theorem dX5_round_25 : decode cX5_round 25 = .ok (.aload_n 0, 1) := by decide +kernel
theorem dX5_round_26 : decode cX5_round 26 = .ok (.iload 4, 2) := by decide +kernel
theorem dX5_round_28 : decode cX5_round 28 = .ok (.invokevirtual 202, 3) := by decide +kernel
theorem dX5_round_31 : decode cX5_round 31 = .ok (.bipush (-4), 2) := by decide +kernel
theorem dX5_round_33 : decode cX5_round 33 = .ok (.if_icmp .ne 17, 3) := by decide +kernel
theorem dX5_round_36 : decode cX5_round 36 = .ok (.aload_n 0, 1) := by decide +kernel
theorem dX5_round_37 : decode cX5_round 37 = .ok (.iload 4, 2) := by decide +kernel
theorem dX5_round_39 : decode cX5_round 39 = .ok (.invokevirtual 162, 3) := by decide +kernel
theorem dX5_round_42 : decode cX5_round 42 = .ok (.istore 4, 2) := by decide +kernel
theorem dX5_round_44 : decode cX5_round 44 = .ok (.iinc 3 1, 3) := by decide +kernel
theorem dX5_round_47 : decode cX5_round 47 = .ok (.goto (-22), 3) := by decide +kernel
theorem dX5_round_50 : decode cX5_round 50 = .ok (.iload_n 2, 1) := by decide +kernel
theorem dX5_round_51 : decode cX5_round 51 = .ok (.ifCond .ne 7, 3) := by decide +kernel
theorem dX5_round_54 : decode cX5_round 54 = .ok (.iload_n 3, 1) := by decide +kernel
theorem dX5_round_55 : decode cX5_round 55 = .ok (.goto 9, 3) := by decide +kernel
theorem dX5_round_58 : decode cX5_round 58 = .ok (.aload_n 0, 1) := by decide +kernel
theorem dX5_round_59 : decode cX5_round 59 = .ok (.iload 4, 2) := by decide +kernel
theorem dX5_round_61 : decode cX5_round 61 = .ok (.invokevirtual 202, 3) := by decide +kernel
theorem dX5_round_64 : decode cX5_round 64 = .ok (.ireturn, 1) := by decide +kernel
theorem dX5_agreeing_0 : decode cX5_agreeing 0 = .ok (.iconst 0, 1) := by decide +kernel
theorem dX5_agreeing_1 : decode cX5_agreeing 1 = .ok (.istore_n 1, 1) := by decide +kernel
theorem dX5_agreeing_2 : decode cX5_agreeing 2 = .ok (.iconst 0, 1) := by decide +kernel
theorem dX5_agreeing_3 : decode cX5_agreeing 3 = .ok (.istore_n 2, 1) := by decide +kernel
theorem dX5_agreeing_4 : decode cX5_agreeing 4 = .ok (.iload_n 2, 1) := by decide +kernel
theorem dX5_agreeing_5 : decode cX5_agreeing 5 = .ok (.aload_n 0, 1) := by decide +kernel
theorem dX5_agreeing_6 : decode cX5_agreeing 6 = .ok (.invokevirtual 150, 3) := by decide +kernel
theorem dX5_agreeing_9 : decode cX5_agreeing 9 = .ok (.if_icmp .ge 25, 3) := by decide +kernel
theorem dX5_agreeing_12 : decode cX5_agreeing 12 = .ok (.iload_n 1, 1) := by decide +kernel
theorem dX5_agreeing_13 : decode cX5_agreeing 13 = .ok (.aload_n 0, 1) := by decide +kernel
theorem dX5_agreeing_14 : decode cX5_agreeing 14 = .ok (.iload_n 2, 1) := by decide +kernel
theorem dX5_agreeing_15 : decode cX5_agreeing 15 = .ok (.invokevirtual 205, 3) := by decide +kernel
theorem dX5_agreeing_18 : decode cX5_agreeing 18 = .ok (.ifCond .eq 7, 3) := by decide +kernel
theorem dX5_agreeing_21 : decode cX5_agreeing 21 = .ok (.iconst 1, 1) := by decide +kernel
theorem dX5_agreeing_22 : decode cX5_agreeing 22 = .ok (.goto 4, 3) := by decide +kernel
theorem dX5_agreeing_25 : decode cX5_agreeing 25 = .ok (.iconst 0, 1) := by decide +kernel
theorem dX5_agreeing_26 : decode cX5_agreeing 26 = .ok (.iadd, 1) := by decide +kernel
theorem dX5_agreeing_27 : decode cX5_agreeing 27 = .ok (.istore_n 1, 1) := by decide +kernel
theorem dX5_agreeing_28 : decode cX5_agreeing 28 = .ok (.iinc 2 1, 3) := by decide +kernel
theorem dX5_agreeing_31 : decode cX5_agreeing 31 = .ok (.goto (-27), 3) := by decide +kernel
theorem dX5_agreeing_34 : decode cX5_agreeing 34 = .ok (.iload_n 1, 1) := by decide +kernel
theorem dX5_agreeing_35 : decode cX5_agreeing 35 = .ok (.ireturn, 1) := by decide +kernel
theorem dX5_days_0 : decode cX5_days 0 = .ok (.iload_n 1, 1) := by decide +kernel
theorem dX5_days_1 : decode cX5_days 1 = .ok (.i2l, 1) := by decide +kernel
theorem dX5_days_2 : decode cX5_days 2 = .ok (.lconst 0, 1) := by decide +kernel
theorem dX5_days_3 : decode cX5_days 3 = .ok (.ldc2_w 169, 3) := by decide +kernel
theorem dX5_days_6 : decode cX5_days 6 = .ok (.invokestatic 53, 3) := by decide +kernel
theorem dX5_days_9 : decode cX5_days 9 = .ok (.ifCond .ne 5, 3) := by decide +kernel
theorem dX5_days_12 : decode cX5_days 12 = .ok (.iconst (-1), 1) := by decide +kernel
theorem dX5_days_13 : decode cX5_days 13 = .ok (.ireturn, 1) := by decide +kernel
theorem dX5_days_14 : decode cX5_days 14 = .ok (.iconst 0, 1) := by decide +kernel
theorem dX5_days_15 : decode cX5_days 15 = .ok (.istore_n 2, 1) := by decide +kernel
theorem dX5_days_16 : decode cX5_days 16 = .ok (.bipush (-4), 2) := by decide +kernel
theorem dX5_days_18 : decode cX5_days 18 = .ok (.istore_n 3, 1) := by decide +kernel
theorem dX5_days_19 : decode cX5_days 19 = .ok (.bipush (-4), 2) := by decide +kernel
theorem dX5_days_21 : decode cX5_days 21 = .ok (.istore 4, 2) := by decide +kernel
theorem dX5_days_23 : decode cX5_days 23 = .ok (.aload_n 0, 1) := by decide +kernel
theorem dX5_days_24 : decode cX5_days 24 = .ok (.invokevirtual 150, 3) := by decide +kernel
theorem dX5_days_27 : decode cX5_days 27 = .ok (.iconst 1, 1) := by decide +kernel
theorem dX5_days_28 : decode cX5_days 28 = .ok (.isub, 1) := by decide +kernel
theorem dX5_days_29 : decode cX5_days 29 = .ok (.istore 5, 2) := by decide +kernel
theorem dX5_days_31 : decode cX5_days 31 = .ok (.aload_n 0, 1) := by decide +kernel
theorem dX5_days_32 : decode cX5_days 32 = .ok (.invokevirtual 150, 3) := by decide +kernel
theorem dX5_days_35 : decode cX5_days 35 = .ok (.iconst 1, 1) := by decide +kernel
theorem dX5_days_36 : decode cX5_days 36 = .ok (.isub, 1) := by decide +kernel
theorem dX5_days_37 : decode cX5_days 37 = .ok (.istore 6, 2) := by decide +kernel
theorem dX5_days_39 : decode cX5_days 39 = .ok (.iconst 0, 1) := by decide +kernel
theorem dX5_days_40 : decode cX5_days 40 = .ok (.istore 7, 2) := by decide +kernel
theorem dX5_days_42 : decode cX5_days 42 = .ok (.iload 7, 2) := by decide +kernel
theorem dX5_days_44 : decode cX5_days 44 = .ok (.aload_n 0, 1) := by decide +kernel
theorem dX5_days_45 : decode cX5_days 45 = .ok (.invokevirtual 150, 3) := by decide +kernel
theorem dX5_days_48 : decode cX5_days 48 = .ok (.if_icmp .ge 52, 3) := by decide +kernel
theorem dX5_days_51 : decode cX5_days 51 = .ok (.aload_n 0, 1) := by decide +kernel
theorem dX5_days_52 : decode cX5_days 52 = .ok (.iload 7, 2) := by decide +kernel
theorem dX5_days_54 : decode cX5_days 54 = .ok (.invokevirtual 205, 3) := by decide +kernel
theorem dX5_days_57 : decode cX5_days 57 = .ok (.ifCond .eq 37, 3) := by decide +kernel
theorem dX5_days_60 : decode cX5_days 60 = .ok (.iload_n 2, 1) := by decide +kernel
theorem dX5_days_61 : decode cX5_days 61 = .ok (.ifCond .ne 8, 3) := by decide +kernel
theorem dX5_days_64 : decode cX5_days 64 = .ok (.iload 7, 2) := by decide +kernel
theorem dX5_days_66 : decode cX5_days 66 = .ok (.goto 4, 3) := by decide +kernel
theorem dX5_days_69 : decode cX5_days 69 = .ok (.iload_n 3, 1) := by decide +kernel
theorem dX5_days_70 : decode cX5_days 70 = .ok (.istore_n 3, 1) := by decide +kernel
theorem dX5_days_71 : decode cX5_days 71 = .ok (.iload 7, 2) := by decide +kernel
theorem dX5_days_73 : decode cX5_days 73 = .ok (.istore 4, 2) := by decide +kernel
theorem dX5_days_75 : decode cX5_days 75 = .ok (.iload 5, 2) := by decide +kernel
theorem dX5_days_77 : decode cX5_days 77 = .ok (.iload 7, 2) := by decide +kernel
theorem dX5_days_79 : decode cX5_days 79 = .ok (.iand, 1) := by decide +kernel
theorem dX5_days_80 : decode cX5_days 80 = .ok (.istore 5, 2) := by decide +kernel
theorem dX5_days_82 : decode cX5_days 82 = .ok (.iload 6, 2) := by decide +kernel
theorem dX5_days_84 : decode cX5_days 84 = .ok (.iload 7, 2) := by decide +kernel
theorem dX5_days_86 : decode cX5_days 86 = .ok (.iconst (-1), 1) := by decide +kernel
theorem dX5_days_87 : decode cX5_days 87 = .ok (.ixor, 1) := by decide +kernel
theorem dX5_days_88 : decode cX5_days 88 = .ok (.iand, 1) := by decide +kernel
theorem dX5_days_89 : decode cX5_days 89 = .ok (.istore 6, 2) := by decide +kernel
theorem dX5_days_91 : decode cX5_days 91 = .ok (.iinc 2 1, 3) := by decide +kernel
theorem dX5_days_94 : decode cX5_days 94 = .ok (.iinc 7 1, 3) := by decide +kernel
theorem dX5_days_97 : decode cX5_days 97 = .ok (.goto (-55), 3) := by decide +kernel
theorem dX5_days_100 : decode cX5_days 100 = .ok (.iload_n 1, 1) := by decide +kernel
theorem dX5_days_101 : decode cX5_days 101 = .ok (.ifCond .eq 7, 3) := by decide +kernel
theorem dX5_days_104 : decode cX5_days 104 = .ok (.iload_n 2, 1) := by decide +kernel
theorem dX5_days_105 : decode cX5_days 105 = .ok (.ifCond .ne 14, 3) := by decide +kernel
theorem dX5_days_108 : decode cX5_days 108 = .ok (.iload_n 1, 1) := by decide +kernel
theorem dX5_days_109 : decode cX5_days 109 = .ok (.ifCond .ne 7, 3) := by decide +kernel
theorem dX5_days_112 : decode cX5_days 112 = .ok (.iload_n 2, 1) := by decide +kernel
theorem dX5_days_113 : decode cX5_days 113 = .ok (.goto 5, 3) := by decide +kernel
theorem dX5_days_116 : decode cX5_days 116 = .ok (.bipush (-4), 2) := by decide +kernel
theorem dX5_days_118 : decode cX5_days 118 = .ok (.ireturn, 1) := by decide +kernel
theorem dX5_days_119 : decode cX5_days 119 = .ok (.iload_n 1, 1) := by decide +kernel
theorem dX5_days_120 : decode cX5_days 120 = .ok (.iconst 1, 1) := by decide +kernel
theorem dX5_days_121 : decode cX5_days 121 = .ok (.if_icmp .ne 7, 3) := by decide +kernel
theorem dX5_days_124 : decode cX5_days 124 = .ok (.iload_n 3, 1) := by decide +kernel
theorem dX5_days_125 : decode cX5_days 125 = .ok (.goto 25, 3) := by decide +kernel
theorem dX5_days_128 : decode cX5_days 128 = .ok (.iload_n 1, 1) := by decide +kernel
theorem dX5_days_129 : decode cX5_days 129 = .ok (.iconst 2, 1) := by decide +kernel
theorem dX5_days_130 : decode cX5_days 130 = .ok (.if_icmp .ne 8, 3) := by decide +kernel
theorem dX5_days_133 : decode cX5_days 133 = .ok (.iload 4, 2) := by decide +kernel
theorem dX5_days_135 : decode cX5_days 135 = .ok (.goto 15, 3) := by decide +kernel
theorem dX5_days_138 : decode cX5_days 138 = .ok (.iload_n 1, 1) := by decide +kernel
theorem dX5_days_139 : decode cX5_days 139 = .ok (.iconst 3, 1) := by decide +kernel
theorem dX5_days_140 : decode cX5_days 140 = .ok (.if_icmp .ne 8, 3) := by decide +kernel
theorem dX5_days_143 : decode cX5_days 143 = .ok (.iload 5, 2) := by decide +kernel
theorem dX5_days_145 : decode cX5_days 145 = .ok (.goto 5, 3) := by decide +kernel
theorem dX5_days_148 : decode cX5_days 148 = .ok (.iload 6, 2) := by decide +kernel
theorem dX5_days_150 : decode cX5_days 150 = .ok (.ireturn, 1) := by decide +kernel
theorem dX5_canBy_0 : decode cX5_canBy 0 = .ok (.aload_n 0, 1) := by decide +kernel
theorem dX5_canBy_1 : decode cX5_canBy 1 = .ok (.iconst 1, 1) := by decide +kernel
theorem dX5_canBy_2 : decode cX5_canBy 2 = .ok (.iload_n 1, 1) := by decide +kernel
theorem dX5_canBy_3 : decode cX5_canBy 3 = .ok (.ishl, 1) := by decide +kernel
theorem dX5_canBy_4 : decode cX5_canBy 4 = .ok (.iconst 1, 1) := by decide +kernel
theorem dX5_canBy_5 : decode cX5_canBy 5 = .ok (.isub, 1) := by decide +kernel
theorem dX5_canBy_6 : decode cX5_canBy 6 = .ok (.putfield 20, 3) := by decide +kernel
theorem dX5_canBy_9 : decode cX5_canBy 9 = .ok (.aload_n 0, 1) := by decide +kernel
theorem dX5_canBy_10 : decode cX5_canBy 10 = .ok (.invokevirtual 208, 3) := by decide +kernel
theorem dX5_canBy_13 : decode cX5_canBy 13 = .ok (.ifCond .le 7, 3) := by decide +kernel
theorem dX5_canBy_16 : decode cX5_canBy 16 = .ok (.iconst 1, 1) := by decide +kernel
theorem dX5_canBy_17 : decode cX5_canBy 17 = .ok (.goto 4, 3) := by decide +kernel
theorem dX5_canBy_20 : decode cX5_canBy 20 = .ok (.iconst 0, 1) := by decide +kernel
theorem dX5_canBy_21 : decode cX5_canBy 21 = .ok (.istore_n 2, 1) := by decide +kernel
theorem dX5_canBy_22 : decode cX5_canBy 22 = .ok (.aload_n 0, 1) := by decide +kernel
theorem dX5_canBy_23 : decode cX5_canBy 23 = .ok (.sipush 255, 3) := by decide +kernel
theorem dX5_canBy_26 : decode cX5_canBy 26 = .ok (.putfield 20, 3) := by decide +kernel
theorem dX5_canBy_29 : decode cX5_canBy 29 = .ok (.iload_n 2, 1) := by decide +kernel
theorem dX5_canBy_30 : decode cX5_canBy 30 = .ok (.ireturn, 1) := by decide +kernel
theorem dX5_first_0 : decode cX5_first 0 = .ok (.iconst 0, 1) := by decide +kernel
theorem dX5_first_1 : decode cX5_first 1 = .ok (.istore_n 1, 1) := by decide +kernel
theorem dX5_first_2 : decode cX5_first 2 = .ok (.iload_n 1, 1) := by decide +kernel
theorem dX5_first_3 : decode cX5_first 3 = .ok (.aload_n 0, 1) := by decide +kernel
theorem dX5_first_4 : decode cX5_first 4 = .ok (.getfield 7, 3) := by decide +kernel
theorem dX5_first_7 : decode cX5_first 7 = .ok (.bipush 38, 2) := by decide +kernel
theorem dX5_first_9 : decode cX5_first 9 = .ok (.iaload, 1) := by decide +kernel
theorem dX5_first_10 : decode cX5_first 10 = .ok (.if_icmp .gt 19, 3) := by decide +kernel
theorem dX5_first_13 : decode cX5_first 13 = .ok (.aload_n 0, 1) := by decide +kernel
theorem dX5_first_14 : decode cX5_first 14 = .ok (.iload_n 1, 1) := by decide +kernel
theorem dX5_first_15 : decode cX5_first 15 = .ok (.invokevirtual 211, 3) := by decide +kernel
theorem dX5_first_18 : decode cX5_first 18 = .ok (.ifCond .ne 5, 3) := by decide +kernel
theorem dX5_first_21 : decode cX5_first 21 = .ok (.iload_n 1, 1) := by decide +kernel
theorem dX5_first_22 : decode cX5_first 22 = .ok (.ireturn, 1) := by decide +kernel
theorem dX5_first_23 : decode cX5_first 23 = .ok (.iinc 1 1, 3) := by decide +kernel
theorem dX5_first_26 : decode cX5_first 26 = .ok (.goto (-24), 3) := by decide +kernel
theorem dX5_first_29 : decode cX5_first 29 = .ok (.bipush (-4), 2) := by decide +kernel
theorem dX5_first_31 : decode cX5_first 31 = .ok (.ireturn, 1) := by decide +kernel
theorem dX5_less_0 : decode cX5_less 0 = .ok (.iconst 0, 1) := by decide +kernel
theorem dX5_less_1 : decode cX5_less 1 = .ok (.istore_n 1, 1) := by decide +kernel
theorem dX5_less_2 : decode cX5_less 2 = .ok (.aload_n 0, 1) := by decide +kernel
theorem dX5_less_3 : decode cX5_less 3 = .ok (.aload_n 0, 1) := by decide +kernel
theorem dX5_less_4 : decode cX5_less 4 = .ok (.getfield 7, 3) := by decide +kernel
theorem dX5_less_7 : decode cX5_less 7 = .ok (.bipush 38, 2) := by decide +kernel
theorem dX5_less_9 : decode cX5_less 9 = .ok (.iaload, 1) := by decide +kernel
theorem dX5_less_10 : decode cX5_less 10 = .ok (.iload_n 1, 1) := by decide +kernel
theorem dX5_less_11 : decode cX5_less 11 = .ok (.isub, 1) := by decide +kernel
theorem dX5_less_12 : decode cX5_less 12 = .ok (.invokevirtual 211, 3) := by decide +kernel
theorem dX5_less_15 : decode cX5_less 15 = .ok (.ifCond .ne 9, 3) := by decide +kernel
theorem dX5_less_18 : decode cX5_less 18 = .ok (.iinc 1 1, 3) := by decide +kernel
theorem dX5_less_21 : decode cX5_less 21 = .ok (.goto (-19), 3) := by decide +kernel
theorem dX5_less_24 : decode cX5_less 24 = .ok (.iload_n 1, 1) := by decide +kernel
theorem dX5_less_25 : decode cX5_less 25 = .ok (.ireturn, 1) := by decide +kernel
theorem dX5_begun_0 : decode cX5_begun 0 = .ok (.iconst 0, 1) := by decide +kernel
theorem dX5_begun_1 : decode cX5_begun 1 = .ok (.istore_n 2, 1) := by decide +kernel
theorem dX5_begun_2 : decode cX5_begun 2 = .ok (.iconst 0, 1) := by decide +kernel
theorem dX5_begun_3 : decode cX5_begun 3 = .ok (.istore_n 3, 1) := by decide +kernel
theorem dX5_begun_4 : decode cX5_begun 4 = .ok (.iload_n 3, 1) := by decide +kernel
theorem dX5_begun_5 : decode cX5_begun 5 = .ok (.bipush 6, 2) := by decide +kernel
theorem dX5_begun_7 : decode cX5_begun 7 = .ok (.if_icmp .ge 100, 3) := by decide +kernel
theorem dX5_begun_10 : decode cX5_begun 10 = .ok (.iconst 0, 1) := by decide +kernel
theorem dX5_begun_11 : decode cX5_begun 11 = .ok (.istore 4, 2) := by decide +kernel
theorem dX5_begun_13 : decode cX5_begun 13 = .ok (.iload 4, 2) := by decide +kernel
theorem dX5_begun_15 : decode cX5_begun 15 = .ok (.aload_n 0, 1) := by decide +kernel
theorem dX5_begun_16 : decode cX5_begun 16 = .ok (.getfield 7, 3) := by decide +kernel
theorem dX5_begun_19 : decode cX5_begun 19 = .ok (.bipush 38, 2) := by decide +kernel
theorem dX5_begun_21 : decode cX5_begun 21 = .ok (.iaload, 1) := by decide +kernel
theorem dX5_begun_22 : decode cX5_begun 22 = .ok (.if_icmp .ge 79, 3) := by decide +kernel
theorem dX5_begun_25 : decode cX5_begun 25 = .ok (.aload_n 0, 1) := by decide +kernel
theorem dX5_begun_26 : decode cX5_begun 26 = .ok (.iload 4, 2) := by decide +kernel
theorem dX5_begun_28 : decode cX5_begun 28 = .ok (.iload_n 1, 1) := by decide +kernel
theorem dX5_begun_29 : decode cX5_begun 29 = .ok (.invokevirtual 155, 3) := by decide +kernel
theorem dX5_begun_32 : decode cX5_begun 32 = .ok (.ifCond .eq 28, 3) := by decide +kernel
theorem dX5_begun_35 : decode cX5_begun 35 = .ok (.aload_n 0, 1) := by decide +kernel
theorem dX5_begun_36 : decode cX5_begun 36 = .ok (.getfield 7, 3) := by decide +kernel
theorem dX5_begun_39 : decode cX5_begun 39 = .ok (.bipush 6, 2) := by decide +kernel
theorem dX5_begun_41 : decode cX5_begun 41 = .ok (.iconst 4, 1) := by decide +kernel
theorem dX5_begun_42 : decode cX5_begun 42 = .ok (.iload 4, 2) := by decide +kernel
theorem dX5_begun_44 : decode cX5_begun 44 = .ok (.imul, 1) := by decide +kernel
theorem dX5_begun_45 : decode cX5_begun 45 = .ok (.iadd, 1) := by decide +kernel
theorem dX5_begun_46 : decode cX5_begun 46 = .ok (.iconst 2, 1) := by decide +kernel
theorem dX5_begun_47 : decode cX5_begun 47 = .ok (.iadd, 1) := by decide +kernel
theorem dX5_begun_48 : decode cX5_begun 48 = .ok (.iaload, 1) := by decide +kernel
theorem dX5_begun_49 : decode cX5_begun 49 = .ok (.iload_n 2, 1) := by decide +kernel
theorem dX5_begun_50 : decode cX5_begun 50 = .ok (.iconst (-1), 1) := by decide +kernel
theorem dX5_begun_51 : decode cX5_begun 51 = .ok (.ixor, 1) := by decide +kernel
theorem dX5_begun_52 : decode cX5_begun 52 = .ok (.iand, 1) := by decide +kernel
theorem dX5_begun_53 : decode cX5_begun 53 = .ok (.ifCond .ne 7, 3) := by decide +kernel
theorem dX5_begun_56 : decode cX5_begun 56 = .ok (.iconst 1, 1) := by decide +kernel
theorem dX5_begun_57 : decode cX5_begun 57 = .ok (.goto 4, 3) := by decide +kernel
theorem dX5_begun_60 : decode cX5_begun 60 = .ok (.iconst 0, 1) := by decide +kernel
theorem dX5_begun_61 : decode cX5_begun 61 = .ok (.istore 5, 2) := by decide +kernel
theorem dX5_begun_63 : decode cX5_begun 63 = .ok (.iload_n 2, 1) := by decide +kernel
theorem dX5_begun_64 : decode cX5_begun 64 = .ok (.iload 5, 2) := by decide +kernel
theorem dX5_begun_66 : decode cX5_begun 66 = .ok (.ifCond .eq 26, 3) := by decide +kernel
theorem dX5_begun_69 : decode cX5_begun 69 = .ok (.iconst 1, 1) := by decide +kernel
theorem dX5_begun_70 : decode cX5_begun 70 = .ok (.aload_n 0, 1) := by decide +kernel
theorem dX5_begun_71 : decode cX5_begun 71 = .ok (.iload 4, 2) := by decide +kernel
theorem dX5_begun_73 : decode cX5_begun 73 = .ok (.invokevirtual 159, 3) := by decide +kernel
theorem dX5_begun_76 : decode cX5_begun 76 = .ok (.ishl, 1) := by decide +kernel
theorem dX5_begun_77 : decode cX5_begun 77 = .ok (.iload_n 1, 1) := by decide +kernel
theorem dX5_begun_78 : decode cX5_begun 78 = .ok (.iand, 1) := by decide +kernel
theorem dX5_begun_79 : decode cX5_begun 79 = .ok (.aload_n 0, 1) := by decide +kernel
theorem dX5_begun_80 : decode cX5_begun 80 = .ok (.getfield 7, 3) := by decide +kernel
theorem dX5_begun_83 : decode cX5_begun 83 = .ok (.bipush 40, 2) := by decide +kernel
theorem dX5_begun_85 : decode cX5_begun 85 = .ok (.iaload, 1) := by decide +kernel
theorem dX5_begun_86 : decode cX5_begun 86 = .ok (.iconst (-1), 1) := by decide +kernel
theorem dX5_begun_87 : decode cX5_begun 87 = .ok (.ixor, 1) := by decide +kernel
theorem dX5_begun_88 : decode cX5_begun 88 = .ok (.iand, 1) := by decide +kernel
theorem dX5_begun_89 : decode cX5_begun 89 = .ok (.goto 4, 3) := by decide +kernel
theorem dX5_begun_92 : decode cX5_begun 92 = .ok (.iconst 0, 1) := by decide +kernel
theorem dX5_begun_93 : decode cX5_begun 93 = .ok (.ior, 1) := by decide +kernel
theorem dX5_begun_94 : decode cX5_begun 94 = .ok (.istore_n 2, 1) := by decide +kernel
theorem dX5_begun_95 : decode cX5_begun 95 = .ok (.iinc 4 1, 3) := by decide +kernel
theorem dX5_begun_98 : decode cX5_begun 98 = .ok (.goto (-85), 3) := by decide +kernel
theorem dX5_begun_101 : decode cX5_begun 101 = .ok (.iinc 3 1, 3) := by decide +kernel
theorem dX5_begun_104 : decode cX5_begun 104 = .ok (.goto (-100), 3) := by decide +kernel
theorem dX5_begun_107 : decode cX5_begun 107 = .ok (.iload_n 2, 1) := by decide +kernel
theorem dX5_begun_108 : decode cX5_begun 108 = .ok (.ireturn, 1) := by decide +kernel
theorem dX5_begins_0 : decode cX5_begins 0 = .ok (.aload_n 0, 1) := by decide +kernel
theorem dX5_begins_1 : decode cX5_begins 1 = .ok (.iload_n 1, 1) := by decide +kernel
theorem dX5_begins_2 : decode cX5_begins 2 = .ok (.invokevirtual 193, 3) := by decide +kernel
theorem dX5_begins_5 : decode cX5_begins 5 = .ok (.ifCond .eq 11, 3) := by decide +kernel
theorem dX5_begins_8 : decode cX5_begins 8 = .ok (.aload_n 0, 1) := by decide +kernel
theorem dX5_begins_9 : decode cX5_begins 9 = .ok (.iload_n 1, 1) := by decide +kernel
theorem dX5_begins_10 : decode cX5_begins 10 = .ok (.invokevirtual 214, 3) := by decide +kernel
theorem dX5_begins_13 : decode cX5_begins 13 = .ok (.goto 4, 3) := by decide +kernel
theorem dX5_begins_16 : decode cX5_begins 16 = .ok (.iconst (-1), 1) := by decide +kernel
theorem dX5_begins_17 : decode cX5_begins 17 = .ok (.ireturn, 1) := by decide +kernel
theorem dX5_pure_0 : decode cX5_pure 0 = .ok (.iload_n 1, 1) := by decide +kernel
theorem dX5_pure_1 : decode cX5_pure 1 = .ok (.i2l, 1) := by decide +kernel
theorem dX5_pure_2 : decode cX5_pure 2 = .ok (.lconst 0, 1) := by decide +kernel
theorem dX5_pure_3 : decode cX5_pure 3 = .ok (.lconst 1, 1) := by decide +kernel
theorem dX5_pure_4 : decode cX5_pure 4 = .ok (.invokestatic 53, 3) := by decide +kernel
theorem dX5_pure_7 : decode cX5_pure 7 = .ok (.ifCond .ne 5, 3) := by decide +kernel
theorem dX5_pure_10 : decode cX5_pure 10 = .ok (.iconst (-1), 1) := by decide +kernel
theorem dX5_pure_11 : decode cX5_pure 11 = .ok (.ireturn, 1) := by decide +kernel
theorem dX5_pure_12 : decode cX5_pure 12 = .ok (.iconst 0, 1) := by decide +kernel
theorem dX5_pure_13 : decode cX5_pure 13 = .ok (.istore_n 2, 1) := by decide +kernel
theorem dX5_pure_14 : decode cX5_pure 14 = .ok (.bipush (-4), 2) := by decide +kernel
theorem dX5_pure_16 : decode cX5_pure 16 = .ok (.istore_n 3, 1) := by decide +kernel
theorem dX5_pure_17 : decode cX5_pure 17 = .ok (.iconst 0, 1) := by decide +kernel
theorem dX5_pure_18 : decode cX5_pure 18 = .ok (.istore 4, 2) := by decide +kernel
theorem dX5_pure_20 : decode cX5_pure 20 = .ok (.iload 4, 2) := by decide +kernel
theorem dX5_pure_22 : decode cX5_pure 22 = .ok (.aload_n 0, 1) := by decide +kernel
theorem dX5_pure_23 : decode cX5_pure 23 = .ok (.invokevirtual 150, 3) := by decide +kernel
theorem dX5_pure_26 : decode cX5_pure 26 = .ok (.if_icmp .ge 43, 3) := by decide +kernel
theorem dX5_pure_29 : decode cX5_pure 29 = .ok (.aload_n 0, 1) := by decide +kernel
theorem dX5_pure_30 : decode cX5_pure 30 = .ok (.iload 4, 2) := by decide +kernel
theorem dX5_pure_32 : decode cX5_pure 32 = .ok (.invokevirtual 205, 3) := by decide +kernel
theorem dX5_pure_35 : decode cX5_pure 35 = .ok (.ifCond .eq 28, 3) := by decide +kernel
theorem dX5_pure_38 : decode cX5_pure 38 = .ok (.aload_n 0, 1) := by decide +kernel
theorem dX5_pure_39 : decode cX5_pure 39 = .ok (.iload 4, 2) := by decide +kernel
theorem dX5_pure_41 : decode cX5_pure 41 = .ok (.invokevirtual 214, 3) := by decide +kernel
theorem dX5_pure_44 : decode cX5_pure 44 = .ok (.iload 4, 2) := by decide +kernel
theorem dX5_pure_46 : decode cX5_pure 46 = .ok (.if_icmp .ne 17, 3) := by decide +kernel
theorem dX5_pure_49 : decode cX5_pure 49 = .ok (.iload_n 2, 1) := by decide +kernel
theorem dX5_pure_50 : decode cX5_pure 50 = .ok (.ifCond .ne 8, 3) := by decide +kernel
theorem dX5_pure_53 : decode cX5_pure 53 = .ok (.iload 4, 2) := by decide +kernel
theorem dX5_pure_55 : decode cX5_pure 55 = .ok (.goto 4, 3) := by decide +kernel
theorem dX5_pure_58 : decode cX5_pure 58 = .ok (.iload_n 3, 1) := by decide +kernel
theorem dX5_pure_59 : decode cX5_pure 59 = .ok (.istore_n 3, 1) := by decide +kernel
theorem dX5_pure_60 : decode cX5_pure 60 = .ok (.iinc 2 1, 3) := by decide +kernel
theorem dX5_pure_63 : decode cX5_pure 63 = .ok (.iinc 4 1, 3) := by decide +kernel
theorem dX5_pure_66 : decode cX5_pure 66 = .ok (.goto (-46), 3) := by decide +kernel
theorem dX5_pure_69 : decode cX5_pure 69 = .ok (.iload_n 1, 1) := by decide +kernel
theorem dX5_pure_70 : decode cX5_pure 70 = .ok (.ifCond .ne 7, 3) := by decide +kernel
theorem dX5_pure_73 : decode cX5_pure 73 = .ok (.iload_n 2, 1) := by decide +kernel
theorem dX5_pure_74 : decode cX5_pure 74 = .ok (.goto 4, 3) := by decide +kernel
theorem dX5_pure_77 : decode cX5_pure 77 = .ok (.iload_n 3, 1) := by decide +kernel
theorem dX5_pure_78 : decode cX5_pure 78 = .ok (.ireturn, 1) := by decide +kernel
theorem dX5_writers_0 : decode cX5_writers 0 = .ok (.iconst 0, 1) := by decide +kernel
theorem dX5_writers_1 : decode cX5_writers 1 = .ok (.istore_n 3, 1) := by decide +kernel
theorem dX5_writers_2 : decode cX5_writers 2 = .ok (.iconst 0, 1) := by decide +kernel
theorem dX5_writers_3 : decode cX5_writers 3 = .ok (.istore 4, 2) := by decide +kernel
theorem dX5_writers_5 : decode cX5_writers 5 = .ok (.iload 4, 2) := by decide +kernel
theorem dX5_writers_7 : decode cX5_writers 7 = .ok (.aload_n 0, 1) := by decide +kernel
theorem dX5_writers_8 : decode cX5_writers 8 = .ok (.getfield 7, 3) := by decide +kernel
theorem dX5_writers_11 : decode cX5_writers 11 = .ok (.bipush 38, 2) := by decide +kernel
theorem dX5_writers_13 : decode cX5_writers 13 = .ok (.iaload, 1) := by decide +kernel
theorem dX5_writers_14 : decode cX5_writers 14 = .ok (.if_icmp .ge 50, 3) := by decide +kernel
theorem dX5_writers_17 : decode cX5_writers 17 = .ok (.iload_n 3, 1) := by decide +kernel
theorem dX5_writers_18 : decode cX5_writers 18 = .ok (.aload_n 0, 1) := by decide +kernel
theorem dX5_writers_19 : decode cX5_writers 19 = .ok (.iload 4, 2) := by decide +kernel
theorem dX5_writers_21 : decode cX5_writers 21 = .ok (.iload_n 1, 1) := by decide +kernel
theorem dX5_writers_22 : decode cX5_writers 22 = .ok (.invokevirtual 155, 3) := by decide +kernel
theorem dX5_writers_25 : decode cX5_writers 25 = .ok (.ifCond .eq 30, 3) := by decide +kernel
theorem dX5_writers_28 : decode cX5_writers 28 = .ok (.aload_n 0, 1) := by decide +kernel
theorem dX5_writers_29 : decode cX5_writers 29 = .ok (.iload 4, 2) := by decide +kernel
theorem dX5_writers_31 : decode cX5_writers 31 = .ok (.invokevirtual 159, 3) := by decide +kernel
theorem dX5_writers_34 : decode cX5_writers 34 = .ok (.iload_n 2, 1) := by decide +kernel
theorem dX5_writers_35 : decode cX5_writers 35 = .ok (.if_icmp .ne 20, 3) := by decide +kernel
theorem dX5_writers_38 : decode cX5_writers 38 = .ok (.iconst 1, 1) := by decide +kernel
theorem dX5_writers_39 : decode cX5_writers 39 = .ok (.aload_n 0, 1) := by decide +kernel
theorem dX5_writers_40 : decode cX5_writers 40 = .ok (.getfield 7, 3) := by decide +kernel
theorem dX5_writers_43 : decode cX5_writers 43 = .ok (.bipush 6, 2) := by decide +kernel
theorem dX5_writers_45 : decode cX5_writers 45 = .ok (.iconst 4, 1) := by decide +kernel
theorem dX5_writers_46 : decode cX5_writers 46 = .ok (.iload 4, 2) := by decide +kernel
theorem dX5_writers_48 : decode cX5_writers 48 = .ok (.imul, 1) := by decide +kernel
theorem dX5_writers_49 : decode cX5_writers 49 = .ok (.iadd, 1) := by decide +kernel
theorem dX5_writers_50 : decode cX5_writers 50 = .ok (.iaload, 1) := by decide +kernel
theorem dX5_writers_51 : decode cX5_writers 51 = .ok (.ishl, 1) := by decide +kernel
theorem dX5_writers_52 : decode cX5_writers 52 = .ok (.goto 4, 3) := by decide +kernel
theorem dX5_writers_55 : decode cX5_writers 55 = .ok (.iconst 0, 1) := by decide +kernel
theorem dX5_writers_56 : decode cX5_writers 56 = .ok (.ior, 1) := by decide +kernel
theorem dX5_writers_57 : decode cX5_writers 57 = .ok (.istore_n 3, 1) := by decide +kernel
theorem dX5_writers_58 : decode cX5_writers 58 = .ok (.iinc 4 1, 3) := by decide +kernel
theorem dX5_writers_61 : decode cX5_writers 61 = .ok (.goto (-56), 3) := by decide +kernel
theorem dX5_writers_64 : decode cX5_writers 64 = .ok (.iload_n 3, 1) := by decide +kernel
theorem dX5_writers_65 : decode cX5_writers 65 = .ok (.ireturn, 1) := by decide +kernel
theorem dX5_wrote_0 : decode cX5_wrote 0 = .ok (.aload_n 0, 1) := by decide +kernel
theorem dX5_wrote_1 : decode cX5_wrote 1 = .ok (.iload_n 1, 1) := by decide +kernel
theorem dX5_wrote_2 : decode cX5_wrote 2 = .ok (.invokevirtual 193, 3) := by decide +kernel
theorem dX5_wrote_5 : decode cX5_wrote 5 = .ok (.ifCond .eq 20, 3) := by decide +kernel
theorem dX5_wrote_8 : decode cX5_wrote 8 = .ok (.aload_n 0, 1) := by decide +kernel
theorem dX5_wrote_9 : decode cX5_wrote 9 = .ok (.iload_n 2, 1) := by decide +kernel
theorem dX5_wrote_10 : decode cX5_wrote 10 = .ok (.invokevirtual 171, 3) := by decide +kernel
theorem dX5_wrote_13 : decode cX5_wrote 13 = .ok (.ifCond .eq 12, 3) := by decide +kernel
theorem dX5_wrote_16 : decode cX5_wrote 16 = .ok (.aload_n 0, 1) := by decide +kernel
theorem dX5_wrote_17 : decode cX5_wrote 17 = .ok (.iload_n 1, 1) := by decide +kernel
theorem dX5_wrote_18 : decode cX5_wrote 18 = .ok (.iload_n 2, 1) := by decide +kernel
theorem dX5_wrote_19 : decode cX5_wrote 19 = .ok (.invokevirtual 217, 3) := by decide +kernel
theorem dX5_wrote_22 : decode cX5_wrote 22 = .ok (.goto 4, 3) := by decide +kernel
theorem dX5_wrote_25 : decode cX5_wrote 25 = .ok (.iconst (-1), 1) := by decide +kernel
theorem dX5_wrote_26 : decode cX5_wrote 26 = .ok (.ireturn, 1) := by decide +kernel
theorem dX5_could_0 : decode cX5_could 0 = .ok (.aload_n 0, 1) := by decide +kernel
theorem dX5_could_1 : decode cX5_could 1 = .ok (.iload_n 1, 1) := by decide +kernel
theorem dX5_could_2 : decode cX5_could 2 = .ok (.invokevirtual 171, 3) := by decide +kernel
theorem dX5_could_5 : decode cX5_could 5 = .ok (.ifCond .ne 5, 3) := by decide +kernel
theorem dX5_could_8 : decode cX5_could 8 = .ok (.iconst (-1), 1) := by decide +kernel
theorem dX5_could_9 : decode cX5_could 9 = .ok (.ireturn, 1) := by decide +kernel
theorem dX5_could_10 : decode cX5_could 10 = .ok (.iconst 0, 1) := by decide +kernel
theorem dX5_could_11 : decode cX5_could 11 = .ok (.istore_n 2, 1) := by decide +kernel
theorem dX5_could_12 : decode cX5_could 12 = .ok (.iconst 0, 1) := by decide +kernel
theorem dX5_could_13 : decode cX5_could 13 = .ok (.istore_n 3, 1) := by decide +kernel
theorem dX5_could_14 : decode cX5_could 14 = .ok (.iload_n 3, 1) := by decide +kernel
theorem dX5_could_15 : decode cX5_could 15 = .ok (.aload_n 0, 1) := by decide +kernel
theorem dX5_could_16 : decode cX5_could 16 = .ok (.invokevirtual 150, 3) := by decide +kernel
theorem dX5_could_19 : decode cX5_could 19 = .ok (.if_icmp .ge 30, 3) := by decide +kernel
theorem dX5_could_22 : decode cX5_could 22 = .ok (.iload_n 2, 1) := by decide +kernel
theorem dX5_could_23 : decode cX5_could 23 = .ok (.aload_n 0, 1) := by decide +kernel
theorem dX5_could_24 : decode cX5_could 24 = .ok (.iload_n 3, 1) := by decide +kernel
theorem dX5_could_25 : decode cX5_could 25 = .ok (.invokevirtual 205, 3) := by decide +kernel
theorem dX5_could_28 : decode cX5_could 28 = .ok (.ifCond .eq 12, 3) := by decide +kernel
theorem dX5_could_31 : decode cX5_could 31 = .ok (.aload_n 0, 1) := by decide +kernel
theorem dX5_could_32 : decode cX5_could 32 = .ok (.iload_n 3, 1) := by decide +kernel
theorem dX5_could_33 : decode cX5_could 33 = .ok (.iload_n 1, 1) := by decide +kernel
theorem dX5_could_34 : decode cX5_could 34 = .ok (.invokevirtual 217, 3) := by decide +kernel
theorem dX5_could_37 : decode cX5_could 37 = .ok (.goto 4, 3) := by decide +kernel
theorem dX5_could_40 : decode cX5_could 40 = .ok (.iconst 0, 1) := by decide +kernel
theorem dX5_could_41 : decode cX5_could 41 = .ok (.ior, 1) := by decide +kernel
theorem dX5_could_42 : decode cX5_could 42 = .ok (.istore_n 2, 1) := by decide +kernel
theorem dX5_could_43 : decode cX5_could 43 = .ok (.iinc 3 1, 3) := by decide +kernel
theorem dX5_could_46 : decode cX5_could 46 = .ok (.goto (-32), 3) := by decide +kernel
theorem dX5_could_49 : decode cX5_could 49 = .ok (.iload_n 2, 1) := by decide +kernel
theorem dX5_could_50 : decode cX5_could 50 = .ok (.ireturn, 1) := by decide +kernel
theorem dX5_bitsOf_0 : decode cX5_bitsOf 0 = .ok (.iconst 0, 1) := by decide +kernel
theorem dX5_bitsOf_1 : decode cX5_bitsOf 1 = .ok (.istore_n 1, 1) := by decide +kernel
theorem dX5_bitsOf_2 : decode cX5_bitsOf 2 = .ok (.iconst 0, 1) := by decide +kernel
theorem dX5_bitsOf_3 : decode cX5_bitsOf 3 = .ok (.istore_n 2, 1) := by decide +kernel
theorem dX5_bitsOf_4 : decode cX5_bitsOf 4 = .ok (.iload_n 2, 1) := by decide +kernel
theorem dX5_bitsOf_5 : decode cX5_bitsOf 5 = .ok (.bipush 8, 2) := by decide +kernel
theorem dX5_bitsOf_7 : decode cX5_bitsOf 7 = .ok (.if_icmp .ge 17, 3) := by decide +kernel
theorem dX5_bitsOf_10 : decode cX5_bitsOf 10 = .ok (.iload_n 1, 1) := by decide +kernel
theorem dX5_bitsOf_11 : decode cX5_bitsOf 11 = .ok (.iload_n 0, 1) := by decide +kernel
theorem dX5_bitsOf_12 : decode cX5_bitsOf 12 = .ok (.iload_n 2, 1) := by decide +kernel
theorem dX5_bitsOf_13 : decode cX5_bitsOf 13 = .ok (.ishr, 1) := by decide +kernel
theorem dX5_bitsOf_14 : decode cX5_bitsOf 14 = .ok (.iconst 1, 1) := by decide +kernel
theorem dX5_bitsOf_15 : decode cX5_bitsOf 15 = .ok (.iand, 1) := by decide +kernel
theorem dX5_bitsOf_16 : decode cX5_bitsOf 16 = .ok (.iadd, 1) := by decide +kernel
theorem dX5_bitsOf_17 : decode cX5_bitsOf 17 = .ok (.istore_n 1, 1) := by decide +kernel
theorem dX5_bitsOf_18 : decode cX5_bitsOf 18 = .ok (.iinc 2 1, 3) := by decide +kernel
theorem dX5_bitsOf_21 : decode cX5_bitsOf 21 = .ok (.goto (-17), 3) := by decide +kernel
theorem dX5_bitsOf_24 : decode cX5_bitsOf 24 = .ok (.iload_n 1, 1) := by decide +kernel
theorem dX5_bitsOf_25 : decode cX5_bitsOf 25 = .ok (.ireturn, 1) := by decide +kernel
theorem dX5_canBe_0 : decode cX5_canBe 0 = .ok (.iconst 0, 1) := by decide +kernel
theorem dX5_canBe_1 : decode cX5_canBe 1 = .ok (.istore_n 3, 1) := by decide +kernel
theorem dX5_canBe_2 : decode cX5_canBe 2 = .ok (.iconst 0, 1) := by decide +kernel
theorem dX5_canBe_3 : decode cX5_canBe 3 = .ok (.istore 4, 2) := by decide +kernel
theorem dX5_canBe_5 : decode cX5_canBe 5 = .ok (.iload 4, 2) := by decide +kernel
theorem dX5_canBe_7 : decode cX5_canBe 7 = .ok (.aload_n 0, 1) := by decide +kernel
theorem dX5_canBe_8 : decode cX5_canBe 8 = .ok (.invokevirtual 150, 3) := by decide +kernel
theorem dX5_canBe_11 : decode cX5_canBe 11 = .ok (.if_icmp .ge 47, 3) := by decide +kernel
theorem dX5_canBe_14 : decode cX5_canBe 14 = .ok (.iload_n 3, 1) := by decide +kernel
theorem dX5_canBe_15 : decode cX5_canBe 15 = .ok (.ifCond .ne 43, 3) := by decide +kernel
theorem dX5_canBe_18 : decode cX5_canBe 18 = .ok (.iload 4, 2) := by decide +kernel
theorem dX5_canBe_20 : decode cX5_canBe 20 = .ok (.iload_n 1, 1) := by decide +kernel
theorem dX5_canBe_21 : decode cX5_canBe 21 = .ok (.ishr, 1) := by decide +kernel
theorem dX5_canBe_22 : decode cX5_canBe 22 = .ok (.iconst 1, 1) := by decide +kernel
theorem dX5_canBe_23 : decode cX5_canBe 23 = .ok (.iand, 1) := by decide +kernel
theorem dX5_canBe_24 : decode cX5_canBe 24 = .ok (.iconst 1, 1) := by decide +kernel
theorem dX5_canBe_25 : decode cX5_canBe 25 = .ok (.if_icmp .ne 7, 3) := by decide +kernel
theorem dX5_canBe_28 : decode cX5_canBe 28 = .ok (.iconst 1, 1) := by decide +kernel
theorem dX5_canBe_29 : decode cX5_canBe 29 = .ok (.goto 4, 3) := by decide +kernel
theorem dX5_canBe_32 : decode cX5_canBe 32 = .ok (.iconst 0, 1) := by decide +kernel
theorem dX5_canBe_33 : decode cX5_canBe 33 = .ok (.iload_n 2, 1) := by decide +kernel
theorem dX5_canBe_34 : decode cX5_canBe 34 = .ok (.if_icmp .ne 16, 3) := by decide +kernel
theorem dX5_canBe_37 : decode cX5_canBe 37 = .ok (.aload_n 0, 1) := by decide +kernel
theorem dX5_canBe_38 : decode cX5_canBe 38 = .ok (.iload 4, 2) := by decide +kernel
theorem dX5_canBe_40 : decode cX5_canBe 40 = .ok (.invokevirtual 205, 3) := by decide +kernel
theorem dX5_canBe_43 : decode cX5_canBe 43 = .ok (.ifCond .eq 7, 3) := by decide +kernel
theorem dX5_canBe_46 : decode cX5_canBe 46 = .ok (.iconst 1, 1) := by decide +kernel
theorem dX5_canBe_47 : decode cX5_canBe 47 = .ok (.goto 4, 3) := by decide +kernel
theorem dX5_canBe_50 : decode cX5_canBe 50 = .ok (.iconst 0, 1) := by decide +kernel
theorem dX5_canBe_51 : decode cX5_canBe 51 = .ok (.istore_n 3, 1) := by decide +kernel
theorem dX5_canBe_52 : decode cX5_canBe 52 = .ok (.iinc 4 1, 3) := by decide +kernel
theorem dX5_canBe_55 : decode cX5_canBe 55 = .ok (.goto (-50), 3) := by decide +kernel
theorem dX5_canBe_58 : decode cX5_canBe 58 = .ok (.iload_n 3, 1) := by decide +kernel
theorem dX5_canBe_59 : decode cX5_canBe 59 = .ok (.ireturn, 1) := by decide +kernel
theorem dX5_fewest_0 : decode cX5_fewest 0 = .ok (.aload_n 0, 1) := by decide +kernel
theorem dX5_fewest_1 : decode cX5_fewest 1 = .ok (.iload_n 1, 1) := by decide +kernel
theorem dX5_fewest_2 : decode cX5_fewest 2 = .ok (.invokevirtual 171, 3) := by decide +kernel
theorem dX5_fewest_5 : decode cX5_fewest 5 = .ok (.ifCond .eq 13, 3) := by decide +kernel
theorem dX5_fewest_8 : decode cX5_fewest 8 = .ok (.iload_n 3, 1) := by decide +kernel
theorem dX5_fewest_9 : decode cX5_fewest 9 = .ok (.i2l, 1) := by decide +kernel
theorem dX5_fewest_10 : decode cX5_fewest 10 = .ok (.lconst 0, 1) := by decide +kernel
theorem dX5_fewest_11 : decode cX5_fewest 11 = .ok (.lconst 1, 1) := by decide +kernel
theorem dX5_fewest_12 : decode cX5_fewest 12 = .ok (.invokestatic 53, 3) := by decide +kernel
theorem dX5_fewest_15 : decode cX5_fewest 15 = .ok (.ifCond .ne 5, 3) := by decide +kernel
theorem dX5_fewest_18 : decode cX5_fewest 18 = .ok (.iconst (-1), 1) := by decide +kernel
theorem dX5_fewest_19 : decode cX5_fewest 19 = .ok (.ireturn, 1) := by decide +kernel
theorem dX5_fewest_20 : decode cX5_fewest 20 = .ok (.aload_n 0, 1) := by decide +kernel
theorem dX5_fewest_21 : decode cX5_fewest 21 = .ok (.getfield 7, 3) := by decide +kernel
theorem dX5_fewest_24 : decode cX5_fewest 24 = .ok (.bipush 39, 2) := by decide +kernel
theorem dX5_fewest_26 : decode cX5_fewest 26 = .ok (.iaload, 1) := by decide +kernel
theorem dX5_fewest_27 : decode cX5_fewest 27 = .ok (.istore 4, 2) := by decide +kernel
theorem dX5_fewest_29 : decode cX5_fewest 29 = .ok (.bipush 100, 2) := by decide +kernel
theorem dX5_fewest_31 : decode cX5_fewest 31 = .ok (.istore 5, 2) := by decide +kernel
theorem dX5_fewest_33 : decode cX5_fewest 33 = .ok (.bipush (-4), 2) := by decide +kernel
theorem dX5_fewest_35 : decode cX5_fewest 35 = .ok (.istore 6, 2) := by decide +kernel
theorem dX5_fewest_37 : decode cX5_fewest 37 = .ok (.iconst 0, 1) := by decide +kernel
theorem dX5_fewest_38 : decode cX5_fewest 38 = .ok (.istore 7, 2) := by decide +kernel
theorem dX5_fewest_40 : decode cX5_fewest 40 = .ok (.iload 7, 2) := by decide +kernel
theorem dX5_fewest_42 : decode cX5_fewest 42 = .ok (.iconst 1, 1) := by decide +kernel
theorem dX5_fewest_43 : decode cX5_fewest 43 = .ok (.aload_n 0, 1) := by decide +kernel
theorem dX5_fewest_44 : decode cX5_fewest 44 = .ok (.getfield 17, 3) := by decide +kernel
theorem dX5_fewest_47 : decode cX5_fewest 47 = .ok (.ishl, 1) := by decide +kernel
theorem dX5_fewest_48 : decode cX5_fewest 48 = .ok (.if_icmp .ge 78, 3) := by decide +kernel
theorem dX5_fewest_51 : decode cX5_fewest 51 = .ok (.iload 7, 2) := by decide +kernel
theorem dX5_fewest_53 : decode cX5_fewest 53 = .ok (.iload 4, 2) := by decide +kernel
theorem dX5_fewest_55 : decode cX5_fewest 55 = .ok (.iand, 1) := by decide +kernel
theorem dX5_fewest_56 : decode cX5_fewest 56 = .ok (.ifCond .ne 64, 3) := by decide +kernel
theorem dX5_fewest_59 : decode cX5_fewest 59 = .ok (.iload 7, 2) := by decide +kernel
theorem dX5_fewest_61 : decode cX5_fewest 61 = .ok (.invokestatic 220, 3) := by decide +kernel
theorem dX5_fewest_64 : decode cX5_fewest 64 = .ok (.iload 5, 2) := by decide +kernel
theorem dX5_fewest_66 : decode cX5_fewest 66 = .ok (.if_icmp .ge 54, 3) := by decide +kernel
theorem dX5_fewest_69 : decode cX5_fewest 69 = .ok (.aload_n 0, 1) := by decide +kernel
theorem dX5_fewest_70 : decode cX5_fewest 70 = .ok (.getfield 7, 3) := by decide +kernel
theorem dX5_fewest_73 : decode cX5_fewest 73 = .ok (.bipush 39, 2) := by decide +kernel
theorem dX5_fewest_75 : decode cX5_fewest 75 = .ok (.iload 4, 2) := by decide +kernel
theorem dX5_fewest_77 : decode cX5_fewest 77 = .ok (.iload 7, 2) := by decide +kernel
theorem dX5_fewest_79 : decode cX5_fewest 79 = .ok (.ior, 1) := by decide +kernel
theorem dX5_fewest_80 : decode cX5_fewest 80 = .ok (.iastore, 1) := by decide +kernel
theorem dX5_fewest_81 : decode cX5_fewest 81 = .ok (.aload_n 0, 1) := by decide +kernel
theorem dX5_fewest_82 : decode cX5_fewest 82 = .ok (.iload_n 1, 1) := by decide +kernel
theorem dX5_fewest_83 : decode cX5_fewest 83 = .ok (.iload_n 2, 1) := by decide +kernel
theorem dX5_fewest_84 : decode cX5_fewest 84 = .ok (.invokevirtual 223, 3) := by decide +kernel
theorem dX5_fewest_87 : decode cX5_fewest 87 = .ok (.istore 8, 2) := by decide +kernel
theorem dX5_fewest_89 : decode cX5_fewest 89 = .ok (.iload 8, 2) := by decide +kernel
theorem dX5_fewest_91 : decode cX5_fewest 91 = .ok (.ifCond .eq 8, 3) := by decide +kernel
theorem dX5_fewest_94 : decode cX5_fewest 94 = .ok (.iload 7, 2) := by decide +kernel
theorem dX5_fewest_96 : decode cX5_fewest 96 = .ok (.goto 5, 3) := by decide +kernel
theorem dX5_fewest_99 : decode cX5_fewest 99 = .ok (.iload 6, 2) := by decide +kernel
theorem dX5_fewest_101 : decode cX5_fewest 101 = .ok (.istore 6, 2) := by decide +kernel
theorem dX5_fewest_103 : decode cX5_fewest 103 = .ok (.iload 8, 2) := by decide +kernel
theorem dX5_fewest_105 : decode cX5_fewest 105 = .ok (.ifCond .eq 11, 3) := by decide +kernel
theorem dX5_fewest_108 : decode cX5_fewest 108 = .ok (.iload 7, 2) := by decide +kernel
theorem dX5_fewest_110 : decode cX5_fewest 110 = .ok (.invokestatic 220, 3) := by decide +kernel
theorem dX5_fewest_113 : decode cX5_fewest 113 = .ok (.goto 5, 3) := by decide +kernel
theorem dX5_fewest_116 : decode cX5_fewest 116 = .ok (.iload 5, 2) := by decide +kernel
theorem dX5_fewest_118 : decode cX5_fewest 118 = .ok (.istore 5, 2) := by decide +kernel
theorem dX5_fewest_120 : decode cX5_fewest 120 = .ok (.iinc 7 1, 3) := by decide +kernel
theorem dX5_fewest_123 : decode cX5_fewest 123 = .ok (.goto (-83), 3) := by decide +kernel
theorem dX5_fewest_126 : decode cX5_fewest 126 = .ok (.aload_n 0, 1) := by decide +kernel
theorem dX5_fewest_127 : decode cX5_fewest 127 = .ok (.getfield 7, 3) := by decide +kernel
theorem dX5_fewest_130 : decode cX5_fewest 130 = .ok (.bipush 39, 2) := by decide +kernel
