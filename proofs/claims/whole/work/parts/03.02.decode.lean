theorem dX4_sheet_35 : decode cX4_sheet 35 = .ok (.iload_n 2, 1) := by decide +kernel
theorem dX4_sheet_36 : decode cX4_sheet 36 = .ok (.iload_n 3, 1) := by decide +kernel
theorem dX4_sheet_37 : decode cX4_sheet 37 = .ok (.invokevirtual 247, 3) := by decide +kernel
theorem dX4_sheet_40 : decode cX4_sheet 40 = .ok (.iconst 1, 1) := by decide +kernel
theorem dX4_sheet_41 : decode cX4_sheet 41 = .ok (.ireturn, 1) := by decide +kernel
theorem dX4_lay_0 : decode cX4_lay 0 = .ok (.iload_n 1, 1) := by decide +kernel
theorem dX4_lay_1 : decode cX4_lay 1 = .ok (.invokestatic 241, 3) := by decide +kernel
theorem dX4_lay_4 : decode cX4_lay 4 = .ok (.ifCond .ne 5, 3) := by decide +kernel
theorem dX4_lay_7 : decode cX4_lay 7 = .ok (.iconst (-1), 1) := by decide +kernel
theorem dX4_lay_8 : decode cX4_lay 8 = .ok (.ireturn, 1) := by decide +kernel
theorem dX4_lay_9 : decode cX4_lay 9 = .ok (.aload_n 0, 1) := by decide +kernel
theorem dX4_lay_10 : decode cX4_lay 10 = .ok (.getfield 47, 3) := by decide +kernel
theorem dX4_lay_13 : decode cX4_lay 13 = .ok (.iload_n 1, 1) := by decide +kernel
theorem dX4_lay_14 : decode cX4_lay 14 = .ok (.aaload, 1) := by decide +kernel
theorem dX4_lay_15 : decode cX4_lay 15 = .ok (.astore 4, 2) := by decide +kernel
theorem dX4_lay_17 : decode cX4_lay 17 = .ok (.aload 4, 2) := by decide +kernel
theorem dX4_lay_19 : decode cX4_lay 19 = .ok (.aload 4, 2) := by decide +kernel
theorem dX4_lay_21 : decode cX4_lay 21 = .ok (.getfield 251, 3) := by decide +kernel
theorem dX4_lay_24 : decode cX4_lay 24 = .ok (.iload_n 2, 1) := by decide +kernel
theorem dX4_lay_25 : decode cX4_lay 25 = .ok (.invokevirtual 254, 3) := by decide +kernel
theorem dX4_lay_28 : decode cX4_lay 28 = .ok (.istore 5, 2) := by decide +kernel
theorem dX4_lay_30 : decode cX4_lay 30 = .ok (.iload 5, 2) := by decide +kernel
theorem dX4_lay_32 : decode cX4_lay 32 = .ok (.ifCond .eq 9, 3) := by decide +kernel
theorem dX4_lay_35 : decode cX4_lay 35 = .ok (.bipush (-10), 2) := by decide +kernel
theorem dX4_lay_37 : decode cX4_lay 37 = .ok (.iload 5, 2) := by decide +kernel
theorem dX4_lay_39 : decode cX4_lay 39 = .ok (.isub, 1) := by decide +kernel
theorem dX4_lay_40 : decode cX4_lay 40 = .ok (.ireturn, 1) := by decide +kernel
theorem dX4_lay_41 : decode cX4_lay 41 = .ok (.aload 4, 2) := by decide +kernel
theorem dX4_lay_43 : decode cX4_lay 43 = .ok (.iload_n 2, 1) := by decide +kernel
theorem dX4_lay_44 : decode cX4_lay 44 = .ok (.iload_n 3, 1) := by decide +kernel
theorem dX4_lay_45 : decode cX4_lay 45 = .ok (.invokevirtual 257, 3) := by decide +kernel
theorem dX4_lay_48 : decode cX4_lay 48 = .ok (.iconst 1, 1) := by decide +kernel
theorem dX4_lay_49 : decode cX4_lay 49 = .ok (.ireturn, 1) := by decide +kernel
theorem dX4_read_0 : decode cX4_read 0 = .ok (.iload_n 1, 1) := by decide +kernel
theorem dX4_read_1 : decode cX4_read 1 = .ok (.invokestatic 241, 3) := by decide +kernel
theorem dX4_read_4 : decode cX4_read 4 = .ok (.ifCond .eq 22, 3) := by decide +kernel
theorem dX4_read_7 : decode cX4_read 7 = .ok (.iload_n 2, 1) := by decide +kernel
theorem dX4_read_8 : decode cX4_read 8 = .ok (.invokestatic 244, 3) := by decide +kernel
theorem dX4_read_11 : decode cX4_read 11 = .ok (.ifCond .eq 15, 3) := by decide +kernel
theorem dX4_read_14 : decode cX4_read 14 = .ok (.iload 4, 2) := by decide +kernel
theorem dX4_read_16 : decode cX4_read 16 = .ok (.ifCond .lt 10, 3) := by decide +kernel
theorem dX4_read_19 : decode cX4_read 19 = .ok (.iload 4, 2) := by decide +kernel
theorem dX4_read_21 : decode cX4_read 21 = .ok (.bipush 20, 2) := by decide +kernel
theorem dX4_read_23 : decode cX4_read 23 = .ok (.if_icmp .le 5, 3) := by decide +kernel
theorem dX4_read_26 : decode cX4_read 26 = .ok (.iconst (-1), 1) := by decide +kernel
theorem dX4_read_27 : decode cX4_read 27 = .ok (.ireturn, 1) := by decide +kernel
theorem dX4_read_28 : decode cX4_read 28 = .ok (.aload_n 0, 1) := by decide +kernel
theorem dX4_read_29 : decode cX4_read 29 = .ok (.getfield 47, 3) := by decide +kernel
theorem dX4_read_32 : decode cX4_read 32 = .ok (.iload_n 1, 1) := by decide +kernel
theorem dX4_read_33 : decode cX4_read 33 = .ok (.aaload, 1) := by decide +kernel
theorem dX4_read_34 : decode cX4_read 34 = .ok (.astore 5, 2) := by decide +kernel
theorem dX4_read_36 : decode cX4_read 36 = .ok (.aload_n 0, 1) := by decide +kernel
theorem dX4_read_37 : decode cX4_read 37 = .ok (.getfield 10, 3) := by decide +kernel
theorem dX4_read_40 : decode cX4_read 40 = .ok (.getfield 98, 3) := by decide +kernel
theorem dX4_read_43 : decode cX4_read 43 = .ok (.istore 6, 2) := by decide +kernel
theorem dX4_read_45 : decode cX4_read 45 = .ok (.iconst 0, 1) := by decide +kernel
theorem dX4_read_46 : decode cX4_read 46 = .ok (.istore 7, 2) := by decide +kernel
theorem dX4_read_48 : decode cX4_read 48 = .ok (.iconst 0, 1) := by decide +kernel
theorem dX4_read_49 : decode cX4_read 49 = .ok (.istore 8, 2) := by decide +kernel
theorem dX4_read_51 : decode cX4_read 51 = .ok (.iload 8, 2) := by decide +kernel
theorem dX4_read_53 : decode cX4_read 53 = .ok (.iload 4, 2) := by decide +kernel
theorem dX4_read_55 : decode cX4_read 55 = .ok (.if_icmp .ge 111, 3) := by decide +kernel
theorem dX4_read_58 : decode cX4_read 58 = .ok (.iload 7, 2) := by decide +kernel
theorem dX4_read_60 : decode cX4_read 60 = .ok (.ifCond .ne 106, 3) := by decide +kernel
theorem dX4_read_63 : decode cX4_read 63 = .ok (.iload_n 3, 1) := by decide +kernel
theorem dX4_read_64 : decode cX4_read 64 = .ok (.iconst 2, 1) := by decide +kernel
theorem dX4_read_65 : decode cX4_read 65 = .ok (.iload 8, 2) := by decide +kernel
theorem dX4_read_67 : decode cX4_read 67 = .ok (.imul, 1) := by decide +kernel
theorem dX4_read_68 : decode cX4_read 68 = .ok (.iadd, 1) := by decide +kernel
theorem dX4_read_69 : decode cX4_read 69 = .ok (.istore 9, 2) := by decide +kernel
theorem dX4_read_71 : decode cX4_read 71 = .ok (.aload 5, 2) := by decide +kernel
theorem dX4_read_73 : decode cX4_read 73 = .ok (.iload_n 2, 1) := by decide +kernel
theorem dX4_read_74 : decode cX4_read 74 = .ok (.iload 9, 2) := by decide +kernel
theorem dX4_read_76 : decode cX4_read 76 = .ok (.invokevirtual 260, 3) := by decide +kernel
theorem dX4_read_79 : decode cX4_read 79 = .ok (.istore 7, 2) := by decide +kernel
theorem dX4_read_81 : decode cX4_read 81 = .ok (.iload 7, 2) := by decide +kernel
theorem dX4_read_83 : decode cX4_read 83 = .ok (.ifCond .ne 80, 3) := by decide +kernel
theorem dX4_read_86 : decode cX4_read 86 = .ok (.aload 5, 2) := by decide +kernel
theorem dX4_read_88 : decode cX4_read 88 = .ok (.iload 9, 2) := by decide +kernel
theorem dX4_read_90 : decode cX4_read 90 = .ok (.invokevirtual 263, 3) := by decide +kernel
theorem dX4_read_93 : decode cX4_read 93 = .ok (.istore 10, 2) := by decide +kernel
theorem dX4_read_95 : decode cX4_read 95 = .ok (.aload 5, 2) := by decide +kernel
theorem dX4_read_97 : decode cX4_read 97 = .ok (.iload 9, 2) := by decide +kernel
theorem dX4_read_99 : decode cX4_read 99 = .ok (.iconst 1, 1) := by decide +kernel
theorem dX4_read_100 : decode cX4_read 100 = .ok (.iadd, 1) := by decide +kernel
theorem dX4_read_101 : decode cX4_read 101 = .ok (.invokevirtual 263, 3) := by decide +kernel
theorem dX4_read_104 : decode cX4_read 104 = .ok (.istore 11, 2) := by decide +kernel
theorem dX4_read_106 : decode cX4_read 106 = .ok (.iload 11, 2) := by decide +kernel
theorem dX4_read_108 : decode cX4_read 108 = .ok (.invokestatic 153, 3) := by decide +kernel
theorem dX4_read_111 : decode cX4_read 111 = .ok (.ifCond .eq 23, 3) := by decide +kernel
theorem dX4_read_114 : decode cX4_read 114 = .ok (.aload_n 0, 1) := by decide +kernel
theorem dX4_read_115 : decode cX4_read 115 = .ok (.iload 10, 2) := by decide +kernel
theorem dX4_read_117 : decode cX4_read 117 = .ok (.iload 11, 2) := by decide +kernel
theorem dX4_read_119 : decode cX4_read 119 = .ok (.iconst 1, 1) := by decide +kernel
theorem dX4_read_120 : decode cX4_read 120 = .ok (.if_icmp .ne 7, 3) := by decide +kernel
theorem dX4_read_123 : decode cX4_read 123 = .ok (.iconst 1, 1) := by decide +kernel
theorem dX4_read_124 : decode cX4_read 124 = .ok (.goto 4, 3) := by decide +kernel
theorem dX4_read_127 : decode cX4_read 127 = .ok (.iconst 0, 1) := by decide +kernel
theorem dX4_read_128 : decode cX4_read 128 = .ok (.invokevirtual 130, 3) := by decide +kernel
theorem dX4_read_131 : decode cX4_read 131 = .ok (.ifCond .eq 9, 3) := by decide +kernel
theorem dX4_read_134 : decode cX4_read 134 = .ok (.bipush (-20), 2) := by decide +kernel
theorem dX4_read_136 : decode cX4_read 136 = .ok (.iload 8, 2) := by decide +kernel
theorem dX4_read_138 : decode cX4_read 138 = .ok (.isub, 1) := by decide +kernel
theorem dX4_read_139 : decode cX4_read 139 = .ok (.ireturn, 1) := by decide +kernel
theorem dX4_read_140 : decode cX4_read 140 = .ok (.iload 6, 2) := by decide +kernel
theorem dX4_read_142 : decode cX4_read 142 = .ok (.iload 10, 2) := by decide +kernel
theorem dX4_read_144 : decode cX4_read 144 = .ok (.iload 11, 2) := by decide +kernel
theorem dX4_read_146 : decode cX4_read 146 = .ok (.iconst 1, 1) := by decide +kernel
theorem dX4_read_147 : decode cX4_read 147 = .ok (.if_icmp .ne 7, 3) := by decide +kernel
theorem dX4_read_150 : decode cX4_read 150 = .ok (.iconst 1, 1) := by decide +kernel
theorem dX4_read_151 : decode cX4_read 151 = .ok (.goto 4, 3) := by decide +kernel
theorem dX4_read_154 : decode cX4_read 154 = .ok (.iconst 0, 1) := by decide +kernel
theorem dX4_read_155 : decode cX4_read 155 = .ok (.invokestatic 138, 3) := by decide +kernel
theorem dX4_read_158 : decode cX4_read 158 = .ok (.istore 6, 2) := by decide +kernel
theorem dX4_read_160 : decode cX4_read 160 = .ok (.iinc 8 1, 3) := by decide +kernel
theorem dX4_read_163 : decode cX4_read 163 = .ok (.goto (-112), 3) := by decide +kernel
theorem dX4_read_166 : decode cX4_read 166 = .ok (.aload_n 0, 1) := by decide +kernel
theorem dX4_read_167 : decode cX4_read 167 = .ok (.getfield 10, 3) := by decide +kernel
theorem dX4_read_170 : decode cX4_read 170 = .ok (.iload 6, 2) := by decide +kernel
theorem dX4_read_172 : decode cX4_read 172 = .ok (.putfield 98, 3) := by decide +kernel
theorem dX4_read_175 : decode cX4_read 175 = .ok (.aload_n 0, 1) := by decide +kernel
theorem dX4_read_176 : decode cX4_read 176 = .ok (.iload 7, 2) := by decide +kernel
theorem dX4_read_178 : decode cX4_read 178 = .ok (.putfield 266, 3) := by decide +kernel
theorem dX4_read_181 : decode cX4_read 181 = .ok (.iload 8, 2) := by decide +kernel
theorem dX4_read_183 : decode cX4_read 183 = .ok (.ireturn, 1) := by decide +kernel
theorem dX4_torn_0 : decode cX4_torn 0 = .ok (.aload_n 0, 1) := by decide +kernel
theorem dX4_torn_1 : decode cX4_torn 1 = .ok (.getfield 266, 3) := by decide +kernel
theorem dX4_torn_4 : decode cX4_torn 4 = .ok (.ireturn, 1) := by decide +kernel
theorem dX4_count_0 : decode cX4_count 0 = .ok (.iload_n 1, 1) := by decide +kernel
theorem dX4_count_1 : decode cX4_count 1 = .ok (.tableswitch 114 0 5 #[39, 44, 49, 57, 85, 96], 39) := by decide +kernel
theorem dX4_count_40 : decode cX4_count 40 = .ok (.aload_n 0, 1) := by decide +kernel
theorem dX4_count_41 : decode cX4_count 41 = .ok (.getfield 80, 3) := by decide +kernel
theorem dX4_count_44 : decode cX4_count 44 = .ok (.ireturn, 1) := by decide +kernel
theorem dX4_count_45 : decode cX4_count 45 = .ok (.aload_n 0, 1) := by decide +kernel
theorem dX4_count_46 : decode cX4_count 46 = .ok (.invokevirtual 269, 3) := by decide +kernel
theorem dX4_count_49 : decode cX4_count 49 = .ok (.ireturn, 1) := by decide +kernel
theorem dX4_count_50 : decode cX4_count 50 = .ok (.aload_n 0, 1) := by decide +kernel
theorem dX4_count_51 : decode cX4_count 51 = .ok (.getfield 34, 3) := by decide +kernel
theorem dX4_count_54 : decode cX4_count 54 = .ok (.getfield 55, 3) := by decide +kernel
theorem dX4_count_57 : decode cX4_count 57 = .ok (.ireturn, 1) := by decide +kernel
theorem dX4_count_58 : decode cX4_count 58 = .ok (.aload_n 0, 1) := by decide +kernel
theorem dX4_count_59 : decode cX4_count 59 = .ok (.getfield 47, 3) := by decide +kernel
theorem dX4_count_62 : decode cX4_count 62 = .ok (.iconst 0, 1) := by decide +kernel
theorem dX4_count_63 : decode cX4_count 63 = .ok (.aaload, 1) := by decide +kernel
theorem dX4_count_64 : decode cX4_count 64 = .ok (.getfield 251, 3) := by decide +kernel
theorem dX4_count_67 : decode cX4_count 67 = .ok (.iconst (-1), 1) := by decide +kernel
theorem dX4_count_68 : decode cX4_count 68 = .ok (.if_icmp .ne 8, 3) := by decide +kernel
theorem dX4_count_71 : decode cX4_count 71 = .ok (.bipush (-4), 2) := by decide +kernel
theorem dX4_count_73 : decode cX4_count 73 = .ok (.goto 12, 3) := by decide +kernel
theorem dX4_count_76 : decode cX4_count 76 = .ok (.aload_n 0, 1) := by decide +kernel
theorem dX4_count_77 : decode cX4_count 77 = .ok (.getfield 47, 3) := by decide +kernel
theorem dX4_count_80 : decode cX4_count 80 = .ok (.iconst 0, 1) := by decide +kernel
theorem dX4_count_81 : decode cX4_count 81 = .ok (.aaload, 1) := by decide +kernel
theorem dX4_count_82 : decode cX4_count 82 = .ok (.getfield 272, 3) := by decide +kernel
theorem dX4_count_85 : decode cX4_count 85 = .ok (.ireturn, 1) := by decide +kernel
theorem dX4_count_86 : decode cX4_count 86 = .ok (.aload_n 0, 1) := by decide +kernel
theorem dX4_count_87 : decode cX4_count 87 = .ok (.getfield 10, 3) := by decide +kernel
theorem dX4_count_90 : decode cX4_count 90 = .ok (.getfield 98, 3) := by decide +kernel
theorem dX4_count_93 : decode cX4_count 93 = .ok (.invokestatic 220, 3) := by decide +kernel
theorem dX4_count_96 : decode cX4_count 96 = .ok (.ireturn, 1) := by decide +kernel
theorem dX4_count_97 : decode cX4_count 97 = .ok (.aload_n 0, 1) := by decide +kernel
theorem dX4_count_98 : decode cX4_count 98 = .ok (.getfield 10, 3) := by decide +kernel
theorem dX4_count_101 : decode cX4_count 101 = .ok (.aload_n 0, 1) := by decide +kernel
theorem dX4_count_102 : decode cX4_count 102 = .ok (.getfield 10, 3) := by decide +kernel
theorem dX4_count_105 : decode cX4_count 105 = .ok (.getfield 98, 3) := by decide +kernel
theorem dX4_count_108 : decode cX4_count 108 = .ok (.invokevirtual 275, 3) := by decide +kernel
theorem dX4_count_111 : decode cX4_count 111 = .ok (.invokestatic 220, 3) := by decide +kernel
theorem dX4_count_114 : decode cX4_count 114 = .ok (.ireturn, 1) := by decide +kernel
theorem dX4_count_115 : decode cX4_count 115 = .ok (.iconst (-1), 1) := by decide +kernel
theorem dX4_count_116 : decode cX4_count 116 = .ok (.ireturn, 1) := by decide +kernel
theorem dX4_refusal_0 : decode cX4_refusal 0 = .ok (.aload_n 0, 1) := by decide +kernel
theorem dX4_refusal_1 : decode cX4_refusal 1 = .ok (.getfield 10, 3) := by decide +kernel
theorem dX4_refusal_4 : decode cX4_refusal 4 = .ok (.iload_n 1, 1) := by decide +kernel
theorem dX4_refusal_5 : decode cX4_refusal 5 = .ok (.invokevirtual 124, 3) := by decide +kernel
theorem dX4_refusal_8 : decode cX4_refusal 8 = .ok (.ifCond .ne 5, 3) := by decide +kernel
theorem dX4_refusal_11 : decode cX4_refusal 11 = .ok (.iconst (-1), 1) := by decide +kernel
theorem dX4_refusal_12 : decode cX4_refusal 12 = .ok (.ireturn, 1) := by decide +kernel
theorem dX4_refusal_13 : decode cX4_refusal 13 = .ok (.iload_n 2, 1) := by decide +kernel
theorem dX4_refusal_14 : decode cX4_refusal 14 = .ok (.ifCond .eq 23, 3) := by decide +kernel
theorem dX4_refusal_17 : decode cX4_refusal 17 = .ok (.aload_n 0, 1) := by decide +kernel
theorem dX4_refusal_18 : decode cX4_refusal 18 = .ok (.getfield 10, 3) := by decide +kernel
theorem dX4_refusal_21 : decode cX4_refusal 21 = .ok (.getfield 95, 3) := by decide +kernel
theorem dX4_refusal_24 : decode cX4_refusal 24 = .ok (.iload_n 1, 1) := by decide +kernel
theorem dX4_refusal_25 : decode cX4_refusal 25 = .ok (.invokestatic 134, 3) := by decide +kernel
theorem dX4_refusal_28 : decode cX4_refusal 28 = .ok (.iconst 1, 1) := by decide +kernel
theorem dX4_refusal_29 : decode cX4_refusal 29 = .ok (.if_icmp .ne 8, 3) := by decide +kernel
theorem dX4_refusal_32 : decode cX4_refusal 32 = .ok (.bipush (-2), 2) := by decide +kernel
theorem dX4_refusal_34 : decode cX4_refusal 34 = .ok (.goto 4, 3) := by decide +kernel
theorem dX4_refusal_37 : decode cX4_refusal 37 = .ok (.iconst 0, 1) := by decide +kernel
theorem dX4_refusal_38 : decode cX4_refusal 38 = .ok (.ireturn, 1) := by decide +kernel
theorem dX4_change_0 : decode cX4_change 0 = .ok (.aload_n 0, 1) := by decide +kernel
theorem dX4_change_1 : decode cX4_change 1 = .ok (.getfield 10, 3) := by decide +kernel
theorem dX4_change_4 : decode cX4_change 4 = .ok (.iload_n 3, 1) := by decide +kernel
theorem dX4_change_5 : decode cX4_change 5 = .ok (.invokevirtual 104, 3) := by decide +kernel
theorem dX4_change_8 : decode cX4_change 8 = .ok (.ifCond .eq 15, 3) := by decide +kernel
theorem dX4_change_11 : decode cX4_change 11 = .ok (.aload_n 0, 1) := by decide +kernel
theorem dX4_change_12 : decode cX4_change 12 = .ok (.getfield 10, 3) := by decide +kernel
theorem dX4_change_15 : decode cX4_change 15 = .ok (.iload 4, 2) := by decide +kernel
theorem dX4_change_17 : decode cX4_change 17 = .ok (.invokevirtual 124, 3) := by decide +kernel
theorem dX4_change_20 : decode cX4_change 20 = .ok (.ifCond .ne 5, 3) := by decide +kernel
theorem dX4_change_23 : decode cX4_change 23 = .ok (.iconst (-1), 1) := by decide +kernel
theorem dX4_change_24 : decode cX4_change 24 = .ok (.ireturn, 1) := by decide +kernel
theorem dX4_change_25 : decode cX4_change 25 = .ok (.iload 5, 2) := by decide +kernel
theorem dX4_change_27 : decode cX4_change 27 = .ok (.ifCond .eq 18, 3) := by decide +kernel
theorem dX4_change_30 : decode cX4_change 30 = .ok (.aload_n 2, 1) := by decide +kernel
theorem dX4_change_31 : decode cX4_change 31 = .ok (.iload_n 3, 1) := by decide +kernel
theorem dX4_change_32 : decode cX4_change 32 = .ok (.iaload, 1) := by decide +kernel
theorem dX4_change_33 : decode cX4_change 33 = .ok (.iload 4, 2) := by decide +kernel
theorem dX4_change_35 : decode cX4_change 35 = .ok (.invokestatic 134, 3) := by decide +kernel
theorem dX4_change_38 : decode cX4_change 38 = .ok (.iconst 1, 1) := by decide +kernel
theorem dX4_change_39 : decode cX4_change 39 = .ok (.if_icmp .ne 6, 3) := by decide +kernel
theorem dX4_change_42 : decode cX4_change 42 = .ok (.bipush (-2), 2) := by decide +kernel
theorem dX4_change_44 : decode cX4_change 44 = .ok (.ireturn, 1) := by decide +kernel
theorem dX4_change_45 : decode cX4_change 45 = .ok (.aload_n 1, 1) := by decide +kernel
theorem dX4_change_46 : decode cX4_change 46 = .ok (.iload_n 3, 1) := by decide +kernel
theorem dX4_change_47 : decode cX4_change 47 = .ok (.iaload, 1) := by decide +kernel
theorem dX4_change_48 : decode cX4_change 48 = .ok (.iload 4, 2) := by decide +kernel
theorem dX4_change_50 : decode cX4_change 50 = .ok (.invokestatic 134, 3) := by decide +kernel
theorem dX4_change_53 : decode cX4_change 53 = .ok (.istore 6, 2) := by decide +kernel
theorem dX4_change_55 : decode cX4_change 55 = .ok (.aload_n 1, 1) := by decide +kernel
theorem dX4_change_56 : decode cX4_change 56 = .ok (.iload_n 3, 1) := by decide +kernel
theorem dX4_change_57 : decode cX4_change 57 = .ok (.aload_n 1, 1) := by decide +kernel
theorem dX4_change_58 : decode cX4_change 58 = .ok (.iload_n 3, 1) := by decide +kernel
theorem dX4_change_59 : decode cX4_change 59 = .ok (.iaload, 1) := by decide +kernel
theorem dX4_change_60 : decode cX4_change 60 = .ok (.iload 4, 2) := by decide +kernel
theorem dX4_change_62 : decode cX4_change 62 = .ok (.iload 5, 2) := by decide +kernel
theorem dX4_change_64 : decode cX4_change 64 = .ok (.invokestatic 138, 3) := by decide +kernel
theorem dX4_change_67 : decode cX4_change 67 = .ok (.iastore, 1) := by decide +kernel
theorem dX4_change_68 : decode cX4_change 68 = .ok (.iload 6, 2) := by decide +kernel
theorem dX4_change_70 : decode cX4_change 70 = .ok (.ireturn, 1) := by decide +kernel
theorem dX4_imagesKept_0 : decode cX4_imagesKept 0 = .ok (.iconst 0, 1) := by decide +kernel
theorem dX4_imagesKept_1 : decode cX4_imagesKept 1 = .ok (.istore_n 1, 1) := by decide +kernel
theorem dX4_imagesKept_2 : decode cX4_imagesKept 2 = .ok (.iconst 0, 1) := by decide +kernel
theorem dX4_imagesKept_3 : decode cX4_imagesKept 3 = .ok (.istore_n 2, 1) := by decide +kernel
theorem dX4_imagesKept_4 : decode cX4_imagesKept 4 = .ok (.iload_n 2, 1) := by decide +kernel
theorem dX4_imagesKept_5 : decode cX4_imagesKept 5 = .ok (.iconst 2, 1) := by decide +kernel
theorem dX4_imagesKept_6 : decode cX4_imagesKept 6 = .ok (.if_icmp .ge 21, 3) := by decide +kernel
theorem dX4_imagesKept_9 : decode cX4_imagesKept 9 = .ok (.aload_n 0, 1) := by decide +kernel
theorem dX4_imagesKept_10 : decode cX4_imagesKept 10 = .ok (.getfield 20, 3) := by decide +kernel
theorem dX4_imagesKept_13 : decode cX4_imagesKept 13 = .ok (.iload_n 2, 1) := by decide +kernel
theorem dX4_imagesKept_14 : decode cX4_imagesKept 14 = .ok (.baload, 1) := by decide +kernel
theorem dX4_imagesKept_15 : decode cX4_imagesKept 15 = .ok (.ifCond .eq 6, 3) := by decide +kernel
theorem dX4_imagesKept_18 : decode cX4_imagesKept 18 = .ok (.iinc 1 1, 3) := by decide +kernel
theorem dX4_imagesKept_21 : decode cX4_imagesKept 21 = .ok (.iinc 2 1, 3) := by decide +kernel
theorem dX4_imagesKept_24 : decode cX4_imagesKept 24 = .ok (.goto (-20), 3) := by decide +kernel
theorem dX4_imagesKept_27 : decode cX4_imagesKept 27 = .ok (.iload_n 1, 1) := by decide +kernel
theorem dX4_imagesKept_28 : decode cX4_imagesKept 28 = .ok (.ireturn, 1) := by decide +kernel
theorem dX4_fitting_0 : decode cX4_fitting 0 = .ok (.aload_n 0, 1) := by decide +kernel
theorem dX4_fitting_1 : decode cX4_fitting 1 = .ok (.getfield 27, 3) := by decide +kernel
theorem dX4_fitting_4 : decode cX4_fitting 4 = .ok (.aload_n 0, 1) := by decide +kernel
theorem dX4_fitting_5 : decode cX4_fitting 5 = .ok (.getfield 10, 3) := by decide +kernel
theorem dX4_fitting_8 : decode cX4_fitting 8 = .ok (.invokevirtual 162, 3) := by decide +kernel
theorem dX4_fitting_11 : decode cX4_fitting 11 = .ok (.lstore_n 1, 1) := by decide +kernel
theorem dX4_fitting_12 : decode cX4_fitting 12 = .ok (.iconst 0, 1) := by decide +kernel
theorem dX4_fitting_13 : decode cX4_fitting 13 = .ok (.istore_n 3, 1) := by decide +kernel
theorem dX4_fitting_14 : decode cX4_fitting 14 = .ok (.iload_n 3, 1) := by decide +kernel
theorem dX4_fitting_15 : decode cX4_fitting 15 = .ok (.aload_n 0, 1) := by decide +kernel
theorem dX4_fitting_16 : decode cX4_fitting 16 = .ok (.getfield 80, 3) := by decide +kernel
theorem dX4_fitting_19 : decode cX4_fitting 19 = .ok (.if_icmp .ge 44, 3) := by decide +kernel
theorem dX4_fitting_22 : decode cX4_fitting 22 = .ok (.getstatic 207, 3) := by decide +kernel
theorem dX4_fitting_25 : decode cX4_fitting 25 = .ok (.aload_n 0, 1) := by decide +kernel
theorem dX4_fitting_26 : decode cX4_fitting 26 = .ok (.getfield 38, 3) := by decide +kernel
theorem dX4_fitting_29 : decode cX4_fitting 29 = .ok (.iload_n 3, 1) := by decide +kernel
theorem dX4_fitting_30 : decode cX4_fitting 30 = .ok (.iaload, 1) := by decide +kernel
theorem dX4_fitting_31 : decode cX4_fitting 31 = .ok (.laload, 1) := by decide +kernel
theorem dX4_fitting_32 : decode cX4_fitting 32 = .ok (.lstore 4, 2) := by decide +kernel
theorem dX4_fitting_34 : decode cX4_fitting 34 = .ok (.lload_n 1, 1) := by decide +kernel
theorem dX4_fitting_35 : decode cX4_fitting 35 = .ok (.aload_n 0, 1) := by decide +kernel
theorem dX4_fitting_36 : decode cX4_fitting 36 = .ok (.getfield 42, 3) := by decide +kernel
theorem dX4_fitting_39 : decode cX4_fitting 39 = .ok (.iload_n 3, 1) := by decide +kernel
theorem dX4_fitting_40 : decode cX4_fitting 40 = .ok (.baload, 1) := by decide +kernel
theorem dX4_fitting_41 : decode cX4_fitting 41 = .ok (.ifCond .eq 8, 3) := by decide +kernel
theorem dX4_fitting_44 : decode cX4_fitting 44 = .ok (.lload 4, 2) := by decide +kernel
theorem dX4_fitting_46 : decode cX4_fitting 46 = .ok (.goto 9, 3) := by decide +kernel
theorem dX4_fitting_49 : decode cX4_fitting 49 = .ok (.lload 4, 2) := by decide +kernel
theorem dX4_fitting_51 : decode cX4_fitting 51 = .ok (.ldc2_w 202, 3) := by decide +kernel
theorem dX4_fitting_54 : decode cX4_fitting 54 = .ok (.lxor, 1) := by decide +kernel
theorem dX4_fitting_55 : decode cX4_fitting 55 = .ok (.land, 1) := by decide +kernel
theorem dX4_fitting_56 : decode cX4_fitting 56 = .ok (.lstore_n 1, 1) := by decide +kernel
theorem dX4_fitting_57 : decode cX4_fitting 57 = .ok (.iinc 3 1, 3) := by decide +kernel
theorem dX4_fitting_60 : decode cX4_fitting 60 = .ok (.goto (-46), 3) := by decide +kernel
theorem dX4_fitting_63 : decode cX4_fitting 63 = .ok (.lload_n 1, 1) := by decide +kernel
theorem dX4_fitting_64 : decode cX4_fitting 64 = .ok (.lreturn, 1) := by decide +kernel
theorem dX4_expected_0 : decode cX4_expected 0 = .ok (.iload_n 1, 1) := by decide +kernel
theorem dX4_expected_1 : decode cX4_expected 1 = .ok (.ifCond .lt 17, 3) := by decide +kernel
theorem dX4_expected_4 : decode cX4_expected 4 = .ok (.iload_n 1, 1) := by decide +kernel
theorem dX4_expected_5 : decode cX4_expected 5 = .ok (.bipush 10, 2) := by decide +kernel
theorem dX4_expected_7 : decode cX4_expected 7 = .ok (.if_icmp .gt 11, 3) := by decide +kernel
theorem dX4_expected_10 : decode cX4_expected 10 = .ok (.iload 4, 2) := by decide +kernel
theorem dX4_expected_12 : decode cX4_expected 12 = .ok (.invokestatic 153, 3) := by decide +kernel
theorem dX4_expected_15 : decode cX4_expected 15 = .ok (.ifCond .ne 7, 3) := by decide +kernel
theorem dX4_expected_18 : decode cX4_expected 18 = .ok (.ldc2_w 202, 3) := by decide +kernel
theorem dX4_expected_21 : decode cX4_expected 21 = .ok (.lreturn, 1) := by decide +kernel
theorem dX4_expected_22 : decode cX4_expected 22 = .ok (.aload_n 0, 1) := by decide +kernel
theorem dX4_expected_23 : decode cX4_expected 23 = .ok (.getfield 27, 3) := by decide +kernel
theorem dX4_expected_26 : decode cX4_expected 26 = .ok (.aload_n 0, 1) := by decide +kernel
theorem dX4_expected_27 : decode cX4_expected 27 = .ok (.getfield 10, 3) := by decide +kernel
theorem dX4_expected_30 : decode cX4_expected 30 = .ok (.aload_n 0, 1) := by decide +kernel
theorem dX4_expected_31 : decode cX4_expected 31 = .ok (.getfield 10, 3) := by decide +kernel
theorem dX4_expected_34 : decode cX4_expected 34 = .ok (.getfield 92, 3) := by decide +kernel
theorem dX4_expected_37 : decode cX4_expected 37 = .ok (.invokevirtual 184, 3) := by decide +kernel
theorem dX4_expected_40 : decode cX4_expected 40 = .ok (.lconst 0, 1) := by decide +kernel
theorem dX4_expected_41 : decode cX4_expected 41 = .ok (.lstore 5, 2) := by decide +kernel
theorem dX4_expected_43 : decode cX4_expected 43 = .ok (.iconst 0, 1) := by decide +kernel
theorem dX4_expected_44 : decode cX4_expected 44 = .ok (.istore 7, 2) := by decide +kernel
theorem dX4_expected_46 : decode cX4_expected 46 = .ok (.iload 7, 2) := by decide +kernel
theorem dX4_expected_48 : decode cX4_expected 48 = .ok (.aload_n 0, 1) := by decide +kernel
theorem dX4_expected_49 : decode cX4_expected 49 = .ok (.getfield 10, 3) := by decide +kernel
theorem dX4_expected_52 : decode cX4_expected 52 = .ok (.invokevirtual 214, 3) := by decide +kernel
theorem dX4_expected_55 : decode cX4_expected 55 = .ok (.if_icmp .gt 59, 3) := by decide +kernel
theorem dX4_expected_58 : decode cX4_expected 58 = .ok (.aload_n 0, 1) := by decide +kernel
theorem dX4_expected_59 : decode cX4_expected 59 = .ok (.iload 7, 2) := by decide +kernel
theorem dX4_expected_61 : decode cX4_expected 61 = .ok (.iload_n 1, 1) := by decide +kernel
theorem dX4_expected_62 : decode cX4_expected 62 = .ok (.invokevirtual 278, 3) := by decide +kernel
theorem dX4_expected_65 : decode cX4_expected 65 = .ok (.lstore 8, 2) := by decide +kernel
theorem dX4_expected_67 : decode cX4_expected 67 = .ok (.lload 8, 2) := by decide +kernel
theorem dX4_expected_69 : decode cX4_expected 69 = .ok (.lconst 0, 1) := by decide +kernel
theorem dX4_expected_70 : decode cX4_expected 70 = .ok (.lcmp, 1) := by decide +kernel
theorem dX4_expected_71 : decode cX4_expected 71 = .ok (.ifCond .eq 37, 3) := by decide +kernel
theorem dX4_expected_74 : decode cX4_expected 74 = .ok (.lload 5, 2) := by decide +kernel
theorem dX4_expected_76 : decode cX4_expected 76 = .ok (.lload 8, 2) := by decide +kernel
theorem dX4_expected_78 : decode cX4_expected 78 = .ok (.aload_n 0, 1) := by decide +kernel
theorem dX4_expected_79 : decode cX4_expected 79 = .ok (.getfield 27, 3) := by decide +kernel
theorem dX4_expected_82 : decode cX4_expected 82 = .ok (.aload_n 0, 1) := by decide +kernel
theorem dX4_expected_83 : decode cX4_expected 83 = .ok (.getfield 10, 3) := by decide +kernel
theorem dX4_expected_86 : decode cX4_expected 86 = .ok (.iload 7, 2) := by decide +kernel
theorem dX4_expected_88 : decode cX4_expected 88 = .ok (.aload_n 0, 1) := by decide +kernel
theorem dX4_expected_89 : decode cX4_expected 89 = .ok (.getfield 10, 3) := by decide +kernel
theorem dX4_expected_92 : decode cX4_expected 92 = .ok (.getfield 95, 3) := by decide +kernel
theorem dX4_expected_95 : decode cX4_expected 95 = .ok (.invokevirtual 188, 3) := by decide +kernel
theorem dX4_expected_98 : decode cX4_expected 98 = .ok (.iload_n 2, 1) := by decide +kernel
theorem dX4_expected_99 : decode cX4_expected 99 = .ok (.iload_n 3, 1) := by decide +kernel
theorem dX4_expected_100 : decode cX4_expected 100 = .ok (.invokestatic 282, 3) := by decide +kernel
theorem dX4_expected_103 : decode cX4_expected 103 = .ok (.i2l, 1) := by decide +kernel
theorem dX4_expected_104 : decode cX4_expected 104 = .ok (.lmul, 1) := by decide +kernel
theorem dX4_expected_105 : decode cX4_expected 105 = .ok (.ladd, 1) := by decide +kernel
theorem dX4_expected_106 : decode cX4_expected 106 = .ok (.lstore 5, 2) := by decide +kernel
theorem dX4_expected_108 : decode cX4_expected 108 = .ok (.iinc 7 1, 3) := by decide +kernel
theorem dX4_expected_111 : decode cX4_expected 111 = .ok (.goto (-65), 3) := by decide +kernel
theorem dX4_expected_114 : decode cX4_expected 114 = .ok (.lload 5, 2) := by decide +kernel
theorem dX4_expected_116 : decode cX4_expected 116 = .ok (.ldc2_w 286, 3) := by decide +kernel
theorem dX4_expected_119 : decode cX4_expected 119 = .ok (.aload_n 0, 1) := by decide +kernel
theorem dX4_expected_120 : decode cX4_expected 120 = .ok (.getfield 10, 3) := by decide +kernel
theorem dX4_expected_123 : decode cX4_expected 123 = .ok (.getfield 89, 3) := by decide +kernel
theorem dX4_expected_126 : decode cX4_expected 126 = .ok (.invokestatic 288, 3) := by decide +kernel
theorem dX4_expected_129 : decode cX4_expected 129 = .ok (.iload 4, 2) := by decide +kernel
theorem dX4_expected_131 : decode cX4_expected 131 = .ok (.invokestatic 292, 3) := by decide +kernel
theorem dX4_expected_134 : decode cX4_expected 134 = .ok (.lreturn, 1) := by decide +kernel
theorem dX4_weightOf_0 : decode cX4_weightOf 0 = .ok (.iload_n 1, 1) := by decide +kernel
theorem dX4_weightOf_1 : decode cX4_weightOf 1 = .ok (.invokestatic 220, 3) := by decide +kernel
theorem dX4_weightOf_4 : decode cX4_weightOf 4 = .ok (.istore_n 3, 1) := by decide +kernel
theorem dX4_weightOf_5 : decode cX4_weightOf 5 = .ok (.bipush 10, 2) := by decide +kernel
theorem dX4_weightOf_7 : decode cX4_weightOf 7 = .ok (.iload_n 2, 1) := by decide +kernel
theorem dX4_weightOf_8 : decode cX4_weightOf 8 = .ok (.isub, 1) := by decide +kernel
theorem dX4_weightOf_9 : decode cX4_weightOf 9 = .ok (.i2l, 1) := by decide +kernel
theorem dX4_weightOf_10 : decode cX4_weightOf 10 = .ok (.iload_n 3, 1) := by decide +kernel
theorem dX4_weightOf_11 : decode cX4_weightOf 11 = .ok (.invokestatic 288, 3) := by decide +kernel
theorem dX4_weightOf_14 : decode cX4_weightOf 14 = .ok (.iload_n 2, 1) := by decide +kernel
theorem dX4_weightOf_15 : decode cX4_weightOf 15 = .ok (.i2l, 1) := by decide +kernel
theorem dX4_weightOf_16 : decode cX4_weightOf 16 = .ok (.aload_n 0, 1) := by decide +kernel
theorem dX4_weightOf_17 : decode cX4_weightOf 17 = .ok (.getfield 10, 3) := by decide +kernel
theorem dX4_weightOf_20 : decode cX4_weightOf 20 = .ok (.getfield 89, 3) := by decide +kernel
theorem dX4_weightOf_23 : decode cX4_weightOf 23 = .ok (.iload_n 3, 1) := by decide +kernel
theorem dX4_weightOf_24 : decode cX4_weightOf 24 = .ok (.isub, 1) := by decide +kernel
theorem dX4_weightOf_25 : decode cX4_weightOf 25 = .ok (.invokestatic 288, 3) := by decide +kernel
theorem dX4_weightOf_28 : decode cX4_weightOf 28 = .ok (.lmul, 1) := by decide +kernel
theorem dX4_weightOf_29 : decode cX4_weightOf 29 = .ok (.lreturn, 1) := by decide +kernel
theorem dX4_measure_0 : decode cX4_measure 0 = .ok (.iload_n 2, 1) := by decide +kernel
theorem dX4_measure_1 : decode cX4_measure 1 = .ok (.lookupswitch 57 #[(0, 27), (1, 45)], 27) := by decide +kernel
theorem dX4_measure_28 : decode cX4_measure 28 = .ok (.lload_n 0, 1) := by decide +kernel
theorem dX4_measure_29 : decode cX4_measure 29 = .ok (.getstatic 207, 3) := by decide +kernel
theorem dX4_measure_32 : decode cX4_measure 32 = .ok (.iload_n 3, 1) := by decide +kernel
theorem dX4_measure_33 : decode cX4_measure 33 = .ok (.laload, 1) := by decide +kernel
theorem dX4_measure_34 : decode cX4_measure 34 = .ok (.land, 1) := by decide +kernel
theorem dX4_measure_35 : decode cX4_measure 35 = .ok (.lconst 0, 1) := by decide +kernel
theorem dX4_measure_36 : decode cX4_measure 36 = .ok (.lcmp, 1) := by decide +kernel
theorem dX4_measure_37 : decode cX4_measure 37 = .ok (.ifCond .eq 7, 3) := by decide +kernel
theorem dX4_measure_40 : decode cX4_measure 40 = .ok (.iconst 1, 1) := by decide +kernel
theorem dX4_measure_41 : decode cX4_measure 41 = .ok (.goto 4, 3) := by decide +kernel
theorem dX4_measure_44 : decode cX4_measure 44 = .ok (.iconst 0, 1) := by decide +kernel
theorem dX4_measure_45 : decode cX4_measure 45 = .ok (.ireturn, 1) := by decide +kernel
theorem dX4_measure_46 : decode cX4_measure 46 = .ok (.lload_n 0, 1) := by decide +kernel
theorem dX4_measure_47 : decode cX4_measure 47 = .ok (.lconst 0, 1) := by decide +kernel
theorem dX4_measure_48 : decode cX4_measure 48 = .ok (.lcmp, 1) := by decide +kernel
theorem dX4_measure_49 : decode cX4_measure 49 = .ok (.ifCond .ne 7, 3) := by decide +kernel
theorem dX4_measure_52 : decode cX4_measure 52 = .ok (.iconst 1, 1) := by decide +kernel
theorem dX4_measure_53 : decode cX4_measure 53 = .ok (.goto 4, 3) := by decide +kernel
theorem dX4_measure_56 : decode cX4_measure 56 = .ok (.iconst 0, 1) := by decide +kernel
theorem dX4_measure_57 : decode cX4_measure 57 = .ok (.ireturn, 1) := by decide +kernel
theorem dX4_measure_58 : decode cX4_measure 58 = .ok (.lload_n 0, 1) := by decide +kernel
theorem dX4_measure_59 : decode cX4_measure 59 = .ok (.invokestatic 166, 3) := by decide +kernel
theorem dX4_measure_62 : decode cX4_measure 62 = .ok (.ireturn, 1) := by decide +kernel
theorem dX4_power_0 : decode cX4_power 0 = .ok (.lconst 1, 1) := by decide +kernel
theorem dX4_power_1 : decode cX4_power 1 = .ok (.lstore_n 3, 1) := by decide +kernel
theorem dX4_power_2 : decode cX4_power 2 = .ok (.iconst 0, 1) := by decide +kernel
theorem dX4_power_3 : decode cX4_power 3 = .ok (.istore 5, 2) := by decide +kernel
theorem dX4_power_5 : decode cX4_power 5 = .ok (.iload 5, 2) := by decide +kernel
theorem dX4_power_7 : decode cX4_power 7 = .ok (.iload_n 2, 1) := by decide +kernel
theorem dX4_power_8 : decode cX4_power 8 = .ok (.if_icmp .ge 13, 3) := by decide +kernel
theorem dX4_power_11 : decode cX4_power 11 = .ok (.lload_n 3, 1) := by decide +kernel
theorem dX4_power_12 : decode cX4_power 12 = .ok (.lload_n 0, 1) := by decide +kernel
theorem dX4_power_13 : decode cX4_power 13 = .ok (.lmul, 1) := by decide +kernel
theorem dX4_power_14 : decode cX4_power 14 = .ok (.lstore_n 3, 1) := by decide +kernel
theorem dX4_power_15 : decode cX4_power 15 = .ok (.iinc 5 1, 3) := by decide +kernel
theorem dX4_power_18 : decode cX4_power 18 = .ok (.goto (-13), 3) := by decide +kernel
theorem dX4_power_21 : decode cX4_power 21 = .ok (.lload_n 3, 1) := by decide +kernel
theorem dX4_power_22 : decode cX4_power 22 = .ok (.lreturn, 1) := by decide +kernel
theorem dX4_inLowestTerms_0 : decode cX4_inLowestTerms 0 = .ok (.lload_n 2, 1) := by decide +kernel
theorem dX4_inLowestTerms_1 : decode cX4_inLowestTerms 1 = .ok (.lstore 5, 2) := by decide +kernel
theorem dX4_inLowestTerms_3 : decode cX4_inLowestTerms 3 = .ok (.lload_n 0, 1) := by decide +kernel
theorem dX4_inLowestTerms_4 : decode cX4_inLowestTerms 4 = .ok (.lstore 7, 2) := by decide +kernel
theorem dX4_inLowestTerms_6 : decode cX4_inLowestTerms 6 = .ok (.iconst 0, 1) := by decide +kernel
theorem dX4_inLowestTerms_7 : decode cX4_inLowestTerms 7 = .ok (.istore 9, 2) := by decide +kernel
theorem dX4_inLowestTerms_9 : decode cX4_inLowestTerms 9 = .ok (.iload 9, 2) := by decide +kernel
theorem dX4_inLowestTerms_11 : decode cX4_inLowestTerms 11 = .ok (.bipush 100, 2) := by decide +kernel
theorem dX4_inLowestTerms_13 : decode cX4_inLowestTerms 13 = .ok (.if_icmp .ge 31, 3) := by decide +kernel
theorem dX4_inLowestTerms_16 : decode cX4_inLowestTerms 16 = .ok (.lload 7, 2) := by decide +kernel
theorem dX4_inLowestTerms_18 : decode cX4_inLowestTerms 18 = .ok (.lconst 0, 1) := by decide +kernel
theorem dX4_inLowestTerms_19 : decode cX4_inLowestTerms 19 = .ok (.lcmp, 1) := by decide +kernel
theorem dX4_inLowestTerms_20 : decode cX4_inLowestTerms 20 = .ok (.ifCond .eq 24, 3) := by decide +kernel
theorem dX4_inLowestTerms_23 : decode cX4_inLowestTerms 23 = .ok (.lload 5, 2) := by decide +kernel
theorem dX4_inLowestTerms_25 : decode cX4_inLowestTerms 25 = .ok (.lload 7, 2) := by decide +kernel
theorem dX4_inLowestTerms_27 : decode cX4_inLowestTerms 27 = .ok (.lrem, 1) := by decide +kernel
theorem dX4_inLowestTerms_28 : decode cX4_inLowestTerms 28 = .ok (.lstore 10, 2) := by decide +kernel
theorem dX4_inLowestTerms_30 : decode cX4_inLowestTerms 30 = .ok (.lload 7, 2) := by decide +kernel
theorem dX4_inLowestTerms_32 : decode cX4_inLowestTerms 32 = .ok (.lstore 5, 2) := by decide +kernel
theorem dX4_inLowestTerms_34 : decode cX4_inLowestTerms 34 = .ok (.lload 10, 2) := by decide +kernel
theorem dX4_inLowestTerms_36 : decode cX4_inLowestTerms 36 = .ok (.lstore 7, 2) := by decide +kernel
theorem dX4_inLowestTerms_38 : decode cX4_inLowestTerms 38 = .ok (.iinc 9 1, 3) := by decide +kernel
theorem dX4_inLowestTerms_41 : decode cX4_inLowestTerms 41 = .ok (.goto (-32), 3) := by decide +kernel
theorem dX4_inLowestTerms_44 : decode cX4_inLowestTerms 44 = .ok (.lload 5, 2) := by decide +kernel
theorem dX4_inLowestTerms_46 : decode cX4_inLowestTerms 46 = .ok (.lconst 0, 1) := by decide +kernel
theorem dX4_inLowestTerms_47 : decode cX4_inLowestTerms 47 = .ok (.lcmp, 1) := by decide +kernel
theorem dX4_inLowestTerms_48 : decode cX4_inLowestTerms 48 = .ok (.ifCond .ne 7, 3) := by decide +kernel
theorem dX4_inLowestTerms_51 : decode cX4_inLowestTerms 51 = .ok (.ldc2_w 202, 3) := by decide +kernel
theorem dX4_inLowestTerms_54 : decode cX4_inLowestTerms 54 = .ok (.lreturn, 1) := by decide +kernel
theorem dX4_inLowestTerms_55 : decode cX4_inLowestTerms 55 = .ok (.iload 4, 2) := by decide +kernel
theorem dX4_inLowestTerms_57 : decode cX4_inLowestTerms 57 = .ok (.ifCond .ne 7, 3) := by decide +kernel
theorem dX4_inLowestTerms_60 : decode cX4_inLowestTerms 60 = .ok (.lload_n 0, 1) := by decide +kernel
theorem dX4_inLowestTerms_61 : decode cX4_inLowestTerms 61 = .ok (.goto 4, 3) := by decide +kernel
theorem dX4_inLowestTerms_64 : decode cX4_inLowestTerms 64 = .ok (.lload_n 2, 1) := by decide +kernel
theorem dX4_inLowestTerms_65 : decode cX4_inLowestTerms 65 = .ok (.lload 5, 2) := by decide +kernel
theorem dX4_inLowestTerms_67 : decode cX4_inLowestTerms 67 = .ok (.ldiv, 1) := by decide +kernel
theorem dX4_inLowestTerms_68 : decode cX4_inLowestTerms 68 = .ok (.lreturn, 1) := by decide +kernel
theorem dX4_leastOf_0 : decode cX4_leastOf 0 = .ok (.iconst 0, 1) := by decide +kernel
theorem dX4_leastOf_1 : decode cX4_leastOf 1 = .ok (.istore_n 2, 1) := by decide +kernel
theorem dX4_leastOf_2 : decode cX4_leastOf 2 = .ok (.iload_n 2, 1) := by decide +kernel
theorem dX4_leastOf_3 : decode cX4_leastOf 3 = .ok (.bipush 64, 2) := by decide +kernel
theorem dX4_leastOf_5 : decode cX4_leastOf 5 = .ok (.if_icmp .ge 19, 3) := by decide +kernel
theorem dX4_leastOf_8 : decode cX4_leastOf 8 = .ok (.iload_n 2, 1) := by decide +kernel
theorem dX4_leastOf_9 : decode cX4_leastOf 9 = .ok (.lload_n 0, 1) := by decide +kernel
theorem dX4_leastOf_10 : decode cX4_leastOf 10 = .ok (.invokestatic 198, 3) := by decide +kernel
theorem dX4_leastOf_13 : decode cX4_leastOf 13 = .ok (.ifCond .eq 5, 3) := by decide +kernel
theorem dX4_leastOf_16 : decode cX4_leastOf 16 = .ok (.iload_n 2, 1) := by decide +kernel
theorem dX4_leastOf_17 : decode cX4_leastOf 17 = .ok (.ireturn, 1) := by decide +kernel
theorem dX4_leastOf_18 : decode cX4_leastOf 18 = .ok (.iinc 2 1, 3) := by decide +kernel
theorem dX4_leastOf_21 : decode cX4_leastOf 21 = .ok (.goto (-19), 3) := by decide +kernel
theorem dX4_leastOf_24 : decode cX4_leastOf 24 = .ok (.bipush (-4), 2) := by decide +kernel
theorem dX4_leastOf_26 : decode cX4_leastOf 26 = .ok (.ireturn, 1) := by decide +kernel
theorem dX4_greatestOf_0 : decode cX4_greatestOf 0 = .ok (.bipush 63, 2) := by decide +kernel
theorem dX4_greatestOf_2 : decode cX4_greatestOf 2 = .ok (.istore_n 2, 1) := by decide +kernel
theorem dX4_greatestOf_3 : decode cX4_greatestOf 3 = .ok (.iload_n 2, 1) := by decide +kernel
theorem dX4_greatestOf_4 : decode cX4_greatestOf 4 = .ok (.ifCond .lt 19, 3) := by decide +kernel
theorem dX4_greatestOf_7 : decode cX4_greatestOf 7 = .ok (.iload_n 2, 1) := by decide +kernel
theorem dX4_greatestOf_8 : decode cX4_greatestOf 8 = .ok (.lload_n 0, 1) := by decide +kernel
theorem dX4_greatestOf_9 : decode cX4_greatestOf 9 = .ok (.invokestatic 198, 3) := by decide +kernel
theorem dX4_greatestOf_12 : decode cX4_greatestOf 12 = .ok (.ifCond .eq 5, 3) := by decide +kernel
theorem dX4_greatestOf_15 : decode cX4_greatestOf 15 = .ok (.iload_n 2, 1) := by decide +kernel
theorem dX4_greatestOf_16 : decode cX4_greatestOf 16 = .ok (.ireturn, 1) := by decide +kernel
theorem dX4_greatestOf_17 : decode cX4_greatestOf 17 = .ok (.iinc 2 (-1), 3) := by decide +kernel
theorem dX4_greatestOf_20 : decode cX4_greatestOf 20 = .ok (.goto (-17), 3) := by decide +kernel
theorem dX4_greatestOf_23 : decode cX4_greatestOf 23 = .ok (.bipush (-4), 2) := by decide +kernel
theorem dX4_greatestOf_25 : decode cX4_greatestOf 25 = .ok (.ireturn, 1) := by decide +kernel
theorem dX4_inAll_0 : decode cX4_inAll 0 = .ok (.iconst 0, 1) := by decide +kernel
theorem dX4_inAll_1 : decode cX4_inAll 1 = .ok (.istore_n 3, 1) := by decide +kernel
theorem dX4_inAll_2 : decode cX4_inAll 2 = .ok (.iconst 0, 1) := by decide +kernel
theorem dX4_inAll_3 : decode cX4_inAll 3 = .ok (.istore 4, 2) := by decide +kernel
theorem dX4_inAll_5 : decode cX4_inAll 5 = .ok (.iload 4, 2) := by decide +kernel
theorem dX4_inAll_7 : decode cX4_inAll 7 = .ok (.aload_n 0, 1) := by decide +kernel
theorem dX4_inAll_8 : decode cX4_inAll 8 = .ok (.getfield 10, 3) := by decide +kernel
theorem dX4_inAll_11 : decode cX4_inAll 11 = .ok (.getfield 83, 3) := by decide +kernel
theorem dX4_inAll_14 : decode cX4_inAll 14 = .ok (.if_icmp .ge 33, 3) := by decide +kernel
theorem dX4_inAll_17 : decode cX4_inAll 17 = .ok (.lload_n 1, 1) := by decide +kernel
theorem dX4_inAll_18 : decode cX4_inAll 18 = .ok (.getstatic 207, 3) := by decide +kernel
theorem dX4_inAll_21 : decode cX4_inAll 21 = .ok (.iload 4, 2) := by decide +kernel
theorem dX4_inAll_23 : decode cX4_inAll 23 = .ok (.laload, 1) := by decide +kernel
theorem dX4_inAll_24 : decode cX4_inAll 24 = .ok (.ldc2_w 202, 3) := by decide +kernel
theorem dX4_inAll_27 : decode cX4_inAll 27 = .ok (.lxor, 1) := by decide +kernel
theorem dX4_inAll_28 : decode cX4_inAll 28 = .ok (.land, 1) := by decide +kernel
theorem dX4_inAll_29 : decode cX4_inAll 29 = .ok (.lconst 0, 1) := by decide +kernel
theorem dX4_inAll_30 : decode cX4_inAll 30 = .ok (.lcmp, 1) := by decide +kernel
theorem dX4_inAll_31 : decode cX4_inAll 31 = .ok (.ifCond .ne 10, 3) := by decide +kernel
theorem dX4_inAll_34 : decode cX4_inAll 34 = .ok (.iload_n 3, 1) := by decide +kernel
theorem dX4_inAll_35 : decode cX4_inAll 35 = .ok (.iconst 1, 1) := by decide +kernel
theorem dX4_inAll_36 : decode cX4_inAll 36 = .ok (.iload 4, 2) := by decide +kernel
theorem dX4_inAll_38 : decode cX4_inAll 38 = .ok (.ishl, 1) := by decide +kernel
theorem dX4_inAll_39 : decode cX4_inAll 39 = .ok (.ior, 1) := by decide +kernel
theorem dX4_inAll_40 : decode cX4_inAll 40 = .ok (.istore_n 3, 1) := by decide +kernel
theorem dX4_inAll_41 : decode cX4_inAll 41 = .ok (.iinc 4 1, 3) := by decide +kernel
theorem dX4_inAll_44 : decode cX4_inAll 44 = .ok (.goto (-39), 3) := by decide +kernel
theorem dX4_inAll_47 : decode cX4_inAll 47 = .ok (.lload_n 1, 1) := by decide +kernel
theorem dX4_inAll_48 : decode cX4_inAll 48 = .ok (.lconst 0, 1) := by decide +kernel
theorem dX4_inAll_49 : decode cX4_inAll 49 = .ok (.lcmp, 1) := by decide +kernel
theorem dX4_inAll_50 : decode cX4_inAll 50 = .ok (.ifCond .ne 8, 3) := by decide +kernel
theorem dX4_inAll_53 : decode cX4_inAll 53 = .ok (.bipush (-4), 2) := by decide +kernel
theorem dX4_inAll_55 : decode cX4_inAll 55 = .ok (.goto 4, 3) := by decide +kernel
theorem dX4_inAll_58 : decode cX4_inAll 58 = .ok (.iload_n 3, 1) := by decide +kernel
theorem dX4_inAll_59 : decode cX4_inAll 59 = .ok (.ireturn, 1) := by decide +kernel
theorem dX4_inNone_0 : decode cX4_inNone 0 = .ok (.iconst 0, 1) := by decide +kernel
theorem dX4_inNone_1 : decode cX4_inNone 1 = .ok (.istore_n 3, 1) := by decide +kernel
theorem dX4_inNone_2 : decode cX4_inNone 2 = .ok (.iconst 0, 1) := by decide +kernel
theorem dX4_inNone_3 : decode cX4_inNone 3 = .ok (.istore 4, 2) := by decide +kernel
theorem dX4_inNone_5 : decode cX4_inNone 5 = .ok (.iload 4, 2) := by decide +kernel
theorem dX4_inNone_7 : decode cX4_inNone 7 = .ok (.aload_n 0, 1) := by decide +kernel
theorem dX4_inNone_8 : decode cX4_inNone 8 = .ok (.getfield 10, 3) := by decide +kernel
theorem dX4_inNone_11 : decode cX4_inNone 11 = .ok (.getfield 83, 3) := by decide +kernel
theorem dX4_inNone_14 : decode cX4_inNone 14 = .ok (.if_icmp .ge 29, 3) := by decide +kernel
theorem dX4_inNone_17 : decode cX4_inNone 17 = .ok (.lload_n 1, 1) := by decide +kernel
theorem dX4_inNone_18 : decode cX4_inNone 18 = .ok (.getstatic 207, 3) := by decide +kernel
theorem dX4_inNone_21 : decode cX4_inNone 21 = .ok (.iload 4, 2) := by decide +kernel
theorem dX4_inNone_23 : decode cX4_inNone 23 = .ok (.laload, 1) := by decide +kernel
theorem dX4_inNone_24 : decode cX4_inNone 24 = .ok (.land, 1) := by decide +kernel
theorem dX4_inNone_25 : decode cX4_inNone 25 = .ok (.lconst 0, 1) := by decide +kernel
theorem dX4_inNone_26 : decode cX4_inNone 26 = .ok (.lcmp, 1) := by decide +kernel
theorem dX4_inNone_27 : decode cX4_inNone 27 = .ok (.ifCond .ne 10, 3) := by decide +kernel
theorem dX4_inNone_30 : decode cX4_inNone 30 = .ok (.iload_n 3, 1) := by decide +kernel
theorem dX4_inNone_31 : decode cX4_inNone 31 = .ok (.iconst 1, 1) := by decide +kernel
theorem dX4_inNone_32 : decode cX4_inNone 32 = .ok (.iload 4, 2) := by decide +kernel
theorem dX4_inNone_34 : decode cX4_inNone 34 = .ok (.ishl, 1) := by decide +kernel
theorem dX4_inNone_35 : decode cX4_inNone 35 = .ok (.ior, 1) := by decide +kernel
theorem dX4_inNone_36 : decode cX4_inNone 36 = .ok (.istore_n 3, 1) := by decide +kernel
theorem dX4_inNone_37 : decode cX4_inNone 37 = .ok (.iinc 4 1, 3) := by decide +kernel
theorem dX4_inNone_40 : decode cX4_inNone 40 = .ok (.goto (-35), 3) := by decide +kernel
theorem dX4_inNone_43 : decode cX4_inNone 43 = .ok (.lload_n 1, 1) := by decide +kernel
theorem dX4_inNone_44 : decode cX4_inNone 44 = .ok (.lconst 0, 1) := by decide +kernel
theorem dX4_inNone_45 : decode cX4_inNone 45 = .ok (.lcmp, 1) := by decide +kernel
theorem dX4_inNone_46 : decode cX4_inNone 46 = .ok (.ifCond .ne 8, 3) := by decide +kernel
theorem dX4_inNone_49 : decode cX4_inNone 49 = .ok (.bipush (-4), 2) := by decide +kernel
theorem dX4_inNone_51 : decode cX4_inNone 51 = .ok (.goto 4, 3) := by decide +kernel
theorem dX4_inNone_54 : decode cX4_inNone 54 = .ok (.iload_n 3, 1) := by decide +kernel
theorem dX4_inNone_55 : decode cX4_inNone 55 = .ok (.ireturn, 1) := by decide +kernel
theorem dX4_isAmong_0 : decode cX4_isAmong 0 = .ok (.lload_n 1, 1) := by decide +kernel
theorem dX4_isAmong_1 : decode cX4_isAmong 1 = .ok (.iload_n 0, 1) := by decide +kernel
theorem dX4_isAmong_2 : decode cX4_isAmong 2 = .ok (.lushr, 1) := by decide +kernel
theorem dX4_isAmong_3 : decode cX4_isAmong 3 = .ok (.lconst 1, 1) := by decide +kernel
theorem dX4_isAmong_4 : decode cX4_isAmong 4 = .ok (.land, 1) := by decide +kernel
theorem dX4_isAmong_5 : decode cX4_isAmong 5 = .ok (.lconst 1, 1) := by decide +kernel
theorem dX4_isAmong_6 : decode cX4_isAmong 6 = .ok (.lcmp, 1) := by decide +kernel
theorem dX4_isAmong_7 : decode cX4_isAmong 7 = .ok (.ifCond .ne 7, 3) := by decide +kernel
theorem dX4_isAmong_10 : decode cX4_isAmong 10 = .ok (.iconst 1, 1) := by decide +kernel
theorem dX4_isAmong_11 : decode cX4_isAmong 11 = .ok (.goto 4, 3) := by decide +kernel
theorem dX4_isAmong_14 : decode cX4_isAmong 14 = .ok (.iconst 0, 1) := by decide +kernel
theorem dX4_isAmong_15 : decode cX4_isAmong 15 = .ok (.ireturn, 1) := by decide +kernel
theorem dX4_isFewer_0 : decode cX4_isFewer 0 = .ok (.iload_n 1, 1) := by decide +kernel
theorem dX4_isFewer_1 : decode cX4_isFewer 1 = .ok (.bipush (-4), 2) := by decide +kernel
theorem dX4_isFewer_3 : decode cX4_isFewer 3 = .ok (.if_icmp .eq 14, 3) := by decide +kernel
theorem dX4_isFewer_6 : decode cX4_isFewer 6 = .ok (.iload_n 0, 1) := by decide +kernel
theorem dX4_isFewer_7 : decode cX4_isFewer 7 = .ok (.invokestatic 220, 3) := by decide +kernel
theorem dX4_isFewer_10 : decode cX4_isFewer 10 = .ok (.iload_n 1, 1) := by decide +kernel
theorem dX4_isFewer_11 : decode cX4_isFewer 11 = .ok (.invokestatic 220, 3) := by decide +kernel
theorem dX4_isFewer_14 : decode cX4_isFewer 14 = .ok (.if_icmp .ge 7, 3) := by decide +kernel
theorem dX4_isFewer_17 : decode cX4_isFewer 17 = .ok (.iconst 1, 1) := by decide +kernel
theorem dX4_isFewer_18 : decode cX4_isFewer 18 = .ok (.goto 4, 3) := by decide +kernel
theorem dX4_isFewer_21 : decode cX4_isFewer 21 = .ok (.iconst 0, 1) := by decide +kernel
theorem dX4_isFewer_22 : decode cX4_isFewer 22 = .ok (.ireturn, 1) := by decide +kernel
theorem dX4_sizeOf_0 : decode cX4_sizeOf 0 = .ok (.iload_n 0, 1) := by decide +kernel
theorem dX4_sizeOf_1 : decode cX4_sizeOf 1 = .ok (.bipush (-4), 2) := by decide +kernel
theorem dX4_sizeOf_3 : decode cX4_sizeOf 3 = .ok (.if_icmp .ne 8, 3) := by decide +kernel
theorem dX4_sizeOf_6 : decode cX4_sizeOf 6 = .ok (.bipush (-4), 2) := by decide +kernel
theorem dX4_sizeOf_8 : decode cX4_sizeOf 8 = .ok (.goto 7, 3) := by decide +kernel
theorem dX4_sizeOf_11 : decode cX4_sizeOf 11 = .ok (.iload_n 0, 1) := by decide +kernel
theorem dX4_sizeOf_12 : decode cX4_sizeOf 12 = .ok (.invokestatic 220, 3) := by decide +kernel
theorem dX4_sizeOf_15 : decode cX4_sizeOf 15 = .ok (.ireturn, 1) := by decide +kernel
theorem dX4_bitOf_0 : decode cX4_bitOf 0 = .ok (.iload_n 0, 1) := by decide +kernel
theorem dX4_bitOf_1 : decode cX4_bitOf 1 = .ok (.iload_n 1, 1) := by decide +kernel
theorem dX4_bitOf_2 : decode cX4_bitOf 2 = .ok (.ishr, 1) := by decide +kernel
theorem dX4_bitOf_3 : decode cX4_bitOf 3 = .ok (.iconst 1, 1) := by decide +kernel
theorem dX4_bitOf_4 : decode cX4_bitOf 4 = .ok (.iand, 1) := by decide +kernel
theorem dX4_bitOf_5 : decode cX4_bitOf 5 = .ok (.ireturn, 1) := by decide +kernel
theorem dX4_withBit_0 : decode cX4_withBit 0 = .ok (.iload_n 2, 1) := by decide +kernel
theorem dX4_withBit_1 : decode cX4_withBit 1 = .ok (.ifCond .eq 11, 3) := by decide +kernel
theorem dX4_withBit_4 : decode cX4_withBit 4 = .ok (.iload_n 0, 1) := by decide +kernel
theorem dX4_withBit_5 : decode cX4_withBit 5 = .ok (.iconst 1, 1) := by decide +kernel
theorem dX4_withBit_6 : decode cX4_withBit 6 = .ok (.iload_n 1, 1) := by decide +kernel
theorem dX4_withBit_7 : decode cX4_withBit 7 = .ok (.ishl, 1) := by decide +kernel
theorem dX4_withBit_8 : decode cX4_withBit 8 = .ok (.ior, 1) := by decide +kernel
theorem dX4_withBit_9 : decode cX4_withBit 9 = .ok (.goto 10, 3) := by decide +kernel
theorem dX4_withBit_12 : decode cX4_withBit 12 = .ok (.iload_n 0, 1) := by decide +kernel
theorem dX4_withBit_13 : decode cX4_withBit 13 = .ok (.iconst 1, 1) := by decide +kernel
theorem dX4_withBit_14 : decode cX4_withBit 14 = .ok (.iload_n 1, 1) := by decide +kernel
theorem dX4_withBit_15 : decode cX4_withBit 15 = .ok (.ishl, 1) := by decide +kernel
theorem dX4_withBit_16 : decode cX4_withBit 16 = .ok (.iconst (-1), 1) := by decide +kernel
theorem dX4_withBit_17 : decode cX4_withBit 17 = .ok (.ixor, 1) := by decide +kernel
theorem dX4_withBit_18 : decode cX4_withBit 18 = .ok (.iand, 1) := by decide +kernel
theorem dX4_withBit_19 : decode cX4_withBit 19 = .ok (.ireturn, 1) := by decide +kernel
theorem dX4_isYesNo_0 : decode cX4_isYesNo 0 = .ok (.iload_n 0, 1) := by decide +kernel
theorem dX4_isYesNo_1 : decode cX4_isYesNo 1 = .ok (.ifCond .eq 8, 3) := by decide +kernel
theorem dX4_isYesNo_4 : decode cX4_isYesNo 4 = .ok (.iload_n 0, 1) := by decide +kernel
theorem dX4_isYesNo_5 : decode cX4_isYesNo 5 = .ok (.iconst 1, 1) := by decide +kernel
theorem dX4_isYesNo_6 : decode cX4_isYesNo 6 = .ok (.if_icmp .ne 7, 3) := by decide +kernel
theorem dX4_isYesNo_9 : decode cX4_isYesNo 9 = .ok (.iconst 1, 1) := by decide +kernel
theorem dX4_isYesNo_10 : decode cX4_isYesNo 10 = .ok (.goto 4, 3) := by decide +kernel
theorem dX4_isYesNo_13 : decode cX4_isYesNo 13 = .ok (.iconst 0, 1) := by decide +kernel
theorem dX4_isYesNo_14 : decode cX4_isYesNo 14 = .ok (.ireturn, 1) := by decide +kernel
theorem dX4_isSheet_0 : decode cX4_isSheet 0 = .ok (.iload_n 0, 1) := by decide +kernel
theorem dX4_isSheet_1 : decode cX4_isSheet 1 = .ok (.ifCond .lt 12, 3) := by decide +kernel
theorem dX4_isSheet_4 : decode cX4_isSheet 4 = .ok (.iload_n 0, 1) := by decide +kernel
theorem dX4_isSheet_5 : decode cX4_isSheet 5 = .ok (.iconst 4, 1) := by decide +kernel
theorem dX4_isSheet_6 : decode cX4_isSheet 6 = .ok (.if_icmp .ge 7, 3) := by decide +kernel
theorem dX4_isSheet_9 : decode cX4_isSheet 9 = .ok (.iconst 1, 1) := by decide +kernel
theorem dX4_isSheet_10 : decode cX4_isSheet 10 = .ok (.goto 4, 3) := by decide +kernel
theorem dX4_isSheet_13 : decode cX4_isSheet 13 = .ok (.iconst 0, 1) := by decide +kernel
theorem dX4_isSheet_14 : decode cX4_isSheet 14 = .ok (.ireturn, 1) := by decide +kernel
theorem dX4_isLane_0 : decode cX4_isLane 0 = .ok (.iload_n 0, 1) := by decide +kernel
theorem dX4_isLane_1 : decode cX4_isLane 1 = .ok (.ifCond .lt 12, 3) := by decide +kernel
theorem dX4_isLane_4 : decode cX4_isLane 4 = .ok (.iload_n 0, 1) := by decide +kernel
theorem dX4_isLane_5 : decode cX4_isLane 5 = .ok (.iconst 3, 1) := by decide +kernel
theorem dX4_isLane_6 : decode cX4_isLane 6 = .ok (.if_icmp .ge 7, 3) := by decide +kernel
theorem dX4_isLane_9 : decode cX4_isLane 9 = .ok (.iconst 1, 1) := by decide +kernel
theorem dX4_isLane_10 : decode cX4_isLane 10 = .ok (.goto 4, 3) := by decide +kernel
theorem dX4_isLane_13 : decode cX4_isLane 13 = .ok (.iconst 0, 1) := by decide +kernel
theorem dX4_isLane_14 : decode cX4_isLane 14 = .ok (.ireturn, 1) := by decide +kernel
theorem dX5_init_0 : decode cX5_init 0 = .ok (.aload_n 0, 1) := by decide +kernel
theorem dX5_init_1 : decode cX5_init 1 = .ok (.invokespecial 1, 3) := by decide +kernel
theorem dX5_init_4 : decode cX5_init 4 = .ok (.aload_n 0, 1) := by decide +kernel
theorem dX5_init_5 : decode cX5_init 5 = .ok (.sipush 172, 3) := by decide +kernel
theorem dX5_init_8 : decode cX5_init 8 = .ok (.newarray .int, 2) := by decide +kernel
theorem dX5_init_10 : decode cX5_init 10 = .ok (.putfield 7, 3) := by decide +kernel
theorem dX5_init_13 : decode cX5_init 13 = .ok (.aload_n 0, 1) := by decide +kernel
theorem dX5_init_14 : decode cX5_init 14 = .ok (.iconst 3, 1) := by decide +kernel
theorem dX5_init_15 : decode cX5_init 15 = .ok (.putfield 13, 3) := by decide +kernel
theorem dX5_init_18 : decode cX5_init 18 = .ok (.aload_n 0, 1) := by decide +kernel
theorem dX5_init_19 : decode cX5_init 19 = .ok (.iconst 2, 1) := by decide +kernel
theorem dX5_init_20 : decode cX5_init 20 = .ok (.putfield 17, 3) := by decide +kernel
theorem dX5_init_23 : decode cX5_init 23 = .ok (.aload_n 0, 1) := by decide +kernel
theorem dX5_init_24 : decode cX5_init 24 = .ok (.sipush 255, 3) := by decide +kernel
theorem dX5_init_27 : decode cX5_init 27 = .ok (.putfield 20, 3) := by decide +kernel
theorem dX5_init_30 : decode cX5_init 30 = .ok (.aload_n 0, 1) := by decide +kernel
theorem dX5_init_31 : decode cX5_init 31 = .ok (.bipush 43, 2) := by decide +kernel
theorem dX5_init_33 : decode cX5_init 33 = .ok (.newarray .int, 2) := by decide +kernel
theorem dX5_init_35 : decode cX5_init 35 = .ok (.putfield 23, 3) := by decide +kernel
theorem dX5_init_38 : decode cX5_init 38 = .ok (.aload_n 0, 1) := by decide +kernel
theorem dX5_init_39 : decode cX5_init 39 = .ok (.sipush 160, 3) := by decide +kernel
theorem dX5_init_42 : decode cX5_init 42 = .ok (.newarray .int, 2) := by decide +kernel
theorem dX5_init_44 : decode cX5_init 44 = .ok (.putfield 26, 3) := by decide +kernel
theorem dX5_init_47 : decode cX5_init 47 = .ok (.aload_n 0, 1) := by decide +kernel
theorem dX5_init_48 : decode cX5_init 48 = .ok (.bipush 9, 2) := by decide +kernel
theorem dX5_init_50 : decode cX5_init 50 = .ok (.newarray .int, 2) := by decide +kernel
theorem dX5_init_52 : decode cX5_init 52 = .ok (.dup, 1) := by decide +kernel
theorem dX5_init_53 : decode cX5_init 53 = .ok (.iconst 0, 1) := by decide +kernel
theorem dX5_init_54 : decode cX5_init 54 = .ok (.iconst 0, 1) := by decide +kernel
theorem dX5_init_55 : decode cX5_init 55 = .ok (.iastore, 1) := by decide +kernel
theorem dX5_init_56 : decode cX5_init 56 = .ok (.dup, 1) := by decide +kernel
theorem dX5_init_57 : decode cX5_init 57 = .ok (.iconst 1, 1) := by decide +kernel
theorem dX5_init_58 : decode cX5_init 58 = .ok (.bipush 6, 2) := by decide +kernel
theorem dX5_init_60 : decode cX5_init 60 = .ok (.iastore, 1) := by decide +kernel
theorem dX5_init_61 : decode cX5_init 61 = .ok (.dup, 1) := by decide +kernel
theorem dX5_init_62 : decode cX5_init 62 = .ok (.iconst 2, 1) := by decide +kernel
theorem dX5_init_63 : decode cX5_init 63 = .ok (.bipush 10, 2) := by decide +kernel
theorem dX5_init_65 : decode cX5_init 65 = .ok (.iastore, 1) := by decide +kernel
theorem dX5_init_66 : decode cX5_init 66 = .ok (.dup, 1) := by decide +kernel
theorem dX5_init_67 : decode cX5_init 67 = .ok (.iconst 3, 1) := by decide +kernel
theorem dX5_init_68 : decode cX5_init 68 = .ok (.bipush 15, 2) := by decide +kernel
theorem dX5_init_70 : decode cX5_init 70 = .ok (.iastore, 1) := by decide +kernel
theorem dX5_init_71 : decode cX5_init 71 = .ok (.dup, 1) := by decide +kernel
theorem dX5_init_72 : decode cX5_init 72 = .ok (.iconst 4, 1) := by decide +kernel
theorem dX5_init_73 : decode cX5_init 73 = .ok (.bipush 19, 2) := by decide +kernel
theorem dX5_init_75 : decode cX5_init 75 = .ok (.iastore, 1) := by decide +kernel
theorem dX5_init_76 : decode cX5_init 76 = .ok (.dup, 1) := by decide +kernel
theorem dX5_init_77 : decode cX5_init 77 = .ok (.iconst 5, 1) := by decide +kernel
theorem dX5_init_78 : decode cX5_init 78 = .ok (.bipush 23, 2) := by decide +kernel
theorem dX5_init_80 : decode cX5_init 80 = .ok (.iastore, 1) := by decide +kernel
theorem dX5_init_81 : decode cX5_init 81 = .ok (.dup, 1) := by decide +kernel
theorem dX5_init_82 : decode cX5_init 82 = .ok (.bipush 6, 2) := by decide +kernel
theorem dX5_init_84 : decode cX5_init 84 = .ok (.bipush 27, 2) := by decide +kernel
theorem dX5_init_86 : decode cX5_init 86 = .ok (.iastore, 1) := by decide +kernel
theorem dX5_init_87 : decode cX5_init 87 = .ok (.dup, 1) := by decide +kernel
theorem dX5_init_88 : decode cX5_init 88 = .ok (.bipush 7, 2) := by decide +kernel
theorem dX5_init_90 : decode cX5_init 90 = .ok (.bipush 32, 2) := by decide +kernel
theorem dX5_init_92 : decode cX5_init 92 = .ok (.iastore, 1) := by decide +kernel
theorem dX5_init_93 : decode cX5_init 93 = .ok (.dup, 1) := by decide +kernel
theorem dX5_init_94 : decode cX5_init 94 = .ok (.bipush 8, 2) := by decide +kernel
theorem dX5_init_96 : decode cX5_init 96 = .ok (.bipush 35, 2) := by decide +kernel
theorem dX5_init_98 : decode cX5_init 98 = .ok (.iastore, 1) := by decide +kernel
theorem dX5_init_99 : decode cX5_init 99 = .ok (.putfield 29, 3) := by decide +kernel
theorem dX5_init_102 : decode cX5_init 102 = .ok (.aload_n 0, 1) := by decide +kernel
theorem dX5_init_103 : decode cX5_init 103 = .ok (.bipush 35, 2) := by decide +kernel
theorem dX5_init_105 : decode cX5_init 105 = .ok (.newarray .int, 2) := by decide +kernel
theorem dX5_init_107 : decode cX5_init 107 = .ok (.dup, 1) := by decide +kernel
theorem dX5_init_108 : decode cX5_init 108 = .ok (.iconst 0, 1) := by decide +kernel
theorem dX5_init_109 : decode cX5_init 109 = .ok (.bipush 115, 2) := by decide +kernel
theorem dX5_init_111 : decode cX5_init 111 = .ok (.iastore, 1) := by decide +kernel
theorem dX5_init_112 : decode cX5_init 112 = .ok (.dup, 1) := by decide +kernel
theorem dX5_init_113 : decode cX5_init 113 = .ok (.iconst 1, 1) := by decide +kernel
theorem dX5_init_114 : decode cX5_init 114 = .ok (.bipush 116, 2) := by decide +kernel
theorem dX5_init_116 : decode cX5_init 116 = .ok (.iastore, 1) := by decide +kernel
theorem dX5_init_117 : decode cX5_init 117 = .ok (.dup, 1) := by decide +kernel
theorem dX5_init_118 : decode cX5_init 118 = .ok (.iconst 2, 1) := by decide +kernel
theorem dX5_init_119 : decode cX5_init 119 = .ok (.bipush 114, 2) := by decide +kernel
theorem dX5_init_121 : decode cX5_init 121 = .ok (.iastore, 1) := by decide +kernel
theorem dX5_init_122 : decode cX5_init 122 = .ok (.dup, 1) := by decide +kernel
theorem dX5_init_123 : decode cX5_init 123 = .ok (.iconst 3, 1) := by decide +kernel
theorem dX5_init_124 : decode cX5_init 124 = .ok (.bipush 101, 2) := by decide +kernel
theorem dX5_init_126 : decode cX5_init 126 = .ok (.iastore, 1) := by decide +kernel
theorem dX5_init_127 : decode cX5_init 127 = .ok (.dup, 1) := by decide +kernel
theorem dX5_init_128 : decode cX5_init 128 = .ok (.iconst 4, 1) := by decide +kernel
theorem dX5_init_129 : decode cX5_init 129 = .ok (.bipush 101, 2) := by decide +kernel
theorem dX5_init_131 : decode cX5_init 131 = .ok (.iastore, 1) := by decide +kernel
theorem dX5_init_132 : decode cX5_init 132 = .ok (.dup, 1) := by decide +kernel
theorem dX5_init_133 : decode cX5_init 133 = .ok (.iconst 5, 1) := by decide +kernel
theorem dX5_init_134 : decode cX5_init 134 = .ok (.bipush 116, 2) := by decide +kernel
theorem dX5_init_136 : decode cX5_init 136 = .ok (.iastore, 1) := by decide +kernel
theorem dX5_init_137 : decode cX5_init 137 = .ok (.dup, 1) := by decide +kernel
theorem dX5_init_138 : decode cX5_init 138 = .ok (.bipush 6, 2) := by decide +kernel
theorem dX5_init_140 : decode cX5_init 140 = .ok (.bipush 114, 2) := by decide +kernel
theorem dX5_init_142 : decode cX5_init 142 = .ok (.iastore, 1) := by decide +kernel
theorem dX5_init_143 : decode cX5_init 143 = .ok (.dup, 1) := by decide +kernel
theorem dX5_init_144 : decode cX5_init 144 = .ok (.bipush 7, 2) := by decide +kernel
theorem dX5_init_146 : decode cX5_init 146 = .ok (.bipush 117, 2) := by decide +kernel
theorem dX5_init_148 : decode cX5_init 148 = .ok (.iastore, 1) := by decide +kernel
theorem dX5_init_149 : decode cX5_init 149 = .ok (.dup, 1) := by decide +kernel
theorem dX5_init_150 : decode cX5_init 150 = .ok (.bipush 8, 2) := by decide +kernel
theorem dX5_init_152 : decode cX5_init 152 = .ok (.bipush 108, 2) := by decide +kernel
theorem dX5_init_154 : decode cX5_init 154 = .ok (.iastore, 1) := by decide +kernel
theorem dX5_init_155 : decode cX5_init 155 = .ok (.dup, 1) := by decide +kernel
theorem dX5_init_156 : decode cX5_init 156 = .ok (.bipush 9, 2) := by decide +kernel
theorem dX5_init_158 : decode cX5_init 158 = .ok (.bipush 101, 2) := by decide +kernel
theorem dX5_init_160 : decode cX5_init 160 = .ok (.iastore, 1) := by decide +kernel
theorem dX5_init_161 : decode cX5_init 161 = .ok (.dup, 1) := by decide +kernel
theorem dX5_init_162 : decode cX5_init 162 = .ok (.bipush 10, 2) := by decide +kernel
theorem dX5_init_164 : decode cX5_init 164 = .ok (.bipush 119, 2) := by decide +kernel
theorem dX5_init_166 : decode cX5_init 166 = .ok (.iastore, 1) := by decide +kernel
theorem dX5_init_167 : decode cX5_init 167 = .ok (.dup, 1) := by decide +kernel
theorem dX5_init_168 : decode cX5_init 168 = .ok (.bipush 11, 2) := by decide +kernel
theorem dX5_init_170 : decode cX5_init 170 = .ok (.bipush 111, 2) := by decide +kernel
theorem dX5_init_172 : decode cX5_init 172 = .ok (.iastore, 1) := by decide +kernel
theorem dX5_init_173 : decode cX5_init 173 = .ok (.dup, 1) := by decide +kernel
theorem dX5_init_174 : decode cX5_init 174 = .ok (.bipush 12, 2) := by decide +kernel
theorem dX5_init_176 : decode cX5_init 176 = .ok (.bipush 114, 2) := by decide +kernel
theorem dX5_init_178 : decode cX5_init 178 = .ok (.iastore, 1) := by decide +kernel
theorem dX5_init_179 : decode cX5_init 179 = .ok (.dup, 1) := by decide +kernel
theorem dX5_init_180 : decode cX5_init 180 = .ok (.bipush 13, 2) := by decide +kernel
theorem dX5_init_182 : decode cX5_init 182 = .ok (.bipush 116, 2) := by decide +kernel
theorem dX5_init_184 : decode cX5_init 184 = .ok (.iastore, 1) := by decide +kernel
theorem dX5_init_185 : decode cX5_init 185 = .ok (.dup, 1) := by decide +kernel
theorem dX5_init_186 : decode cX5_init 186 = .ok (.bipush 14, 2) := by decide +kernel
theorem dX5_init_188 : decode cX5_init 188 = .ok (.bipush 104, 2) := by decide +kernel
theorem dX5_init_190 : decode cX5_init 190 = .ok (.iastore, 1) := by decide +kernel
theorem dX5_init_191 : decode cX5_init 191 = .ok (.dup, 1) := by decide +kernel
theorem dX5_init_192 : decode cX5_init 192 = .ok (.bipush 15, 2) := by decide +kernel
theorem dX5_init_194 : decode cX5_init 194 = .ok (.bipush 100, 2) := by decide +kernel
theorem dX5_init_196 : decode cX5_init 196 = .ok (.iastore, 1) := by decide +kernel
theorem dX5_init_197 : decode cX5_init 197 = .ok (.dup, 1) := by decide +kernel
theorem dX5_init_198 : decode cX5_init 198 = .ok (.bipush 16, 2) := by decide +kernel
theorem dX5_init_200 : decode cX5_init 200 = .ok (.bipush 101, 2) := by decide +kernel
theorem dX5_init_202 : decode cX5_init 202 = .ok (.iastore, 1) := by decide +kernel
theorem dX5_init_203 : decode cX5_init 203 = .ok (.dup, 1) := by decide +kernel
theorem dX5_init_204 : decode cX5_init 204 = .ok (.bipush 17, 2) := by decide +kernel
theorem dX5_init_206 : decode cX5_init 206 = .ok (.bipush 98, 2) := by decide +kernel
theorem dX5_init_208 : decode cX5_init 208 = .ok (.iastore, 1) := by decide +kernel
theorem dX5_init_209 : decode cX5_init 209 = .ok (.dup, 1) := by decide +kernel
theorem dX5_init_210 : decode cX5_init 210 = .ok (.bipush 18, 2) := by decide +kernel
theorem dX5_init_212 : decode cX5_init 212 = .ok (.bipush 116, 2) := by decide +kernel
theorem dX5_init_214 : decode cX5_init 214 = .ok (.iastore, 1) := by decide +kernel
theorem dX5_init_215 : decode cX5_init 215 = .ok (.dup, 1) := by decide +kernel
theorem dX5_init_216 : decode cX5_init 216 = .ok (.bipush 19, 2) := by decide +kernel
theorem dX5_init_218 : decode cX5_init 218 = .ok (.bipush 104, 2) := by decide +kernel
theorem dX5_init_220 : decode cX5_init 220 = .ok (.iastore, 1) := by decide +kernel
theorem dX5_init_221 : decode cX5_init 221 = .ok (.dup, 1) := by decide +kernel
theorem dX5_init_222 : decode cX5_init 222 = .ok (.bipush 20, 2) := by decide +kernel
theorem dX5_init_224 : decode cX5_init 224 = .ok (.bipush 111, 2) := by decide +kernel
theorem dX5_init_226 : decode cX5_init 226 = .ok (.iastore, 1) := by decide +kernel
theorem dX5_init_227 : decode cX5_init 227 = .ok (.dup, 1) := by decide +kernel
theorem dX5_init_228 : decode cX5_init 228 = .ok (.bipush 21, 2) := by decide +kernel
theorem dX5_init_230 : decode cX5_init 230 = .ok (.bipush 109, 2) := by decide +kernel
theorem dX5_init_232 : decode cX5_init 232 = .ok (.iastore, 1) := by decide +kernel
theorem dX5_init_233 : decode cX5_init 233 = .ok (.dup, 1) := by decide +kernel
theorem dX5_init_234 : decode cX5_init 234 = .ok (.bipush 22, 2) := by decide +kernel
theorem dX5_init_236 : decode cX5_init 236 = .ok (.bipush 101, 2) := by decide +kernel
theorem dX5_init_238 : decode cX5_init 238 = .ok (.iastore, 1) := by decide +kernel
theorem dX5_init_239 : decode cX5_init 239 = .ok (.dup, 1) := by decide +kernel
theorem dX5_init_240 : decode cX5_init 240 = .ok (.bipush 23, 2) := by decide +kernel
theorem dX5_init_242 : decode cX5_init 242 = .ok (.bipush 115, 2) := by decide +kernel
theorem dX5_init_244 : decode cX5_init 244 = .ok (.iastore, 1) := by decide +kernel
theorem dX5_init_245 : decode cX5_init 245 = .ok (.dup, 1) := by decide +kernel
theorem dX5_init_246 : decode cX5_init 246 = .ok (.bipush 24, 2) := by decide +kernel
theorem dX5_init_248 : decode cX5_init 248 = .ok (.bipush 116, 2) := by decide +kernel
theorem dX5_init_250 : decode cX5_init 250 = .ok (.iastore, 1) := by decide +kernel
theorem dX5_init_251 : decode cX5_init 251 = .ok (.dup, 1) := by decide +kernel
theorem dX5_init_252 : decode cX5_init 252 = .ok (.bipush 25, 2) := by decide +kernel
theorem dX5_init_254 : decode cX5_init 254 = .ok (.bipush 111, 2) := by decide +kernel
theorem dX5_init_256 : decode cX5_init 256 = .ok (.iastore, 1) := by decide +kernel
theorem dX5_init_257 : decode cX5_init 257 = .ok (.dup, 1) := by decide +kernel
theorem dX5_init_258 : decode cX5_init 258 = .ok (.bipush 26, 2) := by decide +kernel
theorem dX5_init_260 : decode cX5_init 260 = .ok (.bipush 112, 2) := by decide +kernel
theorem dX5_init_262 : decode cX5_init 262 = .ok (.iastore, 1) := by decide +kernel
theorem dX5_init_263 : decode cX5_init 263 = .ok (.dup, 1) := by decide +kernel
theorem dX5_init_264 : decode cX5_init 264 = .ok (.bipush 27, 2) := by decide +kernel
theorem dX5_init_266 : decode cX5_init 266 = .ok (.bipush 116, 2) := by decide +kernel
theorem dX5_init_268 : decode cX5_init 268 = .ok (.iastore, 1) := by decide +kernel
theorem dX5_init_269 : decode cX5_init 269 = .ok (.dup, 1) := by decide +kernel
theorem dX5_init_270 : decode cX5_init 270 = .ok (.bipush 28, 2) := by decide +kernel
theorem dX5_init_272 : decode cX5_init 272 = .ok (.bipush 111, 2) := by decide +kernel
theorem dX5_init_274 : decode cX5_init 274 = .ok (.iastore, 1) := by decide +kernel
theorem dX5_init_275 : decode cX5_init 275 = .ok (.dup, 1) := by decide +kernel
theorem dX5_init_276 : decode cX5_init 276 = .ok (.bipush 29, 2) := by decide +kernel
theorem dX5_init_278 : decode cX5_init 278 = .ok (.bipush 100, 2) := by decide +kernel
theorem dX5_init_280 : decode cX5_init 280 = .ok (.iastore, 1) := by decide +kernel
theorem dX5_init_281 : decode cX5_init 281 = .ok (.dup, 1) := by decide +kernel
theorem dX5_init_282 : decode cX5_init 282 = .ok (.bipush 30, 2) := by decide +kernel
theorem dX5_init_284 : decode cX5_init 284 = .ok (.bipush 97, 2) := by decide +kernel
theorem dX5_init_286 : decode cX5_init 286 = .ok (.iastore, 1) := by decide +kernel
theorem dX5_init_287 : decode cX5_init 287 = .ok (.dup, 1) := by decide +kernel
theorem dX5_init_288 : decode cX5_init 288 = .ok (.bipush 31, 2) := by decide +kernel
theorem dX5_init_290 : decode cX5_init 290 = .ok (.bipush 121, 2) := by decide +kernel
theorem dX5_init_292 : decode cX5_init 292 = .ok (.iastore, 1) := by decide +kernel
theorem dX5_init_293 : decode cX5_init 293 = .ok (.dup, 1) := by decide +kernel
theorem dX5_init_294 : decode cX5_init 294 = .ok (.bipush 32, 2) := by decide +kernel
theorem dX5_init_296 : decode cX5_init 296 = .ok (.bipush 110, 2) := by decide +kernel
theorem dX5_init_298 : decode cX5_init 298 = .ok (.iastore, 1) := by decide +kernel
theorem dX5_init_299 : decode cX5_init 299 = .ok (.dup, 1) := by decide +kernel
theorem dX5_init_300 : decode cX5_init 300 = .ok (.bipush 33, 2) := by decide +kernel
theorem dX5_init_302 : decode cX5_init 302 = .ok (.bipush 111, 2) := by decide +kernel
theorem dX5_init_304 : decode cX5_init 304 = .ok (.iastore, 1) := by decide +kernel
theorem dX5_init_305 : decode cX5_init 305 = .ok (.dup, 1) := by decide +kernel
theorem dX5_init_306 : decode cX5_init 306 = .ok (.bipush 34, 2) := by decide +kernel
theorem dX5_init_308 : decode cX5_init 308 = .ok (.bipush 116, 2) := by decide +kernel
theorem dX5_init_310 : decode cX5_init 310 = .ok (.iastore, 1) := by decide +kernel
theorem dX5_init_311 : decode cX5_init 311 = .ok (.putfield 32, 3) := by decide +kernel
theorem dX5_init_314 : decode cX5_init 314 = .ok (.aload_n 0, 1) := by decide +kernel
theorem dX5_init_315 : decode cX5_init 315 = .ok (.bipush 16, 2) := by decide +kernel
theorem dX5_init_317 : decode cX5_init 317 = .ok (.newarray .int, 2) := by decide +kernel
theorem dX5_init_319 : decode cX5_init 319 = .ok (.putfield 35, 3) := by decide +kernel
theorem dX5_init_322 : decode cX5_init 322 = .ok (.aload_n 0, 1) := by decide +kernel
theorem dX5_init_323 : decode cX5_init 323 = .ok (.iconst 2, 1) := by decide +kernel
theorem dX5_init_324 : decode cX5_init 324 = .ok (.newarray .boolean, 2) := by decide +kernel
theorem dX5_init_326 : decode cX5_init 326 = .ok (.putfield 38, 3) := by decide +kernel
theorem dX5_init_329 : decode cX5_init 329 = .ok (.aload_n 0, 1) := by decide +kernel
theorem dX5_init_330 : decode cX5_init 330 = .ok (.iconst 4, 1) := by decide +kernel
theorem dX5_init_331 : decode cX5_init 331 = .ok (.newarray .int, 2) := by decide +kernel
theorem dX5_init_333 : decode cX5_init 333 = .ok (.dup, 1) := by decide +kernel
theorem dX5_init_334 : decode cX5_init 334 = .ok (.iconst 0, 1) := by decide +kernel
theorem dX5_init_335 : decode cX5_init 335 = .ok (.bipush (-4), 2) := by decide +kernel
theorem dX5_init_337 : decode cX5_init 337 = .ok (.iastore, 1) := by decide +kernel
theorem dX5_init_338 : decode cX5_init 338 = .ok (.dup, 1) := by decide +kernel
theorem dX5_init_339 : decode cX5_init 339 = .ok (.iconst 1, 1) := by decide +kernel
theorem dX5_init_340 : decode cX5_init 340 = .ok (.bipush (-4), 2) := by decide +kernel
theorem dX5_init_342 : decode cX5_init 342 = .ok (.iastore, 1) := by decide +kernel
theorem dX5_init_343 : decode cX5_init 343 = .ok (.dup, 1) := by decide +kernel
theorem dX5_init_344 : decode cX5_init 344 = .ok (.iconst 2, 1) := by decide +kernel
theorem dX5_init_345 : decode cX5_init 345 = .ok (.bipush (-4), 2) := by decide +kernel
theorem dX5_init_347 : decode cX5_init 347 = .ok (.iastore, 1) := by decide +kernel
theorem dX5_init_348 : decode cX5_init 348 = .ok (.dup, 1) := by decide +kernel
theorem dX5_init_349 : decode cX5_init 349 = .ok (.iconst 3, 1) := by decide +kernel
theorem dX5_init_350 : decode cX5_init 350 = .ok (.bipush (-4), 2) := by decide +kernel
theorem dX5_init_352 : decode cX5_init 352 = .ok (.iastore, 1) := by decide +kernel
theorem dX5_init_353 : decode cX5_init 353 = .ok (.putfield 42, 3) := by decide +kernel
theorem dX5_init_356 : decode cX5_init 356 = .ok (.aload_n 0, 1) := by decide +kernel
theorem dX5_init_357 : decode cX5_init 357 = .ok (.iconst 4, 1) := by decide +kernel
theorem dX5_init_358 : decode cX5_init 358 = .ok (.newarray .int, 2) := by decide +kernel
theorem dX5_init_360 : decode cX5_init 360 = .ok (.putfield 45, 3) := by decide +kernel
theorem dX5_init_363 : decode cX5_init 363 = .ok (.aload_n 0, 1) := by decide +kernel
theorem dX5_init_364 : decode cX5_init 364 = .ok (.sipush 160, 3) := by decide +kernel
theorem dX5_init_367 : decode cX5_init 367 = .ok (.newarray .int, 2) := by decide +kernel
theorem dX5_init_369 : decode cX5_init 369 = .ok (.putfield 48, 3) := by decide +kernel
theorem dX5_init_372 : decode cX5_init 372 = .ok (.return_, 1) := by decide +kernel
theorem dX5_in_0 : decode cX5_in 0 = .ok (.lload_n 0, 1) := by decide +kernel
theorem dX5_in_1 : decode cX5_in 1 = .ok (.lload_n 2, 1) := by decide +kernel
theorem dX5_in_2 : decode cX5_in 2 = .ok (.lcmp, 1) := by decide +kernel
theorem dX5_in_3 : decode cX5_in 3 = .ok (.ifCond .lt 14, 3) := by decide +kernel
theorem dX5_in_6 : decode cX5_in 6 = .ok (.lload_n 0, 1) := by decide +kernel
theorem dX5_in_7 : decode cX5_in 7 = .ok (.lload 4, 2) := by decide +kernel
theorem dX5_in_9 : decode cX5_in 9 = .ok (.lcmp, 1) := by decide +kernel
theorem dX5_in_10 : decode cX5_in 10 = .ok (.ifCond .gt 7, 3) := by decide +kernel
theorem dX5_in_13 : decode cX5_in 13 = .ok (.iconst 1, 1) := by decide +kernel
theorem dX5_in_14 : decode cX5_in 14 = .ok (.goto 4, 3) := by decide +kernel
theorem dX5_in_17 : decode cX5_in 17 = .ok (.iconst 0, 1) := by decide +kernel
theorem dX5_in_18 : decode cX5_in 18 = .ok (.ireturn, 1) := by decide +kernel
theorem dX5_feed_0 : decode cX5_feed 0 = .ok (.iload_n 1, 1) := by decide +kernel
theorem dX5_feed_1 : decode cX5_feed 1 = .ok (.i2l, 1) := by decide +kernel
theorem dX5_feed_2 : decode cX5_feed 2 = .ok (.lconst 0, 1) := by decide +kernel
theorem dX5_feed_3 : decode cX5_feed 3 = .ok (.ldc2_w 51, 3) := by decide +kernel
theorem dX5_feed_6 : decode cX5_feed 6 = .ok (.invokestatic 53, 3) := by decide +kernel
theorem dX5_feed_9 : decode cX5_feed 9 = .ok (.ifCond .ne 5, 3) := by decide +kernel
theorem dX5_feed_12 : decode cX5_feed 12 = .ok (.iconst (-1), 1) := by decide +kernel
theorem dX5_feed_13 : decode cX5_feed 13 = .ok (.ireturn, 1) := by decide +kernel
theorem dX5_feed_14 : decode cX5_feed 14 = .ok (.aload_n 0, 1) := by decide +kernel
theorem dX5_feed_15 : decode cX5_feed 15 = .ok (.getfield 57, 3) := by decide +kernel
theorem dX5_feed_18 : decode cX5_feed 18 = .ok (.sipush 160, 3) := by decide +kernel
theorem dX5_feed_21 : decode cX5_feed 21 = .ok (.if_icmp .ne 6, 3) := by decide +kernel
theorem dX5_feed_24 : decode cX5_feed 24 = .ok (.bipush (-3), 2) := by decide +kernel
theorem dX5_feed_26 : decode cX5_feed 26 = .ok (.ireturn, 1) := by decide +kernel
theorem dX5_feed_27 : decode cX5_feed 27 = .ok (.aload_n 0, 1) := by decide +kernel
theorem dX5_feed_28 : decode cX5_feed 28 = .ok (.getfield 26, 3) := by decide +kernel
theorem dX5_feed_31 : decode cX5_feed 31 = .ok (.aload_n 0, 1) := by decide +kernel
theorem dX5_feed_32 : decode cX5_feed 32 = .ok (.getfield 57, 3) := by decide +kernel
theorem dX5_feed_35 : decode cX5_feed 35 = .ok (.iload_n 1, 1) := by decide +kernel
theorem dX5_feed_36 : decode cX5_feed 36 = .ok (.iastore, 1) := by decide +kernel
theorem dX5_feed_37 : decode cX5_feed 37 = .ok (.aload_n 0, 1) := by decide +kernel
theorem dX5_feed_38 : decode cX5_feed 38 = .ok (.dup, 1) := by decide +kernel
theorem dX5_feed_39 : decode cX5_feed 39 = .ok (.getfield 57, 3) := by decide +kernel
theorem dX5_feed_42 : decode cX5_feed 42 = .ok (.iconst 1, 1) := by decide +kernel
theorem dX5_feed_43 : decode cX5_feed 43 = .ok (.iadd, 1) := by decide +kernel
theorem dX5_feed_44 : decode cX5_feed 44 = .ok (.putfield 57, 3) := by decide +kernel
theorem dX5_feed_47 : decode cX5_feed 47 = .ok (.aload_n 0, 1) := by decide +kernel
theorem dX5_feed_48 : decode cX5_feed 48 = .ok (.getfield 57, 3) := by decide +kernel
theorem dX5_feed_51 : decode cX5_feed 51 = .ok (.ireturn, 1) := by decide +kernel
theorem dX5_end_0 : decode cX5_end 0 = .ok (.iload_n 1, 1) := by decide +kernel
theorem dX5_end_1 : decode cX5_end 1 = .ok (.i2l, 1) := by decide +kernel
theorem dX5_end_2 : decode cX5_end 2 = .ok (.lconst 0, 1) := by decide +kernel
theorem dX5_end_3 : decode cX5_end 3 = .ok (.aload_n 0, 1) := by decide +kernel
theorem dX5_end_4 : decode cX5_end 4 = .ok (.getfield 57, 3) := by decide +kernel
theorem dX5_end_7 : decode cX5_end 7 = .ok (.i2l, 1) := by decide +kernel
theorem dX5_end_8 : decode cX5_end 8 = .ok (.invokestatic 53, 3) := by decide +kernel
theorem dX5_end_11 : decode cX5_end 11 = .ok (.ifCond .ne 5, 3) := by decide +kernel
theorem dX5_end_14 : decode cX5_end 14 = .ok (.iconst (-1), 1) := by decide +kernel
theorem dX5_end_15 : decode cX5_end 15 = .ok (.ireturn, 1) := by decide +kernel
theorem dX5_end_16 : decode cX5_end 16 = .ok (.aload_n 0, 1) := by decide +kernel
theorem dX5_end_17 : decode cX5_end 17 = .ok (.getfield 57, 3) := by decide +kernel
theorem dX5_end_20 : decode cX5_end 20 = .ok (.istore_n 2, 1) := by decide +kernel
theorem dX5_end_21 : decode cX5_end 21 = .ok (.aload_n 0, 1) := by decide +kernel
theorem dX5_end_22 : decode cX5_end 22 = .ok (.iload_n 1, 1) := by decide +kernel
theorem dX5_end_23 : decode cX5_end 23 = .ok (.putfield 57, 3) := by decide +kernel
theorem dX5_end_26 : decode cX5_end 26 = .ok (.iload_n 2, 1) := by decide +kernel
theorem dX5_end_27 : decode cX5_end 27 = .ok (.ireturn, 1) := by decide +kernel
theorem dX5_byteAt_0 : decode cX5_byteAt 0 = .ok (.iload_n 1, 1) := by decide +kernel
theorem dX5_byteAt_1 : decode cX5_byteAt 1 = .ok (.aload_n 0, 1) := by decide +kernel
theorem dX5_byteAt_2 : decode cX5_byteAt 2 = .ok (.getfield 57, 3) := by decide +kernel
theorem dX5_byteAt_5 : decode cX5_byteAt 5 = .ok (.if_icmp .ge 12, 3) := by decide +kernel
theorem dX5_byteAt_8 : decode cX5_byteAt 8 = .ok (.aload_n 0, 1) := by decide +kernel
theorem dX5_byteAt_9 : decode cX5_byteAt 9 = .ok (.getfield 26, 3) := by decide +kernel
theorem dX5_byteAt_12 : decode cX5_byteAt 12 = .ok (.iload_n 1, 1) := by decide +kernel
theorem dX5_byteAt_13 : decode cX5_byteAt 13 = .ok (.iaload, 1) := by decide +kernel
theorem dX5_byteAt_14 : decode cX5_byteAt 14 = .ok (.goto 5, 3) := by decide +kernel
theorem dX5_byteAt_17 : decode cX5_byteAt 17 = .ok (.bipush (-4), 2) := by decide +kernel
theorem dX5_byteAt_19 : decode cX5_byteAt 19 = .ok (.ireturn, 1) := by decide +kernel
theorem dX5_fails_0 : decode cX5_fails 0 = .ok (.aload_n 0, 1) := by decide +kernel
theorem dX5_fails_1 : decode cX5_fails 1 = .ok (.getfield 60, 3) := by decide +kernel
theorem dX5_fails_4 : decode cX5_fails 4 = .ok (.ifCond .ne 16, 3) := by decide +kernel
theorem dX5_fails_7 : decode cX5_fails 7 = .ok (.aload_n 0, 1) := by decide +kernel
theorem dX5_fails_8 : decode cX5_fails 8 = .ok (.iload_n 1, 1) := by decide +kernel
theorem dX5_fails_9 : decode cX5_fails 9 = .ok (.putfield 60, 3) := by decide +kernel
theorem dX5_fails_12 : decode cX5_fails 12 = .ok (.aload_n 0, 1) := by decide +kernel
theorem dX5_fails_13 : decode cX5_fails 13 = .ok (.aload_n 0, 1) := by decide +kernel
theorem dX5_fails_14 : decode cX5_fails 14 = .ok (.getfield 63, 3) := by decide +kernel
theorem dX5_fails_17 : decode cX5_fails 17 = .ok (.putfield 66, 3) := by decide +kernel
theorem dX5_fails_20 : decode cX5_fails 20 = .ok (.return_, 1) := by decide +kernel
theorem dX5_nameHere_0 : decode cX5_nameHere 0 = .ok (.iconst 0, 1) := by decide +kernel
theorem dX5_nameHere_1 : decode cX5_nameHere 1 = .ok (.istore_n 1, 1) := by decide +kernel
theorem dX5_nameHere_2 : decode cX5_nameHere 2 = .ok (.iload_n 1, 1) := by decide +kernel
theorem dX5_nameHere_3 : decode cX5_nameHere 3 = .ok (.bipush 8, 2) := by decide +kernel
theorem dX5_nameHere_5 : decode cX5_nameHere 5 = .ok (.if_icmp .ge 113, 3) := by decide +kernel
theorem dX5_nameHere_8 : decode cX5_nameHere 8 = .ok (.aload_n 0, 1) := by decide +kernel
theorem dX5_nameHere_9 : decode cX5_nameHere 9 = .ok (.getfield 69, 3) := by decide +kernel
theorem dX5_nameHere_12 : decode cX5_nameHere 12 = .ok (.iconst 1, 1) := by decide +kernel
theorem dX5_nameHere_13 : decode cX5_nameHere 13 = .ok (.if_icmp .ne 105, 3) := by decide +kernel
theorem dX5_nameHere_16 : decode cX5_nameHere 16 = .ok (.aload_n 0, 1) := by decide +kernel
theorem dX5_nameHere_17 : decode cX5_nameHere 17 = .ok (.getfield 72, 3) := by decide +kernel
theorem dX5_nameHere_20 : decode cX5_nameHere 20 = .ok (.aload_n 0, 1) := by decide +kernel
theorem dX5_nameHere_21 : decode cX5_nameHere 21 = .ok (.getfield 63, 3) := by decide +kernel
theorem dX5_nameHere_24 : decode cX5_nameHere 24 = .ok (.isub, 1) := by decide +kernel
theorem dX5_nameHere_25 : decode cX5_nameHere 25 = .ok (.aload_n 0, 1) := by decide +kernel
theorem dX5_nameHere_26 : decode cX5_nameHere 26 = .ok (.getfield 29, 3) := by decide +kernel
theorem dX5_nameHere_29 : decode cX5_nameHere 29 = .ok (.iload_n 1, 1) := by decide +kernel
theorem dX5_nameHere_30 : decode cX5_nameHere 30 = .ok (.iconst 1, 1) := by decide +kernel
theorem dX5_nameHere_31 : decode cX5_nameHere 31 = .ok (.iadd, 1) := by decide +kernel
theorem dX5_nameHere_32 : decode cX5_nameHere 32 = .ok (.iaload, 1) := by decide +kernel
theorem dX5_nameHere_33 : decode cX5_nameHere 33 = .ok (.aload_n 0, 1) := by decide +kernel
theorem dX5_nameHere_34 : decode cX5_nameHere 34 = .ok (.getfield 29, 3) := by decide +kernel
theorem dX5_nameHere_37 : decode cX5_nameHere 37 = .ok (.iload_n 1, 1) := by decide +kernel
theorem dX5_nameHere_38 : decode cX5_nameHere 38 = .ok (.iaload, 1) := by decide +kernel
theorem dX5_nameHere_39 : decode cX5_nameHere 39 = .ok (.isub, 1) := by decide +kernel
theorem dX5_nameHere_40 : decode cX5_nameHere 40 = .ok (.if_icmp .ne 7, 3) := by decide +kernel
theorem dX5_nameHere_43 : decode cX5_nameHere 43 = .ok (.iconst 1, 1) := by decide +kernel
theorem dX5_nameHere_44 : decode cX5_nameHere 44 = .ok (.goto 4, 3) := by decide +kernel
theorem dX5_nameHere_47 : decode cX5_nameHere 47 = .ok (.iconst 0, 1) := by decide +kernel
theorem dX5_nameHere_48 : decode cX5_nameHere 48 = .ok (.istore_n 2, 1) := by decide +kernel
theorem dX5_nameHere_49 : decode cX5_nameHere 49 = .ok (.iconst 0, 1) := by decide +kernel
theorem dX5_nameHere_50 : decode cX5_nameHere 50 = .ok (.istore_n 3, 1) := by decide +kernel
theorem dX5_nameHere_51 : decode cX5_nameHere 51 = .ok (.iload_n 2, 1) := by decide +kernel
theorem dX5_nameHere_52 : decode cX5_nameHere 52 = .ok (.ifCond .eq 54, 3) := by decide +kernel
theorem dX5_nameHere_55 : decode cX5_nameHere 55 = .ok (.iload_n 3, 1) := by decide +kernel
theorem dX5_nameHere_56 : decode cX5_nameHere 56 = .ok (.aload_n 0, 1) := by decide +kernel
theorem dX5_nameHere_57 : decode cX5_nameHere 57 = .ok (.getfield 72, 3) := by decide +kernel
theorem dX5_nameHere_60 : decode cX5_nameHere 60 = .ok (.aload_n 0, 1) := by decide +kernel
theorem dX5_nameHere_61 : decode cX5_nameHere 61 = .ok (.getfield 63, 3) := by decide +kernel
theorem dX5_nameHere_64 : decode cX5_nameHere 64 = .ok (.isub, 1) := by decide +kernel
theorem dX5_nameHere_65 : decode cX5_nameHere 65 = .ok (.if_icmp .ge 41, 3) := by decide +kernel
theorem dX5_nameHere_68 : decode cX5_nameHere 68 = .ok (.aload_n 0, 1) := by decide +kernel
theorem dX5_nameHere_69 : decode cX5_nameHere 69 = .ok (.aload_n 0, 1) := by decide +kernel
theorem dX5_nameHere_70 : decode cX5_nameHere 70 = .ok (.getfield 63, 3) := by decide +kernel
theorem dX5_nameHere_73 : decode cX5_nameHere 73 = .ok (.iload_n 3, 1) := by decide +kernel
theorem dX5_nameHere_74 : decode cX5_nameHere 74 = .ok (.iadd, 1) := by decide +kernel
theorem dX5_nameHere_75 : decode cX5_nameHere 75 = .ok (.invokevirtual 75, 3) := by decide +kernel
theorem dX5_nameHere_78 : decode cX5_nameHere 78 = .ok (.aload_n 0, 1) := by decide +kernel
theorem dX5_nameHere_79 : decode cX5_nameHere 79 = .ok (.getfield 32, 3) := by decide +kernel
theorem dX5_nameHere_82 : decode cX5_nameHere 82 = .ok (.aload_n 0, 1) := by decide +kernel
theorem dX5_nameHere_83 : decode cX5_nameHere 83 = .ok (.getfield 29, 3) := by decide +kernel
theorem dX5_nameHere_86 : decode cX5_nameHere 86 = .ok (.iload_n 1, 1) := by decide +kernel
theorem dX5_nameHere_87 : decode cX5_nameHere 87 = .ok (.iaload, 1) := by decide +kernel
theorem dX5_nameHere_88 : decode cX5_nameHere 88 = .ok (.iload_n 3, 1) := by decide +kernel
theorem dX5_nameHere_89 : decode cX5_nameHere 89 = .ok (.iadd, 1) := by decide +kernel
theorem dX5_nameHere_90 : decode cX5_nameHere 90 = .ok (.iaload, 1) := by decide +kernel
theorem dX5_nameHere_91 : decode cX5_nameHere 91 = .ok (.if_icmp .ne 7, 3) := by decide +kernel
theorem dX5_nameHere_94 : decode cX5_nameHere 94 = .ok (.iconst 1, 1) := by decide +kernel
theorem dX5_nameHere_95 : decode cX5_nameHere 95 = .ok (.goto 4, 3) := by decide +kernel
theorem dX5_nameHere_98 : decode cX5_nameHere 98 = .ok (.iconst 0, 1) := by decide +kernel
theorem dX5_nameHere_99 : decode cX5_nameHere 99 = .ok (.istore_n 2, 1) := by decide +kernel
theorem dX5_nameHere_100 : decode cX5_nameHere 100 = .ok (.iinc 3 1, 3) := by decide +kernel
theorem dX5_nameHere_103 : decode cX5_nameHere 103 = .ok (.goto (-52), 3) := by decide +kernel
theorem dX5_nameHere_106 : decode cX5_nameHere 106 = .ok (.iload_n 2, 1) := by decide +kernel
theorem dX5_nameHere_107 : decode cX5_nameHere 107 = .ok (.ifCond .eq 5, 3) := by decide +kernel
theorem dX5_nameHere_110 : decode cX5_nameHere 110 = .ok (.iload_n 1, 1) := by decide +kernel
theorem dX5_nameHere_111 : decode cX5_nameHere 111 = .ok (.ireturn, 1) := by decide +kernel
theorem dX5_nameHere_112 : decode cX5_nameHere 112 = .ok (.iinc 1 1, 3) := by decide +kernel
theorem dX5_nameHere_115 : decode cX5_nameHere 115 = .ok (.goto (-113), 3) := by decide +kernel
theorem dX5_nameHere_118 : decode cX5_nameHere 118 = .ok (.bipush (-4), 2) := by decide +kernel
theorem dX5_nameHere_120 : decode cX5_nameHere 120 = .ok (.ireturn, 1) := by decide +kernel
theorem dX5_step_0 : decode cX5_step 0 = .ok (.aload_n 0, 1) := by decide +kernel
theorem dX5_step_1 : decode cX5_step 1 = .ok (.getfield 60, 3) := by decide +kernel
theorem dX5_step_4 : decode cX5_step 4 = .ok (.ifCond .le 4, 3) := by decide +kernel
theorem dX5_step_7 : decode cX5_step 7 = .ok (.return_, 1) := by decide +kernel
theorem dX5_step_8 : decode cX5_step 8 = .ok (.aload_n 0, 1) := by decide +kernel
theorem dX5_step_9 : decode cX5_step 9 = .ok (.aload_n 0, 1) := by decide +kernel
theorem dX5_step_10 : decode cX5_step 10 = .ok (.getfield 72, 3) := by decide +kernel
theorem dX5_step_13 : decode cX5_step 13 = .ok (.invokevirtual 75, 3) := by decide +kernel
theorem dX5_step_16 : decode cX5_step 16 = .ok (.bipush 32, 2) := by decide +kernel
theorem dX5_step_18 : decode cX5_step 18 = .ok (.if_icmp .ne 16, 3) := by decide +kernel
theorem dX5_step_21 : decode cX5_step 21 = .ok (.aload_n 0, 1) := by decide +kernel
theorem dX5_step_22 : decode cX5_step 22 = .ok (.dup, 1) := by decide +kernel
theorem dX5_step_23 : decode cX5_step 23 = .ok (.getfield 72, 3) := by decide +kernel
theorem dX5_step_26 : decode cX5_step 26 = .ok (.iconst 1, 1) := by decide +kernel
theorem dX5_step_27 : decode cX5_step 27 = .ok (.iadd, 1) := by decide +kernel
theorem dX5_step_28 : decode cX5_step 28 = .ok (.putfield 72, 3) := by decide +kernel
theorem dX5_step_31 : decode cX5_step 31 = .ok (.goto (-23), 3) := by decide +kernel
theorem dX5_step_34 : decode cX5_step 34 = .ok (.aload_n 0, 1) := by decide +kernel
theorem dX5_step_35 : decode cX5_step 35 = .ok (.aload_n 0, 1) := by decide +kernel
theorem dX5_step_36 : decode cX5_step 36 = .ok (.getfield 72, 3) := by decide +kernel
theorem dX5_step_39 : decode cX5_step 39 = .ok (.putfield 63, 3) := by decide +kernel
theorem dX5_step_42 : decode cX5_step 42 = .ok (.aload_n 0, 1) := by decide +kernel
theorem dX5_step_43 : decode cX5_step 43 = .ok (.aload_n 0, 1) := by decide +kernel
theorem dX5_step_44 : decode cX5_step 44 = .ok (.getfield 72, 3) := by decide +kernel
theorem dX5_step_47 : decode cX5_step 47 = .ok (.invokevirtual 75, 3) := by decide +kernel
theorem dX5_step_50 : decode cX5_step 50 = .ok (.istore_n 1, 1) := by decide +kernel
theorem dX5_step_51 : decode cX5_step 51 = .ok (.aload_n 0, 1) := by decide +kernel
theorem dX5_step_52 : decode cX5_step 52 = .ok (.iconst 0, 1) := by decide +kernel
theorem dX5_step_53 : decode cX5_step 53 = .ok (.putfield 79, 3) := by decide +kernel
theorem dX5_step_56 : decode cX5_step 56 = .ok (.iload_n 1, 1) := by decide +kernel
theorem dX5_step_57 : decode cX5_step 57 = .ok (.bipush (-4), 2) := by decide +kernel
theorem dX5_step_59 : decode cX5_step 59 = .ok (.if_icmp .ne 11, 3) := by decide +kernel
theorem dX5_step_62 : decode cX5_step 62 = .ok (.aload_n 0, 1) := by decide +kernel
theorem dX5_step_63 : decode cX5_step 63 = .ok (.iconst 0, 1) := by decide +kernel
theorem dX5_step_64 : decode cX5_step 64 = .ok (.putfield 69, 3) := by decide +kernel
theorem dX5_step_67 : decode cX5_step 67 = .ok (.goto 202, 3) := by decide +kernel
theorem dX5_step_70 : decode cX5_step 70 = .ok (.iload_n 1, 1) := by decide +kernel
theorem dX5_step_71 : decode cX5_step 71 = .ok (.i2l, 1) := by decide +kernel
theorem dX5_step_72 : decode cX5_step 72 = .ok (.ldc2_w 82, 3) := by decide +kernel
theorem dX5_step_75 : decode cX5_step 75 = .ok (.ldc2_w 84, 3) := by decide +kernel
theorem dX5_step_78 : decode cX5_step 78 = .ok (.invokestatic 53, 3) := by decide +kernel
theorem dX5_step_81 : decode cX5_step 81 = .ok (.ifCond .eq 45, 3) := by decide +kernel
theorem dX5_step_84 : decode cX5_step 84 = .ok (.aload_n 0, 1) := by decide +kernel
theorem dX5_step_85 : decode cX5_step 85 = .ok (.aload_n 0, 1) := by decide +kernel
theorem dX5_step_86 : decode cX5_step 86 = .ok (.getfield 72, 3) := by decide +kernel
theorem dX5_step_89 : decode cX5_step 89 = .ok (.invokevirtual 75, 3) := by decide +kernel
theorem dX5_step_92 : decode cX5_step 92 = .ok (.i2l, 1) := by decide +kernel
theorem dX5_step_93 : decode cX5_step 93 = .ok (.ldc2_w 82, 3) := by decide +kernel
theorem dX5_step_96 : decode cX5_step 96 = .ok (.ldc2_w 84, 3) := by decide +kernel
theorem dX5_step_99 : decode cX5_step 99 = .ok (.invokestatic 53, 3) := by decide +kernel
theorem dX5_step_102 : decode cX5_step 102 = .ok (.ifCond .eq 16, 3) := by decide +kernel
theorem dX5_step_105 : decode cX5_step 105 = .ok (.aload_n 0, 1) := by decide +kernel
theorem dX5_step_106 : decode cX5_step 106 = .ok (.dup, 1) := by decide +kernel
theorem dX5_step_107 : decode cX5_step 107 = .ok (.getfield 72, 3) := by decide +kernel
theorem dX5_step_110 : decode cX5_step 110 = .ok (.iconst 1, 1) := by decide +kernel
theorem dX5_step_111 : decode cX5_step 111 = .ok (.iadd, 1) := by decide +kernel
theorem dX5_step_112 : decode cX5_step 112 = .ok (.putfield 72, 3) := by decide +kernel
theorem dX5_step_115 : decode cX5_step 115 = .ok (.goto (-31), 3) := by decide +kernel
theorem dX5_step_118 : decode cX5_step 118 = .ok (.aload_n 0, 1) := by decide +kernel
theorem dX5_step_119 : decode cX5_step 119 = .ok (.iconst 1, 1) := by decide +kernel
theorem dX5_step_120 : decode cX5_step 120 = .ok (.putfield 69, 3) := by decide +kernel
theorem dX5_step_123 : decode cX5_step 123 = .ok (.goto 146, 3) := by decide +kernel
theorem dX5_step_126 : decode cX5_step 126 = .ok (.iload_n 1, 1) := by decide +kernel
theorem dX5_step_127 : decode cX5_step 127 = .ok (.i2l, 1) := by decide +kernel
theorem dX5_step_128 : decode cX5_step 128 = .ok (.ldc2_w 86, 3) := by decide +kernel
theorem dX5_step_131 : decode cX5_step 131 = .ok (.ldc2_w 88, 3) := by decide +kernel
theorem dX5_step_134 : decode cX5_step 134 = .ok (.invokestatic 53, 3) := by decide +kernel
theorem dX5_step_137 : decode cX5_step 137 = .ok (.ifCond .eq 106, 3) := by decide +kernel
theorem dX5_step_140 : decode cX5_step 140 = .ok (.aload_n 0, 1) := by decide +kernel
theorem dX5_step_141 : decode cX5_step 141 = .ok (.aload_n 0, 1) := by decide +kernel
theorem dX5_step_142 : decode cX5_step 142 = .ok (.getfield 72, 3) := by decide +kernel
theorem dX5_step_145 : decode cX5_step 145 = .ok (.invokevirtual 75, 3) := by decide +kernel
theorem dX5_step_148 : decode cX5_step 148 = .ok (.i2l, 1) := by decide +kernel
theorem dX5_step_149 : decode cX5_step 149 = .ok (.ldc2_w 86, 3) := by decide +kernel
theorem dX5_step_152 : decode cX5_step 152 = .ok (.ldc2_w 88, 3) := by decide +kernel
theorem dX5_step_155 : decode cX5_step 155 = .ok (.invokestatic 53, 3) := by decide +kernel
theorem dX5_step_158 : decode cX5_step 158 = .ok (.ifCond .eq 59, 3) := by decide +kernel
theorem dX5_step_161 : decode cX5_step 161 = .ok (.aload_n 0, 1) := by decide +kernel
theorem dX5_step_162 : decode cX5_step 162 = .ok (.aload_n 0, 1) := by decide +kernel
theorem dX5_step_163 : decode cX5_step 163 = .ok (.getfield 72, 3) := by decide +kernel
theorem dX5_step_166 : decode cX5_step 166 = .ok (.aload_n 0, 1) := by decide +kernel
theorem dX5_step_167 : decode cX5_step 167 = .ok (.getfield 63, 3) := by decide +kernel
theorem dX5_step_170 : decode cX5_step 170 = .ok (.isub, 1) := by decide +kernel
theorem dX5_step_171 : decode cX5_step 171 = .ok (.iconst 2, 1) := by decide +kernel
theorem dX5_step_172 : decode cX5_step 172 = .ok (.if_icmp .ge 25, 3) := by decide +kernel
theorem dX5_step_175 : decode cX5_step 175 = .ok (.bipush 10, 2) := by decide +kernel
theorem dX5_step_177 : decode cX5_step 177 = .ok (.aload_n 0, 1) := by decide +kernel
theorem dX5_step_178 : decode cX5_step 178 = .ok (.getfield 79, 3) := by decide +kernel
theorem dX5_step_181 : decode cX5_step 181 = .ok (.imul, 1) := by decide +kernel
theorem dX5_step_182 : decode cX5_step 182 = .ok (.aload_n 0, 1) := by decide +kernel
theorem dX5_step_183 : decode cX5_step 183 = .ok (.aload_n 0, 1) := by decide +kernel
theorem dX5_step_184 : decode cX5_step 184 = .ok (.getfield 72, 3) := by decide +kernel
theorem dX5_step_187 : decode cX5_step 187 = .ok (.invokevirtual 75, 3) := by decide +kernel
theorem dX5_step_190 : decode cX5_step 190 = .ok (.iadd, 1) := by decide +kernel
theorem dX5_step_191 : decode cX5_step 191 = .ok (.bipush 48, 2) := by decide +kernel
theorem dX5_step_193 : decode cX5_step 193 = .ok (.isub, 1) := by decide +kernel
theorem dX5_step_194 : decode cX5_step 194 = .ok (.goto 7, 3) := by decide +kernel
theorem dX5_step_197 : decode cX5_step 197 = .ok (.aload_n 0, 1) := by decide +kernel
theorem dX5_step_198 : decode cX5_step 198 = .ok (.getfield 79, 3) := by decide +kernel
theorem dX5_step_201 : decode cX5_step 201 = .ok (.putfield 79, 3) := by decide +kernel
theorem dX5_step_204 : decode cX5_step 204 = .ok (.aload_n 0, 1) := by decide +kernel
theorem dX5_step_205 : decode cX5_step 205 = .ok (.dup, 1) := by decide +kernel
theorem dX5_step_206 : decode cX5_step 206 = .ok (.getfield 72, 3) := by decide +kernel
theorem dX5_step_209 : decode cX5_step 209 = .ok (.iconst 1, 1) := by decide +kernel
theorem dX5_step_210 : decode cX5_step 210 = .ok (.iadd, 1) := by decide +kernel
theorem dX5_step_211 : decode cX5_step 211 = .ok (.putfield 72, 3) := by decide +kernel
theorem dX5_step_214 : decode cX5_step 214 = .ok (.goto (-74), 3) := by decide +kernel
theorem dX5_step_217 : decode cX5_step 217 = .ok (.aload_n 0, 1) := by decide +kernel
theorem dX5_step_218 : decode cX5_step 218 = .ok (.iconst 2, 1) := by decide +kernel
theorem dX5_step_219 : decode cX5_step 219 = .ok (.putfield 69, 3) := by decide +kernel
theorem dX5_step_222 : decode cX5_step 222 = .ok (.aload_n 0, 1) := by decide +kernel
theorem dX5_step_223 : decode cX5_step 223 = .ok (.getfield 72, 3) := by decide +kernel
theorem dX5_step_226 : decode cX5_step 226 = .ok (.aload_n 0, 1) := by decide +kernel
theorem dX5_step_227 : decode cX5_step 227 = .ok (.getfield 63, 3) := by decide +kernel
theorem dX5_step_230 : decode cX5_step 230 = .ok (.isub, 1) := by decide +kernel
theorem dX5_step_231 : decode cX5_step 231 = .ok (.iconst 2, 1) := by decide +kernel
theorem dX5_step_232 : decode cX5_step 232 = .ok (.if_icmp .le 37, 3) := by decide +kernel
theorem dX5_step_235 : decode cX5_step 235 = .ok (.aload_n 0, 1) := by decide +kernel
theorem dX5_step_236 : decode cX5_step 236 = .ok (.iconst 1, 1) := by decide +kernel
theorem dX5_step_237 : decode cX5_step 237 = .ok (.invokevirtual 90, 3) := by decide +kernel
theorem dX5_step_240 : decode cX5_step 240 = .ok (.goto 29, 3) := by decide +kernel
theorem dX5_step_243 : decode cX5_step 243 = .ok (.aload_n 0, 1) := by decide +kernel
theorem dX5_step_244 : decode cX5_step 244 = .ok (.iconst 3, 1) := by decide +kernel
theorem dX5_step_245 : decode cX5_step 245 = .ok (.putfield 69, 3) := by decide +kernel
theorem dX5_step_248 : decode cX5_step 248 = .ok (.aload_n 0, 1) := by decide +kernel
theorem dX5_step_249 : decode cX5_step 249 = .ok (.dup, 1) := by decide +kernel
theorem dX5_step_250 : decode cX5_step 250 = .ok (.getfield 72, 3) := by decide +kernel
theorem dX5_step_253 : decode cX5_step 253 = .ok (.iconst 1, 1) := by decide +kernel
theorem dX5_step_254 : decode cX5_step 254 = .ok (.iadd, 1) := by decide +kernel
theorem dX5_step_255 : decode cX5_step 255 = .ok (.putfield 72, 3) := by decide +kernel
theorem dX5_step_258 : decode cX5_step 258 = .ok (.iload_n 1, 1) := by decide +kernel
theorem dX5_step_259 : decode cX5_step 259 = .ok (.bipush 59, 2) := by decide +kernel
theorem dX5_step_261 : decode cX5_step 261 = .ok (.if_icmp .eq 8, 3) := by decide +kernel
theorem dX5_step_264 : decode cX5_step 264 = .ok (.aload_n 0, 1) := by decide +kernel
theorem dX5_step_265 : decode cX5_step 265 = .ok (.iconst 1, 1) := by decide +kernel
theorem dX5_step_266 : decode cX5_step 266 = .ok (.invokevirtual 90, 3) := by decide +kernel
theorem dX5_step_269 : decode cX5_step 269 = .ok (.return_, 1) := by decide +kernel
theorem dX5_other_0 : decode cX5_other 0 = .ok (.aload_n 0, 1) := by decide +kernel
theorem dX5_other_1 : decode cX5_other 1 = .ok (.getfield 60, 3) := by decide +kernel
theorem dX5_other_4 : decode cX5_other 4 = .ok (.ifCond .ne 16, 3) := by decide +kernel
theorem dX5_other_7 : decode cX5_other 7 = .ok (.aload_n 0, 1) := by decide +kernel
theorem dX5_other_8 : decode cX5_other 8 = .ok (.getfield 69, 3) := by decide +kernel
theorem dX5_other_11 : decode cX5_other 11 = .ok (.iconst 2, 1) := by decide +kernel
theorem dX5_other_12 : decode cX5_other 12 = .ok (.if_icmp .eq 8, 3) := by decide +kernel
theorem dX5_other_15 : decode cX5_other 15 = .ok (.aload_n 0, 1) := by decide +kernel
theorem dX5_other_16 : decode cX5_other 16 = .ok (.iconst 2, 1) := by decide +kernel
theorem dX5_other_17 : decode cX5_other 17 = .ok (.invokevirtual 90, 3) := by decide +kernel
theorem dX5_other_20 : decode cX5_other 20 = .ok (.aload_n 0, 1) := by decide +kernel
theorem dX5_other_21 : decode cX5_other 21 = .ok (.getfield 60, 3) := by decide +kernel
theorem dX5_other_24 : decode cX5_other 24 = .ok (.ifCond .ne 23, 3) := by decide +kernel
theorem dX5_other_27 : decode cX5_other 27 = .ok (.aload_n 0, 1) := by decide +kernel
theorem dX5_other_28 : decode cX5_other 28 = .ok (.getfield 79, 3) := by decide +kernel
theorem dX5_other_31 : decode cX5_other 31 = .ok (.i2l, 1) := by decide +kernel
theorem dX5_other_32 : decode cX5_other 32 = .ok (.iload_n 1, 1) := by decide +kernel
theorem dX5_other_33 : decode cX5_other 33 = .ok (.i2l, 1) := by decide +kernel
theorem dX5_other_34 : decode cX5_other 34 = .ok (.iload_n 2, 1) := by decide +kernel
theorem dX5_other_35 : decode cX5_other 35 = .ok (.i2l, 1) := by decide +kernel
theorem dX5_other_36 : decode cX5_other 36 = .ok (.invokestatic 53, 3) := by decide +kernel
theorem dX5_other_39 : decode cX5_other 39 = .ok (.ifCond .ne 8, 3) := by decide +kernel
theorem dX5_other_42 : decode cX5_other 42 = .ok (.aload_n 0, 1) := by decide +kernel
theorem dX5_other_43 : decode cX5_other 43 = .ok (.iconst 3, 1) := by decide +kernel
theorem dX5_other_44 : decode cX5_other 44 = .ok (.invokevirtual 90, 3) := by decide +kernel
theorem dX5_other_47 : decode cX5_other 47 = .ok (.aload_n 0, 1) := by decide +kernel
theorem dX5_other_48 : decode cX5_other 48 = .ok (.getfield 60, 3) := by decide +kernel
theorem dX5_other_51 : decode cX5_other 51 = .ok (.ifCond .ne 20, 3) := by decide +kernel
theorem dX5_other_54 : decode cX5_other 54 = .ok (.iload_n 3, 1) := by decide +kernel
theorem dX5_other_55 : decode cX5_other 55 = .ok (.aload_n 0, 1) := by decide +kernel
theorem dX5_other_56 : decode cX5_other 56 = .ok (.getfield 79, 3) := by decide +kernel
theorem dX5_other_59 : decode cX5_other 59 = .ok (.ishr, 1) := by decide +kernel
theorem dX5_other_60 : decode cX5_other 60 = .ok (.iconst 1, 1) := by decide +kernel
theorem dX5_other_61 : decode cX5_other 61 = .ok (.iand, 1) := by decide +kernel
theorem dX5_other_62 : decode cX5_other 62 = .ok (.iconst 1, 1) := by decide +kernel
theorem dX5_other_63 : decode cX5_other 63 = .ok (.if_icmp .ne 8, 3) := by decide +kernel
theorem dX5_other_66 : decode cX5_other 66 = .ok (.aload_n 0, 1) := by decide +kernel
theorem dX5_other_67 : decode cX5_other 67 = .ok (.iconst 4, 1) := by decide +kernel
theorem dX5_other_68 : decode cX5_other 68 = .ok (.invokevirtual 90, 3) := by decide +kernel
theorem dX5_other_71 : decode cX5_other 71 = .ok (.aload_n 0, 1) := by decide +kernel
theorem dX5_other_72 : decode cX5_other 72 = .ok (.getfield 60, 3) := by decide +kernel
theorem dX5_other_75 : decode cX5_other 75 = .ok (.ifCond .ne 10, 3) := by decide +kernel
theorem dX5_other_78 : decode cX5_other 78 = .ok (.aload_n 0, 1) := by decide +kernel
theorem dX5_other_79 : decode cX5_other 79 = .ok (.getfield 79, 3) := by decide +kernel
theorem dX5_other_82 : decode cX5_other 82 = .ok (.goto 4, 3) := by decide +kernel
theorem dX5_other_85 : decode cX5_other 85 = .ok (.iload_n 1, 1) := by decide +kernel
theorem dX5_other_86 : decode cX5_other 86 = .ok (.istore 4, 2) := by decide +kernel
theorem dX5_other_88 : decode cX5_other 88 = .ok (.aload_n 0, 1) := by decide +kernel
theorem dX5_other_89 : decode cX5_other 89 = .ok (.invokevirtual 94, 3) := by decide +kernel
theorem dX5_other_92 : decode cX5_other 92 = .ok (.iload 4, 2) := by decide +kernel
theorem dX5_other_94 : decode cX5_other 94 = .ok (.ireturn, 1) := by decide +kernel
theorem dX5_noteHere_0 : decode cX5_noteHere 0 = .ok (.aload_n 0, 1) := by decide +kernel
theorem dX5_noteHere_1 : decode cX5_noteHere 1 = .ok (.iconst 0, 1) := by decide +kernel
theorem dX5_noteHere_2 : decode cX5_noteHere 2 = .ok (.iconst 5, 1) := by decide +kernel
theorem dX5_noteHere_3 : decode cX5_noteHere 3 = .ok (.iload_n 1, 1) := by decide +kernel
theorem dX5_noteHere_4 : decode cX5_noteHere 4 = .ok (.invokevirtual 97, 3) := by decide +kernel
theorem dX5_noteHere_7 : decode cX5_noteHere 7 = .ok (.istore_n 2, 1) := by decide +kernel
theorem dX5_noteHere_8 : decode cX5_noteHere 8 = .ok (.aload_n 0, 1) := by decide +kernel
theorem dX5_noteHere_9 : decode cX5_noteHere 9 = .ok (.iload_n 2, 1) := by decide +kernel
theorem dX5_noteHere_10 : decode cX5_noteHere 10 = .ok (.aload_n 0, 1) := by decide +kernel
theorem dX5_noteHere_11 : decode cX5_noteHere 11 = .ok (.getfield 101, 3) := by decide +kernel
theorem dX5_noteHere_14 : decode cX5_noteHere 14 = .ok (.if_icmp .le 7, 3) := by decide +kernel
theorem dX5_noteHere_17 : decode cX5_noteHere 17 = .ok (.iload_n 2, 1) := by decide +kernel
theorem dX5_noteHere_18 : decode cX5_noteHere 18 = .ok (.goto 7, 3) := by decide +kernel
theorem dX5_noteHere_21 : decode cX5_noteHere 21 = .ok (.aload_n 0, 1) := by decide +kernel
theorem dX5_noteHere_22 : decode cX5_noteHere 22 = .ok (.getfield 101, 3) := by decide +kernel
theorem dX5_noteHere_25 : decode cX5_noteHere 25 = .ok (.putfield 101, 3) := by decide +kernel
theorem dX5_noteHere_28 : decode cX5_noteHere 28 = .ok (.iload_n 2, 1) := by decide +kernel
theorem dX5_noteHere_29 : decode cX5_noteHere 29 = .ok (.ireturn, 1) := by decide +kernel
theorem dX5_oneHere_0 : decode cX5_oneHere 0 = .ok (.aload_n 0, 1) := by decide +kernel
theorem dX5_oneHere_1 : decode cX5_oneHere 1 = .ok (.iconst 0, 1) := by decide +kernel
theorem dX5_oneHere_2 : decode cX5_oneHere 2 = .ok (.iconst 3, 1) := by decide +kernel
theorem dX5_oneHere_3 : decode cX5_oneHere 3 = .ok (.iload_n 1, 1) := by decide +kernel
theorem dX5_oneHere_4 : decode cX5_oneHere 4 = .ok (.invokevirtual 97, 3) := by decide +kernel
theorem dX5_oneHere_7 : decode cX5_oneHere 7 = .ok (.istore_n 2, 1) := by decide +kernel
theorem dX5_oneHere_8 : decode cX5_oneHere 8 = .ok (.aload_n 0, 1) := by decide +kernel
theorem dX5_oneHere_9 : decode cX5_oneHere 9 = .ok (.iload_n 2, 1) := by decide +kernel
theorem dX5_oneHere_10 : decode cX5_oneHere 10 = .ok (.aload_n 0, 1) := by decide +kernel
theorem dX5_oneHere_11 : decode cX5_oneHere 11 = .ok (.getfield 104, 3) := by decide +kernel
theorem dX5_oneHere_14 : decode cX5_oneHere 14 = .ok (.if_icmp .le 7, 3) := by decide +kernel
theorem dX5_oneHere_17 : decode cX5_oneHere 17 = .ok (.iload_n 2, 1) := by decide +kernel
theorem dX5_oneHere_18 : decode cX5_oneHere 18 = .ok (.goto 7, 3) := by decide +kernel
theorem dX5_oneHere_21 : decode cX5_oneHere 21 = .ok (.aload_n 0, 1) := by decide +kernel
theorem dX5_oneHere_22 : decode cX5_oneHere 22 = .ok (.getfield 104, 3) := by decide +kernel
theorem dX5_oneHere_25 : decode cX5_oneHere 25 = .ok (.putfield 104, 3) := by decide +kernel
theorem dX5_oneHere_28 : decode cX5_oneHere 28 = .ok (.iload_n 2, 1) := by decide +kernel
theorem dX5_oneHere_29 : decode cX5_oneHere 29 = .ok (.ireturn, 1) := by decide +kernel
theorem dX5_isNumber_0 : decode cX5_isNumber 0 = .ok (.aload_n 0, 1) := by decide +kernel
theorem dX5_isNumber_1 : decode cX5_isNumber 1 = .ok (.getfield 60, 3) := by decide +kernel
theorem dX5_isNumber_4 : decode cX5_isNumber 4 = .ok (.ifCond .ne 15, 3) := by decide +kernel
theorem dX5_isNumber_7 : decode cX5_isNumber 7 = .ok (.aload_n 0, 1) := by decide +kernel
theorem dX5_isNumber_8 : decode cX5_isNumber 8 = .ok (.getfield 69, 3) := by decide +kernel
theorem dX5_isNumber_11 : decode cX5_isNumber 11 = .ok (.iconst 2, 1) := by decide +kernel
theorem dX5_isNumber_12 : decode cX5_isNumber 12 = .ok (.if_icmp .ne 7, 3) := by decide +kernel
theorem dX5_isNumber_15 : decode cX5_isNumber 15 = .ok (.iconst 1, 1) := by decide +kernel
theorem dX5_isNumber_16 : decode cX5_isNumber 16 = .ok (.goto 4, 3) := by decide +kernel
theorem dX5_isNumber_19 : decode cX5_isNumber 19 = .ok (.iconst 0, 1) := by decide +kernel
theorem dX5_isNumber_20 : decode cX5_isNumber 20 = .ok (.ireturn, 1) := by decide +kernel
theorem dX5_readRule_0 : decode cX5_readRule 0 = .ok (.bipush 6, 2) := by decide +kernel
theorem dX5_readRule_2 : decode cX5_readRule 2 = .ok (.iconst 4, 1) := by decide +kernel
theorem dX5_readRule_3 : decode cX5_readRule 3 = .ok (.aload_n 0, 1) := by decide +kernel
theorem dX5_readRule_4 : decode cX5_readRule 4 = .ok (.getfield 23, 3) := by decide +kernel
theorem dX5_readRule_7 : decode cX5_readRule 7 = .ok (.bipush 38, 2) := by decide +kernel
theorem dX5_readRule_9 : decode cX5_readRule 9 = .ok (.iaload, 1) := by decide +kernel
theorem dX5_readRule_10 : decode cX5_readRule 10 = .ok (.imul, 1) := by decide +kernel
theorem dX5_readRule_11 : decode cX5_readRule 11 = .ok (.iadd, 1) := by decide +kernel
theorem dX5_readRule_12 : decode cX5_readRule 12 = .ok (.istore_n 1, 1) := by decide +kernel
theorem dX5_readRule_13 : decode cX5_readRule 13 = .ok (.aload_n 0, 1) := by decide +kernel
theorem dX5_readRule_14 : decode cX5_readRule 14 = .ok (.getfield 23, 3) := by decide +kernel
theorem dX5_readRule_17 : decode cX5_readRule 17 = .ok (.iload_n 1, 1) := by decide +kernel
theorem dX5_readRule_18 : decode cX5_readRule 18 = .ok (.aload_n 0, 1) := by decide +kernel
theorem dX5_readRule_19 : decode cX5_readRule 19 = .ok (.iconst 0, 1) := by decide +kernel
theorem dX5_readRule_20 : decode cX5_readRule 20 = .ok (.invokevirtual 107, 3) := by decide +kernel
theorem dX5_readRule_23 : decode cX5_readRule 23 = .ok (.iastore, 1) := by decide +kernel
theorem dX5_readRule_24 : decode cX5_readRule 24 = .ok (.aload_n 0, 1) := by decide +kernel
theorem dX5_readRule_25 : decode cX5_readRule 25 = .ok (.getfield 23, 3) := by decide +kernel
theorem dX5_readRule_28 : decode cX5_readRule 28 = .ok (.iload_n 1, 1) := by decide +kernel
theorem dX5_readRule_29 : decode cX5_readRule 29 = .ok (.iconst 1, 1) := by decide +kernel
theorem dX5_readRule_30 : decode cX5_readRule 30 = .ok (.iadd, 1) := by decide +kernel
theorem dX5_readRule_31 : decode cX5_readRule 31 = .ok (.aload_n 0, 1) := by decide +kernel
theorem dX5_readRule_32 : decode cX5_readRule 32 = .ok (.iconst 0, 1) := by decide +kernel
theorem dX5_readRule_33 : decode cX5_readRule 33 = .ok (.invokevirtual 110, 3) := by decide +kernel
theorem dX5_readRule_36 : decode cX5_readRule 36 = .ok (.iastore, 1) := by decide +kernel
theorem dX5_readRule_37 : decode cX5_readRule 37 = .ok (.aload_n 0, 1) := by decide +kernel
theorem dX5_readRule_38 : decode cX5_readRule 38 = .ok (.getfield 23, 3) := by decide +kernel
theorem dX5_readRule_41 : decode cX5_readRule 41 = .ok (.iload_n 1, 1) := by decide +kernel
theorem dX5_readRule_42 : decode cX5_readRule 42 = .ok (.iconst 2, 1) := by decide +kernel
theorem dX5_readRule_43 : decode cX5_readRule 43 = .ok (.iadd, 1) := by decide +kernel
theorem dX5_readRule_44 : decode cX5_readRule 44 = .ok (.iconst 0, 1) := by decide +kernel
theorem dX5_readRule_45 : decode cX5_readRule 45 = .ok (.iastore, 1) := by decide +kernel
theorem dX5_readRule_46 : decode cX5_readRule 46 = .ok (.aload_n 0, 1) := by decide +kernel
theorem dX5_readRule_47 : decode cX5_readRule 47 = .ok (.getfield 23, 3) := by decide +kernel
theorem dX5_readRule_50 : decode cX5_readRule 50 = .ok (.iload_n 1, 1) := by decide +kernel
theorem dX5_readRule_51 : decode cX5_readRule 51 = .ok (.iconst 3, 1) := by decide +kernel
theorem dX5_readRule_52 : decode cX5_readRule 52 = .ok (.iadd, 1) := by decide +kernel
theorem dX5_readRule_53 : decode cX5_readRule 53 = .ok (.iconst 0, 1) := by decide +kernel
theorem dX5_readRule_54 : decode cX5_readRule 54 = .ok (.iastore, 1) := by decide +kernel
theorem dX5_readRule_55 : decode cX5_readRule 55 = .ok (.aload_n 0, 1) := by decide +kernel
theorem dX5_readRule_56 : decode cX5_readRule 56 = .ok (.invokevirtual 113, 3) := by decide +kernel
theorem dX5_readRule_59 : decode cX5_readRule 59 = .ok (.ifCond .eq 31, 3) := by decide +kernel
theorem dX5_readRule_62 : decode cX5_readRule 62 = .ok (.aload_n 0, 1) := by decide +kernel
theorem dX5_readRule_63 : decode cX5_readRule 63 = .ok (.getfield 23, 3) := by decide +kernel
theorem dX5_readRule_66 : decode cX5_readRule 66 = .ok (.iload_n 1, 1) := by decide +kernel
theorem dX5_readRule_67 : decode cX5_readRule 67 = .ok (.iconst 2, 1) := by decide +kernel
theorem dX5_readRule_68 : decode cX5_readRule 68 = .ok (.iadd, 1) := by decide +kernel
theorem dX5_readRule_69 : decode cX5_readRule 69 = .ok (.dup2, 1) := by decide +kernel
theorem dX5_readRule_70 : decode cX5_readRule 70 = .ok (.iaload, 1) := by decide +kernel
theorem dX5_readRule_71 : decode cX5_readRule 71 = .ok (.iconst 1, 1) := by decide +kernel
theorem dX5_readRule_72 : decode cX5_readRule 72 = .ok (.aload_n 0, 1) := by decide +kernel
theorem dX5_readRule_73 : decode cX5_readRule 73 = .ok (.aload_n 0, 1) := by decide +kernel
theorem dX5_readRule_74 : decode cX5_readRule 74 = .ok (.getfield 23, 3) := by decide +kernel
theorem dX5_readRule_77 : decode cX5_readRule 77 = .ok (.iload_n 1, 1) := by decide +kernel
theorem dX5_readRule_78 : decode cX5_readRule 78 = .ok (.iconst 2, 1) := by decide +kernel
theorem dX5_readRule_79 : decode cX5_readRule 79 = .ok (.iadd, 1) := by decide +kernel
theorem dX5_readRule_80 : decode cX5_readRule 80 = .ok (.iaload, 1) := by decide +kernel
theorem dX5_readRule_81 : decode cX5_readRule 81 = .ok (.invokevirtual 110, 3) := by decide +kernel
theorem dX5_readRule_84 : decode cX5_readRule 84 = .ok (.ishl, 1) := by decide +kernel
theorem dX5_readRule_85 : decode cX5_readRule 85 = .ok (.ior, 1) := by decide +kernel
theorem dX5_readRule_86 : decode cX5_readRule 86 = .ok (.iastore, 1) := by decide +kernel
theorem dX5_readRule_87 : decode cX5_readRule 87 = .ok (.goto (-32), 3) := by decide +kernel
theorem dX5_readRule_90 : decode cX5_readRule 90 = .ok (.aload_n 0, 1) := by decide +kernel
theorem dX5_readRule_91 : decode cX5_readRule 91 = .ok (.getfield 60, 3) := by decide +kernel
theorem dX5_readRule_94 : decode cX5_readRule 94 = .ok (.ifCond .ne 57, 3) := by decide +kernel
theorem dX5_readRule_97 : decode cX5_readRule 97 = .ok (.aload_n 0, 1) := by decide +kernel
theorem dX5_readRule_98 : decode cX5_readRule 98 = .ok (.invokevirtual 117, 3) := by decide +kernel
theorem dX5_readRule_101 : decode cX5_readRule 101 = .ok (.bipush 7, 2) := by decide +kernel
theorem dX5_readRule_103 : decode cX5_readRule 103 = .ok (.if_icmp .ne 48, 3) := by decide +kernel
theorem dX5_readRule_106 : decode cX5_readRule 106 = .ok (.aload_n 0, 1) := by decide +kernel
theorem dX5_readRule_107 : decode cX5_readRule 107 = .ok (.invokevirtual 94, 3) := by decide +kernel
theorem dX5_readRule_110 : decode cX5_readRule 110 = .ok (.aload_n 0, 1) := by decide +kernel
theorem dX5_readRule_111 : decode cX5_readRule 111 = .ok (.getfield 23, 3) := by decide +kernel
theorem dX5_readRule_114 : decode cX5_readRule 114 = .ok (.iload_n 1, 1) := by decide +kernel
theorem dX5_readRule_115 : decode cX5_readRule 115 = .ok (.iconst 3, 1) := by decide +kernel
theorem dX5_readRule_116 : decode cX5_readRule 116 = .ok (.iadd, 1) := by decide +kernel
theorem dX5_readRule_117 : decode cX5_readRule 117 = .ok (.dup2, 1) := by decide +kernel
theorem dX5_readRule_118 : decode cX5_readRule 118 = .ok (.iaload, 1) := by decide +kernel
theorem dX5_readRule_119 : decode cX5_readRule 119 = .ok (.iconst 1, 1) := by decide +kernel
theorem dX5_readRule_120 : decode cX5_readRule 120 = .ok (.aload_n 0, 1) := by decide +kernel
theorem dX5_readRule_121 : decode cX5_readRule 121 = .ok (.aload_n 0, 1) := by decide +kernel
theorem dX5_readRule_122 : decode cX5_readRule 122 = .ok (.getfield 23, 3) := by decide +kernel
theorem dX5_readRule_125 : decode cX5_readRule 125 = .ok (.iload_n 1, 1) := by decide +kernel
theorem dX5_readRule_126 : decode cX5_readRule 126 = .ok (.iconst 2, 1) := by decide +kernel
theorem dX5_readRule_127 : decode cX5_readRule 127 = .ok (.iadd, 1) := by decide +kernel
theorem dX5_readRule_128 : decode cX5_readRule 128 = .ok (.iaload, 1) := by decide +kernel
theorem dX5_readRule_129 : decode cX5_readRule 129 = .ok (.aload_n 0, 1) := by decide +kernel
theorem dX5_readRule_130 : decode cX5_readRule 130 = .ok (.getfield 23, 3) := by decide +kernel
theorem dX5_readRule_133 : decode cX5_readRule 133 = .ok (.iload_n 1, 1) := by decide +kernel
theorem dX5_readRule_134 : decode cX5_readRule 134 = .ok (.iconst 3, 1) := by decide +kernel
theorem dX5_readRule_135 : decode cX5_readRule 135 = .ok (.iadd, 1) := by decide +kernel
theorem dX5_readRule_136 : decode cX5_readRule 136 = .ok (.iaload, 1) := by decide +kernel
theorem dX5_readRule_137 : decode cX5_readRule 137 = .ok (.ior, 1) := by decide +kernel
theorem dX5_readRule_138 : decode cX5_readRule 138 = .ok (.invokevirtual 110, 3) := by decide +kernel
theorem dX5_readRule_141 : decode cX5_readRule 141 = .ok (.ishl, 1) := by decide +kernel
theorem dX5_readRule_142 : decode cX5_readRule 142 = .ok (.ior, 1) := by decide +kernel
theorem dX5_readRule_143 : decode cX5_readRule 143 = .ok (.iastore, 1) := by decide +kernel
